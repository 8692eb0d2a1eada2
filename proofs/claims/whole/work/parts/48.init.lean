/-! the call of a constructor: the made object is the world's last cell -/
def LkI (own : String) (idx : Nat) (y : MethodName) (cc : ByteArray) (mL n : Nat) : Prop := (∀ w ∈ ([.methodLink own idx y, .instanceMethod y, .initialized y.cls, .code y cc mL none] : List Cond), w ∈ GL) ∧ y.name = "<init>" ∧ (y.cls ≠ "java/lang/invoke/MethodHandle" ∧ y.cls ≠ "java/lang/invoke/VarHandle" ∧ (parseMethodDescriptor y.desc).map (fun d => d.parameters.length) = some n)
section INITS
variable {p : Program} {l : Launch} {e : Env} {R : Room} {s : State} {m : MethodId} {args : Array Value} {below : List Frame} {meth : Method} {c : Code} {H : Heap} {locs : List Loc} {cells slots : Nat} {Q : State → Prop}
variable {cc cc' : ByteArray} {mL mL' n pc fr lo idx mc ms : Nat} {ls : Array Slot} {rest st As : List Value} {A : Nat → Prop} {b ci : Nat} {wa : va_W} {H0 : Heap} {E : Ev} {own : String} {ret : Option FieldType} {rm : Room} {as : List Nat} {y : MethodName} {X : Type} {w' : X → va_W} {fs : List Value}
theorem r_callI {post : X → Prop} (hC : Cx p R s m args meth c cc mL own ret E rm) (hD : Dj A as) (hW : Wd E A H0 (wa ++ [(b, .inr (ci, fs))]) H locs) (hA : ∀ q, H0.size ≤ q → A q) (has : (wa ++ [(b, (.inr (ci, fs) : va_E))] : va_W).map (fun q => q.1) = as) (lk : LkI own idx y cc' mL' n) (hM : MV l E y cc' mL' fr lo mc ms (.ref b :: As) [(b, .inr (ci, fs))] post w') (hr : fr + 1 ≤ rm.frames ∧ 8 + (mL' + 11) + lo ≤ rm.locals ∧ cells + mc ≤ rm.cells ∧ slots + ms ≤ rm.slots)
    (hl : ls.size = mL) (hn : As.length = n) (hst : st = As.reverse ++ .ref b :: rest) (hrest : (rest.map fun v => v.category).sum ≤ 8) (hdg : decode cc pc = .ok (.invokespecial idx, 3))
    (kk : ∀ (u : X) (H1 : Heap) (locs1 : List Loc), post u → Dj A ((wa ++ w' u).map (fun q => q.1)) → Wd E A H0 (wa ++ w' u) H1 locs1 → W p l e R s m args below meth c H1 locs1 (cells + mc) (slots + ms) Q (F0 m (pc + 3) ls rest)) : W p l e R s m args below meth c H locs cells slots Q (F0 m pc ls st) := by
  obtain ⟨hx, hb, hml, hown, -, -, hK, hRm⟩ := hC
  subst hRm
  have hts : ∀ w ∈ GL, w.before args s = true := fun w hw => hK.2.1 w hw args
  have hDD := hD.to has
  have hlast : (wa ++ [(b, (.inr (ci, fs) : va_E))])[wa.length]? = some (b, .inr (ci, fs)) := by simp
  have hPb : va_P E.1 vwCl [(b, .inr (ci, fs))] H := fun k q hq => by
    cases k with
    | zero => cases hq; exact hW.1 wa.length _ hlast
    | succ k => simp at hq
  have hDb : va_D (fun _ => True) [(b, (.inr (ci, fs) : va_E))] := by
    refine ⟨fun i j p q hi hj _ => ?_, fun _ _ _ => trivial⟩
    cases i with
    | zero => cases j with
      | zero => rfl
      | succ j => simp at hj
    | succ i => simp at hi
  have hF : ∀ q, va_A [(b, (.inr (ci, fs) : va_E))] H.size q → A q := by
    intro q hq
    rcases hq with ⟨k, e', h⟩ | h
    · cases k with
      | zero => cases h; exact hDD.2 wa.length _ hlast
      | succ k => simp at h
    · exact hA q (Nat.le_trans hW.2.1 h)
  have g1 : GoodIn GL [.code y cc' mL' none] := GL_good (fun w hw => lk.1 w (by simp only [List.mem_singleton] at hw; subst hw; simp))
  have hwa : ∀ (k : Nat) (q : Nat × va_E), wa[k]? = some q → q.1 < H.size ∧ ¬ q.1 = b := by
    intro k q hq
    have hk : k < wa.length := (List.getElem?_eq_some_iff.mp hq).1
    have hq2 : (wa ++ [(b, (.inr (ci, fs) : va_E))])[k]? = some q := by rw [List.getElem?_append_left hk]; exact hq
    refine ⟨(hW.1 k q hq2).lt, fun e' => ?_⟩
    have := hDD.1 k wa.length q (b, .inr (ci, fs)) hq2 hlast e'
    omega
  refine va_callv (va_runI (As := As) (rest := rest) ⟨hx, hb, hml, hown, hts⟩ (hM H.size) ⟨callB_of n hts g1 rfl rfl rfl (hts _ (lk.1 _ (by simp))) (hts _ (lk.1 _ (by simp))) lk.2.2 ⟨hr.1, hr.2.1⟩, lk.2.1, hts _ (lk.1 _ (by simp))⟩ ⟨PreC_blind, fun U hU hWm => ⟨rfl, by rw [hU], by rw [hU]; exact hPb, KK.moved hWm hK, hDb⟩⟩ rfl hn hl hst (lv_room hrest) hdg ⟨hr.2.2.1, hr.2.2.2⟩) hW.2 (fun q _ h => hF q h) hF (fun u t H1 locs1 ht _ hp hB _ hk hS => ?_)
  have hnot : ∀ (k : Nat) (q : Nat × va_E), wa[k]? = some q → ¬ va_A [(b, (.inr (ci, fs) : va_E))] H.size q.1 := by
    intro k q hq h
    obtain ⟨a1, a2⟩ := hwa k q hq
    rcases h with ⟨k2, e', h⟩ | h
    · cases k2 with
      | zero => cases h; exact a2 rfl
      | succ k2 => simp at h
    · omega
  have hPa : va_P E.1 vwCl wa H1 := fun k q hq => by
    have hk2 : k < wa.length := (List.getElem?_eq_some_iff.mp hq).1
    have hq2 : (wa ++ [(b, (.inr (ci, fs) : va_E))])[k]? = some q := by rw [List.getElem?_append_left hk2]; exact hq
    exact (hW.1 k q hq2).kept (hk q.1 (hwa k q hq).1 (hnot k q hq))
  have hDa : va_D A wa := by
    refine ⟨fun i j p q hi hj hpq => ?_, fun k q hq => ?_⟩
    · exact hDD.1 i j p q (by rw [List.getElem?_append_left (List.getElem?_eq_some_iff.mp hi).1]; exact hi) (by rw [List.getElem?_append_left (List.getElem?_eq_some_iff.mp hj).1]; exact hj) hpq
    · exact hDD.2 k q (by rw [List.getElem?_append_left (List.getElem?_eq_some_iff.mp hq).1]; exact hq)
  have hD2 : va_D A (wa ++ w' u) := hDa.app ⟨hB.2.1, fun k q hq => hF q.1 (hB.2.2 k q hq)⟩ (fun i j p q hi hj e' => hnot i p hi (by rw [e']; exact hB.2.2 j q hj))
  exact kk u H1 locs1 hp (Dj.of hD2) ⟨hPa.app (by rw [← ht]; exact hB.1), hS⟩
end INITS
