/-! worlds by chunks -/
abbrev wcat (cs : List va_W) : va_W := cs.flatten
def cput (cs : List va_W) : List Nat → List va_W → List va_W
  | i :: is, n :: ns => cput (cs.set i n) is ns
  | _, _ => cs
theorem vaD_pw {A : Nat → Prop} {ws : va_W} (h : va_D A ws) : ws.Pairwise (fun p q => p.1 ≠ q.1) := by
  rw [List.pairwise_iff_getElem]
  intro i j hi hj hij e
  have := h.1 i j ws[i] ws[j] (List.getElem?_eq_getElem hi) (List.getElem?_eq_getElem hj) e
  omega
theorem vaD_of {A : Nat → Prop} {ws : va_W} (h1 : ws.Pairwise (fun p q => p.1 ≠ q.1)) (h2 : ∀ q ∈ ws, A q.1) : va_D A ws := by
  refine ⟨fun i j p q hp hq e => ?_, fun k q hq => h2 q (List.mem_of_getElem? hq)⟩
  obtain ⟨hi, rfl⟩ := List.getElem?_eq_some_iff.mp hp
  obtain ⟨hj, rfl⟩ := List.getElem?_eq_some_iff.mp hq
  rw [List.pairwise_iff_getElem] at h1
  rcases Nat.lt_trichotomy i j with h | h | h
  · exact absurd e (h1 i j hi hj h)
  · exact h
  · exact absurd e.symm (h1 j i hj hi h)
/-- two chunks at different places share no address -/
theorem ch_apart {A : Nat → Prop} {cs : List va_W} (h : va_D A (wcat cs)) {i j : Nat} {c d : va_W} (hi : cs[i]? = some c) (hj : cs[j]? = some d) (hij : i ≠ j) : ∀ x ∈ c, ∀ y ∈ d, x.1 ≠ y.1 := by
  have hp := vaD_pw h
  rw [List.pairwise_flatten] at hp
  have h2 := hp.2
  rw [List.pairwise_iff_getElem] at h2
  obtain ⟨hi', rfl⟩ := List.getElem?_eq_some_iff.mp hi
  obtain ⟨hj', rfl⟩ := List.getElem?_eq_some_iff.mp hj
  intro x hx y hy
  rcases Nat.lt_or_gt_of_ne hij with q | q
  · exact h2 i j hi' hj' q x hx y hy
  · exact fun e => h2 j i hj' hi' q y hy x hx e.symm
theorem ch_self {A : Nat → Prop} {cs : List va_W} (h : va_D A (wcat cs)) {c : va_W} (hc : c ∈ cs) : c.Pairwise (fun p q => p.1 ≠ q.1) := by
  have hp := vaD_pw h
  rw [List.pairwise_flatten] at hp
  exact hp.1 c hc
theorem ch_at {cs ds : List va_W} {is : List Nat} (hget : is.map (fun i => cs[i]?) = ds.map some) {k : Nat} {d : va_W} (hd : ds[k]? = some d) : ∃ i, is[k]? = some i ∧ cs[i]? = some d := by
  have h1 : (ds.map some)[k]? = some (some d) := by rw [List.getElem?_map, hd]; rfl
  rw [← hget, List.getElem?_map] at h1
  cases hi : is[k]? with
  | none => rw [hi] at h1; cases h1
  | some i => rw [hi] at h1; exact ⟨i, rfl, Option.some.inj h1⟩
theorem ch_mem {cs ds : List va_W} {is : List Nat} (hget : is.map (fun i => cs[i]?) = ds.map some) {q : Nat × va_E} (hq : q ∈ wcat ds) : q ∈ wcat cs := by
  obtain ⟨d, hd, hqd⟩ := List.mem_flatten.mp hq
  obtain ⟨k, hk⟩ := List.mem_iff_getElem?.mp hd
  obtain ⟨i, -, hi⟩ := ch_at hget hk
  exact List.mem_flatten.mpr ⟨d, List.mem_of_getElem? hi, hqd⟩
theorem vaP_mem {D : va_G} {cl : List vw_C} {ws : va_W} {H : Heap} : va_P D cl ws H ↔ ∀ q ∈ ws, va_at D cl q H := by
  constructor
  · intro h q hq
    obtain ⟨k, hk⟩ := List.mem_iff_getElem?.mp hq
    exact h k q hk
  · intro h k q hk
    exact h q (List.mem_of_getElem? hk)
theorem ch_D {A : Nat → Prop} {cs ds : List va_W} {is : List Nat} (h : va_D A (wcat cs)) (hnd : va_nd is = true) (hget : is.map (fun i => cs[i]?) = ds.map some) : va_D A (wcat ds) := by
  refine vaD_of ?_ (fun q hq => ?_)
  · rw [List.pairwise_flatten]
    refine ⟨fun c hc => ?_, ?_⟩
    · obtain ⟨k, hk⟩ := List.mem_iff_getElem?.mp hc
      obtain ⟨i, -, hi⟩ := ch_at hget hk
      exact ch_self h (List.mem_of_getElem? hi)
    · rw [List.pairwise_iff_getElem]
      intro i j hi hj hij
      obtain ⟨a, ha, ha2⟩ := ch_at hget (List.getElem?_eq_getElem hi)
      obtain ⟨b, hb, hb2⟩ := ch_at hget (List.getElem?_eq_getElem hj)
      refine ch_apart h ha2 hb2 (fun e => ?_)
      subst e
      have := va_nd_inj is hnd i j a ha hb
      omega
  · obtain ⟨k, hk⟩ := List.mem_iff_getElem?.mp (ch_mem hget hq)
    exact h.2 k q hk
theorem cput_get : ∀ (is : List Nat) (ns cs : List va_W), is.length = ns.length → ∀ (k : Nat) (q : va_W), (cput cs is ns)[k]? = some q → (∃ j : Nat, ns[j]? = some q) ∨ (k ∉ is ∧ cs[k]? = some q)
  | [], [], cs, _, k, q, h => Or.inr ⟨by simp, h⟩
  | [], _ :: _, _, hl, _, _, _ => by simp at hl
  | _ :: _, [], _, hl, _, _, _ => by simp at hl
  | i :: is, n :: ns, cs, hl, k, q, h => by
    have hl' : is.length = ns.length := by simpa using hl
    rcases cput_get is ns (cs.set i n) hl' k q h with ⟨j, hj⟩ | ⟨hn, hk⟩
    · exact Or.inl ⟨j + 1, by simpa using hj⟩
    · by_cases hki : k = i
      · subst hki
        rw [List.getElem?_set] at hk
        simp only [if_true] at hk
        split at hk
        · exact Or.inl ⟨0, by simpa using hk⟩
        · cases hk
      · refine Or.inr ⟨by simp [hki, hn], ?_⟩
        rw [List.getElem?_set] at hk
        rw [if_neg (fun e => hki e.symm)] at hk
        exact hk
theorem join_c {A0 : Nat → Prop} {D : va_G} {cl : List vw_C} {cs ds ns : List va_W} {H H1 : Heap} (hP : va_P D cl (wcat cs) H) (hD : va_D A0 (wcat cs)) (is : List Nat) (hget : is.map (fun i => cs[i]?) = ds.map some) (hlen : is.length = ns.length) (hk : ∀ q : Nat, q < H.size → ¬ va_A (wcat ds) H.size q → H1[q]? = H[q]?) (hP1 : va_P D cl (wcat ns) H1) : va_P D cl (wcat (cput cs is ns)) H1 := by
  rw [vaP_mem] at hP hP1 ⊢
  intro q hq
  obtain ⟨c, hc, hqc⟩ := List.mem_flatten.mp hq
  obtain ⟨k, hck⟩ := List.mem_iff_getElem?.mp hc
  rcases cput_get is ns cs hlen k c hck with ⟨j, hj⟩ | ⟨hn, hk'⟩
  · exact hP1 q (List.mem_flatten.mpr ⟨c, List.mem_of_getElem? hj, hqc⟩)
  · have hin : q ∈ wcat cs := List.mem_flatten.mpr ⟨c, List.mem_of_getElem? hk', hqc⟩
    have hlt := (hP q hin).lt
    refine (hP q hin).kept (hk q.1 hlt (fun h => ?_))
    rcases h with ⟨k2, e, h⟩ | h
    · obtain ⟨d, hd, hqd⟩ := List.mem_flatten.mp (List.mem_of_getElem? h)
      obtain ⟨k3, hk3⟩ := List.mem_iff_getElem?.mp hd
      obtain ⟨i, hi, hi2⟩ := ch_at hget hk3
      have hne : k ≠ i := fun e => hn (by rw [e]; exact List.mem_of_getElem? hi)
      exact ch_apart hD hk' hi2 hne q hqc (q.1, e) hqd rfl
    · omega
theorem vaA_mem {ws : va_W} {sz q : Nat} (h : va_A ws sz q) : (∃ e, (q, e) ∈ ws) ∨ sz ≤ q := h.elim (fun ⟨k, e, h⟩ => Or.inl ⟨e, List.mem_of_getElem? h⟩) Or.inr
section CALLC
variable {p : Program} {l : Launch} {e : Env} {R : Room} {s : State} {m : MethodId} {args : Array Value} {below : List Frame} {meth : Method} {c : Code} {H : Heap} {locs : List Loc} {cells slots : Nat} {Q : State → Prop}
variable {cc cc' : ByteArray} {mL mL' n pc fr lo idx : Nat} {ls : Array Slot} {rest st As : List Value} {A : Nat → Prop} {b ci : Nat} {cs ds : List va_W} {wt : va_W} {H0 : Heap} {E : Ev} {own C : String} {ret : Option FieldType} {ty : FieldType} {rm : Room} {as : List Nat} {y : MethodName} {X : Type} {ns : X → List va_W} {fs : List Value} {T : u_T} {N : Nat}
theorem free_c (hD : Dj A as) (hW : Wd E A H0 (wcat cs) H locs) (hA : ∀ q, H0.size ≤ q → A q) (has : (wcat cs).map (fun q => q.1) = as) (is : List Nat) (hget : is.map (fun i => cs[i]?) = ds.map some) : ∀ q, va_A (wcat ds) H.size q → A q := by
  intro q hq
  rcases vaA_mem hq with ⟨e, he⟩ | h
  · obtain ⟨k, hk⟩ := List.mem_iff_getElem?.mp (ch_mem hget he)
    exact (hD.to has).2 k _ hk
  · exact hA q (Nat.le_trans hW.2.1 h)
theorem r_runC {Qc : Array Value → State → Outcome → State → Prop} (hC : Cx p R s m args meth c cc mL own ret E rm) (hD : Dj A as) (hW : Wd E A H0 (wcat cs) H locs) {ret' : Option FieldType} (lk : LkV own idx C y cc' mL' n ret')
    (hM : Met l y [.code y cc' mL' ret'] { frames := fr, cells := 0, slots := 0, locals := lo } (va_Pc (.ref b :: As) (PreC E (wcat ds) H.size)) Qc 0 0 (va_A (wcat ds) H.size)) (hci : vwCl[ci]? = some (C, T, N)) (hrec : wcat ds = (b, .inr (ci, fs)) :: wt) (hr : fr + 1 ≤ rm.frames ∧ 8 + (mL' + 11) + lo ≤ rm.locals ∧ cells ≤ rm.cells ∧ slots ≤ rm.slots)
    (is : List Nat) (hnd : va_nd is = true) (hget : is.map (fun i => cs[i]?) = ds.map some) (has : (wcat cs).map (fun q => q.1) = as) (hl : ls.size = mL) (hn : As.length = n) (hst : st = As.reverse ++ .ref b :: rest) (hrest : (rest.map fun v => v.category).sum ≤ 8) (hdg : decode cc pc = .ok (.invokevirtual idx, 3)) :
    va_Run p l e R s m args below meth c H locs cells slots 0 0 (F0 m pc ls st) rest (Qc (Value.ref b :: As).toArray) (va_A (wcat ds) H.size) := by
  obtain ⟨hx, hb, hml, hown, -, -, hK, hRm⟩ := hC
  subst hRm
  have hts : ∀ w ∈ GL, w.before args s = true := fun w hw => hK.2.1 w hw args
  have hPc : va_P E.1 vwCl (wcat ds) H := vaP_mem.mpr (fun q hq => vaP_mem.mp hW.1 q (ch_mem hget hq))
  have hDc : va_D A (wcat ds) := ch_D (hD.to has) hnd hget
  have h0 : (wcat ds)[0]? = some (b, .inr (ci, fs)) := by rw [hrec]; rfl
  exact va_runV (As := As) (rest := rest) ⟨hx, hb, hml, hown, hts⟩ hM (cwV n hts (GL_good lk.1) rfl rfl rfl lk.2 ⟨hr.1, hr.2.1⟩) ⟨PreC_blind, va_recv hK.1 hPc (q0 := 0) hci h0, fun U hU hWm => ⟨rfl, by rw [hU], by rw [hU]; exact hPc, KK.moved hWm hK, hDc.weaken (fun _ _ _ _ => trivial)⟩⟩ rfl hn hl hst (lv_room hrest) hdg ⟨hr.2.2.1, hr.2.2.2⟩
theorem r_callCi {post : Int32 → X → Prop} (hC : Cx p R s m args meth c cc mL own ret E rm) (hD : Dj A as) (hW : Wd E A H0 (wcat cs) H locs) (hA : ∀ q, H0.size ≤ q → A q) (lk : LkV own idx C y cc' mL' n (some ty)) (hM : MI l E y cc' mL' ty fr lo 0 0 (.ref b :: As) (wcat ds) post (fun u => wcat (ns u))) (hci : vwCl[ci]? = some (C, T, N)) (hrec : wcat ds = (b, .inr (ci, fs)) :: wt) (hr : fr + 1 ≤ rm.frames ∧ 8 + (mL' + 11) + lo ≤ rm.locals ∧ cells ≤ rm.cells ∧ slots ≤ rm.slots)
    (is : List Nat) (hnd : va_nd is = true) (hget : is.map (fun i => cs[i]?) = ds.map some) (has : (wcat cs).map (fun q => q.1) = as) (hlen : ∀ u, is.length = (ns u).length) (hl : ls.size = mL) (hn : As.length = n) (hst : st = As.reverse ++ .ref b :: rest) (hrest : (rest.map fun v => v.category).sum ≤ 8) (hdg : decode cc pc = .ok (.invokevirtual idx, 3))
    (kk : ∀ (r : Int32) (u : X) (H1 : Heap) (locs1 : List Loc), post r u → Wd E A H0 (wcat (cput cs is (ns u))) H1 locs1 → W p l e R s m args below meth c H1 locs1 cells slots Q (F0 m (pc + 3) ls (.int r :: rest))) : W p l e R s m args below meth c H locs cells slots Q (F0 m pc ls st) := by
  have hF := free_c hD hW hA has is hget
  exact va_calli (r_runC hC hD hW lk (hM H.size) hci hrec hr is hnd hget has hl hn hst hrest hdg) hW.2 (fun q _ h => hF q h) hF (fun r u t H1 locs1 ht _ hp hB _ hk hS => kk r u H1 locs1 hp ⟨join_c hW.1 (hD.to has) is hget (hlen u) hk (by rw [← ht]; exact hB.1), hS⟩)
theorem r_callCl {post : Int64 → X → Prop} (hC : Cx p R s m args meth c cc mL own ret E rm) (hD : Dj A as) (hW : Wd E A H0 (wcat cs) H locs) (hA : ∀ q, H0.size ≤ q → A q) (lk : LkV own idx C y cc' mL' n (some ty)) (hM : ML l E y cc' mL' ty fr lo 0 0 (.ref b :: As) (wcat ds) post (fun u => wcat (ns u))) (hci : vwCl[ci]? = some (C, T, N)) (hrec : wcat ds = (b, .inr (ci, fs)) :: wt) (hr : fr + 1 ≤ rm.frames ∧ 8 + (mL' + 11) + lo ≤ rm.locals ∧ cells ≤ rm.cells ∧ slots ≤ rm.slots)
    (is : List Nat) (hnd : va_nd is = true) (hget : is.map (fun i => cs[i]?) = ds.map some) (has : (wcat cs).map (fun q => q.1) = as) (hlen : ∀ u, is.length = (ns u).length) (hl : ls.size = mL) (hn : As.length = n) (hst : st = As.reverse ++ .ref b :: rest) (hrest : (rest.map fun v => v.category).sum ≤ 8) (hdg : decode cc pc = .ok (.invokevirtual idx, 3))
    (kk : ∀ (r : Int64) (u : X) (H1 : Heap) (locs1 : List Loc), post r u → Wd E A H0 (wcat (cput cs is (ns u))) H1 locs1 → W p l e R s m args below meth c H1 locs1 cells slots Q (F0 m (pc + 3) ls (.long r :: rest))) : W p l e R s m args below meth c H locs cells slots Q (F0 m pc ls st) := by
  have hF := free_c hD hW hA has is hget
  exact va_calll (r_runC hC hD hW lk (hM H.size) hci hrec hr is hnd hget has hl hn hst hrest hdg) hW.2 (fun q _ h => hF q h) hF (fun r u t H1 locs1 ht _ hp hB _ hk hS => kk r u H1 locs1 hp ⟨join_c hW.1 (hD.to has) is hget (hlen u) hk (by rw [← ht]; exact hB.1), hS⟩)
theorem r_callCv {post : X → Prop} (hC : Cx p R s m args meth c cc mL own ret E rm) (hD : Dj A as) (hW : Wd E A H0 (wcat cs) H locs) (hA : ∀ q, H0.size ≤ q → A q) (lk : LkV own idx C y cc' mL' n none) (hM : MV l E y cc' mL' fr lo 0 0 (.ref b :: As) (wcat ds) post (fun u => wcat (ns u))) (hci : vwCl[ci]? = some (C, T, N)) (hrec : wcat ds = (b, .inr (ci, fs)) :: wt) (hr : fr + 1 ≤ rm.frames ∧ 8 + (mL' + 11) + lo ≤ rm.locals ∧ cells ≤ rm.cells ∧ slots ≤ rm.slots)
    (is : List Nat) (hnd : va_nd is = true) (hget : is.map (fun i => cs[i]?) = ds.map some) (has : (wcat cs).map (fun q => q.1) = as) (hlen : ∀ u, is.length = (ns u).length) (hl : ls.size = mL) (hn : As.length = n) (hst : st = As.reverse ++ .ref b :: rest) (hrest : (rest.map fun v => v.category).sum ≤ 8) (hdg : decode cc pc = .ok (.invokevirtual idx, 3))
    (kk : ∀ (u : X) (H1 : Heap) (locs1 : List Loc), post u → Wd E A H0 (wcat (cput cs is (ns u))) H1 locs1 → W p l e R s m args below meth c H1 locs1 cells slots Q (F0 m (pc + 3) ls rest)) : W p l e R s m args below meth c H locs cells slots Q (F0 m pc ls st) := by
  have hF := free_c hD hW hA has is hget
  exact va_callv (r_runC hC hD hW lk (hM H.size) hci hrec hr is hnd hget has hl hn hst hrest hdg) hW.2 (fun q _ h => hF q h) hF (fun u t H1 locs1 ht _ hp hB _ hk hS => kk u H1 locs1 hp ⟨join_c hW.1 (hD.to has) is hget (hlen u) hk (by rw [← ht]; exact hB.1), hS⟩)
end CALLC
