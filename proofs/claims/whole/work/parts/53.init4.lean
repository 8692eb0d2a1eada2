/-! the component's constructor: it wants the class of arrays of sheets, by its component's number -/
def PreO (E : Ev) (w : va_W) (sz : Nat) (U : State) : Prop := PreC E w sz U ∧ va_AO "CollarNames$Sheet" U
theorem PreO_blind {E : Ev} {vs : List Value} {w : va_W} {sz : Nat} : FrameBlind (va_Pc vs (PreO E w sz)) := fun a U g mk q => ⟨q.1, ⟨q.2.1.1, q.2.1.2.1, KK.calling g mk a q.2.1.2.2.1, q.2.1.2.2.2⟩, va_AO.moved (u := U) (U := U.calling g mk a) (Vm.Alike.refl U.vm) q.2.2⟩
def MVo {X : Type} (l : Launch) (E : Ev) (y : MethodName) (cc : ByteArray) (mL : Nat) (fr lo mc ms : Nat) (av : List Value) (w : va_W) (post : X → Prop) (w' : X → va_W) : Prop :=
  ∀ sz, Met l y [.code y cc mL none] { frames := fr, cells := mc, slots := ms, locals := lo } (va_Pc av (PreO E w sz)) (va_Qv post (PostC E (va_A w sz) w') (va_A w sz)) mc ms (va_A w sz)
theorem MVo_intro {X : Type} {l : Launch} {E : Ev} {y : MethodName} {cc : ByteArray} {mL : Nat} {fr lo mc ms : Nat} {av : List Value} {w : va_W} {post : X → Prop} {w' : X → va_W} (own : String) (hy : plainName y.cls = true) (ho : y.cls = own) (hle : (lg_sl av).length ≤ mL)
    (body : ∀ (p : Program) (e : Env) (R : Room) (s : State) (m : MethodId) (args : Array Value) (below : List Frame) (meth : Method) (c : Code) (A : Nat → Prop) (Q : State → Prop), Q = MQ below (va_Qv post (PostC E A w') A) args s mc ms A → Cx p R s m args meth c cc mL own none E { frames := fr, cells := mc, slots := ms, locals := lo } → (own = y.cls → meth.name = y.name) → Dj A (w.map (fun q => q.1)) → Wd E A s.heap w s.heap [] → (∀ q, s.heap.size ≤ q → A q) → va_AO "CollarNames$Sheet" s → ∀ ls : Array Slot, lv_has ls mL (lv_args 0 av) →
      W p l e R s m args below meth c s.heap [] 0 0 Q (F0 m 0 ls [])) : MVo l E y cc mL fr lo mc ms av w post w' := by
  intro sz
  refine Met.ofW (cc := cc) (maxL := mL) (ret := none) hy rfl ?_
  intro p e s m args below meth c s₁ B hml hv
  obtain ⟨rfl, ⟨hsz, hP, hK, hD0⟩, hAO⟩ := hv
  have hl := lv_entry av (n := mL) hle
  rw [lg_entry_eq]
  exact body p e _ s m _ below meth c (va_A w sz) _ rfl ⟨B.exec, B.bytes, hml, by rw [← ho]; exact findClass_of_methodNamed B.named, B.returns, B.notSynchronized, hK, rfl⟩ (fun _ => (name_of_methodNamed B.named B.method).1) (Dj.of hD0.self) ⟨hP, va_S.rf⟩ (fun q h => Or.inr (by rw [← hsz]; exact h)) hAO _ hl
section NEWQ
variable {p : Program} {l : Launch} {e : Env} {R : Room} {s : State} {m : MethodId} {args : Array Value} {below : List Frame} {meth : Method} {c : Code} {H : Heap} {locs : List Loc} {cells slots : Nat} {Q : State → Prop}
variable {cc : ByteArray} {mL pc : Nat} {ls : Array Slot} {rest : List Value} {A : Nat → Prop} {a : Nat} {ws ws' : va_W} {H0 : Heap} {E : Ev} {own : String} {ret : Option FieldType} {rm : Room} {as : List Nat}
theorem r_newq (hC : Cx p R s m args meth c cc mL own ret E rm) (hAO : va_AO "CollarNames$Sheet" s) (hD : Dj A as) (hW : Wd E A H0 ws H locs) (hA : ∀ q, H0.size ≤ q → A q) (has : ws.map (fun q => q.1) = as) {idx : Nat} (hlk : Cond.classLink own idx "CollarNames$Sheet" ∈ GL) (N : Nat) {x : Int32} (hx : x = nI N) (hN : N ≤ 1000) (hr : cells + 1 ≤ rm.cells ∧ slots + N ≤ rm.slots) (hdg : decode cc pc = .ok (.anewarray idx, 3))
    (kk : ∀ (q : Nat) (H1 : Heap), Dj A (as ++ [q]) → Wd E A H0 (ws ++ [(q, .inl (E.2.2.2, N, .inr (.inr (.inr (.inr (fun _ => none))))))]) H1 locs → W p l e R s m args below meth c H1 locs (cells + 1) (slots + N) Q (F0 m (pc + 3) ls (.ref q :: rest))) : W p l e R s m args below meth c H locs cells slots Q (F0 m pc ls (.int x :: rest)) := by
  obtain ⟨h1, h2, h3, h4, h5, h6, hK, hR⟩ := hC
  subst hR
  subst hx
  refine va_newq h1 h2 h4 (hK.2.1 _ hlk args) hAO hK.1 hW.1 (hD.to has) hW.2 hA (nI_pos (by omega)) (nI_clamp (by omega)) (by omega) hr.1 hr.2 hdg (fun q cA H1 k1 k2 k3 k4 => ?_)
  obtain ⟨kA, comp, a1, a2, a3, e1⟩ := (k1.2 3 (cA, .object "CollarNames$Sheet") rfl).2
  obtain ⟨kB, comb, b1, b2, b3, e2⟩ := (hK.1.2 2 (E.2.2.2, .object "CollarNames$Sheet") rfl).2
  have e : cA = E.2.2.2 := Option.some.inj (e1.symm.trans e2)
  subst e
  have k5 := Dj.of k3
  rw [List.map_append, has] at k5
  exact kk q H1 k5 ⟨k2, k4⟩
theorem r_astq (hC : Cx p R s m args meth c cc mL own ret E rm) (hD : Dj A as) (hW : Wd E A H0 ws H locs) (q0 qk : Nat) {n v : Nat} {vs : List Value} {f : Nat → Option Nat} (he : ws[q0]? = some (a, .inl (E.2.2.2, n, .inr (.inr (.inr (.inr f)))))) (hv : ws[qk]? = some (v, .inr (2, vs))) {i : Int32} (j : Nat) (hi : i = nI j) (hj : j < n) (hn : n < 2 ^ 31) (has : ws.map (fun q => q.1) = as) (hset : ws.set q0 (a, .inl (E.2.2.2, n, .inr (.inr (.inr (.inr (va_up f j (some v))))))) = ws') (hdg : decode cc pc = .ok (.aastore, 1))
    (kk : ∀ (H1 : Heap) (locs1 : List Loc), Wd E A H0 ws' H1 locs1 → W p l e R s m args below meth c H1 locs1 cells slots Q (F0 m (pc + 1) ls rest)) : W p l e R s m args below meth c H locs cells slots Q (F0 m pc ls (.ref v :: .int i :: .ref a :: rest)) := by
  obtain ⟨hx, hb, hml, hown, hr, hlk, hK, -⟩ := hC
  subst hi
  subst hset
  refine va_astq (r := (RX2, TX2, 3)) hx hb hK.1 hW.1 (hD.to has) hW.2 q0 2 qk 2 he rfl hv rfl (vp_in_nI hj hn) hdg (fun H1 locs1 h1 _ h3 => kk H1 locs1 ⟨?_, h3⟩)
  rw [nI_clamp (by omega)] at h1
  exact h1
end NEWQ
theorem clX4_42 : Cond.classLink RX4 42 "CollarNames$Sheet" ∈ GL := GL_of (i := 191) (by decide +kernel) rfl
section INITO
variable {p : Program} {l : Launch} {e : Env} {R : Room} {s : State} {m : MethodId} {args : Array Value} {below : List Frame} {meth : Method} {c : Code} {H : Heap} {locs : List Loc} {cells slots : Nat} {Q : State → Prop}
variable {cc cc' : ByteArray} {mL mL' n pc fr lo idx mc ms : Nat} {ls : Array Slot} {rest st As : List Value} {A : Nat → Prop} {b ci : Nat} {wa : va_W} {H0 : Heap} {E : Ev} {own : String} {ret : Option FieldType} {rm : Room} {as : List Nat} {y : MethodName} {X : Type} {w' : X → va_W} {fs : List Value}
theorem r_callIo {post : X → Prop} (hC : Cx p R s m args meth c cc mL own ret E rm) (hAO : va_AO "CollarNames$Sheet" s) (hD : Dj A as) (hW : Wd E A H0 (wa ++ [(b, .inr (ci, fs))]) H locs) (hA : ∀ q, H0.size ≤ q → A q) (has : (wa ++ [(b, (.inr (ci, fs) : va_E))] : va_W).map (fun q => q.1) = as) (lk : LkI own idx y cc' mL' n) (hM : MVo l E y cc' mL' fr lo mc ms (.ref b :: As) [(b, .inr (ci, fs))] post w') (hr : fr + 1 ≤ rm.frames ∧ 8 + (mL' + 11) + lo ≤ rm.locals ∧ cells + mc ≤ rm.cells ∧ slots + ms ≤ rm.slots)
    (hl : ls.size = mL) (hn : As.length = n) (hst : st = As.reverse ++ .ref b :: rest) (hrest : (rest.map fun v => v.category).sum ≤ 8) (hdg : decode cc pc = .ok (.invokespecial idx, 3))
    (kk : ∀ (u : X) (H1 : Heap) (locs1 : List Loc), post u → Dj A ((wa ++ w' u).map (fun q => q.1)) → Wd E A H0 (wa ++ w' u) H1 locs1 → W p l e R s m args below meth c H1 locs1 (cells + mc) (slots + ms) Q (F0 m (pc + 3) ls rest)) : W p l e R s m args below meth c H locs cells slots Q (F0 m pc ls st) := by
  obtain ⟨hx, hb, hml, hown, -, -, hK, hRm⟩ := hC
  subst hRm
  have hts : ∀ w ∈ GL, w.before args s = true := fun w hw => hK.2.1 w hw args
  have hDD := hD.to has
  have hlast : (wa ++ [(b, (.inr (ci, fs) : va_E))])[wa.length]? = some (b, .inr (ci, fs)) := by simp
  have hPb : va_P E.1 vwCl [(b, .inr (ci, fs))] H := fun k q hq => by
    cases k with
    | zero => cases hq; exact hW.1 wa.length _ hlast
    | succ k => simp at hq
  have hDb : va_D (fun _ => True) [(b, (.inr (ci, fs) : va_E))] := by
    refine ⟨fun i j p q hi hj _ => ?_, fun _ _ _ => trivial⟩
    cases i with
    | zero => cases j with
      | zero => rfl
      | succ j => simp at hj
    | succ i => simp at hi
  have hF : ∀ q, va_A [(b, (.inr (ci, fs) : va_E))] H.size q → A q := by
    intro q hq
    rcases hq with ⟨k, e', h⟩ | h
    · cases k with
      | zero => cases h; exact hDD.2 wa.length _ hlast
      | succ k => simp at h
    · exact hA q (Nat.le_trans hW.2.1 h)
  have g1 : GoodIn GL [.code y cc' mL' none] := GL_good (fun w hw => lk.1 w (by simp only [List.mem_singleton] at hw; subst hw; simp))
  have hwa : ∀ (k : Nat) (q : Nat × va_E), wa[k]? = some q → q.1 < H.size ∧ ¬ q.1 = b := by
    intro k q hq
    have hk : k < wa.length := (List.getElem?_eq_some_iff.mp hq).1
    have hq2 : (wa ++ [(b, (.inr (ci, fs) : va_E))])[k]? = some q := by rw [List.getElem?_append_left hk]; exact hq
    refine ⟨(hW.1 k q hq2).lt, fun e' => ?_⟩
    have := hDD.1 k wa.length q (b, .inr (ci, fs)) hq2 hlast e'
    omega
  refine va_callv (va_runI (As := As) (rest := rest) ⟨hx, hb, hml, hown, hts⟩ (hM H.size) ⟨callB_of n hts g1 rfl rfl rfl (hts _ (lk.1 _ (by simp))) (hts _ (lk.1 _ (by simp))) lk.2.2 ⟨hr.1, hr.2.1⟩, lk.2.1, hts _ (lk.1 _ (by simp))⟩ ⟨PreO_blind, fun U hU hWm => ⟨rfl, ⟨by rw [hU], by rw [hU]; exact hPb, KK.moved hWm hK, hDb⟩, va_AO.moved hWm.alike hAO⟩⟩ rfl hn hl hst (lv_room hrest) hdg ⟨hr.2.2.1, hr.2.2.2⟩) hW.2 (fun q _ h => hF q h) hF (fun u t H1 locs1 ht _ hp hB _ hk hS => ?_)
  have hnot : ∀ (k : Nat) (q : Nat × va_E), wa[k]? = some q → ¬ va_A [(b, (.inr (ci, fs) : va_E))] H.size q.1 := by
    intro k q hq h
    obtain ⟨a1, a2⟩ := hwa k q hq
    rcases h with ⟨k2, e', h⟩ | h
    · cases k2 with
      | zero => cases h; exact a2 rfl
      | succ k2 => simp at h
    · omega
  have hPa : va_P E.1 vwCl wa H1 := fun k q hq => by
    have hk2 : k < wa.length := (List.getElem?_eq_some_iff.mp hq).1
    have hq2 : (wa ++ [(b, (.inr (ci, fs) : va_E))])[k]? = some q := by rw [List.getElem?_append_left hk2]; exact hq
    exact (hW.1 k q hq2).kept (hk q.1 (hwa k q hq).1 (hnot k q hq))
  have hDa : va_D A wa := by
    refine ⟨fun i j p q hi hj hpq => ?_, fun k q hq => ?_⟩
    · exact hDD.1 i j p q (by rw [List.getElem?_append_left (List.getElem?_eq_some_iff.mp hi).1]; exact hi) (by rw [List.getElem?_append_left (List.getElem?_eq_some_iff.mp hj).1]; exact hj) hpq
    · exact hDD.2 k q (by rw [List.getElem?_append_left (List.getElem?_eq_some_iff.mp hq).1]; exact hq)
  have hD2 : va_D A (wa ++ w' u) := hDa.app ⟨hB.2.1, fun k q hq => hF q.1 (hB.2.2 k q hq)⟩ (fun i j p q hi hj e' => hnot i p hi (by rw [e']; exact hB.2.2 j q hj))
  exact kk u H1 locs1 hp (Dj.of hD2) ⟨hPa.app (by rw [← ht]; exact hB.1), hS⟩
end INITO

abbrev NN : Type := Nat → Nat
set_option maxHeartbeats 16000000 in
set_option maxRecDepth 100000 in
theorem c_X4_init (l : Launch) (E : Ev) (b : Nat) : MVo l E yX4_init cX4_init 2 2 42 46 582 [.ref b] [(b, .inr (4, [.null, .null, .null, .int 0, .null, .null, .null, .null]))] (fun (u : NN × NN × NN × NN × NN × NN × NN) => u.1 0 = b) (fun (u : NN × NN × NN × NN × NN × NN × NN) => wcat [CO (u.1) (u.2.1) (u.2.2.1) (u.2.2.2.1) (u.2.2.2.2.1) 0, HW E (u.2.1) S0 (fun _ _ => 0), HW E (u.2.2.1) S0 (fun _ _ => 0), HW E (u.2.2.2.1) S0 (fun _ _ => 0), TPW E (u.2.2.2.2.1) (fun _ => 0) (fun _ => 0), [(u.1 1, .inr (1, [.ref (u.2.2.2.2.1 0), .ref (u.2.2.1 0), .int 0]))], [(u.1 2, .inl (E.2.2.2, 4, .inr (.inr (.inr (.inr (va_up (va_up (va_up (va_up (fun _ => none) 0 (some (u.2.2.2.2.2.1 0))) 1 (some (u.2.2.2.2.2.1 1))) 2 (some (u.2.2.2.2.2.1 2))) 3 (some (u.2.2.2.2.2.1 3))))))))], SHW E (u.2.2.2.2.2.1 0) (u.2.2.2.2.2.2 0) 0 0 (fun _ => 0), SHW E (u.2.2.2.2.2.1 1) (u.2.2.2.2.2.2 1) 0 0 (fun _ => 0), SHW E (u.2.2.2.2.2.1 2) (u.2.2.2.2.2.2 2) 0 0 (fun _ => 0), SHW E (u.2.2.2.2.2.1 3) (u.2.2.2.2.2.2 3) 0 0 (fun _ => 0), IA E (u.1 3) 7 (fun _ => 0)]) := by
  refine MVo_intro RX4 (by decide) rfl (Nat.le_of_ble_eq_true rfl) ?_
  intro p e R s m args below meth c A Q hQ hC hnm hD hW hA hAO ls hl
  have hx := hC.1
  have hb := hC.2.1
  have hD : Dj A [b] := hD
  have hl : lv_has ls 2 [(0, .ref b)] := hl
  refine lv_aload_n hx hb dX4_init_0 rfl (lv_at hl 0 rfl) ?_
  refine r_obj0 hC loX4_1 lo_i lo_c hl.1 ⟨by decide, by decide⟩ (Nat.le_of_ble_eq_true rfl) dX4_init_1 ?_
  refine lv_aload_n hx hb dX4_init_4 rfl (lv_at hl 0 rfl) ?_
  refine r_new hC hD hW hA rfl fnX4_7 ⟨by decide, by decide⟩ dX4_init_5 (fun ql H hD hW => ?_)
  refine lv_dup hx hb dX4_init_8 rfl ?_
  refine r_callI hC hD hW hA rfl liX4_9 (c_X0_init l E ql) ⟨by decide, by decide, by decide, by decide⟩ hl.1 rfl rfl (Nat.le_of_ble_eq_true rfl) dX4_init_9 (fun uvl H locs _ hD hW => ?_)
  refine r_putF (ws' := [(b, .inr (4, [.ref ql, .null, .null, .int 0, .null, .null, .null, .null]))] ++ HW E (fun k => if k = 0 then ql else uvl k) S0 (fun _ _ => 0)) hC (hnm rfl) hD hW ffX4_10 0 rfl rfl rfl (Nat.le_of_ble_eq_true rfl) rfl rfl dX4_init_12 (fun H locs hW => ?_)
  refine lv_aload_n hx hb dX4_init_15 rfl (lv_at hl 0 rfl) ?_
  refine r_new hC hD hW hA rfl fnX4_7 ⟨by decide, by decide⟩ dX4_init_16 (fun qt H hD hW => ?_)
  refine lv_dup hx hb dX4_init_19 rfl ?_
  refine r_callI hC hD hW hA rfl liX4_9 (c_X0_init l E qt) ⟨by decide, by decide, by decide, by decide⟩ hl.1 rfl rfl (Nat.le_of_ble_eq_true rfl) dX4_init_20 (fun uvt H locs _ hD hW => ?_)
  refine r_putF (ws' := [(b, .inr (4, [.ref ql, .ref qt, .null, .int 0, .null, .null, .null, .null]))] ++ HW E (fun k => if k = 0 then ql else uvl k) S0 (fun _ _ => 0) ++ HW E (fun k => if k = 0 then qt else uvt k) S0 (fun _ _ => 0)) hC (hnm rfl) hD hW ffX4_16 0 rfl rfl rfl (Nat.le_of_ble_eq_true rfl) rfl rfl dX4_init_23 (fun H locs hW => ?_)
  refine lv_aload_n hx hb dX4_init_26 rfl (lv_at hl 0 rfl) ?_
  refine r_new hC hD hW hA rfl fnX4_7 ⟨by decide, by decide⟩ dX4_init_27 (fun qk H hD hW => ?_)
  refine lv_dup hx hb dX4_init_30 rfl ?_
  refine r_callI hC hD hW hA rfl liX4_9 (c_X0_init l E qk) ⟨by decide, by decide, by decide, by decide⟩ hl.1 rfl rfl (Nat.le_of_ble_eq_true rfl) dX4_init_31 (fun uvk H locs _ hD hW => ?_)
  refine r_putF (ws' := [(b, .inr (4, [.ref ql, .ref qt, .ref qk, .int 0, .null, .null, .null, .null]))] ++ HW E (fun k => if k = 0 then ql else uvl k) S0 (fun _ _ => 0) ++ HW E (fun k => if k = 0 then qt else uvt k) S0 (fun _ _ => 0) ++ HW E (fun k => if k = 0 then qk else uvk k) S0 (fun _ _ => 0)) hC (hnm rfl) hD hW ffX4_19 0 rfl rfl rfl (Nat.le_of_ble_eq_true rfl) rfl rfl dX4_init_34 (fun H locs hW => ?_)
  refine lv_aload_n hx hb dX4_init_37 rfl (lv_at hl 0 rfl) ?_
  refine lv_iconst (v := 0) hx hb dX4_init_38 (by decide) ?_
  refine r_put (ws' := [(b, .inr (4, [.ref ql, .ref qt, .ref qk, .int 0, .null, .null, .null, .null]))] ++ HW E (fun k => if k = 0 then ql else uvl k) S0 (fun _ _ => 0) ++ HW E (fun k => if k = 0 then qt else uvt k) S0 (fun _ _ => 0) ++ HW E (fun k => if k = 0 then qk else uvk k) S0 (fun _ _ => 0)) hC hD hW fpX4_22 0 rfl rfl rfl (Nat.le_of_ble_eq_true rfl) rfl rfl dX4_init_39 (fun H locs hW => ?_)
  refine lv_aload_n hx hb dX4_init_42 rfl (lv_at hl 0 rfl) ?_
  refine r_new hC hD hW hA rfl fnX4_26 ⟨by decide, by decide⟩ dX4_init_43 (fun qy H hD hW => ?_)
  refine lv_dup hx hb dX4_init_46 rfl ?_
  refine r_callI hC hD hW hA rfl liX4_28 (c_X3_init l E qy) ⟨by decide, by decide, by decide, by decide⟩ hl.1 rfl rfl (Nat.le_of_ble_eq_true rfl) dX4_init_47 (fun uvy H locs _ hD hW => ?_)
  refine r_putF (ws' := [(b, .inr (4, [.ref ql, .ref qt, .ref qk, .int 0, .ref qy, .null, .null, .null]))] ++ HW E (fun k => if k = 0 then ql else uvl k) S0 (fun _ _ => 0) ++ HW E (fun k => if k = 0 then qt else uvt k) S0 (fun _ _ => 0) ++ HW E (fun k => if k = 0 then qk else uvk k) S0 (fun _ _ => 0) ++ TPW E (fun k => if k = 0 then qy else uvy) (fun _ => 0) (fun _ => 0)) hC (hnm rfl) hD hW ffX4_29 0 rfl rfl rfl (Nat.le_of_ble_eq_true rfl) rfl rfl dX4_init_50 (fun H locs hW => ?_)
  refine lv_aload_n hx hb dX4_init_53 rfl (lv_at hl 0 rfl) ?_
  refine r_new hC hD hW hA rfl fnX4_33 ⟨by decide, by decide⟩ dX4_init_54 (fun qx H hD hW => ?_)
  refine lv_dup hx hb dX4_init_57 rfl ?_
  refine lv_aload_n hx hb dX4_init_58 rfl (lv_at hl 0 rfl) ?_
  refine r_get hC hW flX4_29 0 rfl rfl dX4_init_59 ?_
  refine lv_aload_n hx hb dX4_init_62 rfl (lv_at hl 0 rfl) ?_
  refine r_get hC hW flX4_16 0 rfl rfl dX4_init_63 ?_
  refine r_callI hC hD hW hA rfl liX4_35 (c_X1_init l E qx qy qt) ⟨by decide, by decide, by decide, by decide⟩ hl.1 rfl rfl (Nat.le_of_ble_eq_true rfl) dX4_init_66 (fun _ H locs _ hD hW => ?_)
  refine r_putF (ws' := [(b, .inr (4, [.ref ql, .ref qt, .ref qk, .int 0, .ref qy, .ref qx, .null, .null]))] ++ HW E (fun k => if k = 0 then ql else uvl k) S0 (fun _ _ => 0) ++ HW E (fun k => if k = 0 then qt else uvt k) S0 (fun _ _ => 0) ++ HW E (fun k => if k = 0 then qk else uvk k) S0 (fun _ _ => 0) ++ TPW E (fun k => if k = 0 then qy else uvy) (fun _ => 0) (fun _ => 0) ++ [(qx, .inr (1, [.ref qy, .ref qt, .int 0]))]) hC (hnm rfl) hD hW ffX4_38 0 rfl rfl rfl (Nat.le_of_ble_eq_true rfl) rfl rfl dX4_init_69 (fun H locs hW => ?_)
  refine lv_aload_n hx hb dX4_init_72 rfl (lv_at hl 0 rfl) ?_
  refine lv_iconst (v := 4) hx hb dX4_init_73 (by decide) ?_
  refine r_newq hC hAO hD hW hA rfl clX4_42 4 rfl (by decide) ⟨by decide, by decide⟩ dX4_init_74 (fun qs H hD hW => ?_)
  refine r_putF (ws' := [(b, .inr (4, [.ref ql, .ref qt, .ref qk, .int 0, .ref qy, .ref qx, .ref qs, .null]))] ++ HW E (fun k => if k = 0 then ql else uvl k) S0 (fun _ _ => 0) ++ HW E (fun k => if k = 0 then qt else uvt k) S0 (fun _ _ => 0) ++ HW E (fun k => if k = 0 then qk else uvk k) S0 (fun _ _ => 0) ++ TPW E (fun k => if k = 0 then qy else uvy) (fun _ => 0) (fun _ => 0) ++ [(qx, .inr (1, [.ref qy, .ref qt, .int 0]))] ++ [(qs, .inl (E.2.2.2, 4, .inr (.inr (.inr (.inr (fun _ => none))))))]) hC (hnm rfl) hD hW ffX4_44 0 rfl rfl rfl (Nat.le_of_ble_eq_true rfl) rfl rfl dX4_init_77 (fun H locs hW => ?_)
  refine lv_iconst (v := 0) hx hb dX4_init_80 (by decide) ?_
  refine lv_istore_n (lv' := [(1, .int (nI 0)), (0, .ref b)]) hx hb dX4_init_81 rfl hl (by decide) rfl (fun ls hl => ?_)
  refine lv_iload_n hx hb dX4_init_82 rfl (lv_at hl 0 rfl) ?_
  refine lv_iconst (v := 4) hx hb dX4_init_83 (by decide) ?_
  refine lv_icmp_ge (tgt := 106) hx hb dX4_init_84 (by decide) (fun hc => absurd hc (by decide)) (fun _ => ?_)
  refine lv_aload_n hx hb dX4_init_87 rfl (lv_at hl 1 rfl) ?_
  refine r_get hC hW flX4_44 0 rfl rfl dX4_init_88 ?_
  refine lv_iload_n hx hb dX4_init_91 rfl (lv_at hl 0 rfl) ?_
  refine r_new hC hD hW hA rfl fnX4_42 ⟨by decide, by decide⟩ dX4_init_92 (fun a0 H hD hW => ?_)
  refine lv_dup hx hb dX4_init_95 rfl ?_
  refine r_callI hC hD hW hA rfl liX4_48 (c_X2_init l E a0) ⟨by decide, by decide, by decide, by decide⟩ hl.1 rfl rfl (Nat.le_of_ble_eq_true rfl) dX4_init_96 (fun n0 H locs _ hD hW => ?_)
  refine r_astq (ws' := [(b, .inr (4, [.ref ql, .ref qt, .ref qk, .int 0, .ref qy, .ref qx, .ref qs, .null]))] ++ HW E (fun k => if k = 0 then ql else uvl k) S0 (fun _ _ => 0) ++ HW E (fun k => if k = 0 then qt else uvt k) S0 (fun _ _ => 0) ++ HW E (fun k => if k = 0 then qk else uvk k) S0 (fun _ _ => 0) ++ TPW E (fun k => if k = 0 then qy else uvy) (fun _ => 0) (fun _ => 0) ++ [(qx, .inr (1, [.ref qy, .ref qt, .int 0]))] ++ [(qs, .inl (E.2.2.2, 4, .inr (.inr (.inr (.inr (va_up (fun _ => none) 0 (some a0)))))))] ++ SHW E a0 n0 0 0 (fun _ => 0)) hC hD hW 37 38 rfl rfl 0 rfl (by decide) (by decide) rfl rfl dX4_init_99 (fun H locs hW => ?_)
  refine lv_iinc (v := nI 1) (lv' := [(1, .int (nI 1)), (0, .ref b)]) (k := 0) hx hb dX4_init_100 hl rfl (by decide) (by decide) rfl (fun ls hl => ?_)
  refine lv_goto (tgt := 82) hx hb dX4_init_103 (by decide) ?_
  refine lv_iload_n hx hb dX4_init_82 rfl (lv_at hl 0 rfl) ?_
  refine lv_iconst (v := 4) hx hb dX4_init_83 (by decide) ?_
  refine lv_icmp_ge (tgt := 106) hx hb dX4_init_84 (by decide) (fun hc => absurd hc (by decide)) (fun _ => ?_)
  refine lv_aload_n hx hb dX4_init_87 rfl (lv_at hl 1 rfl) ?_
  refine r_get hC hW flX4_44 0 rfl rfl dX4_init_88 ?_
  refine lv_iload_n hx hb dX4_init_91 rfl (lv_at hl 0 rfl) ?_
  refine r_new hC hD hW hA rfl fnX4_42 ⟨by decide, by decide⟩ dX4_init_92 (fun a1 H hD hW => ?_)
  refine lv_dup hx hb dX4_init_95 rfl ?_
  refine r_callI hC hD hW hA rfl liX4_48 (c_X2_init l E a1) ⟨by decide, by decide, by decide, by decide⟩ hl.1 rfl rfl (Nat.le_of_ble_eq_true rfl) dX4_init_96 (fun n1 H locs _ hD hW => ?_)
  refine r_astq (ws' := [(b, .inr (4, [.ref ql, .ref qt, .ref qk, .int 0, .ref qy, .ref qx, .ref qs, .null]))] ++ HW E (fun k => if k = 0 then ql else uvl k) S0 (fun _ _ => 0) ++ HW E (fun k => if k = 0 then qt else uvt k) S0 (fun _ _ => 0) ++ HW E (fun k => if k = 0 then qk else uvk k) S0 (fun _ _ => 0) ++ TPW E (fun k => if k = 0 then qy else uvy) (fun _ => 0) (fun _ => 0) ++ [(qx, .inr (1, [.ref qy, .ref qt, .int 0]))] ++ [(qs, .inl (E.2.2.2, 4, .inr (.inr (.inr (.inr (va_up (va_up (fun _ => none) 0 (some a0)) 1 (some a1)))))))] ++ SHW E a0 n0 0 0 (fun _ => 0) ++ SHW E a1 n1 0 0 (fun _ => 0)) hC hD hW 37 40 rfl rfl 1 rfl (by decide) (by decide) rfl rfl dX4_init_99 (fun H locs hW => ?_)
  refine lv_iinc (v := nI 2) (lv' := [(1, .int (nI 2)), (0, .ref b)]) (k := 0) hx hb dX4_init_100 hl rfl (by decide) (by decide) rfl (fun ls hl => ?_)
  refine lv_goto (tgt := 82) hx hb dX4_init_103 (by decide) ?_
  refine lv_iload_n hx hb dX4_init_82 rfl (lv_at hl 0 rfl) ?_
  refine lv_iconst (v := 4) hx hb dX4_init_83 (by decide) ?_
  refine lv_icmp_ge (tgt := 106) hx hb dX4_init_84 (by decide) (fun hc => absurd hc (by decide)) (fun _ => ?_)
  refine lv_aload_n hx hb dX4_init_87 rfl (lv_at hl 1 rfl) ?_
  refine r_get hC hW flX4_44 0 rfl rfl dX4_init_88 ?_
  refine lv_iload_n hx hb dX4_init_91 rfl (lv_at hl 0 rfl) ?_
  refine r_new hC hD hW hA rfl fnX4_42 ⟨by decide, by decide⟩ dX4_init_92 (fun a2 H hD hW => ?_)
  refine lv_dup hx hb dX4_init_95 rfl ?_
  refine r_callI hC hD hW hA rfl liX4_48 (c_X2_init l E a2) ⟨by decide, by decide, by decide, by decide⟩ hl.1 rfl rfl (Nat.le_of_ble_eq_true rfl) dX4_init_96 (fun n2 H locs _ hD hW => ?_)
  refine r_astq (ws' := [(b, .inr (4, [.ref ql, .ref qt, .ref qk, .int 0, .ref qy, .ref qx, .ref qs, .null]))] ++ HW E (fun k => if k = 0 then ql else uvl k) S0 (fun _ _ => 0) ++ HW E (fun k => if k = 0 then qt else uvt k) S0 (fun _ _ => 0) ++ HW E (fun k => if k = 0 then qk else uvk k) S0 (fun _ _ => 0) ++ TPW E (fun k => if k = 0 then qy else uvy) (fun _ => 0) (fun _ => 0) ++ [(qx, .inr (1, [.ref qy, .ref qt, .int 0]))] ++ [(qs, .inl (E.2.2.2, 4, .inr (.inr (.inr (.inr (va_up (va_up (va_up (fun _ => none) 0 (some a0)) 1 (some a1)) 2 (some a2)))))))] ++ SHW E a0 n0 0 0 (fun _ => 0) ++ SHW E a1 n1 0 0 (fun _ => 0) ++ SHW E a2 n2 0 0 (fun _ => 0)) hC hD hW 37 42 rfl rfl 2 rfl (by decide) (by decide) rfl rfl dX4_init_99 (fun H locs hW => ?_)
  refine lv_iinc (v := nI 3) (lv' := [(1, .int (nI 3)), (0, .ref b)]) (k := 0) hx hb dX4_init_100 hl rfl (by decide) (by decide) rfl (fun ls hl => ?_)
  refine lv_goto (tgt := 82) hx hb dX4_init_103 (by decide) ?_
  refine lv_iload_n hx hb dX4_init_82 rfl (lv_at hl 0 rfl) ?_
  refine lv_iconst (v := 4) hx hb dX4_init_83 (by decide) ?_
  refine lv_icmp_ge (tgt := 106) hx hb dX4_init_84 (by decide) (fun hc => absurd hc (by decide)) (fun _ => ?_)
  refine lv_aload_n hx hb dX4_init_87 rfl (lv_at hl 1 rfl) ?_
  refine r_get hC hW flX4_44 0 rfl rfl dX4_init_88 ?_
  refine lv_iload_n hx hb dX4_init_91 rfl (lv_at hl 0 rfl) ?_
  refine r_new hC hD hW hA rfl fnX4_42 ⟨by decide, by decide⟩ dX4_init_92 (fun a3 H hD hW => ?_)
  refine lv_dup hx hb dX4_init_95 rfl ?_
  refine r_callI hC hD hW hA rfl liX4_48 (c_X2_init l E a3) ⟨by decide, by decide, by decide, by decide⟩ hl.1 rfl rfl (Nat.le_of_ble_eq_true rfl) dX4_init_96 (fun n3 H locs _ hD hW => ?_)
  refine r_astq (ws' := [(b, .inr (4, [.ref ql, .ref qt, .ref qk, .int 0, .ref qy, .ref qx, .ref qs, .null]))] ++ HW E (fun k => if k = 0 then ql else uvl k) S0 (fun _ _ => 0) ++ HW E (fun k => if k = 0 then qt else uvt k) S0 (fun _ _ => 0) ++ HW E (fun k => if k = 0 then qk else uvk k) S0 (fun _ _ => 0) ++ TPW E (fun k => if k = 0 then qy else uvy) (fun _ => 0) (fun _ => 0) ++ [(qx, .inr (1, [.ref qy, .ref qt, .int 0]))] ++ [(qs, .inl (E.2.2.2, 4, .inr (.inr (.inr (.inr (va_up (va_up (va_up (va_up (fun _ => none) 0 (some a0)) 1 (some a1)) 2 (some a2)) 3 (some a3)))))))] ++ SHW E a0 n0 0 0 (fun _ => 0) ++ SHW E a1 n1 0 0 (fun _ => 0) ++ SHW E a2 n2 0 0 (fun _ => 0) ++ SHW E a3 n3 0 0 (fun _ => 0)) hC hD hW 37 44 rfl rfl 3 rfl (by decide) (by decide) rfl rfl dX4_init_99 (fun H locs hW => ?_)
  refine lv_iinc (v := nI 4) (lv' := [(1, .int (nI 4)), (0, .ref b)]) (k := 0) hx hb dX4_init_100 hl rfl (by decide) (by decide) rfl (fun ls hl => ?_)
  refine lv_goto (tgt := 82) hx hb dX4_init_103 (by decide) ?_
  refine lv_iload_n hx hb dX4_init_82 rfl (lv_at hl 0 rfl) ?_
  refine lv_iconst (v := 4) hx hb dX4_init_83 (by decide) ?_
  refine lv_icmp_ge (tgt := 106) hx hb dX4_init_84 (by decide) (fun _ => ?_) (fun hc => absurd (by decide) hc)
  refine lv_aload_n hx hb dX4_init_106 rfl (lv_at hl 1 rfl) ?_
  refine lv_bipush (v := 7) hx hb dX4_init_107 (by decide) ?_
  refine r_newi hC hD hW hA rfl na_i 7 rfl (by decide) ⟨by decide, by decide⟩ dX4_init_109 (fun qf H hD hW => ?_)
  refine r_putF (ws' := [(b, .inr (4, [.ref ql, .ref qt, .ref qk, .int 0, .ref qy, .ref qx, .ref qs, .ref qf]))] ++ HW E (fun k => if k = 0 then ql else uvl k) S0 (fun _ _ => 0) ++ HW E (fun k => if k = 0 then qt else uvt k) S0 (fun _ _ => 0) ++ HW E (fun k => if k = 0 then qk else uvk k) S0 (fun _ _ => 0) ++ TPW E (fun k => if k = 0 then qy else uvy) (fun _ => 0) (fun _ => 0) ++ [(qx, .inr (1, [.ref qy, .ref qt, .int 0]))] ++ [(qs, .inl (E.2.2.2, 4, .inr (.inr (.inr (.inr (va_up (va_up (va_up (va_up (fun _ => none) 0 (some a0)) 1 (some a1)) 2 (some a2)) 3 (some a3)))))))] ++ SHW E a0 n0 0 0 (fun _ => 0) ++ SHW E a1 n1 0 0 (fun _ => 0) ++ SHW E a2 n2 0 0 (fun _ => 0) ++ SHW E a3 n3 0 0 (fun _ => 0) ++ [(qf, .inl (E.2.1, 7, .inl (fun _ => 0)))]) hC (hnm rfl) hD hW ffX4_49 0 rfl rfl rfl (Nat.le_of_ble_eq_true rfl) rfl rfl dX4_init_111 (fun H locs hW => ?_)
  exact r_vret hC hQ hD hW ((fun k => if k = 0 then b else if k = 1 then qx else if k = 2 then qs else qf), (fun k => if k = 0 then ql else uvl k), (fun k => if k = 0 then qt else uvt k), (fun k => if k = 0 then qk else uvk k), (fun k => if k = 0 then qy else uvy), (fun k => if k = 0 then a0 else if k = 1 then a1 else if k = 2 then a2 else a3), (fun k => if k = 0 then n0 else if k = 1 then n1 else if k = 2 then n2 else n3)) rfl rfl rfl dX4_init_114
