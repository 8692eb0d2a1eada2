/-- a field's link: class own, entry idx, to field k of class ci -/
def FL (own : String) (idx ci k : Nat) : Prop := ∃ (C : String) (T : u_T) (N : Nat), vwCl[ci]? = some (C, T, N) ∧ (∀ w ∈ u_ws C T N, w ∈ GL) ∧ k < N ∧ Cond.fieldLink own idx (T k).1 (T k).2.1 (T k).2.2.1 ∈ GL
/-- the same, to be written: not final, of type ty -/
def FP (own : String) (idx ci k : Nat) (ty : FieldType) : Prop := ∃ (C : String) (T : u_T) (N : Nat) (ty0 : Nat → FieldType), vwCl[ci]? = some (C, T, N) ∧ (∀ w ∈ u_ws C T N, w ∈ GL) ∧ k < N ∧ Cond.fieldLink own idx (T k).1 (T k).2.1 (T k).2.2.1 ∈ GL ∧ (T k).2.2.2 = false ∧ parseFieldDescriptor (T k).2.2.1 = some ty ∧ (∀ k, k < N → parseFieldDescriptor (T k).2.2.1 = some (ty0 k)) ∧ (∀ a, a < N → ∀ b, b < N → a ≠ b → (T a).2.1 ≠ (T b).2.1)
def wput (ws : va_W) : List Nat → va_W → va_W
  | i :: is, c :: cs => wput (ws.set i c) is cs
  | _, _ => ws
section ROWS
variable {p : Program} {l : Launch} {e : Env} {R : Room} {s : State} {m : MethodId} {args : Array Value} {below : List Frame} {meth : Method} {c : Code} {H : Heap} {locs : List Loc} {cells slots : Nat} {Q : State → Prop}
variable {cc : ByteArray} {mL pc : Nat} {ls : Array Slot} {rest : List Value} {A : Nat → Prop} {a : Nat} {ws ws' : va_W} {H0 : Heap} {E : Ev} {own : String} {ret : Option FieldType} {rm : Room} {as : List Nat}
theorem r_get (hC : Cx p R s m args meth c cc mL own ret E rm) (hW : Wd E A H0 ws H locs) {idx ci k : Nat} (hf : FL own idx ci k) (q0 : Nat) {fs : List Value} (he : ws[q0]? = some (a, .inr (ci, fs))) {v : Value} (hv : fs[k]? = some v) (hdg : decode cc pc = .ok (.getfield idx, 3))
    (kk : W p l e R s m args below meth c H locs cells slots Q (F0 m (pc + 3) ls (v :: rest))) : W p l e R s m args below meth c H locs cells slots Q (F0 m pc ls (.ref a :: rest)) := by
  obtain ⟨hx, hb, hml, hown, hr, hlk, hK, -⟩ := hC
  obtain ⟨C, T, N, hc, hin, hk, hlink⟩ := hf
  exact va_get hx hb (fun w hw => hK.2.1 w hw args) hin hown hK.1 hW.1 q0 he hc k hk (hK.2.1 _ hlink args) (fun _ h => h) hv hdg kk
theorem r_put (hC : Cx p R s m args meth c cc mL own ret E rm) (hD : Dj A as) (hW : Wd E A H0 ws H locs) {idx ci k : Nat} {ty : FieldType} (hf : FP own idx ci k ty) (q0 : Nat) {fs : List Value} (he : ws[q0]? = some (a, .inr (ci, fs))) {v : Value} (hn : narrow ty v = v) (hfit : fits ty v = true) (hl : k < fs.length) (has : ws.map (fun q => q.1) = as) (hset : ws.set q0 (a, .inr (ci, fs.set k v)) = ws') (hdg : decode cc pc = .ok (.putfield idx, 3))
    (kk : ∀ (H1 : Heap) (locs1 : List Loc), Wd E A H0 ws' H1 locs1 → W p l e R s m args below meth c H1 locs1 cells slots Q (F0 m (pc + 3) ls rest)) : W p l e R s m args below meth c H locs cells slots Q (F0 m pc ls (v :: .ref a :: rest)) := by
  obtain ⟨hx, hb, hml, hown, hr, hlk, hK, -⟩ := hC
  obtain ⟨C, T, N, ty0, hc, hin, hk, hlink, hfin, hd, hty, hnm⟩ := hf
  subst hset
  exact va_put hx hb (fun w hw => hK.2.1 w hw args) hin ty0 hty hnm hown hK.1 hW.1 (hD.to has) hW.2 q0 he hc k hk (hK.2.1 _ hlink args) (fun _ h => h) hfin hd hn hfit hl hdg (fun H1 locs1 h1 _ h3 => kk H1 locs1 ⟨h1, h3⟩)
theorem r_iald (hC : Cx p R s m args meth c cc mL own ret E rm) (hW : Wd E A H0 ws H locs) (q0 : Nat) {n : Nat} {f : Nat → Int32} (he : ws[q0]? = some (a, .inl (E.2.1, n, .inl f))) {i : Int32} (j : Nat) (hi : i = nI j) (hj : j < n) (hn : n < 2 ^ 31) (hdg : decode cc pc = .ok (.iaload, 1))
    (kk : W p l e R s m args below meth c H locs cells slots Q (F0 m (pc + 1) ls (.int (f j) :: rest))) : W p l e R s m args below meth c H locs cells slots Q (F0 m pc ls (.int i :: .ref a :: rest)) := by
  obtain ⟨hx, hb, hml, hown, hr, hlk, hK, -⟩ := hC
  subst hi
  refine va_iald hx hb hK.1 hW.1 q0 0 he rfl (vp_in_nI hj hn) hdg ?_
  rw [nI_clamp (by omega)]
  exact kk
theorem r_lald (hC : Cx p R s m args meth c cc mL own ret E rm) (hW : Wd E A H0 ws H locs) (q0 : Nat) {n : Nat} {f : Nat → Int64} (he : ws[q0]? = some (a, .inl (E.2.2.1, n, .inr (.inl f)))) {i : Int32} (j : Nat) (hi : i = nI j) (hj : j < n) (hn : n < 2 ^ 31) (hdg : decode cc pc = .ok (.laload, 1))
    (kk : W p l e R s m args below meth c H locs cells slots Q (F0 m (pc + 1) ls (.long (f j) :: rest))) : W p l e R s m args below meth c H locs cells slots Q (F0 m pc ls (.int i :: .ref a :: rest)) := by
  obtain ⟨hx, hb, hml, hown, hr, hlk, hK, -⟩ := hC
  subst hi
  refine va_lald hx hb hK.1 hW.1 q0 1 he rfl (vp_in_nI hj hn) hdg ?_
  rw [nI_clamp (by omega)]
  exact kk
theorem r_aald (hC : Cx p R s m args meth c cc mL own ret E rm) (hW : Wd E A H0 ws H locs) (q0 : Nat) {n : Nat} {f : Nat → Option Nat} (he : ws[q0]? = some (a, .inl (E.2.2.2, n, .inr (.inr (.inr (.inr f)))))) {i : Int32} (j : Nat) {b : Nat} (hi : i = nI j) (hj : j < n) (hn : n < 2 ^ 31) (hv : f j = some b) (hdg : decode cc pc = .ok (.aaload, 1))
    (kk : W p l e R s m args below meth c H locs cells slots Q (F0 m (pc + 1) ls (.ref b :: rest))) : W p l e R s m args below meth c H locs cells slots Q (F0 m pc ls (.int i :: .ref a :: rest)) := by
  obtain ⟨hx, hb, hml, hown, hr, hlk, hK, -⟩ := hC
  subst hi
  refine va_aldq hx hb hK.1 hW.1 q0 2 he rfl (vp_in_nI hj hn) hdg ?_
  rw [nI_clamp (by omega), hv]
  exact kk
theorem r_iast (hC : Cx p R s m args meth c cc mL own ret E rm) (hD : Dj A as) (hW : Wd E A H0 ws H locs) (q0 : Nat) {n : Nat} {f : Nat → Int32} (he : ws[q0]? = some (a, .inl (E.2.1, n, .inl f))) {i x : Int32} (j : Nat) (hi : i = nI j) (hj : j < n) (hn : n < 2 ^ 31) (has : ws.map (fun q => q.1) = as) (hset : ws.set q0 (a, .inl (E.2.1, n, .inl (upd f j x))) = ws') (hdg : decode cc pc = .ok (.iastore, 1))
    (kk : ∀ (H1 : Heap) (locs1 : List Loc), Wd E A H0 ws' H1 locs1 → W p l e R s m args below meth c H1 locs1 cells slots Q (F0 m (pc + 1) ls rest)) : W p l e R s m args below meth c H locs cells slots Q (F0 m pc ls (.int x :: .int i :: .ref a :: rest)) := by
  obtain ⟨hx, hb, hml, hown, hr, hlk, hK, -⟩ := hC
  subst hi
  subst hset
  refine va_iast hx hb hK.1 hW.1 (hD.to has) hW.2 q0 0 he rfl (vp_in_nI hj hn) hdg (fun H1 locs1 h1 _ h3 => kk H1 locs1 ⟨?_, h3⟩)
  rw [nI_clamp (by omega)] at h1
  exact h1
theorem r_last (hC : Cx p R s m args meth c cc mL own ret E rm) (hD : Dj A as) (hW : Wd E A H0 ws H locs) (q0 : Nat) {n : Nat} {f : Nat → Int64} (he : ws[q0]? = some (a, .inl (E.2.2.1, n, .inr (.inl f)))) {i : Int32} {x : Int64} (j : Nat) (hi : i = nI j) (hj : j < n) (hn : n < 2 ^ 31) (has : ws.map (fun q => q.1) = as) (hset : ws.set q0 (a, .inl (E.2.2.1, n, .inr (.inl (vp_updL f j x)))) = ws') (hdg : decode cc pc = .ok (.lastore, 1))
    (kk : ∀ (H1 : Heap) (locs1 : List Loc), Wd E A H0 ws' H1 locs1 → W p l e R s m args below meth c H1 locs1 cells slots Q (F0 m (pc + 1) ls rest)) : W p l e R s m args below meth c H locs cells slots Q (F0 m pc ls (.long x :: .int i :: .ref a :: rest)) := by
  obtain ⟨hx, hb, hml, hown, hr, hlk, hK, -⟩ := hC
  subst hi
  subst hset
  refine va_last hx hb hK.1 hW.1 (hD.to has) hW.2 q0 1 he rfl (vp_in_nI hj hn) hdg (fun H1 locs1 h1 _ h3 => kk H1 locs1 ⟨?_, h3⟩)
  rw [nI_clamp (by omega)] at h1
  exact h1
theorem r_ldc (hC : Cx p R s m args meth c cc mL own ret E rm) {idx : Nat} {v : Int32} (hw : Cond.constant own idx v ∈ GL) (hdg : decode cc pc = .ok (.ldc idx, 2)) (kk : W p l e R s m args below meth c H locs cells slots Q (F0 m (pc + 2) ls (.int v :: rest))) : W p l e R s m args below meth c H locs cells slots Q (F0 m pc ls rest) := by
  obtain ⟨hx, hb, hml, hown, hr, hlk, hK, -⟩ := hC
  exact lv_ldc hx hb hown (hK.2.1 _ hw args) hdg kk
theorem r_ldcw (hC : Cx p R s m args meth c cc mL own ret E rm) {idx : Nat} {v : Int32} (hw : Cond.constant own idx v ∈ GL) (hdg : decode cc pc = .ok (.ldc_w idx, 3)) (kk : W p l e R s m args below meth c H locs cells slots Q (F0 m (pc + 3) ls (.int v :: rest))) : W p l e R s m args below meth c H locs cells slots Q (F0 m pc ls rest) := by
  obtain ⟨hx, hb, hml, hown, hr, hlk, hK, -⟩ := hC
  exact lv_ldcw hx hb hown (hK.2.1 _ hw args) hdg kk
theorem r_ldc2 (hC : Cx p R s m args meth c cc mL own ret E rm) {idx : Nat} {v : Int64} (hw : Cond.constantLong own idx v ∈ GL) (hdg : decode cc pc = .ok (.ldc2_w idx, 3)) (kk : W p l e R s m args below meth c H locs cells slots Q (F0 m (pc + 3) ls (.long v :: rest))) : W p l e R s m args below meth c H locs cells slots Q (F0 m pc ls rest) := by
  obtain ⟨hx, hb, hml, hown, hr, hlk, hK, -⟩ := hC
  exact lv_ldc2 hx hb hown (hK.2.1 _ hw args) hdg kk
/-- ends -/
theorem r_iret {X : Type} {post : Int32 → X → Prop} {w' : X → va_W} {mc ms : Nat} (hC : Cx p R s m args meth c cc mL own (some .int) E rm) (hQ : Q = MQ below (va_Qi post (PostC E A w') A) args s mc ms A) (hD : Dj A as) (hW : Wd E A s.heap ws H locs) {v : Int32} (u : X) (hp : post v u) (hws : w' u = ws) (has : ws.map (fun q => q.1) = as) (hdg : decode cc pc = .ok (.ireturn, 1)) : W p l e R s m args below meth c H locs mc ms Q (F0 m pc ls [.int v]) := by
  obtain ⟨hx, hb, hml, hown, hr, hlk, hK, -⟩ := hC
  subst hQ
  subst hws
  exact W.iret hx hb hr (fun t ht _ => ⟨⟨v, u, rfl, hp, by rw [ht]; exact hW.1, hD.to has⟩, hW.2.F ht⟩) hW.2.2.2 hdg hlk
theorem r_zret {X : Type} {post : Int32 → X → Prop} {w' : X → va_W} {mc ms : Nat} (hC : Cx p R s m args meth c cc mL own (some .boolean) E rm) (hQ : Q = MQ below (va_Qi post (PostC E A w') A) args s mc ms A) (hD : Dj A as) (hW : Wd E A s.heap ws H locs) {v : Int32} (hv : v = 0 ∨ v = 1) (u : X) (hp : post v u) (hws : w' u = ws) (has : ws.map (fun q => q.1) = as) (hdg : decode cc pc = .ok (.ireturn, 1)) : W p l e R s m args below meth c H locs mc ms Q (F0 m pc ls [.int v]) := by
  obtain ⟨hx, hb, hml, hown, hr, hlk, hK, -⟩ := hC
  subst hQ
  subst hws
  exact W.zret hx hb hr (by rcases hv with rfl | rfl <;> rfl) (fun t ht _ => ⟨⟨v, u, rfl, hp, by rw [ht]; exact hW.1, hD.to has⟩, hW.2.F ht⟩) hW.2.2.2 hdg hlk
theorem r_lret {X : Type} {post : Int64 → X → Prop} {w' : X → va_W} {mc ms : Nat} (hC : Cx p R s m args meth c cc mL own (some .long) E rm) (hQ : Q = MQ below (va_Ql post (PostC E A w') A) args s mc ms A) (hD : Dj A as) (hW : Wd E A s.heap ws H locs) {v : Int64} (u : X) (hp : post v u) (hws : w' u = ws) (has : ws.map (fun q => q.1) = as) (hdg : decode cc pc = .ok (.lreturn, 1)) : W p l e R s m args below meth c H locs mc ms Q (F0 m pc ls [.long v]) := by
  obtain ⟨hx, hb, hml, hown, hr, hlk, hK, -⟩ := hC
  subst hQ
  subst hws
  exact W.lret hx hb hr (fun t ht _ => ⟨⟨v, u, rfl, hp, by rw [ht]; exact hW.1, hD.to has⟩, hW.2.F ht⟩) hW.2.2.2 hdg hlk
theorem r_vret {X : Type} {post : X → Prop} {w' : X → va_W} {mc ms : Nat} (hC : Cx p R s m args meth c cc mL own none E rm) (hQ : Q = MQ below (va_Qv post (PostC E A w') A) args s mc ms A) (hD : Dj A as) (hW : Wd E A s.heap ws H locs) (u : X) (hp : post u) (hws : w' u = ws) (has : ws.map (fun q => q.1) = as) (hdg : decode cc pc = .ok (.return_, 1)) : W p l e R s m args below meth c H locs mc ms Q (F0 m pc ls []) := by
  obtain ⟨hx, hb, hml, hown, hr, hlk, hK, -⟩ := hC
  subst hQ
  subst hws
  exact W.vret hx hb hr (fun t ht _ => ⟨⟨u, rfl, hp, by rw [ht]; exact hW.1, hD.to has⟩, hW.2.F ht⟩) hW.2.2.2 hdg hlk
end ROWS
