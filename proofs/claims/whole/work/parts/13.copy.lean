/-! System.arraycopy, and arrays by what stands below their length -/
def LkC (own : String) (idx : Nat) : Prop := ∀ w ∈ ([.methodLink own idx arraycopyName, .native arraycopyName, .static arraycopyName, .initialized "java/lang/System"] : List Cond), w ∈ GL
theorem lcX0_55 : LkC RX0 55 := GL_all [420, 422, 421, 57] (by decide +kernel) (by decide +kernel)
theorem lcX4_224 : LkC RX4 224 := GL_all [645, 422, 421, 57] (by decide +kernel) (by decide +kernel)
theorem arr_ext {cA : ClassId} {n : Nat} {f g : Nat → Int32} (h : ∀ k, k < n → f k = g k) : vp_cell cA (n, .inl f) = vp_cell cA (n, .inl g) := by
  rw [vp_cell_i, vp_cell_i]
  unfold arrV
  congr 2
  funext j
  show Value.int (f j.val) = Value.int (g j.val)
  rw [h j.val j.isLt]
theorem arr_extl {cA : ClassId} {n : Nat} {f g : Nat → Int64} (h : ∀ k, k < n → f k = g k) : vp_cell cA (n, .inr (.inl f)) = vp_cell cA (n, .inr (.inl g)) := by
  rw [vp_cell_l, vp_cell_l]
  unfold arrV
  congr 2
  funext j
  show Value.long (f j.val) = Value.long (g j.val)
  rw [h j.val j.isLt]
theorem Wd_ext {E : Ev} {A : Nat → Prop} {H0 H : Heap} {ws : va_W} {locs : List Loc} (hW : Wd E A H0 ws H locs) (q0 : Nat) {a n : Nat} {cA : ClassId} {f g : Nat → Int32} (he : ws[q0]? = some (a, .inl (cA, n, .inl f))) (h : ∀ k, k < n → f k = g k) : Wd E A H0 (ws.set q0 (a, .inl (cA, n, .inl g))) H locs := by
  refine ⟨fun k q hq => ?_, hW.2⟩
  by_cases e : q0 = k
  · subst e
    have hl : q0 < ws.length := (List.getElem?_eq_some_iff.mp he).1
    rw [List.getElem?_set_self hl] at hq
    cases hq
    have := hW.1 q0 _ he
    show H[a]? = some (vp_cell cA (n, .inl g))
    rw [← arr_ext h]
    exact this
  · rw [List.getElem?_set_ne e] at hq
    exact hW.1 k q hq
theorem Wd_extl {E : Ev} {A : Nat → Prop} {H0 H : Heap} {ws : va_W} {locs : List Loc} (hW : Wd E A H0 ws H locs) (q0 : Nat) {a n : Nat} {cA : ClassId} {f g : Nat → Int64} (he : ws[q0]? = some (a, .inl (cA, n, .inr (.inl f)))) (h : ∀ k, k < n → f k = g k) : Wd E A H0 (ws.set q0 (a, .inl (cA, n, .inr (.inl g)))) H locs := by
  refine ⟨fun k q hq => ?_, hW.2⟩
  by_cases e : q0 = k
  · subst e
    have hl : q0 < ws.length := (List.getElem?_eq_some_iff.mp he).1
    rw [List.getElem?_set_self hl] at hq
    cases hq
    have := hW.1 q0 _ he
    show H[a]? = some (vp_cell cA (n, .inr (.inl g)))
    rw [← arr_extl h]
    exact this
  · rw [List.getElem?_set_ne e] at hq
    exact hW.1 k q hq
section COPY
variable {p : Program} {l : Launch} {e : Env} {R : Room} {s : State} {m : MethodId} {args : Array Value} {below : List Frame} {meth : Method} {c : Code} {H : Heap} {locs : List Loc} {cells slots : Nat} {Q : State → Prop}
variable {cc : ByteArray} {mL pc idx : Nat} {ls : Array Slot} {rest : List Value} {A : Nat → Prop} {a a0 : Nat} {ws ws' : va_W} {H0 : Heap} {E : Ev} {own : String} {ret : Option FieldType} {rm : Room} {as : List Nat}
theorem r_copyi (hC : Cx p R s m args meth c cc mL own ret E rm) (hD : Dj A as) (hW : Wd E A H0 ws H locs) (lk : LkC own idx) (hl : ls.size = mL) (hr : 1 ≤ rm.frames ∧ 26 ≤ rm.locals) (hrest : (rest.map fun v => v.category).sum ≤ 8) (q0 q1 : Nat) {n0 n1 : Nat} {f g g' : Nat → Int32} (ha0 : ws[q0]? = some (a0, .inl (E.2.1, n0, .inl f))) (ha1 : ws[q1]? = some (a, .inl (E.2.1, n1, .inl g))) (sp dp n : Nat) {x y z : Int32} (ex : x = nI sp) (ey : y = nI dp) (ez : z = nI n) (h4 : sp + n ≤ n0) (h5 : dp + n ≤ n1) (hb1 : n0 < 2 ^ 31 ∧ n1 < 2 ^ 31) (hg : ∀ k, k < n1 → va_cpy f g sp dp n k = g' k) (has : ws.map (fun q => q.1) = as) (hset : ws.set q1 (a, .inl (E.2.1, n1, .inl g')) = ws') (hdg : decode cc pc = .ok (.invokestatic idx, 3))
    (kk : ∀ (H1 : Heap) (locs1 : List Loc), Wd E A H0 ws' H1 locs1 → W p l e R s m args below meth c H1 locs1 cells slots Q (F0 m (pc + 3) ls rest)) : W p l e R s m args below meth c H locs cells slots Q (F0 m pc ls (.int z :: .int y :: .ref a :: .int x :: .ref a0 :: rest)) := by
  obtain ⟨hx, hb, hml, hown, hrt, hlk, hK, hRm⟩ := hC
  subst hRm
  subst ex; subst ey; subst ez
  have hts : ∀ w ∈ GL, w.before args s = true := fun w hw => hK.2.1 w hw args
  have c1 : (nI sp).toNatClampNeg = sp := nI_clamp (by omega)
  have c2 : (nI dp).toNatClampNeg = dp := nI_clamp (by omega)
  have c3 : (nI n).toNatClampNeg = n := nI_clamp (by omega)
  have hw7 : nativeFrameWords "java/lang/System" "arraycopy" 5 = 7 := by decide
  refine va_copyi hx hb (by rw [hml, hl]) hown (hts _ (lk _ (List.mem_of_getElem? (i := 0) rfl))) (hts _ (lk _ (List.mem_of_getElem? (i := 1) rfl))) (hts _ (lk _ (List.mem_of_getElem? (i := 2) rfl))) (hts _ (lk _ (List.mem_of_getElem? (i := 3) rfl))) hK.1 hW.1 (hD.to has) hW.2 q0 q1 0 0 ha0 ha1 (ty := .int) rfl rfl rfl (nI_pos (by omega)) (nI_pos (by omega)) (nI_pos (by omega)) (by rw [c1, c3]; exact h4) (by rw [c2, c3]; exact h5) (fun i _ => rfl) hr.1 (by omega) hdg (fun H1 locs1 h1 _ h3 => ?_)
  rw [c1, c2, c3] at h1
  have hl1 : q1 < ws.length := (List.getElem?_eq_some_iff.mp ha1).1
  have h6 := Wd_ext (g := g') (⟨h1, h3⟩ : Wd E A H0 _ H1 locs1) q1 (List.getElem?_set_self hl1) hg
  rw [List.set_set, hset] at h6
  exact kk H1 locs1 h6
theorem r_copyl (hC : Cx p R s m args meth c cc mL own ret E rm) (hD : Dj A as) (hW : Wd E A H0 ws H locs) (lk : LkC own idx) (hl : ls.size = mL) (hr : 1 ≤ rm.frames ∧ 26 ≤ rm.locals) (hrest : (rest.map fun v => v.category).sum ≤ 8) (q0 q1 : Nat) {n0 n1 : Nat} {f g g' : Nat → Int64} (ha0 : ws[q0]? = some (a0, .inl (E.2.2.1, n0, .inr (.inl f)))) (ha1 : ws[q1]? = some (a, .inl (E.2.2.1, n1, .inr (.inl g)))) (sp dp n : Nat) {x y z : Int32} (ex : x = nI sp) (ey : y = nI dp) (ez : z = nI n) (h4 : sp + n ≤ n0) (h5 : dp + n ≤ n1) (hb1 : n0 < 2 ^ 31 ∧ n1 < 2 ^ 31) (hg : ∀ k, k < n1 → va_cpy f g sp dp n k = g' k) (has : ws.map (fun q => q.1) = as) (hset : ws.set q1 (a, .inl (E.2.2.1, n1, .inr (.inl g'))) = ws') (hdg : decode cc pc = .ok (.invokestatic idx, 3))
    (kk : ∀ (H1 : Heap) (locs1 : List Loc), Wd E A H0 ws' H1 locs1 → W p l e R s m args below meth c H1 locs1 cells slots Q (F0 m (pc + 3) ls rest)) : W p l e R s m args below meth c H locs cells slots Q (F0 m pc ls (.int z :: .int y :: .ref a :: .int x :: .ref a0 :: rest)) := by
  obtain ⟨hx, hb, hml, hown, hrt, hlk, hK, hRm⟩ := hC
  subst hRm
  subst ex; subst ey; subst ez
  have hts : ∀ w ∈ GL, w.before args s = true := fun w hw => hK.2.1 w hw args
  have c1 : (nI sp).toNatClampNeg = sp := nI_clamp (by omega)
  have c2 : (nI dp).toNatClampNeg = dp := nI_clamp (by omega)
  have c3 : (nI n).toNatClampNeg = n := nI_clamp (by omega)
  have hw7 : nativeFrameWords "java/lang/System" "arraycopy" 5 = 7 := by decide
  refine va_copyl hx hb (by rw [hml, hl]) hown (hts _ (lk _ (List.mem_of_getElem? (i := 0) rfl))) (hts _ (lk _ (List.mem_of_getElem? (i := 1) rfl))) (hts _ (lk _ (List.mem_of_getElem? (i := 2) rfl))) (hts _ (lk _ (List.mem_of_getElem? (i := 3) rfl))) hK.1 hW.1 (hD.to has) hW.2 q0 q1 1 1 ha0 ha1 (ty := .long) rfl rfl rfl (nI_pos (by omega)) (nI_pos (by omega)) (nI_pos (by omega)) (by rw [c1, c3]; exact h4) (by rw [c2, c3]; exact h5) (fun i _ => rfl) hr.1 (by omega) hdg (fun H1 locs1 h1 _ h3 => ?_)
  rw [c1, c2, c3] at h1
  have hl1 : q1 < ws.length := (List.getElem?_eq_some_iff.mp ha1).1
  have h6 := Wd_extl (g := g') (⟨h1, h3⟩ : Wd E A H0 _ H1 locs1) q1 (List.getElem?_set_self hl1) hg
  rw [List.set_set, hset] at h6
  exact kk H1 locs1 h6
end COPY
def rws (S : HS) (f : Nat) (v : Nat → Int32) : HS := fun k => if k = f then v else S k
theorem cpy_all {f g : Nat → Int32} {n : Nat} : ∀ k, k < n → va_cpy f g 0 0 n k = f k := fun k hk => by
  rw [pk_cpy_in (Nat.zero_le k) (by omega), Nat.sub_zero, Nat.zero_add]
