/-! cells that are made: arrays of ints and longs, objects -/
section NEWS
variable {p : Program} {l : Launch} {e : Env} {R : Room} {s : State} {m : MethodId} {args : Array Value} {below : List Frame} {meth : Method} {c : Code} {H : Heap} {locs : List Loc} {cells slots : Nat} {Q : State → Prop}
variable {cc : ByteArray} {mL pc : Nat} {ls : Array Slot} {rest : List Value} {A : Nat → Prop} {a : Nat} {ws ws' : va_W} {H0 : Heap} {E : Ev} {own : String} {ret : Option FieldType} {rm : Room} {as : List Nat}
theorem r_newi (hC : Cx p R s m args meth c cc mL own ret E rm) (hD : Dj A as) (hW : Wd E A H0 ws H locs) (hA : ∀ q, H0.size ≤ q → A q) (has : ws.map (fun q => q.1) = as) (harr : Cond.arrayClass .int ∈ GL) (N : Nat) {x : Int32} (hx : x = nI N) (hN : N ≤ 1000) (hr : cells + 1 ≤ rm.cells ∧ slots + N ≤ rm.slots) (hdg : decode cc pc = .ok (.newarray .int, 2))
    (kk : ∀ (q : Nat) (H1 : Heap), Dj A (as ++ [q]) → Wd E A H0 (ws ++ [(q, .inl (E.2.1, N, .inl (fun _ => 0)))]) H1 locs → W p l e R s m args below meth c H1 locs (cells + 1) (slots + N) Q (F0 m (pc + 2) ls (.ref q :: rest))) : W p l e R s m args below meth c H locs cells slots Q (F0 m pc ls (.int x :: rest)) := by
  obtain ⟨h1, h2, h3, h4, h5, h6, hK, hR⟩ := hC
  subst hR
  subst hx
  refine va_newa (atype := .int) (a0 := (N, .inl (fun _ => 0))) h1 h2 (hK.2.1 _ harr args) (ty := .int) rfl hK.1 hW.1 (hD.to has) hW.2 hA (fun _ => rfl) (nI_pos (by omega)) (nI_clamp (by omega)) (by show N * 4 ≤ 536870912; omega) hr.1 hr.2 hdg (fun q cA H1 k1 k2 k3 k4 => ?_)
  have e1 : s.vm.findClass ("[" ++ FieldType.int.toString) = some cA := (k1.2 3 (cA, .int) rfl).2
  have e2 : s.vm.findClass ("[" ++ FieldType.int.toString) = some E.2.1 := (hK.1.2 0 (E.2.1, .int) rfl).2
  have e : cA = E.2.1 := Option.some.inj (e1.symm.trans e2)
  subst e
  have k5 := Dj.of k3
  rw [List.map_append, has] at k5
  exact kk q H1 k5 ⟨k2, k4⟩
theorem r_newl (hC : Cx p R s m args meth c cc mL own ret E rm) (hD : Dj A as) (hW : Wd E A H0 ws H locs) (hA : ∀ q, H0.size ≤ q → A q) (has : ws.map (fun q => q.1) = as) (harr : Cond.arrayClass .long ∈ GL) (N : Nat) {x : Int32} (hx : x = nI N) (hN : N ≤ 1000) (hr : cells + 1 ≤ rm.cells ∧ slots + N ≤ rm.slots) (hdg : decode cc pc = .ok (.newarray .long, 2))
    (kk : ∀ (q : Nat) (H1 : Heap), Dj A (as ++ [q]) → Wd E A H0 (ws ++ [(q, .inl (E.2.2.1, N, .inr (.inl (fun _ => 0))))]) H1 locs → W p l e R s m args below meth c H1 locs (cells + 1) (slots + N) Q (F0 m (pc + 2) ls (.ref q :: rest))) : W p l e R s m args below meth c H locs cells slots Q (F0 m pc ls (.int x :: rest)) := by
  obtain ⟨h1, h2, h3, h4, h5, h6, hK, hR⟩ := hC
  subst hR
  subst hx
  refine va_newa (atype := .long) (a0 := (N, .inr (.inl (fun _ => 0)))) h1 h2 (hK.2.1 _ harr args) (ty := .long) rfl hK.1 hW.1 (hD.to has) hW.2 hA (fun _ => rfl) (nI_pos (by omega)) (nI_clamp (by omega)) (by show N * 8 ≤ 536870912; omega) hr.1 hr.2 hdg (fun q cA H1 k1 k2 k3 k4 => ?_)
  have e1 : s.vm.findClass ("[" ++ FieldType.long.toString) = some cA := (k1.2 3 (cA, .long) rfl).2
  have e2 : s.vm.findClass ("[" ++ FieldType.long.toString) = some E.2.2.1 := (hK.1.2 1 (E.2.2.1, .long) rfl).2
  have e : cA = E.2.2.1 := Option.some.inj (e1.symm.trans e2)
  subst e
  have k5 := Dj.of k3
  rw [List.map_append, has] at k5
  exact kk q H1 k5 ⟨k2, k4⟩
theorem r_obj0 (hC : Cx p R s m args meth c cc mL own ret E rm) {idx : Nat} (h1 : Cond.methodLink own idx Lib.objectInit ∈ GL) (h2 : Cond.instanceMethod Lib.objectInit ∈ GL) (h3 : Cond.code Lib.objectInit ⟨#[0xb1]⟩ 1 none ∈ GL) (hl : ls.size = mL) (hr : 1 ≤ rm.frames ∧ 20 ≤ rm.locals) (hrest : (rest.map fun v => v.category).sum ≤ 8) (hdg : decode cc pc = .ok (.invokespecial idx, 3))
    (kk : W p l e R s m args below meth c H locs cells slots Q (F0 m (pc + 3) ls rest)) : W p l e R s m args below meth c H locs cells slots Q (F0 m pc ls (.ref a :: rest)) := by
  obtain ⟨k1, k2, k3, k4, k5, k6, hK, hR⟩ := hC
  subst hR
  exact W.objInit k1 k2 k4 (hK.2.1 _ h1 args) (hK.2.1 _ h2 args) (hK.2.1 _ h3 args) (g := F0 m pc ls (.ref a :: rest)) rfl (by rw [k3]; exact hl) rfl hdg hr.1 (Nat.le_trans (Nat.add_le_add_right (lv_room hrest) 12) hr.2) kk
def FF (own : String) (idx ci k : Nat) (ty : FieldType) : Prop := ∃ (C : String) (T : u_T) (N : Nat) (ty0 : Nat → FieldType), vwCl[ci]? = some (C, T, N) ∧ (∀ w ∈ u_ws C T N, w ∈ GL) ∧ k < N ∧ Cond.fieldLink own idx (T k).1 (T k).2.1 (T k).2.2.1 ∈ GL ∧ ((T k).2.2.2 = true ∧ (T k).1 = own) ∧ parseFieldDescriptor (T k).2.2.1 = some ty ∧ (∀ k, k < N → parseFieldDescriptor (T k).2.2.1 = some (ty0 k)) ∧ (∀ a, a < N → ∀ b, b < N → a ≠ b → (T a).2.1 ≠ (T b).2.1)
theorem r_putF (hC : Cx p R s m args meth c cc mL own ret E rm) (hi : meth.name = "<init>") (hD : Dj A as) (hW : Wd E A H0 ws H locs) {idx ci k : Nat} {ty : FieldType} (hf : FF own idx ci k ty) (q0 : Nat) {fs : List Value} (he : ws[q0]? = some (a, .inr (ci, fs))) {v : Value} (hn : narrow ty v = v) (hfit : fits ty v = true) (hl : k < fs.length) (has : ws.map (fun q => q.1) = as) (hset : ws.set q0 (a, .inr (ci, fs.set k v)) = ws') (hdg : decode cc pc = .ok (.putfield idx, 3))
    (kk : ∀ (H1 : Heap) (locs1 : List Loc), Wd E A H0 ws' H1 locs1 → W p l e R s m args below meth c H1 locs1 cells slots Q (F0 m (pc + 3) ls rest)) : W p l e R s m args below meth c H locs cells slots Q (F0 m pc ls (v :: .ref a :: rest)) := by
  obtain ⟨hx, hb, hml, hown, hr, hlk, hK, -⟩ := hC
  obtain ⟨C, T, N, ty0, hc, hin, hk, hlink, hfin, hd, hty, hnm⟩ := hf
  subst hset
  exact va_putF hx hb (fun w hw => hK.2.1 w hw args) hin ty0 hty hnm hown hK.1 hW.1 (hD.to has) hW.2 q0 he hc k hk (hK.2.1 _ hlink args) (fun _ h => h) hfin.1 hi hfin.2 hd hn hfit hl hdg (fun H1 locs1 h1 _ h3 => kk H1 locs1 ⟨h1, h3⟩)
def FN (own : String) (idx ci : Nat) (fs : List Value) : Prop := ∃ (C : String) (T : u_T) (N : Nat) (ty0 : Nat → FieldType), vwCl[ci]? = some (C, T, N) ∧ (∀ w ∈ u_ws C T N, w ∈ GL) ∧ (∀ k, k < N → parseFieldDescriptor (T k).2.2.1 = some (ty0 k)) ∧ Cond.classLink own idx C ∈ GL ∧ Cond.instantiable C N ∈ GL ∧ Cond.initialized C ∈ GL ∧ fs.length = N ∧ ∀ j, j < N → defaultValue (ty0 j) = vp_V fs j
theorem r_new (hC : Cx p R s m args meth c cc mL own ret E rm) (hD : Dj A as) (hW : Wd E A H0 ws H locs) (hA : ∀ q, H0.size ≤ q → A q) (has : ws.map (fun q => q.1) = as) {idx ci : Nat} {fs : List Value} (hf : FN own idx ci fs) (hr : cells + 1 ≤ rm.cells ∧ slots + fs.length ≤ rm.slots) (hdg : decode cc pc = .ok (.new idx, 3))
    (kk : ∀ (q : Nat) (H1 : Heap), Dj A (as ++ [q]) → Wd E A H0 (ws ++ [(q, .inr (ci, fs))]) H1 locs → W p l e R s m args below meth c H1 locs (cells + 1) (slots + fs.length) Q (F0 m (pc + 3) ls (.ref q :: rest))) : W p l e R s m args below meth c H locs cells slots Q (F0 m pc ls rest) := by
  obtain ⟨hx, hb, hml, hown, hr1, hlk, hK, hR⟩ := hC
  subst hR
  obtain ⟨C, T, N, ty0, hc, hin, hty, h1, h2, h3, h4, h5⟩ := hf
  subst h4
  refine va_new hx hb (fun w hw => hK.2.1 w hw args) hin ty0 hty hown (hK.2.1 _ h1 args) (hK.2.1 _ h2 args) (hK.2.1 _ h3 args) hK.1 hW.1 (hD.to has) hW.2 hA hc h5 hr.1 hr.2 hdg (fun q H1 k2 k3 k4 => ?_)
  have k5 := Dj.of k3
  rw [List.map_append, has] at k5
  exact kk q H1 k5 ⟨k2, k4⟩
end NEWS
