/-! cells that are made: arrays of ints and longs, objects -/
section NEWS
variable {p : Program} {l : Launch} {e : Env} {R : Room} {s : State} {m : MethodId} {args : Array Value} {below : List Frame} {meth : Method} {c : Code} {H : Heap} {locs : List Loc} {cells slots : Nat} {Q : State → Prop}
variable {cc : ByteArray} {mL pc : Nat} {ls : Array Slot} {rest : List Value} {A : Nat → Prop} {a : Nat} {ws ws' : va_W} {H0 : Heap} {E : Ev} {own : String} {ret : Option FieldType} {rm : Room} {as : List Nat}
theorem r_newi (hC : Cx p R s m args meth c cc mL own ret E rm) (hD : Dj A as) (hW : Wd E A H0 ws H locs) (hA : ∀ q, H0.size ≤ q → A q) (has : ws.map (fun q => q.1) = as) (harr : Cond.arrayClass .int ∈ GL) (N : Nat) {x : Int32} (hx : x = nI N) (hN : N ≤ 1000) (hr : cells + 1 ≤ rm.cells ∧ slots + N ≤ rm.slots) (hdg : decode cc pc = .ok (.newarray .int, 2))
    (kk : ∀ (q : Nat) (H1 : Heap), Dj A (as ++ [q]) → Wd E A H0 (ws ++ [(q, .inl (E.2.1, N, .inl (fun _ => 0)))]) H1 locs → W p l e R s m args below meth c H1 locs (cells + 1) (slots + N) Q (F0 m (pc + 2) ls (.ref q :: rest))) : W p l e R s m args below meth c H locs cells slots Q (F0 m pc ls (.int x :: rest)) := by
  obtain ⟨h1, h2, h3, h4, h5, h6, hK, hR⟩ := hC
  subst hR
  subst hx
  refine va_newa (atype := .int) (a0 := (N, .inl (fun _ => 0))) h1 h2 (hK.2.1 _ harr args) (ty := .int) rfl hK.1 hW.1 (hD.to has) hW.2 hA (fun _ => rfl) (nI_pos (by omega)) (nI_clamp (by omega)) (by show N * 4 ≤ 536870912; omega) hr.1 hr.2 hdg (fun q cA H1 k1 k2 k3 k4 => ?_)
  have e1 : s.vm.findClass ("[" ++ FieldType.int.toString) = some cA := (k1.2 3 (cA, .int) rfl).2
  have e2 : s.vm.findClass ("[" ++ FieldType.int.toString) = some E.2.1 := (hK.1.2 0 (E.2.1, .int) rfl).2
  have e : cA = E.2.1 := Option.some.inj (e1.symm.trans e2)
  subst e
  have k5 := Dj.of k3
  rw [List.map_append, has] at k5
  exact kk q H1 k5 ⟨k2, k4⟩
theorem r_newl (hC : Cx p R s m args meth c cc mL own ret E rm) (hD : Dj A as) (hW : Wd E A H0 ws H locs) (hA : ∀ q, H0.size ≤ q → A q) (has : ws.map (fun q => q.1) = as) (harr : Cond.arrayClass .long ∈ GL) (N : Nat) {x : Int32} (hx : x = nI N) (hN : N ≤ 1000) (hr : cells + 1 ≤ rm.cells ∧ slots + N ≤ rm.slots) (hdg : decode cc pc = .ok (.newarray .long, 2))
    (kk : ∀ (q : Nat) (H1 : Heap), Dj A (as ++ [q]) → Wd E A H0 (ws ++ [(q, .inl (E.2.2.1, N, .inr (.inl (fun _ => 0))))]) H1 locs → W p l e R s m args below meth c H1 locs (cells + 1) (slots + N) Q (F0 m (pc + 2) ls (.ref q :: rest))) : W p l e R s m args below meth c H locs cells slots Q (F0 m pc ls (.int x :: rest)) := by
  obtain ⟨h1, h2, h3, h4, h5, h6, hK, hR⟩ := hC
  subst hR
  subst hx
  refine va_newa (atype := .long) (a0 := (N, .inr (.inl (fun _ => 0)))) h1 h2 (hK.2.1 _ harr args) (ty := .long) rfl hK.1 hW.1 (hD.to has) hW.2 hA (fun _ => rfl) (nI_pos (by omega)) (nI_clamp (by omega)) (by show N * 8 ≤ 536870912; omega) hr.1 hr.2 hdg (fun q cA H1 k1 k2 k3 k4 => ?_)
  have e1 : s.vm.findClass ("[" ++ FieldType.long.toString) = some cA := (k1.2 3 (cA, .long) rfl).2
  have e2 : s.vm.findClass ("[" ++ FieldType.long.toString) = some E.2.2.1 := (hK.1.2 1 (E.2.2.1, .long) rfl).2
  have e : cA = E.2.2.1 := Option.some.inj (e1.symm.trans e2)
  subst e
  have k5 := Dj.of k3
  rw [List.map_append, has] at k5
  exact kk q H1 k5 ⟨k2, k4⟩
end NEWS
