theorem nI_inc (a n : Nat) : nI a + Int32.ofInt n = nI (a + n) := by
  rw [← nI_add]
  congr 1
theorem nI_dec (q : Nat) : nI q + Int32.ofInt (-1) = nI q - 1 := by
  rw [Int32.sub_eq_add_neg]
  congr 1
theorem sw_ne {x k : Int32} {z : Int} (hk : k.toInt = z) (h : ¬ x = k) : x.toInt ≠ z := fun q => h (Int32.toInt_inj.mp (q.trans hk.symm))
theorem cmp_eq {x y : Int64} (h : lg_cmp x y = 0) : x = y := by
  unfold lg_cmp at h
  split at h
  · exact absurd h (by decide)
  · split at h
    · assumption
    · exact absurd h (by decide)
theorem cmp_self (x : Int64) : lg_cmp x x = 0 := by
  unfold lg_cmp
  rw [if_neg (fun h => by exact absurd h (Int64.lt_irrefl)), if_pos rfl]
theorem cmp_eqn {x y : Int64} (h : ¬ lg_cmp x y = 0) : ¬ x = y := fun q => h (by rw [q]; exact cmp_self y)
theorem cmp_ne {x y : Int64} (h : ¬ lg_cmp x y = 0) : ¬ x = y := cmp_eqn h
theorem cmp_nen {x y : Int64} (h : lg_cmp x y = 0) : x = y := cmp_eq h
theorem cmp_ge {x y : Int64} (h : 0 ≤ lg_cmp x y) : y ≤ x := (lg_cmp_ge x y).mp h
theorem cmp_gen {x y : Int64} (h : ¬ 0 ≤ lg_cmp x y) : ¬ y ≤ x := fun q => h ((lg_cmp_ge x y).mpr q)
theorem cmp_lt {x y : Int64} (h : lg_cmp x y < 0) : x < y := by
  have h1 : ¬ 0 ≤ lg_cmp x y := fun q => by
    rw [Int32.le_iff_toInt_le] at q
    rw [Int32.lt_iff_toInt_lt] at h
    omega
  have h2 := cmp_gen h1
  rw [Int64.lt_iff_toInt_lt]
  rw [Int64.le_iff_toInt_le] at h2
  omega
theorem cmp_ltn {x y : Int64} (h : ¬ lg_cmp x y < 0) : ¬ x < y := fun q => by
  have h1 : 0 ≤ lg_cmp x y := by
    rw [Int32.lt_iff_toInt_lt] at h
    rw [Int32.le_iff_toInt_le]
    omega
  have h2 := cmp_ge h1
  rw [Int64.lt_iff_toInt_lt] at q
  rw [Int64.le_iff_toInt_le] at h2
  omega
theorem cmp_gt {x y : Int64} (h : 0 < lg_cmp x y) : y < x := by
  unfold lg_cmp at h
  split at h
  · assumption
  · split at h
    · exact absurd h (by decide)
    · exact absurd h (by decide)
theorem cmp_gtn {x y : Int64} (h : ¬ 0 < lg_cmp x y) : ¬ y < x := fun q => h (by
  unfold lg_cmp
  rw [if_pos q]
  decide)
theorem nar_z {v : Int32} (h : v = 0 ∨ v = 1) : narrow .boolean (.int v) = .int v := by rcases h with rfl | rfl <;> rfl
theorem fit_z {v : Int32} (h : v = 0 ∨ v = 1) : fits .boolean (.int v) = true := by rcases h with rfl | rfl <;> rfl
section MATHS
variable {p : Program} {l : Launch} {e : Env} {R : Room} {s : State} {m : MethodId} {args : Array Value} {below : List Frame} {meth : Method} {c : Code} {H : Heap} {locs : List Loc} {cells slots : Nat} {Q : State → Prop}
variable {cc : ByteArray} {mL pc idx : Nat} {ls : Array Slot} {rest : List Value} {E : Ev} {own : String} {ret : Option FieldType} {rm : Room}
theorem r_mmax (hC : Cx p R s m args meth c cc mL own ret E rm) (lk : LkS own idx yJ9_max_7cf53 cJ9_max_7cf53 2 2 (some .int)) (hl : ls.size = mL) (h1 : 1 ≤ rm.frames) (h2 : 21 ≤ rm.locals) (h3 : cells ≤ rm.cells) (h4 : slots ≤ rm.slots) (hrest : (rest.map fun v => v.category).sum ≤ 8) {x y : Int32} (hdg : decode cc pc = .ok (.invokestatic idx, 3))
    (kk : W p l e R s m args below meth c H locs cells slots Q (F0 m (pc + 3) ls (.int (if x < y then y else x) :: rest))) : W p l e R s m args below meth c H locs cells slots Q (F0 m pc ls (.int y :: .int x :: rest)) := by
  obtain ⟨hx, hb, hml, hown, hr, hlk, hK, hRm⟩ := hC
  subst hRm
  have hts : ∀ w ∈ GL, w.before args s = true := fun w hw => hK.2.1 w hw args
  have g := lk.1
  exact va_mmax hx hb (by rw [hml, hl]) hown (hts _ (g _ (List.mem_of_getElem? (i := 0) rfl))) (hts _ (g _ (List.mem_of_getElem? (i := 1) rfl))) (hts _ (g _ (List.mem_of_getElem? (i := 2) rfl))) (hts _ (g _ (List.mem_of_getElem? (i := 3) rfl))) h1 (by omega) h3 h4 hdg kk
theorem r_mmin (hC : Cx p R s m args meth c cc mL own ret E rm) (lk : LkS own idx yJ9_min_7cf53 cJ9_min_7cf53 2 2 (some .int)) (hl : ls.size = mL) (h1 : 1 ≤ rm.frames) (h2 : 21 ≤ rm.locals) (h3 : cells ≤ rm.cells) (h4 : slots ≤ rm.slots) (hrest : (rest.map fun v => v.category).sum ≤ 8) {x y : Int32} (hdg : decode cc pc = .ok (.invokestatic idx, 3))
    (kk : W p l e R s m args below meth c H locs cells slots Q (F0 m (pc + 3) ls (.int (if y < x then y else x) :: rest))) : W p l e R s m args below meth c H locs cells slots Q (F0 m pc ls (.int y :: .int x :: rest)) := by
  obtain ⟨hx, hb, hml, hown, hr, hlk, hK, hRm⟩ := hC
  subst hRm
  have hts : ∀ w ∈ GL, w.before args s = true := fun w hw => hK.2.1 w hw args
  have g := lk.1
  exact va_mmin hx hb (by rw [hml, hl]) hown (hts _ (g _ (List.mem_of_getElem? (i := 0) rfl))) (hts _ (g _ (List.mem_of_getElem? (i := 1) rfl))) (hts _ (g _ (List.mem_of_getElem? (i := 2) rfl))) (hts _ (g _ (List.mem_of_getElem? (i := 3) rfl))) h1 (by omega) h3 h4 hdg kk
end MATHS
