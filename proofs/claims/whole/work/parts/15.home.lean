set_option maxHeartbeats 4000000 in
set_option maxRecDepth 100000 in
theorem c_X4_isWithin (l : Launch) (E : Ev) (x1 : Int32) (x2 : Int32) (x3 : Int32) : MI l E yX4_isWithin cX4_isWithin 3 .boolean 0 0 0 0 [.int x1, .int x2, .int x3] [] (fun (r : Int32) (_ : Unit) => bz (x2 ≤ x1 ∧ x1 ≤ x3) r) (fun (_ : Unit) => []) := by
  refine MI_intro RX4 (by decide) rfl (Nat.le_of_ble_eq_true rfl) ?_
  intro p e R s m args below meth c A Q hQ hC hD hW hA ls hl
  have hx := hC.1
  have hb := hC.2.1
  have hW : Wd E A s.heap [] s.heap [] := hW
  have hl : lv_has ls 3 [(0, .int x1), (1, .int x2), (2, .int x3)] := hl
  refine lv_iload_n hx hb dX4_isWithin_0 rfl (lv_at hl 0 rfl) ?_
  refine lv_iload_n hx hb dX4_isWithin_1 rfl (lv_at hl 1 rfl) ?_
  refine lv_icmp_lt (tgt := 14) hx hb dX4_isWithin_2 (by decide) (fun c_1 => ?_) (fun c_1 => ?_)
  · refine lv_iconst (v := 0) hx hb dX4_isWithin_14 (by decide) ?_
    exact r_zret hC hQ hD hW (by decide) () (bz_f (by clear hQ hD hC hA; simp only [Int32.lt_iff_toInt_lt, Int32.le_iff_toInt_le, ← Int32.toInt_inj] at *; omega)) rfl rfl dX4_isWithin_15
  · refine lv_iload_n hx hb dX4_isWithin_5 rfl (lv_at hl 0 rfl) ?_
    refine lv_iload_n hx hb dX4_isWithin_6 rfl (lv_at hl 2 rfl) ?_
    refine lv_icmp_gt (tgt := 14) hx hb dX4_isWithin_7 (by decide) (fun c_2 => ?_) (fun c_2 => ?_)
    · refine lv_iconst (v := 0) hx hb dX4_isWithin_14 (by decide) ?_
      exact r_zret hC hQ hD hW (by decide) () (bz_f (by clear hQ hD hC hA; simp only [Int32.lt_iff_toInt_lt, Int32.le_iff_toInt_le, ← Int32.toInt_inj] at *; omega)) rfl rfl dX4_isWithin_15
    · refine lv_iconst (v := 1) hx hb dX4_isWithin_10 (by decide) ?_
      refine lv_goto (tgt := 15) hx hb dX4_isWithin_11 (by decide) ?_
      exact r_zret hC hQ hD hW (by decide) () (bz_t (by clear hQ hD hC hA; simp only [Int32.lt_iff_toInt_lt, Int32.le_iff_toInt_le, ← Int32.toInt_inj] at *; omega)) rfl rfl dX4_isWithin_15
set_option maxHeartbeats 4000000 in
set_option maxRecDepth 100000 in
theorem c_X0_hasPerson (l : Launch) (E : Ev) (h : Nat → Nat) (S : HS) (T : HS) (P : Nat) (hP : S 0 2 = nI P) (hP1 : P ≤ 6) (x : Int32) : MI l E yX0_hasPerson cX0_hasPerson 2 .boolean 1 22 0 0 [.ref (h 0), .int x] (wcat [HW E h S T]) (fun (r : Int32) (_ : Unit) => bz (∃ j, j < P ∧ x = nI j) r) (fun (_ : Unit) => (wcat [HW E h S T])) := by
  refine MI_intro RX0 (by decide) rfl (Nat.le_of_ble_eq_true rfl) ?_
  intro p e R s m args below meth c A Q hQ hC hD hW hA ls hl
  have hx := hC.1
  have hb := hC.2.1
  have hW : Wd E A s.heap (wcat [HW E h S T]) s.heap [] := hW
  have hD : Dj A [h 0, h 1, h 2, h 3, h 4, h 5, h 6, h 7, h 8, h 9, h 10] := hD
  have hl : lv_has ls 2 [(0, .ref (h 0)), (1, .int x)] := hl
  refine lv_iload_n hx hb dX0_hasPerson_0 rfl (lv_at hl 1 rfl) ?_
  refine lv_iconst (v := 0) hx hb dX0_hasPerson_1 (by decide) ?_
  refine lv_aload_n hx hb dX0_hasPerson_2 rfl (lv_at hl 0 rfl) ?_
  refine r_get hC hW flX0_18 0 rfl rfl dX0_hasPerson_3 ?_
  refine n_top hP ?_
  refine lv_iconst (v := 1) hx hb dX0_hasPerson_6 (by decide) ?_
  refine n_isub (v := ((nI P) - 1)) hx hb dX0_hasPerson_7 rfl ?_
  refine r_callNi hC hD hW hA hC.2.2.2.2.2.2.1.2.2.1 lkN_isWithin (c_X4_isWithin l E x 0 ((nI P) - 1)) ⟨by decide, by decide, by decide, by decide⟩ rfl hl.1 rfl rfl (Nat.le_of_ble_eq_true rfl) dX0_hasPerson_8 (fun r_1 _ H locs hr_1 hW => ?_)
  have hW : Wd E A s.heap (wcat [HW E h S T]) H locs := hW
  have hr_1 : bz (0 ≤ x ∧ x ≤ ((nI P) - 1)) r_1 := hr_1
  exact r_zret hC hQ hD hW (bz_01 hr_1) () ((bz_iff (in_iff (by omega))) hr_1) rfl rfl dX0_hasPerson_11
set_option maxHeartbeats 4000000 in
set_option maxRecDepth 100000 in
theorem c_X0_hasGarment (l : Launch) (E : Ev) (h : Nat → Nat) (S : HS) (T : HS) (G : Nat) (hG : S 0 3 = nI G) (hG1 : G ≤ 10) (x : Int32) : MI l E yX0_hasGarment cX0_hasGarment 2 .boolean 1 22 0 0 [.ref (h 0), .int x] (wcat [HW E h S T]) (fun (r : Int32) (_ : Unit) => bz (∃ j, j < G ∧ x = nI j) r) (fun (_ : Unit) => (wcat [HW E h S T])) := by
  refine MI_intro RX0 (by decide) rfl (Nat.le_of_ble_eq_true rfl) ?_
  intro p e R s m args below meth c A Q hQ hC hD hW hA ls hl
  have hx := hC.1
  have hb := hC.2.1
  have hW : Wd E A s.heap (wcat [HW E h S T]) s.heap [] := hW
  have hD : Dj A [h 0, h 1, h 2, h 3, h 4, h 5, h 6, h 7, h 8, h 9, h 10] := hD
  have hl : lv_has ls 2 [(0, .ref (h 0)), (1, .int x)] := hl
  refine lv_iload_n hx hb dX0_hasGarment_0 rfl (lv_at hl 1 rfl) ?_
  refine lv_iconst (v := 0) hx hb dX0_hasGarment_1 (by decide) ?_
  refine lv_aload_n hx hb dX0_hasGarment_2 rfl (lv_at hl 0 rfl) ?_
  refine r_get hC hW flX0_34 0 rfl rfl dX0_hasGarment_3 ?_
  refine n_top hG ?_
  refine lv_iconst (v := 1) hx hb dX0_hasGarment_6 (by decide) ?_
  refine n_isub (v := ((nI G) - 1)) hx hb dX0_hasGarment_7 rfl ?_
  refine r_callNi hC hD hW hA hC.2.2.2.2.2.2.1.2.2.1 lkN_isWithin (c_X4_isWithin l E x 0 ((nI G) - 1)) ⟨by decide, by decide, by decide, by decide⟩ rfl hl.1 rfl rfl (Nat.le_of_ble_eq_true rfl) dX0_hasGarment_8 (fun r_1 _ H locs hr_1 hW => ?_)
  have hW : Wd E A s.heap (wcat [HW E h S T]) H locs := hW
  have hr_1 : bz (0 ≤ x ∧ x ≤ ((nI G) - 1)) r_1 := hr_1
  exact r_zret hC hQ hD hW (bz_01 hr_1) () ((bz_iff (in_iff (by omega))) hr_1) rfl rfl dX0_hasGarment_11
set_option maxHeartbeats 4000000 in
set_option maxRecDepth 100000 in
theorem c_X0_addPerson (l : Launch) (E : Ev) (h : Nat → Nat) (S : HS) (T : HS) (P : Nat) (hP : S 0 2 = nI P) (hP1 : P < 6) (x1 : Int32) : MI l E yX0_addPerson cX0_addPerson 3 .int 0 0 0 0 [.ref (h 0), .int x1] (wcat [HW E h S T]) (fun (r : Int32) (_ : Unit) => r = nI P) (fun (_ : Unit) => (wcat [HW E h (addP S P x1 (nI (P % 3))) T])) := by
  refine MI_intro RX0 (by decide) rfl (Nat.le_of_ble_eq_true rfl) ?_
  intro p e R s m args below meth c A Q hQ hC hD hW hA ls hl
  have hx := hC.1
  have hb := hC.2.1
  have hW : Wd E A s.heap (wcat [HW E h S T]) s.heap [] := hW
  have hD : Dj A [h 0, h 1, h 2, h 3, h 4, h 5, h 6, h 7, h 8, h 9, h 10] := hD
  have hl : lv_has ls 3 [(0, .ref (h 0)), (1, .int x1)] := hl
  refine lv_aload_n hx hb dX0_addPerson_0 rfl (lv_at hl 0 rfl) ?_
  refine r_get hC hW flX0_18 0 rfl rfl dX0_addPerson_1 ?_
  refine n_top hP ?_
  refine lv_istore_n (lv' := [(2, .int (nI P)), (0, .ref (h 0)), (1, .int x1)]) hx hb dX0_addPerson_4 rfl hl (by decide) rfl (fun ls hl => ?_)
  refine lv_aload_n hx hb dX0_addPerson_5 rfl (lv_at hl 1 rfl) ?_
  refine r_get hC hW flX0_21 0 rfl rfl dX0_addPerson_6 ?_
  refine lv_iload_n hx hb dX0_addPerson_9 rfl (lv_at hl 0 rfl) ?_
  refine lv_iload_n hx hb dX0_addPerson_10 rfl (lv_at hl 2 rfl) ?_
  refine r_iast (ws' := (wcat [HW E h (st S 1 P x1) T])) hC hD hW 1 rfl P rfl (by omega) (by decide) rfl rfl dX0_addPerson_11 (fun H locs hW => ?_)
  refine lv_aload_n hx hb dX0_addPerson_12 rfl (lv_at hl 1 rfl) ?_
  refine r_get hC hW flX0_25 0 rfl rfl dX0_addPerson_13 ?_
  refine lv_iload_n hx hb dX0_addPerson_16 rfl (lv_at hl 0 rfl) ?_
  refine lv_iload_n hx hb dX0_addPerson_17 rfl (lv_at hl 0 rfl) ?_
  refine lv_iconst (v := 3) hx hb dX0_addPerson_18 (by decide) ?_
  refine n_irem (v := (nI (P % 3))) hx hb dX0_addPerson_19 (by decide) (pk_rem (a := P) (d := 3) (by omega) (by decide) (by decide)) ?_
  refine r_iast (ws' := (wcat [HW E h (st (st S 1 P x1) 2 P (nI (P % 3))) T])) hC hD hW 2 rfl P rfl (by omega) (by decide) rfl rfl dX0_addPerson_20 (fun H locs hW => ?_)
  refine lv_aload_n hx hb dX0_addPerson_21 rfl (lv_at hl 1 rfl) ?_
  refine r_get hC hW flX0_28 0 rfl rfl dX0_addPerson_22 ?_
  refine lv_iload_n hx hb dX0_addPerson_25 rfl (lv_at hl 0 rfl) ?_
  refine lv_iconst (v := 0) hx hb dX0_addPerson_26 (by decide) ?_
  refine r_iast (ws' := (wcat [HW E h (st (st (st S 1 P x1) 2 P (nI (P % 3))) 3 P 0) T])) hC hD hW 3 rfl P rfl (by omega) (by decide) rfl rfl dX0_addPerson_27 (fun H locs hW => ?_)
  refine lv_aload_n hx hb dX0_addPerson_28 rfl (lv_at hl 1 rfl) ?_
  refine r_get hC hW flX0_31 0 rfl rfl dX0_addPerson_29 ?_
  refine lv_iload_n hx hb dX0_addPerson_32 rfl (lv_at hl 0 rfl) ?_
  refine lv_iconst (v := 0) hx hb dX0_addPerson_33 (by decide) ?_
  refine r_iast (ws' := (wcat [HW E h (st (st (st (st S 1 P x1) 2 P (nI (P % 3))) 3 P 0) 4 P 0) T])) hC hD hW 4 rfl P rfl (by omega) (by decide) rfl rfl dX0_addPerson_34 (fun H locs hW => ?_)
  refine lv_aload_n hx hb dX0_addPerson_35 rfl (lv_at hl 1 rfl) ?_
  refine lv_dup hx hb dX0_addPerson_36 rfl ?_
  refine r_get hC hW flX0_18 0 rfl rfl dX0_addPerson_37 ?_
  refine n_top hP ?_
  refine lv_iconst (v := 1) hx hb dX0_addPerson_40 (by decide) ?_
  refine n_iadd (v := (nI (P + 1))) hx hb dX0_addPerson_41 (nI_add P 1) ?_
  refine r_put (ws' := (wcat [HW E h (st (st (st (st (st S 1 P x1) 2 P (nI (P % 3))) 3 P 0) 4 P 0) 0 2 (nI (P + 1))) T])) hC hD hW fpX0_18 0 rfl rfl rfl (Nat.le_of_ble_eq_true rfl) rfl rfl dX0_addPerson_42 (fun H locs hW => ?_)
  refine lv_iload_n hx hb dX0_addPerson_45 rfl (lv_at hl 0 rfl) ?_
  exact r_iret hC hQ hD hW () rfl rfl rfl dX0_addPerson_46
set_option maxHeartbeats 4000000 in
set_option maxRecDepth 100000 in
theorem c_X0_addGarment (l : Launch) (E : Ev) (h : Nat → Nat) (S : HS) (T : HS) (G : Nat) (hG : S 0 3 = nI G) (hG1 : G < 10) (x1 : Int32) (x2 : Int32) : MI l E yX0_addGarment cX0_addGarment 4 .int 0 0 0 0 [.ref (h 0), .int x1, .int x2] (wcat [HW E h S T]) (fun (r : Int32) (_ : Unit) => r = nI G) (fun (_ : Unit) => (wcat [HW E h (addG S G x1 x2 99 x1) T])) := by
  refine MI_intro RX0 (by decide) rfl (Nat.le_of_ble_eq_true rfl) ?_
  intro p e R s m args below meth c A Q hQ hC hD hW hA ls hl
  have hx := hC.1
  have hb := hC.2.1
  have hW : Wd E A s.heap (wcat [HW E h S T]) s.heap [] := hW
  have hD : Dj A [h 0, h 1, h 2, h 3, h 4, h 5, h 6, h 7, h 8, h 9, h 10] := hD
  have hl : lv_has ls 4 [(0, .ref (h 0)), (1, .int x1), (2, .int x2)] := hl
  refine lv_aload_n hx hb dX0_addGarment_0 rfl (lv_at hl 0 rfl) ?_
  refine r_get hC hW flX0_34 0 rfl rfl dX0_addGarment_1 ?_
  refine n_top hG ?_
  refine lv_istore_n (lv' := [(3, .int (nI G)), (0, .ref (h 0)), (1, .int x1), (2, .int x2)]) hx hb dX0_addGarment_4 rfl hl (by decide) rfl (fun ls hl => ?_)
  refine lv_aload_n hx hb dX0_addGarment_5 rfl (lv_at hl 1 rfl) ?_
  refine r_get hC hW flX0_37 0 rfl rfl dX0_addGarment_6 ?_
  refine lv_iload_n hx hb dX0_addGarment_9 rfl (lv_at hl 0 rfl) ?_
  refine lv_iload_n hx hb dX0_addGarment_10 rfl (lv_at hl 2 rfl) ?_
  refine r_iast (ws' := (wcat [HW E h (st S 5 G x1) T])) hC hD hW 5 rfl G rfl (by omega) (by decide) rfl rfl dX0_addGarment_11 (fun H locs hW => ?_)
  refine lv_aload_n hx hb dX0_addGarment_12 rfl (lv_at hl 1 rfl) ?_
  refine r_get hC hW flX0_40 0 rfl rfl dX0_addGarment_13 ?_
  refine lv_iload_n hx hb dX0_addGarment_16 rfl (lv_at hl 0 rfl) ?_
  refine lv_iload_n hx hb dX0_addGarment_17 rfl (lv_at hl 3 rfl) ?_
  refine r_iast (ws' := (wcat [HW E h (st (st S 5 G x1) 6 G x2) T])) hC hD hW 6 rfl G rfl (by omega) (by decide) rfl rfl dX0_addGarment_18 (fun H locs hW => ?_)
  refine lv_aload_n hx hb dX0_addGarment_19 rfl (lv_at hl 1 rfl) ?_
  refine r_get hC hW flX0_43 0 rfl rfl dX0_addGarment_20 ?_
  refine lv_iload_n hx hb dX0_addGarment_23 rfl (lv_at hl 0 rfl) ?_
  refine lv_bipush (v := 99) hx hb dX0_addGarment_24 (by decide) ?_
  refine r_iast (ws' := (wcat [HW E h (st (st (st S 5 G x1) 6 G x2) 7 G 99) T])) hC hD hW 7 rfl G rfl (by omega) (by decide) rfl rfl dX0_addGarment_26 (fun H locs hW => ?_)
  refine lv_aload_n hx hb dX0_addGarment_27 rfl (lv_at hl 1 rfl) ?_
  refine r_get hC hW flX0_46 0 rfl rfl dX0_addGarment_28 ?_
  refine lv_iload_n hx hb dX0_addGarment_31 rfl (lv_at hl 0 rfl) ?_
  refine lv_iload_n hx hb dX0_addGarment_32 rfl (lv_at hl 2 rfl) ?_
  refine r_iast (ws' := (wcat [HW E h (st (st (st (st S 5 G x1) 6 G x2) 7 G 99) 8 G x1) T])) hC hD hW 8 rfl G rfl (by omega) (by decide) rfl rfl dX0_addGarment_33 (fun H locs hW => ?_)
  refine lv_aload_n hx hb dX0_addGarment_34 rfl (lv_at hl 1 rfl) ?_
  refine lv_dup hx hb dX0_addGarment_35 rfl ?_
  refine r_get hC hW flX0_34 0 rfl rfl dX0_addGarment_36 ?_
  refine n_top hG ?_
  refine lv_iconst (v := 1) hx hb dX0_addGarment_39 (by decide) ?_
  refine n_iadd (v := (nI (G + 1))) hx hb dX0_addGarment_40 (nI_add G 1) ?_
  refine r_put (ws' := (wcat [HW E h (st (st (st (st (st S 5 G x1) 6 G x2) 7 G 99) 8 G x1) 0 3 (nI (G + 1))) T])) hC hD hW fpX0_34 0 rfl rfl rfl (Nat.le_of_ble_eq_true rfl) rfl rfl dX0_addGarment_41 (fun H locs hW => ?_)
  refine lv_iload_n hx hb dX0_addGarment_44 rfl (lv_at hl 0 rfl) ?_
  exact r_iret hC hQ hD hW () rfl rfl rfl dX0_addGarment_45
set_option maxHeartbeats 4000000 in
set_option maxRecDepth 100000 in
theorem c_X0_isRight (l : Launch) (E : Ev) (h : Nat → Nat) (S : HS) (T : HS) (g : Nat) (hg : g < 10) : MI l E yX0_isRight cX0_isRight 2 .boolean 0 0 0 0 [.ref (h 0), .int (nI g)] (wcat [HW E h S T]) (fun (r : Int32) (_ : Unit) => bz (S 8 g = S 5 g) r) (fun (_ : Unit) => (wcat [HW E h S T])) := by
  refine MI_intro RX0 (by decide) rfl (Nat.le_of_ble_eq_true rfl) ?_
  intro p e R s m args below meth c A Q hQ hC hD hW hA ls hl
  have hx := hC.1
  have hb := hC.2.1
  have hW : Wd E A s.heap (wcat [HW E h S T]) s.heap [] := hW
  have hD : Dj A [h 0, h 1, h 2, h 3, h 4, h 5, h 6, h 7, h 8, h 9, h 10] := hD
  have hl : lv_has ls 2 [(0, .ref (h 0)), (1, .int (nI g))] := hl
  refine lv_aload_n hx hb dX0_isRight_0 rfl (lv_at hl 0 rfl) ?_
  refine r_get hC hW flX0_46 0 rfl rfl dX0_isRight_1 ?_
  refine lv_iload_n hx hb dX0_isRight_4 rfl (lv_at hl 1 rfl) ?_
  refine r_iald hC hW 8 rfl g rfl (by omega) (by decide) dX0_isRight_5 ?_
  refine lv_aload_n hx hb dX0_isRight_6 rfl (lv_at hl 0 rfl) ?_
  refine r_get hC hW flX0_37 0 rfl rfl dX0_isRight_7 ?_
  refine lv_iload_n hx hb dX0_isRight_10 rfl (lv_at hl 1 rfl) ?_
  refine r_iald hC hW 5 rfl g rfl (by omega) (by decide) dX0_isRight_11 ?_
  refine lv_icmp_ne (tgt := 19) hx hb dX0_isRight_12 (by decide) (fun c_1 => ?_) (fun c_1 => ?_)
  · refine lv_iconst (v := 0) hx hb dX0_isRight_19 (by decide) ?_
    exact r_zret hC hQ hD hW (by decide) () (bz_f (by assumption)) rfl rfl dX0_isRight_20
  · refine lv_iconst (v := 1) hx hb dX0_isRight_15 (by decide) ?_
    refine lv_goto (tgt := 20) hx hb dX0_isRight_16 (by decide) ?_
    exact r_zret hC hQ hD hW (by decide) () (bz_t (by assumption)) rfl rfl dX0_isRight_20
set_option maxHeartbeats 4000000 in
set_option maxRecDepth 100000 in
theorem c_X0_setOfRight (l : Launch) (E : Ev) (h : Nat → Nat) (S : HS) (T : HS) (G : Nat) (hG : S 0 3 = nI G) (hG1 : G ≤ 10) : MI l E yX0_setOfRight cX0_setOfRight 3 .int 1 21 0 0 [.ref (h 0)] (wcat [HW E h S T]) (fun (r : Int32) (_ : Unit) => r = nI (mset (rgt S) G)) (fun (_ : Unit) => (wcat [HW E h S T])) := by
  refine MI_intro RX0 (by decide) rfl (Nat.le_of_ble_eq_true rfl) ?_
  intro p e R s m args below meth c A Q hQ hC hD hW hA ls hl
  have hx := hC.1
  have hb := hC.2.1
  have hW : Wd E A s.heap (wcat [HW E h S T]) s.heap [] := hW
  have hD : Dj A [h 0, h 1, h 2, h 3, h 4, h 5, h 6, h 7, h 8, h 9, h 10] := hD
  have hl : lv_has ls 3 [(0, .ref (h 0))] := hl
  refine lv_iconst (v := 0) hx hb dX0_setOfRight_0 (by decide) ?_
  refine lv_istore_n (lv' := [(1, .int 0), (0, .ref (h 0))]) hx hb dX0_setOfRight_1 rfl hl (by decide) rfl (fun ls hl => ?_)
  refine lv_iconst (v := 0) hx hb dX0_setOfRight_2 (by decide) ?_
  refine lv_istore_n (lv' := [(2, .int 0), (1, .int 0), (0, .ref (h 0))]) hx hb dX0_setOfRight_3 rfl hl (by decide) rfl (fun ls hl => ?_)
  have L4 : ∀ (n_ : Nat) (i : Nat) (H : Heap) (locs : List Loc) (ls : Array Slot), G - i < n_ → i ≤ G → Wd E A s.heap (wcat [HW E h S T]) H locs → lv_has ls 3 [(0, .ref (h 0)), (1, .int (nI (mset (rgt S) i))), (2, .int (nI i))] → W p l e R s m args below meth c H locs 0 0 Q (F0 m 4 ls []) := by
    intro n_
    induction n_ with
    | zero => intro i H locs ls hm; exact absurd hm (Nat.not_lt_zero _)
    | succ n_ ih =>
      intro i H locs ls hm hi hW hl
      refine lv_iload_n hx hb dX0_setOfRight_4 rfl (lv_at hl 2 rfl) ?_
      refine lv_aload_n hx hb dX0_setOfRight_5 rfl (lv_at hl 0 rfl) ?_
      refine r_get hC hW flX0_34 0 rfl rfl dX0_setOfRight_6 ?_
      refine n_top hG ?_
      refine lv_icmp_ge (tgt := 32) hx hb dX0_setOfRight_9 (by decide) (fun c_1 => ?_) (fun c_1 => ?_)
      · have c_1 : G ≤ i := (nI_leI (a := G) (b := i) (by omega) (by omega)).mp c_1
        refine lv_iload_n hx hb dX0_setOfRight_32 rfl (lv_at hl 1 rfl) ?_
        exact r_iret hC hQ hD hW () (by rw [show i = G by omega]) rfl rfl dX0_setOfRight_33
      · have c_1 : ¬ G ≤ i := fun z_ => c_1 ((nI_leI (a := G) (b := i) (by omega) (by omega)).mpr z_)
        refine lv_aload_n hx hb dX0_setOfRight_12 rfl (lv_at hl 0 rfl) ?_
        refine lv_iload_n hx hb dX0_setOfRight_13 rfl (lv_at hl 2 rfl) ?_
        refine r_callCi hC hD hW hA lkX0_65 (c_X0_isRight l E h S T i (by omega)) rfl rfl ⟨by decide, by decide, by decide, by decide⟩ [0] rfl rfl rfl (fun _ => rfl) hl.1 rfl rfl (Nat.le_of_ble_eq_true rfl) dX0_setOfRight_14 (fun r_2 _ H locs hr_2 hW => ?_)
        have hW : Wd E A s.heap (wcat [HW E h S T]) H locs := hW
        have hr_2 : bz (S 8 i = S 5 i) r_2 := hr_2
        rcases hr_2 with ⟨rfl, b_3⟩ | ⟨rfl, b_3⟩
        · refine lv_if_eq (tgt := 26) hx hb dX0_setOfRight_17 (by decide) (fun _ => ?_) (fun c => absurd c (by decide))
          refine lv_iinc (v := (nI (i + 1))) (lv' := [(2, .int (nI (i + 1))), (0, .ref (h 0)), (1, .int (nI (mset (rgt S) i)))]) (k := 2) hx hb dX0_setOfRight_26 hl rfl (nI_inc i 1) (by decide) rfl (fun ls hl => ?_)
          refine lv_goto (tgt := 4) hx hb dX0_setOfRight_29 (by decide) ?_
          exact ih (i + 1) _ _ _ (by omega) (by omega) hW (by rw [mset_no (decide_eq_false b_3)]; exact lv_sub hl [1, 2, 0] rfl)
        · refine lv_if_eq (tgt := 26) hx hb dX0_setOfRight_17 (by decide) (fun c => absurd c (by decide)) (fun _ => ?_)
          refine lv_iload_n hx hb dX0_setOfRight_20 rfl (lv_at hl 1 rfl) ?_
          refine lv_iconst (v := 1) hx hb dX0_setOfRight_21 (by decide) ?_
          refine lv_iload_n hx hb dX0_setOfRight_22 rfl (lv_at hl 2 rfl) ?_
          refine n_ishl (v := (1 <<< ((nI i) &&& 31))) hx hb dX0_setOfRight_23 rfl ?_
          refine n_ior (v := (nI (mset (rgt S) (i + 1)))) hx hb dX0_setOfRight_24 (mset_put (decide_eq_true b_3) (by omega)) ?_
          refine lv_istore_n (lv' := [(1, .int (nI (mset (rgt S) (i + 1)))), (0, .ref (h 0)), (2, .int (nI i))]) hx hb dX0_setOfRight_25 rfl hl (by decide) rfl (fun ls hl => ?_)
          refine lv_iinc (v := (nI (i + 1))) (lv' := [(2, .int (nI (i + 1))), (1, .int (nI (mset (rgt S) (i + 1)))), (0, .ref (h 0))]) (k := 2) hx hb dX0_setOfRight_26 hl rfl (nI_inc i 1) (by decide) rfl (fun ls hl => ?_)
          refine lv_goto (tgt := 4) hx hb dX0_setOfRight_29 (by decide) ?_
          exact ih (i + 1) _ _ _ (by omega) (by omega) hW (lv_sub hl [2, 1, 0] rfl)
  exact L4 (G - 0 + 1) 0 _ _ _ (Nat.lt_succ_self _) (by omega) hW (lv_sub hl [2, 1, 0] rfl)
set_option maxHeartbeats 4000000 in
set_option maxRecDepth 100000 in
theorem c_X0_setHeldBy (l : Launch) (E : Ev) (h : Nat → Nat) (S : HS) (T : HS) (G : Nat) (hG : S 0 3 = nI G) (hG1 : G ≤ 10) (x : Int32) : MI l E yX0_setHeldBy cX0_setHeldBy 4 .int 0 0 0 0 [.ref (h 0), .int x] (wcat [HW E h S T]) (fun (r : Int32) (_ : Unit) => r = nI (mset (wth S x) G)) (fun (_ : Unit) => (wcat [HW E h S T])) := by
  refine MI_intro RX0 (by decide) rfl (Nat.le_of_ble_eq_true rfl) ?_
  intro p e R s m args below meth c A Q hQ hC hD hW hA ls hl
  have hx := hC.1
  have hb := hC.2.1
  have hW : Wd E A s.heap (wcat [HW E h S T]) s.heap [] := hW
  have hD : Dj A [h 0, h 1, h 2, h 3, h 4, h 5, h 6, h 7, h 8, h 9, h 10] := hD
  have hl : lv_has ls 4 [(0, .ref (h 0)), (1, .int x)] := hl
  refine lv_iconst (v := 0) hx hb dX0_setHeldBy_0 (by decide) ?_
  refine lv_istore_n (lv' := [(2, .int 0), (0, .ref (h 0)), (1, .int x)]) hx hb dX0_setHeldBy_1 rfl hl (by decide) rfl (fun ls hl => ?_)
  refine lv_iconst (v := 0) hx hb dX0_setHeldBy_2 (by decide) ?_
  refine lv_istore_n (lv' := [(3, .int 0), (2, .int 0), (0, .ref (h 0)), (1, .int x)]) hx hb dX0_setHeldBy_3 rfl hl (by decide) rfl (fun ls hl => ?_)
  have L4 : ∀ (n_ : Nat) (i : Nat) (H : Heap) (locs : List Loc) (ls : Array Slot), G - i < n_ → i ≤ G → Wd E A s.heap (wcat [HW E h S T]) H locs → lv_has ls 4 [(0, .ref (h 0)), (1, .int x), (2, .int (nI (mset (wth S x) i))), (3, .int (nI i))] → W p l e R s m args below meth c H locs 0 0 Q (F0 m 4 ls []) := by
    intro n_
    induction n_ with
    | zero => intro i H locs ls hm; exact absurd hm (Nat.not_lt_zero _)
    | succ n_ ih =>
      intro i H locs ls hm hi hW hl
      refine lv_iload_n hx hb dX0_setHeldBy_4 rfl (lv_at hl 3 rfl) ?_
      refine lv_aload_n hx hb dX0_setHeldBy_5 rfl (lv_at hl 0 rfl) ?_
      refine r_get hC hW flX0_34 0 rfl rfl dX0_setHeldBy_6 ?_
      refine n_top hG ?_
      refine lv_icmp_ge (tgt := 34) hx hb dX0_setHeldBy_9 (by decide) (fun c_1 => ?_) (fun c_1 => ?_)
      · have c_1 : G ≤ i := (nI_leI (a := G) (b := i) (by omega) (by omega)).mp c_1
        refine lv_iload_n hx hb dX0_setHeldBy_34 rfl (lv_at hl 2 rfl) ?_
        exact r_iret hC hQ hD hW () (by rw [show i = G by omega]) rfl rfl dX0_setHeldBy_35
      · have c_1 : ¬ G ≤ i := fun z_ => c_1 ((nI_leI (a := G) (b := i) (by omega) (by omega)).mpr z_)
        refine lv_aload_n hx hb dX0_setHeldBy_12 rfl (lv_at hl 0 rfl) ?_
        refine r_get hC hW flX0_46 0 rfl rfl dX0_setHeldBy_13 ?_
        refine lv_iload_n hx hb dX0_setHeldBy_16 rfl (lv_at hl 3 rfl) ?_
        refine r_iald hC hW 8 rfl i rfl (by omega) (by decide) dX0_setHeldBy_17 ?_
        refine lv_iload_n hx hb dX0_setHeldBy_18 rfl (lv_at hl 1 rfl) ?_
        refine lv_icmp_ne (tgt := 28) hx hb dX0_setHeldBy_19 (by decide) (fun c_2 => ?_) (fun c_2 => ?_)
        · refine lv_iinc (v := (nI (i + 1))) (lv' := [(3, .int (nI (i + 1))), (0, .ref (h 0)), (1, .int x), (2, .int (nI (mset (wth S x) i)))]) (k := 3) hx hb dX0_setHeldBy_28 hl rfl (nI_inc i 1) (by decide) rfl (fun ls hl => ?_)
          refine lv_goto (tgt := 4) hx hb dX0_setHeldBy_31 (by decide) ?_
          exact ih (i + 1) _ _ _ (by omega) (by omega) hW (by rw [mset_no (decide_eq_false c_2)]; exact lv_sub hl [1, 2, 3, 0] rfl)
        · refine lv_iload_n hx hb dX0_setHeldBy_22 rfl (lv_at hl 2 rfl) ?_
          refine lv_iconst (v := 1) hx hb dX0_setHeldBy_23 (by decide) ?_
          refine lv_iload_n hx hb dX0_setHeldBy_24 rfl (lv_at hl 3 rfl) ?_
          refine n_ishl (v := (1 <<< ((nI i) &&& 31))) hx hb dX0_setHeldBy_25 rfl ?_
          refine n_ior (v := (nI (mset (wth S x) (i + 1)))) hx hb dX0_setHeldBy_26 (mset_put (decide_eq_true c_2) (by omega)) ?_
          refine lv_istore_n (lv' := [(2, .int (nI (mset (wth S x) (i + 1)))), (0, .ref (h 0)), (1, .int x), (3, .int (nI i))]) hx hb dX0_setHeldBy_27 rfl hl (by decide) rfl (fun ls hl => ?_)
          refine lv_iinc (v := (nI (i + 1))) (lv' := [(3, .int (nI (i + 1))), (2, .int (nI (mset (wth S x) (i + 1)))), (0, .ref (h 0)), (1, .int x)]) (k := 3) hx hb dX0_setHeldBy_28 hl rfl (nI_inc i 1) (by decide) rfl (fun ls hl => ?_)
          refine lv_goto (tgt := 4) hx hb dX0_setHeldBy_31 (by decide) ?_
          exact ih (i + 1) _ _ _ (by omega) (by omega) hW (lv_sub hl [2, 3, 1, 0] rfl)
  exact L4 (G - 0 + 1) 0 _ _ _ (Nat.lt_succ_self _) (by omega) hW (lv_sub hl [2, 3, 1, 0] rfl)
set_option maxHeartbeats 4000000 in
set_option maxRecDepth 100000 in
theorem c_X0_setOfLiving (l : Launch) (E : Ev) (h : Nat → Nat) (S : HS) (T : HS) (P : Nat) (hP : S 0 2 = nI P) (hP1 : P ≤ 6) : MI l E yX0_setOfLiving cX0_setOfLiving 3 .int 0 0 0 0 [.ref (h 0)] (wcat [HW E h S T]) (fun (r : Int32) (_ : Unit) => r = nI (mset (liv S) P)) (fun (_ : Unit) => (wcat [HW E h S T])) := by
  refine MI_intro RX0 (by decide) rfl (Nat.le_of_ble_eq_true rfl) ?_
  intro p e R s m args below meth c A Q hQ hC hD hW hA ls hl
  have hx := hC.1
  have hb := hC.2.1
  have hW : Wd E A s.heap (wcat [HW E h S T]) s.heap [] := hW
  have hD : Dj A [h 0, h 1, h 2, h 3, h 4, h 5, h 6, h 7, h 8, h 9, h 10] := hD
  have hl : lv_has ls 3 [(0, .ref (h 0))] := hl
  refine lv_iconst (v := 0) hx hb dX0_setOfLiving_0 (by decide) ?_
  refine lv_istore_n (lv' := [(1, .int 0), (0, .ref (h 0))]) hx hb dX0_setOfLiving_1 rfl hl (by decide) rfl (fun ls hl => ?_)
  refine lv_iconst (v := 0) hx hb dX0_setOfLiving_2 (by decide) ?_
  refine lv_istore_n (lv' := [(2, .int 0), (1, .int 0), (0, .ref (h 0))]) hx hb dX0_setOfLiving_3 rfl hl (by decide) rfl (fun ls hl => ?_)
  have L4 : ∀ (n_ : Nat) (i : Nat) (H : Heap) (locs : List Loc) (ls : Array Slot), P - i < n_ → i ≤ P → Wd E A s.heap (wcat [HW E h S T]) H locs → lv_has ls 3 [(0, .ref (h 0)), (1, .int (nI (mset (liv S) i))), (2, .int (nI i))] → W p l e R s m args below meth c H locs 0 0 Q (F0 m 4 ls []) := by
    intro n_
    induction n_ with
    | zero => intro i H locs ls hm; exact absurd hm (Nat.not_lt_zero _)
    | succ n_ ih =>
      intro i H locs ls hm hi hW hl
      refine lv_iload_n hx hb dX0_setOfLiving_4 rfl (lv_at hl 2 rfl) ?_
      refine lv_aload_n hx hb dX0_setOfLiving_5 rfl (lv_at hl 0 rfl) ?_
      refine r_get hC hW flX0_18 0 rfl rfl dX0_setOfLiving_6 ?_
      refine n_top hP ?_
      refine lv_icmp_ge (tgt := 33) hx hb dX0_setOfLiving_9 (by decide) (fun c_1 => ?_) (fun c_1 => ?_)
      · have c_1 : P ≤ i := (nI_leI (a := P) (b := i) (by omega) (by omega)).mp c_1
        refine lv_iload_n hx hb dX0_setOfLiving_33 rfl (lv_at hl 1 rfl) ?_
        exact r_iret hC hQ hD hW () (by rw [show i = P by omega]) rfl rfl dX0_setOfLiving_34
      · have c_1 : ¬ P ≤ i := fun z_ => c_1 ((nI_leI (a := P) (b := i) (by omega) (by omega)).mpr z_)
        refine lv_aload_n hx hb dX0_setOfLiving_12 rfl (lv_at hl 0 rfl) ?_
        refine r_get hC hW flX0_31 0 rfl rfl dX0_setOfLiving_13 ?_
        refine lv_iload_n hx hb dX0_setOfLiving_16 rfl (lv_at hl 2 rfl) ?_
        refine r_iald hC hW 4 rfl i rfl (by omega) (by decide) dX0_setOfLiving_17 ?_
        refine lv_if_ne (tgt := 27) hx hb dX0_setOfLiving_18 (by decide) (fun c_2 => ?_) (fun c_2 => ?_)
        · refine lv_iinc (v := (nI (i + 1))) (lv' := [(2, .int (nI (i + 1))), (0, .ref (h 0)), (1, .int (nI (mset (liv S) i)))]) (k := 2) hx hb dX0_setOfLiving_27 hl rfl (nI_inc i 1) (by decide) rfl (fun ls hl => ?_)
          refine lv_goto (tgt := 4) hx hb dX0_setOfLiving_30 (by decide) ?_
          exact ih (i + 1) _ _ _ (by omega) (by omega) hW (by rw [mset_no (decide_eq_false c_2)]; exact lv_sub hl [1, 2, 0] rfl)
        · refine lv_iload_n hx hb dX0_setOfLiving_21 rfl (lv_at hl 1 rfl) ?_
          refine lv_iconst (v := 1) hx hb dX0_setOfLiving_22 (by decide) ?_
          refine lv_iload_n hx hb dX0_setOfLiving_23 rfl (lv_at hl 2 rfl) ?_
          refine n_ishl (v := (1 <<< ((nI i) &&& 31))) hx hb dX0_setOfLiving_24 rfl ?_
          refine n_ior (v := (nI (mset (liv S) (i + 1)))) hx hb dX0_setOfLiving_25 (mset_put (decide_eq_true c_2) (by omega)) ?_
          refine lv_istore_n (lv' := [(1, .int (nI (mset (liv S) (i + 1)))), (0, .ref (h 0)), (2, .int (nI i))]) hx hb dX0_setOfLiving_26 rfl hl (by decide) rfl (fun ls hl => ?_)
          refine lv_iinc (v := (nI (i + 1))) (lv' := [(2, .int (nI (i + 1))), (1, .int (nI (mset (liv S) (i + 1)))), (0, .ref (h 0))]) (k := 2) hx hb dX0_setOfLiving_27 hl rfl (nI_inc i 1) (by decide) rfl (fun ls hl => ?_)
          refine lv_goto (tgt := 4) hx hb dX0_setOfLiving_30 (by decide) ?_
          exact ih (i + 1) _ _ _ (by omega) (by omega) hW (lv_sub hl [2, 1, 0] rfl)
  exact L4 (P - 0 + 1) 0 _ _ _ (Nat.lt_succ_self _) (by omega) hW (lv_sub hl [2, 1, 0] rfl)
set_option maxHeartbeats 4000000 in
set_option maxRecDepth 100000 in
theorem c_X0_sumOfContents (l : Launch) (E : Ev) (h : Nat → Nat) (S : HS) (T : HS) (P : Nat) (hP : S 0 2 = nI P) (hP1 : P ≤ 6) : MI l E yX0_sumOfContents cX0_sumOfContents 3 .int 0 0 0 0 [.ref (h 0)] (wcat [HW E h S T]) (fun (r : Int32) (_ : Unit) => r = smI (S 3) P) (fun (_ : Unit) => (wcat [HW E h S T])) := by
  refine MI_intro RX0 (by decide) rfl (Nat.le_of_ble_eq_true rfl) ?_
  intro p e R s m args below meth c A Q hQ hC hD hW hA ls hl
  have hx := hC.1
  have hb := hC.2.1
  have hW : Wd E A s.heap (wcat [HW E h S T]) s.heap [] := hW
  have hD : Dj A [h 0, h 1, h 2, h 3, h 4, h 5, h 6, h 7, h 8, h 9, h 10] := hD
  have hl : lv_has ls 3 [(0, .ref (h 0))] := hl
  refine lv_iconst (v := 0) hx hb dX0_sumOfContents_0 (by decide) ?_
  refine lv_istore_n (lv' := [(1, .int 0), (0, .ref (h 0))]) hx hb dX0_sumOfContents_1 rfl hl (by decide) rfl (fun ls hl => ?_)
  refine lv_iconst (v := 0) hx hb dX0_sumOfContents_2 (by decide) ?_
  refine lv_istore_n (lv' := [(2, .int 0), (1, .int 0), (0, .ref (h 0))]) hx hb dX0_sumOfContents_3 rfl hl (by decide) rfl (fun ls hl => ?_)
  have L4 : ∀ (n_ : Nat) (i : Nat) (H : Heap) (locs : List Loc) (ls : Array Slot), P - i < n_ → i ≤ P → Wd E A s.heap (wcat [HW E h S T]) H locs → lv_has ls 3 [(0, .ref (h 0)), (1, .int (smI (S 3) i)), (2, .int (nI i))] → W p l e R s m args below meth c H locs 0 0 Q (F0 m 4 ls []) := by
    intro n_
    induction n_ with
    | zero => intro i H locs ls hm; exact absurd hm (Nat.not_lt_zero _)
    | succ n_ ih =>
      intro i H locs ls hm hi hW hl
      refine lv_iload_n hx hb dX0_sumOfContents_4 rfl (lv_at hl 2 rfl) ?_
      refine lv_aload_n hx hb dX0_sumOfContents_5 rfl (lv_at hl 0 rfl) ?_
      refine r_get hC hW flX0_18 0 rfl rfl dX0_sumOfContents_6 ?_
      refine n_top hP ?_
      refine lv_icmp_ge (tgt := 27) hx hb dX0_sumOfContents_9 (by decide) (fun c_1 => ?_) (fun c_1 => ?_)
      · have c_1 : P ≤ i := (nI_leI (a := P) (b := i) (by omega) (by omega)).mp c_1
        refine lv_iload_n hx hb dX0_sumOfContents_27 rfl (lv_at hl 1 rfl) ?_
        exact r_iret hC hQ hD hW () (by rw [show i = P by omega]) rfl rfl dX0_sumOfContents_28
      · have c_1 : ¬ P ≤ i := fun z_ => c_1 ((nI_leI (a := P) (b := i) (by omega) (by omega)).mpr z_)
        refine lv_iload_n hx hb dX0_sumOfContents_12 rfl (lv_at hl 1 rfl) ?_
        refine lv_aload_n hx hb dX0_sumOfContents_13 rfl (lv_at hl 0 rfl) ?_
        refine r_get hC hW flX0_28 0 rfl rfl dX0_sumOfContents_14 ?_
        refine lv_iload_n hx hb dX0_sumOfContents_17 rfl (lv_at hl 2 rfl) ?_
        refine r_iald hC hW 3 rfl i rfl (by omega) (by decide) dX0_sumOfContents_18 ?_
        refine n_iadd (v := ((smI (S 3) i) + (S 3 i))) hx hb dX0_sumOfContents_19 rfl ?_
        refine lv_istore_n (lv' := [(1, .int ((smI (S 3) i) + (S 3 i))), (0, .ref (h 0)), (2, .int (nI i))]) hx hb dX0_sumOfContents_20 rfl hl (by decide) rfl (fun ls hl => ?_)
        refine lv_iinc (v := (nI (i + 1))) (lv' := [(2, .int (nI (i + 1))), (1, .int ((smI (S 3) i) + (S 3 i))), (0, .ref (h 0))]) (k := 2) hx hb dX0_sumOfContents_21 hl rfl (nI_inc i 1) (by decide) rfl (fun ls hl => ?_)
        refine lv_goto (tgt := 4) hx hb dX0_sumOfContents_24 (by decide) ?_
        exact ih (i + 1) _ _ _ (by omega) (by omega) hW (lv_sub hl [2, 1, 0] rfl)
  exact L4 (P - 0 + 1) 0 _ _ _ (Nat.lt_succ_self _) (by omega) hW (lv_sub hl [2, 1, 0] rfl)
set_option maxHeartbeats 4000000 in
set_option maxRecDepth 100000 in
theorem c_X0_sumOfNames (l : Launch) (E : Ev) (h : Nat → Nat) (S : HS) (T : HS) (G : Nat) (hG : S 0 3 = nI G) (hG1 : G ≤ 10) : MI l E yX0_sumOfNames cX0_sumOfNames 3 .int 0 0 0 0 [.ref (h 0)] (wcat [HW E h S T]) (fun (r : Int32) (_ : Unit) => r = smI (S 7) G) (fun (_ : Unit) => (wcat [HW E h S T])) := by
  refine MI_intro RX0 (by decide) rfl (Nat.le_of_ble_eq_true rfl) ?_
  intro p e R s m args below meth c A Q hQ hC hD hW hA ls hl
  have hx := hC.1
  have hb := hC.2.1
  have hW : Wd E A s.heap (wcat [HW E h S T]) s.heap [] := hW
  have hD : Dj A [h 0, h 1, h 2, h 3, h 4, h 5, h 6, h 7, h 8, h 9, h 10] := hD
  have hl : lv_has ls 3 [(0, .ref (h 0))] := hl
  refine lv_iconst (v := 0) hx hb dX0_sumOfNames_0 (by decide) ?_
  refine lv_istore_n (lv' := [(1, .int 0), (0, .ref (h 0))]) hx hb dX0_sumOfNames_1 rfl hl (by decide) rfl (fun ls hl => ?_)
  refine lv_iconst (v := 0) hx hb dX0_sumOfNames_2 (by decide) ?_
  refine lv_istore_n (lv' := [(2, .int 0), (1, .int 0), (0, .ref (h 0))]) hx hb dX0_sumOfNames_3 rfl hl (by decide) rfl (fun ls hl => ?_)
  have L4 : ∀ (n_ : Nat) (i : Nat) (H : Heap) (locs : List Loc) (ls : Array Slot), G - i < n_ → i ≤ G → Wd E A s.heap (wcat [HW E h S T]) H locs → lv_has ls 3 [(0, .ref (h 0)), (1, .int (smI (S 7) i)), (2, .int (nI i))] → W p l e R s m args below meth c H locs 0 0 Q (F0 m 4 ls []) := by
    intro n_
    induction n_ with
    | zero => intro i H locs ls hm; exact absurd hm (Nat.not_lt_zero _)
    | succ n_ ih =>
      intro i H locs ls hm hi hW hl
      refine lv_iload_n hx hb dX0_sumOfNames_4 rfl (lv_at hl 2 rfl) ?_
      refine lv_aload_n hx hb dX0_sumOfNames_5 rfl (lv_at hl 0 rfl) ?_
      refine r_get hC hW flX0_34 0 rfl rfl dX0_sumOfNames_6 ?_
      refine n_top hG ?_
      refine lv_icmp_ge (tgt := 27) hx hb dX0_sumOfNames_9 (by decide) (fun c_1 => ?_) (fun c_1 => ?_)
      · have c_1 : G ≤ i := (nI_leI (a := G) (b := i) (by omega) (by omega)).mp c_1
        refine lv_iload_n hx hb dX0_sumOfNames_27 rfl (lv_at hl 1 rfl) ?_
        exact r_iret hC hQ hD hW () (by rw [show i = G by omega]) rfl rfl dX0_sumOfNames_28
      · have c_1 : ¬ G ≤ i := fun z_ => c_1 ((nI_leI (a := G) (b := i) (by omega) (by omega)).mpr z_)
        refine lv_iload_n hx hb dX0_sumOfNames_12 rfl (lv_at hl 1 rfl) ?_
        refine lv_aload_n hx hb dX0_sumOfNames_13 rfl (lv_at hl 0 rfl) ?_
        refine r_get hC hW flX0_43 0 rfl rfl dX0_sumOfNames_14 ?_
        refine lv_iload_n hx hb dX0_sumOfNames_17 rfl (lv_at hl 2 rfl) ?_
        refine r_iald hC hW 7 rfl i rfl (by omega) (by decide) dX0_sumOfNames_18 ?_
        refine n_iadd (v := ((smI (S 7) i) + (S 7 i))) hx hb dX0_sumOfNames_19 rfl ?_
        refine lv_istore_n (lv' := [(1, .int ((smI (S 7) i) + (S 7 i))), (0, .ref (h 0)), (2, .int (nI i))]) hx hb dX0_sumOfNames_20 rfl hl (by decide) rfl (fun ls hl => ?_)
        refine lv_iinc (v := (nI (i + 1))) (lv' := [(2, .int (nI (i + 1))), (1, .int ((smI (S 7) i) + (S 7 i))), (0, .ref (h 0))]) (k := 2) hx hb dX0_sumOfNames_21 hl rfl (nI_inc i 1) (by decide) rfl (fun ls hl => ?_)
        refine lv_goto (tgt := 4) hx hb dX0_sumOfNames_24 (by decide) ?_
        exact ih (i + 1) _ _ _ (by omega) (by omega) hW (lv_sub hl [2, 1, 0] rfl)
  exact L4 (G - 0 + 1) 0 _ _ _ (Nat.lt_succ_self _) (by omega) hW (lv_sub hl [2, 1, 0] rfl)
set_option maxHeartbeats 4000000 in
set_option maxRecDepth 100000 in
theorem c_X0_fades (l : Launch) (E : Ev) (h : Nat → Nat) (S : HS) (T : HS) (P : Nat) (G : Nat) (hV : HV S P G) (g : Nat) (hg : g < G) : MI l E yX0_fades cX0_fades 2 .int 1 21 0 0 [.ref (h 0), .int (nI g)] (wcat [HW E h S T]) (fun (r : Int32) (_ : Unit) => r = nI (fdn S g)) (fun (_ : Unit) => (wcat [HW E h S T])) := by
  refine MI_intro RX0 (by decide) rfl (Nat.le_of_ble_eq_true rfl) ?_
  intro p e R s m args below meth c A Q hQ hC hD hW hA ls hl
  have hx := hC.1
  have hb := hC.2.1
  have hW : Wd E A s.heap (wcat [HW E h S T]) s.heap [] := hW
  have hD : Dj A [h 0, h 1, h 2, h 3, h 4, h 5, h 6, h 7, h 8, h 9, h 10] := hD
  have hl : lv_has ls 2 [(0, .ref (h 0)), (1, .int (nI g))] := hl
  have hP := hV.p
  have hP1 := hV.p6
  have hG := hV.g
  have hG1 := hV.g10
  have hht := hV.ht
  refine lv_aload_n hx hb dX0_fades_0 rfl (lv_at hl 0 rfl) ?_
  refine r_get hC hW flX0_40 0 rfl rfl dX0_fades_1 ?_
  refine lv_iload_n hx hb dX0_fades_4 rfl (lv_at hl 1 rfl) ?_
  refine r_iald hC hW 6 rfl g rfl (by omega) (by decide) dX0_fades_5 ?_
  by_cases k_1 : (S 6 g) = 1
  · refine lv_lookup (off := 26) (tgt := 32) hx hb dX0_fades_6 (by decide) (by rw [k_1]; decide) (by decide) ?_
    refine lv_bipush (v := 9) hx hb dX0_fades_32 (by decide) ?_
    refine lv_iconst (v := 0) hx hb dX0_fades_34 (by decide) ?_
    refine lv_aload_n hx hb dX0_fades_35 rfl (lv_at hl 0 rfl) ?_
    refine r_get hC hW flX0_15 0 rfl rfl dX0_fades_36 ?_
    refine n_top hV.ht.1 ?_
    refine lv_bipush (v := 50) hx hb dX0_fades_39 (by decide) ?_
    refine n_isub (v := ((nI (ht S)) - 50)) hx hb dX0_fades_41 rfl ?_
    refine r_mmax hC lkX0_69 hl.1 (by decide) (by decide) (by decide) (by decide) (Nat.le_of_ble_eq_true rfl) dX0_fades_42 ?_
    refine n_top (max_sub _ (by omega)) ?_
    refine lv_bipush (v := 10) hx hb dX0_fades_45 (by decide) ?_
    refine n_idiv (v := (nI ((ht S - 50) / 10))) hx hb dX0_fades_47 (by decide) (pk_div (a := ht S - 50) (d := 10) (by omega) (by decide) (by decide)) ?_
    refine n_iadd (v := (nI (9 + ((ht S - 50) / 10)))) hx hb dX0_fades_48 (nI_add 9 ((ht S - 50) / 10)) ?_
    exact r_iret hC hQ hD hW () (congrArg nI (by unfold fdn; rw [if_pos k_1])) rfl rfl dX0_fades_49
  by_cases k_2 : (S 6 g) = 2
  · refine lv_lookup (off := 44) (tgt := 50) hx hb dX0_fades_6 (by decide) (by rw [k_2]; decide) (by decide) ?_
    refine lv_aload_n hx hb dX0_fades_50 rfl (lv_at hl 0 rfl) ?_
    refine r_get hC hW flX0_15 0 rfl rfl dX0_fades_51 ?_
    refine n_top hV.ht.1 ?_
    refine lv_bipush (v := 6) hx hb dX0_fades_54 (by decide) ?_
    refine n_idiv (v := (nI (ht S / 6))) hx hb dX0_fades_56 (by decide) (pk_div (a := ht S) (d := 6) (by omega) (by decide) (by decide)) ?_
    exact r_iret hC hQ hD hW () (congrArg nI (by unfold fdn; rw [if_neg (by rw [k_2]; decide), if_pos k_2])) rfl rfl dX0_fades_57
  refine lv_lookup (off := 52) (tgt := 58) hx hb dX0_fades_6 (by decide) (by rw [lv_osw k_1 (by decide), lv_osw k_2 (by decide)]; rfl) (by decide) ?_
  refine lv_iconst (v := 1) hx hb dX0_fades_58 (by decide) ?_
  exact r_iret hC hQ hD hW () (by unfold fdn; rw [if_neg k_1, if_neg k_2]; rfl) rfl rfl dX0_fades_59
set_option maxHeartbeats 4000000 in
set_option maxRecDepth 100000 in
theorem c_X0_leastOfBand (l : Launch) (E : Ev) (h : Nat → Nat) (S : HS) (T : HS) (P : Nat) (hP : S 0 2 = nI P) (hP1 : P ≤ 6) (x : Int32) : MI l E yX0_leastOfBand cX0_leastOfBand 3 .int 0 0 0 0 [.ref (h 0), .int x] (wcat [HW E h S T]) (fun (r : Int32) (_ : Unit) => r = lsI (bdx S x) P) (fun (_ : Unit) => (wcat [HW E h S T])) := by
  refine MI_intro RX0 (by decide) rfl (Nat.le_of_ble_eq_true rfl) ?_
  intro p e R s m args below meth c A Q hQ hC hD hW hA ls hl
  have hx := hC.1
  have hb := hC.2.1
  have hW : Wd E A s.heap (wcat [HW E h S T]) s.heap [] := hW
  have hD : Dj A [h 0, h 1, h 2, h 3, h 4, h 5, h 6, h 7, h 8, h 9, h 10] := hD
  have hl : lv_has ls 3 [(0, .ref (h 0)), (1, .int x)] := hl
  refine lv_iconst (v := 0) hx hb dX0_leastOfBand_0 (by decide) ?_
  refine lv_istore_n (lv' := [(2, .int 0), (0, .ref (h 0)), (1, .int x)]) hx hb dX0_leastOfBand_1 rfl hl (by decide) rfl (fun ls hl => ?_)
  have L2 : ∀ (n_ : Nat) (i : Nat) (H : Heap) (locs : List Loc) (ls : Array Slot), P - i < n_ → i ≤ P → (∀ j, j < i → bdx S x j = false) → Wd E A s.heap (wcat [HW E h S T]) H locs → lv_has ls 3 [(0, .ref (h 0)), (1, .int x), (2, .int (nI i))] → W p l e R s m args below meth c H locs 0 0 Q (F0 m 2 ls []) := by
    intro n_
    induction n_ with
    | zero => intro i H locs ls hm; exact absurd hm (Nat.not_lt_zero _)
    | succ n_ ih =>
      intro i H locs ls hm hi hno hW hl
      refine lv_iload_n hx hb dX0_leastOfBand_2 rfl (lv_at hl 2 rfl) ?_
      refine lv_aload_n hx hb dX0_leastOfBand_3 rfl (lv_at hl 0 rfl) ?_
      refine r_get hC hW flX0_18 0 rfl rfl dX0_leastOfBand_4 ?_
      refine n_top hP ?_
      refine lv_icmp_ge (tgt := 37) hx hb dX0_leastOfBand_7 (by decide) (fun c_1 => ?_) (fun c_1 => ?_)
      · have c_1 : P ≤ i := (nI_leI (a := P) (b := i) (by omega) (by omega)).mp c_1
        refine lv_iconst (v := (-1)) hx hb dX0_leastOfBand_37 (by decide) ?_
        exact r_iret hC hQ hD hW () (lsI_none (fun j hj => hno j (by omega))).symm rfl rfl dX0_leastOfBand_38
      · have c_1 : ¬ P ≤ i := fun z_ => c_1 ((nI_leI (a := P) (b := i) (by omega) (by omega)).mpr z_)
        refine lv_aload_n hx hb dX0_leastOfBand_10 rfl (lv_at hl 0 rfl) ?_
        refine r_get hC hW flX0_25 0 rfl rfl dX0_leastOfBand_11 ?_
        refine lv_iload_n hx hb dX0_leastOfBand_14 rfl (lv_at hl 2 rfl) ?_
        refine r_iald hC hW 2 rfl i rfl (by omega) (by decide) dX0_leastOfBand_15 ?_
        refine lv_iload_n hx hb dX0_leastOfBand_16 rfl (lv_at hl 1 rfl) ?_
        refine lv_icmp_ne (tgt := 31) hx hb dX0_leastOfBand_17 (by decide) (fun c_2 => ?_) (fun c_2 => ?_)
        · refine lv_iinc (v := (nI (i + 1))) (lv' := [(2, .int (nI (i + 1))), (0, .ref (h 0)), (1, .int x)]) (k := 2) hx hb dX0_leastOfBand_31 hl rfl (nI_inc i 1) (by decide) rfl (fun ls hl => ?_)
          refine lv_goto (tgt := 2) hx hb dX0_leastOfBand_34 (by decide) ?_
          exact ih (i + 1) _ _ _ (by omega) (by omega) (lt_s hno (decide_eq_false (fun w => c_2 w.1))) hW (lv_sub hl [1, 2, 0] rfl)
        · refine lv_aload_n hx hb dX0_leastOfBand_20 rfl (lv_at hl 0 rfl) ?_
          refine r_get hC hW flX0_31 0 rfl rfl dX0_leastOfBand_21 ?_
          refine lv_iload_n hx hb dX0_leastOfBand_24 rfl (lv_at hl 2 rfl) ?_
          refine r_iald hC hW 4 rfl i rfl (by omega) (by decide) dX0_leastOfBand_25 ?_
          refine lv_if_ne (tgt := 31) hx hb dX0_leastOfBand_26 (by decide) (fun c_3 => ?_) (fun c_3 => ?_)
          · refine lv_iinc (v := (nI (i + 1))) (lv' := [(2, .int (nI (i + 1))), (0, .ref (h 0)), (1, .int x)]) (k := 2) hx hb dX0_leastOfBand_31 hl rfl (nI_inc i 1) (by decide) rfl (fun ls hl => ?_)
            refine lv_goto (tgt := 2) hx hb dX0_leastOfBand_34 (by decide) ?_
            exact ih (i + 1) _ _ _ (by omega) (by omega) (lt_s hno (decide_eq_false (fun w => c_3 w.2))) hW (lv_sub hl [1, 2, 0] rfl)
          · refine lv_iload_n hx hb dX0_leastOfBand_29 rfl (lv_at hl 2 rfl) ?_
            exact r_iret hC hQ hD hW () (lsI_hit (decide_eq_true ⟨c_2, c_3⟩) hno (by omega) (by omega)).symm rfl rfl dX0_leastOfBand_30
  exact L2 (P - 0 + 1) 0 _ _ _ (Nat.lt_succ_self _) (by omega) lt_0 hW (lv_sub hl [1, 2, 0] rfl)
set_option maxHeartbeats 4000000 in
set_option maxRecDepth 100000 in
theorem c_X0_readsFor (l : Launch) (E : Ev) (h : Nat → Nat) (S : HS) (T : HS) (P : Nat) (G : Nat) (hV : HV S P G) (g : Nat) (hg : g < G) : MI l E yX0_readsFor cX0_readsFor 3 .int 1 22 0 0 [.ref (h 0), .int (nI g)] (wcat [HW E h S T]) (fun (r : Int32) (_ : Unit) => r = rdI S P g) (fun (_ : Unit) => (wcat [HW E h S T])) := by
  refine MI_intro RX0 (by decide) rfl (Nat.le_of_ble_eq_true rfl) ?_
  intro p e R s m args below meth c A Q hQ hC hD hW hA ls hl
  have hx := hC.1
  have hb := hC.2.1
  have hW : Wd E A s.heap (wcat [HW E h S T]) s.heap [] := hW
  have hD : Dj A [h 0, h 1, h 2, h 3, h 4, h 5, h 6, h 7, h 8, h 9, h 10] := hD
  have hl : lv_has ls 3 [(0, .ref (h 0)), (1, .int (nI g))] := hl
  have hP := hV.p
  have hP1 := hV.p6
  have hG := hV.g
  have hG1 := hV.g10
  have hou := (hV.gv hg).ow hP1
  have hnm := hV.nm99 hg
  refine lv_aload_n hx hb dX0_readsFor_0 rfl (lv_at hl 0 rfl) ?_
  refine r_get hC hW flX0_37 0 rfl rfl dX0_readsFor_1 ?_
  refine lv_iload_n hx hb dX0_readsFor_4 rfl (lv_at hl 1 rfl) ?_
  refine r_iald hC hW 5 rfl g rfl (by omega) (by decide) dX0_readsFor_5 ?_
  refine n_top ((hV.gv (by omega)).ow hP1).1 ?_
  refine lv_istore_n (lv' := [(2, .int (nI (ow S g))), (0, .ref (h 0)), (1, .int (nI g))]) hx hb dX0_readsFor_6 rfl hl (by decide) rfl (fun ls hl => ?_)
  refine lv_aload_n hx hb dX0_readsFor_7 rfl (lv_at hl 1 rfl) ?_
  refine r_get hC hW flX0_43 0 rfl rfl dX0_readsFor_8 ?_
  refine lv_iload_n hx hb dX0_readsFor_11 rfl (lv_at hl 2 rfl) ?_
  refine r_iald hC hW 7 rfl g rfl (by omega) (by decide) dX0_readsFor_12 ?_
  refine n_top (hV.nmv (by omega)) ?_
  refine lv_bipush (v := 60) hx hb dX0_readsFor_13 (by decide) ?_
  refine lv_icmp_lt (tgt := 29) hx hb dX0_readsFor_15 (by decide) (fun c_1 => ?_) (fun c_1 => ?_)
  · have c_1 : nm S g < 60 := (nI_ltI (a := nm S g) (b := 60) (by omega) (by omega)).mp c_1
    refine lv_aload_n hx hb dX0_readsFor_29 rfl (lv_at hl 1 rfl) ?_
    refine r_get hC hW flX0_43 0 rfl rfl dX0_readsFor_30 ?_
    refine lv_iload_n hx hb dX0_readsFor_33 rfl (lv_at hl 2 rfl) ?_
    refine r_iald hC hW 7 rfl g rfl (by omega) (by decide) dX0_readsFor_34 ?_
    refine n_top (hV.nmv (by omega)) ?_
    refine lv_bipush (v := 20) hx hb dX0_readsFor_35 (by decide) ?_
    refine lv_icmp_lt (tgt := 53) hx hb dX0_readsFor_37 (by decide) (fun c_2 => ?_) (fun c_2 => ?_)
    · have c_2 : nm S g < 20 := (nI_ltI (a := nm S g) (b := 20) (by omega) (by omega)).mp c_2
      refine lv_iconst (v := (-1)) hx hb dX0_readsFor_53 (by decide) ?_
      exact r_iret hC hQ hD hW () (by unfold rdI; rw [if_neg (fun z => by omega), if_neg (by omega)]) rfl rfl dX0_readsFor_54
    · have c_2 : ¬ nm S g < 20 := fun z_ => c_2 ((nI_ltI (a := nm S g) (b := 20) (by omega) (by omega)).mpr z_)
      refine lv_aload_n hx hb dX0_readsFor_40 rfl (lv_at hl 1 rfl) ?_
      refine lv_aload_n hx hb dX0_readsFor_41 rfl (lv_at hl 1 rfl) ?_
      refine r_get hC hW flX0_25 0 rfl rfl dX0_readsFor_42 ?_
      refine lv_iload_n hx hb dX0_readsFor_45 rfl (lv_at hl 0 rfl) ?_
      refine r_iald hC hW 2 rfl (ow S g) rfl (by omega) (by decide) dX0_readsFor_46 ?_
      refine r_callCi hC hD hW hA lkX0_75 (c_X0_leastOfBand l E h S T P hV.p hV.p6 (S 2 (ow S g))) rfl rfl ⟨by decide, by decide, by decide, by decide⟩ [0] rfl rfl rfl (fun _ => rfl) hl.1 rfl rfl (Nat.le_of_ble_eq_true rfl) dX0_readsFor_47 (fun r_3 _ H locs hr_3 hW => ?_)
      have hW : Wd E A s.heap (wcat [HW E h S T]) H locs := hW
      have hr_3 : r_3 = (lsI (bdx S (S 2 (ow S g))) P) := hr_3
      subst hr_3
      refine lv_goto (tgt := 54) hx hb dX0_readsFor_50 (by decide) ?_
      exact r_iret hC hQ hD hW () (by unfold rdI; rw [if_neg (fun z => by omega), if_pos (by omega)]; rfl) rfl rfl dX0_readsFor_54
  · have c_1 : ¬ nm S g < 60 := fun z_ => c_1 ((nI_ltI (a := nm S g) (b := 60) (by omega) (by omega)).mpr z_)
    refine lv_aload_n hx hb dX0_readsFor_18 rfl (lv_at hl 1 rfl) ?_
    refine r_get hC hW flX0_31 0 rfl rfl dX0_readsFor_19 ?_
    refine lv_iload_n hx hb dX0_readsFor_22 rfl (lv_at hl 0 rfl) ?_
    refine r_iald hC hW 4 rfl (ow S g) rfl (by omega) (by decide) dX0_readsFor_23 ?_
    refine lv_if_ne (tgt := 29) hx hb dX0_readsFor_24 (by decide) (fun c_4 => ?_) (fun c_4 => ?_)
    · refine lv_aload_n hx hb dX0_readsFor_29 rfl (lv_at hl 1 rfl) ?_
      refine r_get hC hW flX0_43 0 rfl rfl dX0_readsFor_30 ?_
      refine lv_iload_n hx hb dX0_readsFor_33 rfl (lv_at hl 2 rfl) ?_
      refine r_iald hC hW 7 rfl g rfl (by omega) (by decide) dX0_readsFor_34 ?_
      refine n_top (hV.nmv (by omega)) ?_
      refine lv_bipush (v := 20) hx hb dX0_readsFor_35 (by decide) ?_
      refine lv_icmp_lt (tgt := 53) hx hb dX0_readsFor_37 (by decide) (fun c_5 => ?_) (fun c_5 => ?_)
      · have c_5 : nm S g < 20 := (nI_ltI (a := nm S g) (b := 20) (by omega) (by omega)).mp c_5
        refine lv_iconst (v := (-1)) hx hb dX0_readsFor_53 (by decide) ?_
        exact r_iret hC hQ hD hW () (by unfold rdI; rw [if_neg (fun z => c_4 z.2), if_neg (by omega)]) rfl rfl dX0_readsFor_54
      · have c_5 : ¬ nm S g < 20 := fun z_ => c_5 ((nI_ltI (a := nm S g) (b := 20) (by omega) (by omega)).mpr z_)
        refine lv_aload_n hx hb dX0_readsFor_40 rfl (lv_at hl 1 rfl) ?_
        refine lv_aload_n hx hb dX0_readsFor_41 rfl (lv_at hl 1 rfl) ?_
        refine r_get hC hW flX0_25 0 rfl rfl dX0_readsFor_42 ?_
        refine lv_iload_n hx hb dX0_readsFor_45 rfl (lv_at hl 0 rfl) ?_
        refine r_iald hC hW 2 rfl (ow S g) rfl (by omega) (by decide) dX0_readsFor_46 ?_
        refine r_callCi hC hD hW hA lkX0_75 (c_X0_leastOfBand l E h S T P hV.p hV.p6 (S 2 (ow S g))) rfl rfl ⟨by decide, by decide, by decide, by decide⟩ [0] rfl rfl rfl (fun _ => rfl) hl.1 rfl rfl (Nat.le_of_ble_eq_true rfl) dX0_readsFor_47 (fun r_6 _ H locs hr_6 hW => ?_)
        have hW : Wd E A s.heap (wcat [HW E h S T]) H locs := hW
        have hr_6 : r_6 = (lsI (bdx S (S 2 (ow S g))) P) := hr_6
        subst hr_6
        refine lv_goto (tgt := 54) hx hb dX0_readsFor_50 (by decide) ?_
        exact r_iret hC hQ hD hW () (by unfold rdI; rw [if_neg (fun z => c_4 z.2), if_pos (by omega)]; rfl) rfl rfl dX0_readsFor_54
    · refine lv_iload_n hx hb dX0_readsFor_27 rfl (lv_at hl 0 rfl) ?_
      exact r_iret hC hQ hD hW () (by unfold rdI; rw [if_pos ⟨by omega, c_4⟩]) rfl rfl dX0_readsFor_28
set_option maxHeartbeats 4000000 in
set_option maxRecDepth 100000 in
theorem c_X0_givesBack (l : Launch) (E : Ev) (h : Nat → Nat) (S : HS) (T : HS) (P : Nat) (G : Nat) (hV : HV S P G) (i : Nat) (g : Nat) (hi : i < P) (hg : g < G) : MI l E yX0_givesBack cX0_givesBack 3 .boolean 0 0 0 0 [.ref (h 0), .int (nI i), .int (nI g)] (wcat [HW E h S T]) (fun (r : Int32) (_ : Unit) => bz (giv S i g) r) (fun (_ : Unit) => (wcat [HW E h S T])) := by
  refine MI_intro RX0 (by decide) rfl (Nat.le_of_ble_eq_true rfl) ?_
  intro p e R s m args below meth c A Q hQ hC hD hW hA ls hl
  have hx := hC.1
  have hb := hC.2.1
  have hW : Wd E A s.heap (wcat [HW E h S T]) s.heap [] := hW
  have hD : Dj A [h 0, h 1, h 2, h 3, h 4, h 5, h 6, h 7, h 8, h 9, h 10] := hD
  have hl : lv_has ls 3 [(0, .ref (h 0)), (1, .int (nI i)), (2, .int (nI g))] := hl
  have hP := hV.p
  have hP1 := hV.p6
  have hG := hV.g
  have hG1 := hV.g10
  have hnm := hV.nm99 hg
  refine lv_aload_n hx hb dX0_givesBack_0 rfl (lv_at hl 0 rfl) ?_
  refine r_get hC hW flX0_21 0 rfl rfl dX0_givesBack_1 ?_
  refine lv_iload_n hx hb dX0_givesBack_4 rfl (lv_at hl 1 rfl) ?_
  refine r_iald hC hW 1 rfl i rfl (by omega) (by decide) dX0_givesBack_5 ?_
  by_cases k_1 : (S 1 i) = 1
  · refine lv_tableIn (off := 34) (tgt := 40) hx hb dX0_givesBack_6 (by rw [k_1]; decide) (by rw [k_1]; decide) (by rw [k_1]; rfl) (by decide) ?_
    refine lv_iconst (v := 1) hx hb dX0_givesBack_40 (by decide) ?_
    exact r_zret hC hQ hD hW (by decide) () (bz_t (giv_1 k_1)) rfl rfl dX0_givesBack_41
  by_cases k_2 : (S 1 i) = 2
  · refine lv_tableIn (off := 36) (tgt := 42) hx hb dX0_givesBack_6 (by rw [k_2]; decide) (by rw [k_2]; decide) (by rw [k_2]; rfl) (by decide) ?_
    refine lv_iconst (v := 0) hx hb dX0_givesBack_42 (by decide) ?_
    exact r_zret hC hQ hD hW (by decide) () (bz_f (giv_2 k_2)) rfl rfl dX0_givesBack_43
  by_cases k_3 : (S 1 i) = 3
  · refine lv_tableIn (off := 38) (tgt := 44) hx hb dX0_givesBack_6 (by rw [k_3]; decide) (by rw [k_3]; decide) (by rw [k_3]; rfl) (by decide) ?_
    refine lv_aload_n hx hb dX0_givesBack_44 rfl (lv_at hl 0 rfl) ?_
    refine r_get hC hW flX0_43 0 rfl rfl dX0_givesBack_45 ?_
    refine lv_iload_n hx hb dX0_givesBack_48 rfl (lv_at hl 2 rfl) ?_
    refine r_iald hC hW 7 rfl g rfl (by omega) (by decide) dX0_givesBack_49 ?_
    refine n_top (hV.nmv (by omega)) ?_
    refine lv_bipush (v := 80) hx hb dX0_givesBack_50 (by decide) ?_
    refine lv_icmp_lt (tgt := 59) hx hb dX0_givesBack_52 (by decide) (fun c_4 => ?_) (fun c_4 => ?_)
    · have c_4 : nm S g < 80 := (nI_ltI (a := nm S g) (b := 80) (by omega) (by omega)).mp c_4
      refine lv_iconst (v := 0) hx hb dX0_givesBack_59 (by decide) ?_
      exact r_zret hC hQ hD hW (by decide) () (bz_f (fun z => by have := (giv_3 k_3).mp z; omega)) rfl rfl dX0_givesBack_60
    · have c_4 : ¬ nm S g < 80 := fun z_ => c_4 ((nI_ltI (a := nm S g) (b := 80) (by omega) (by omega)).mpr z_)
      refine lv_iconst (v := 1) hx hb dX0_givesBack_55 (by decide) ?_
      refine lv_goto (tgt := 60) hx hb dX0_givesBack_56 (by decide) ?_
      exact r_zret hC hQ hD hW (by decide) () (bz_t ((giv_3 k_3).mpr (by omega))) rfl rfl dX0_givesBack_60
  by_cases k_5 : (S 1 i) = 4
  · refine lv_tableIn (off := 34) (tgt := 40) hx hb dX0_givesBack_6 (by rw [k_5]; decide) (by rw [k_5]; decide) (by rw [k_5]; rfl) (by decide) ?_
    refine lv_iconst (v := 1) hx hb dX0_givesBack_40 (by decide) ?_
    exact r_zret hC hQ hD hW (by decide) () (bz_t (giv_4 k_5)) rfl rfl dX0_givesBack_41
  by_cases k_6 : (S 1 i) = 5
  · refine lv_tableIn (off := 36) (tgt := 42) hx hb dX0_givesBack_6 (by rw [k_6]; decide) (by rw [k_6]; decide) (by rw [k_6]; rfl) (by decide) ?_
    refine lv_iconst (v := 0) hx hb dX0_givesBack_42 (by decide) ?_
    exact r_zret hC hQ hD hW (by decide) () (bz_f (giv_5 k_6)) rfl rfl dX0_givesBack_43
  have sw_6 : ((S 1 i) : Int32).toInt < 1 ∨ 5 < ((S 1 i) : Int32).toInt := by
    have := sw_ne (k := 1) (z := 1) (by decide) k_1
    have := sw_ne (k := 2) (z := 2) (by decide) k_2
    have := sw_ne (k := 3) (z := 3) (by decide) k_3
    have := sw_ne (k := 4) (z := 4) (by decide) k_5
    have := sw_ne (k := 5) (z := 5) (by decide) k_6
    omega
  refine lv_tableOut (tgt := 61) hx hb dX0_givesBack_6 sw_6 (by decide) ?_
  refine lv_aload_n hx hb dX0_givesBack_61 rfl (lv_at hl 0 rfl) ?_
  refine r_get hC hW flX0_43 0 rfl rfl dX0_givesBack_62 ?_
  refine lv_iload_n hx hb dX0_givesBack_65 rfl (lv_at hl 2 rfl) ?_
  refine r_iald hC hW 7 rfl g rfl (by omega) (by decide) dX0_givesBack_66 ?_
  refine n_top (hV.nmv (by omega)) ?_
  refine lv_bipush (v := 60) hx hb dX0_givesBack_67 (by decide) ?_
  refine lv_icmp_lt (tgt := 76) hx hb dX0_givesBack_69 (by decide) (fun c_7 => ?_) (fun c_7 => ?_)
  · have c_7 : nm S g < 60 := (nI_ltI (a := nm S g) (b := 60) (by omega) (by omega)).mp c_7
    refine lv_iconst (v := 0) hx hb dX0_givesBack_76 (by decide) ?_
    exact r_zret hC hQ hD hW (by decide) () (bz_f (fun z => by have := (giv_d k_1 k_2 k_3 k_5 k_6).mp z; omega)) rfl rfl dX0_givesBack_77
  · have c_7 : ¬ nm S g < 60 := fun z_ => c_7 ((nI_ltI (a := nm S g) (b := 60) (by omega) (by omega)).mpr z_)
    refine lv_iconst (v := 1) hx hb dX0_givesBack_72 (by decide) ?_
    refine lv_goto (tgt := 77) hx hb dX0_givesBack_73 (by decide) ?_
    exact r_zret hC hQ hD hW (by decide) () (bz_t ((giv_d k_1 k_2 k_3 k_5 k_6).mpr (by omega))) rfl rfl dX0_givesBack_77
set_option maxHeartbeats 4000000 in
set_option maxRecDepth 100000 in
theorem c_X0_claims (l : Launch) (E : Ev) (h : Nat → Nat) (S : HS) (T : HS) (P : Nat) (G : Nat) (hV : HV S P G) (hT : TAn S T P G) (i : Nat) (g : Nat) (hi : i < P) (hg : g < G) : MI l E yX0_claims cX0_claims 5 .boolean 0 0 0 0 [.ref (h 0), .int (nI i), .int (nI g)] (wcat [HW E h S T]) (fun (r : Int32) (_ : Unit) => bz (clm S i g G) r) (fun (_ : Unit) => (wcat [HW E h S T])) := by
  refine MI_intro RX0 (by decide) rfl (Nat.le_of_ble_eq_true rfl) ?_
  intro p e R s m args below meth c A Q hQ hC hD hW hA ls hl
  have hx := hC.1
  have hb := hC.2.1
  have hW : Wd E A s.heap (wcat [HW E h S T]) s.heap [] := hW
  have hD : Dj A [h 0, h 1, h 2, h 3, h 4, h 5, h 6, h 7, h 8, h 9, h 10] := hD
  have hl : lv_has ls 5 [(0, .ref (h 0)), (1, .int (nI i)), (2, .int (nI g))] := hl
  have hP := hV.p
  have hP1 := hV.p6
  have hG := hV.g
  have hG1 := hV.g10
  have hnm := hV.nm99 hg
  have hca := ct_le (own1 S i) G
  have hca : cOwn S i G ≤ G := hca
  have hcb := ct_le (oth1 S i) G
  have hcb : cOth S i G ≤ G := hcb
  refine lv_aload_n hx hb dX0_claims_0 rfl (lv_at hl 0 rfl) ?_
  refine r_get hC hW flX0_37 0 rfl rfl dX0_claims_1 ?_
  refine lv_iload_n hx hb dX0_claims_4 rfl (lv_at hl 2 rfl) ?_
  refine r_iald hC hW 5 rfl g rfl (by omega) (by decide) dX0_claims_5 ?_
  refine lv_iload_n hx hb dX0_claims_6 rfl (lv_at hl 1 rfl) ?_
  refine lv_icmp_ne (tgt := 14) hx hb dX0_claims_7 (by decide) (fun c_1 => ?_) (fun c_1 => ?_)
  · refine lv_iconst (v := 0) hx hb dX0_claims_14 (by decide) ?_
    refine lv_istore_n (lv' := [(3, .int 0), (0, .ref (h 0)), (1, .int (nI i)), (2, .int (nI g))]) hx hb dX0_claims_15 rfl hl (by decide) rfl (fun ls hl => ?_)
    refine lv_aload_n hx hb dX0_claims_16 rfl (lv_at hl 1 rfl) ?_
    refine r_get hC hW flX0_49 0 rfl rfl dX0_claims_17 ?_
    refine lv_iload_n hx hb dX0_claims_20 rfl (lv_at hl 2 rfl) ?_
    refine r_iald hC hW 9 rfl i rfl (by omega) (by decide) dX0_claims_21 ?_
    refine n_top (hT i (by omega)).1 ?_
    refine lv_aload_n hx hb dX0_claims_22 rfl (lv_at hl 1 rfl) ?_
    refine r_get hC hW flX0_52 0 rfl rfl dX0_claims_23 ?_
    refine lv_iload_n hx hb dX0_claims_26 rfl (lv_at hl 2 rfl) ?_
    refine r_iald hC hW 10 rfl i rfl (by omega) (by decide) dX0_claims_27 ?_
    refine n_top (hT i (by omega)).2 ?_
    refine n_iadd (v := (nI (cOwn S i G + cOth S i G))) hx hb dX0_claims_28 (nI_add (cOwn S i G) (cOth S i G)) ?_
    refine lv_if_ne (tgt := 36) hx hb dX0_claims_29 (by decide) (fun c_2 => ?_) (fun c_2 => ?_)
    · have c_2 : ¬ cOwn S i G + cOth S i G = 0 := fun z_ => c_2 ((nI_eq (a := cOwn S i G + cOth S i G) (b := 0) (by omega) (by omega)).mpr z_)
      refine lv_iconst (v := 0) hx hb dX0_claims_36 (by decide) ?_
      refine lv_istore (lv' := [(4, .int 0), (3, .int 0), (0, .ref (h 0)), (1, .int (nI i)), (2, .int (nI g))]) hx hb dX0_claims_37 hl (by decide) rfl (fun ls hl => ?_)
      refine lv_aload_n hx hb dX0_claims_39 rfl (lv_at hl 2 rfl) ?_
      refine r_get hC hW flX0_21 0 rfl rfl dX0_claims_40 ?_
      refine lv_iload_n hx hb dX0_claims_43 rfl (lv_at hl 3 rfl) ?_
      refine r_iald hC hW 1 rfl i rfl (by omega) (by decide) dX0_claims_44 ?_
      by_cases k_3 : (S 1 i) = 1
      · refine lv_tableIn (off := 35) (tgt := 80) hx hb dX0_claims_45 (by rw [k_3]; decide) (by rw [k_3]; decide) (by rw [k_3]; rfl) (by decide) ?_
        refine lv_iload_n hx hb dX0_claims_80 rfl (lv_at hl 1 rfl) ?_
        exact r_zret hC hQ hD hW (by decide) () (bz_f (fun z => c_1 ((clm_1 k_3).mp z))) rfl rfl dX0_claims_81
      by_cases k_4 : (S 1 i) = 2
      · refine lv_tableIn (off := 37) (tgt := 82) hx hb dX0_claims_45 (by rw [k_4]; decide) (by rw [k_4]; decide) (by rw [k_4]; rfl) (by decide) ?_
        refine lv_iload hx hb dX0_claims_82 (lv_at hl 0 rfl) ?_
        exact r_zret hC hQ hD hW (by decide) () (bz_f (fun z => c_2 ((clm_2 k_4).mp z))) rfl rfl dX0_claims_84
      by_cases k_5 : (S 1 i) = 3
      · refine lv_tableIn (off := 62) (tgt := 107) hx hb dX0_claims_45 (by rw [k_5]; decide) (by rw [k_5]; decide) (by rw [k_5]; rfl) (by decide) ?_
        refine lv_iload_n hx hb dX0_claims_107 rfl (lv_at hl 1 rfl) ?_
        refine lv_if_eq (tgt := 125) hx hb dX0_claims_108 (by decide) (fun _ => ?_) (fun c => absurd c (by decide))
        refine lv_iconst (v := 0) hx hb dX0_claims_125 (by decide) ?_
        exact r_zret hC hQ hD hW (by decide) () (bz_f (fun z => c_1 ((clm_d (by rw [k_5]; decide) (by rw [k_5]; decide) (by rw [k_5]; decide) (by rw [k_5]; decide)).mp z).1)) rfl rfl dX0_claims_126
      by_cases k_6 : (S 1 i) = 4
      · refine lv_tableIn (off := 35) (tgt := 80) hx hb dX0_claims_45 (by rw [k_6]; decide) (by rw [k_6]; decide) (by rw [k_6]; rfl) (by decide) ?_
        refine lv_iload_n hx hb dX0_claims_80 rfl (lv_at hl 1 rfl) ?_
        exact r_zret hC hQ hD hW (by decide) () (bz_f (fun z => c_1 ((clm_4 k_6).mp z))) rfl rfl dX0_claims_81
      by_cases k_7 : (S 1 i) = 5
      · refine lv_tableIn (off := 40) (tgt := 85) hx hb dX0_claims_45 (by rw [k_7]; decide) (by rw [k_7]; decide) (by rw [k_7]; rfl) (by decide) ?_
        refine lv_iload hx hb dX0_claims_85 (lv_at hl 0 rfl) ?_
        refine lv_if_ne (tgt := 101) hx hb dX0_claims_87 (by decide) (fun c => absurd c (by decide)) (fun _ => ?_)
        refine lv_aload_n hx hb dX0_claims_90 rfl (lv_at hl 2 rfl) ?_
        refine r_get hC hW flX0_43 0 rfl rfl dX0_claims_91 ?_
        refine lv_iload_n hx hb dX0_claims_94 rfl (lv_at hl 4 rfl) ?_
        refine r_iald hC hW 7 rfl g rfl (by omega) (by decide) dX0_claims_95 ?_
        refine n_top (hV.nmv (by omega)) ?_
        refine lv_bipush (v := 50) hx hb dX0_claims_96 (by decide) ?_
        refine lv_icmp_lt (tgt := 105) hx hb dX0_claims_98 (by decide) (fun c_8 => ?_) (fun c_8 => ?_)
        · have c_8 : nm S g < 50 := (nI_ltI (a := nm S g) (b := 50) (by omega) (by omega)).mp c_8
          refine lv_iconst (v := 0) hx hb dX0_claims_105 (by decide) ?_
          exact r_zret hC hQ hD hW (by decide) () (bz_f (fun z => ((clm_5 k_7).mp z).elim c_2 (fun y => by omega))) rfl rfl dX0_claims_106
        · have c_8 : ¬ nm S g < 50 := fun z_ => c_8 ((nI_ltI (a := nm S g) (b := 50) (by omega) (by omega)).mpr z_)
          refine lv_iconst (v := 1) hx hb dX0_claims_101 (by decide) ?_
          refine lv_goto (tgt := 106) hx hb dX0_claims_102 (by decide) ?_
          exact r_zret hC hQ hD hW (by decide) () (bz_t ((clm_5 k_7).mpr (Or.inr (by omega)))) rfl rfl dX0_claims_106
      have sw_45 : ((S 1 i) : Int32).toInt < 1 ∨ 5 < ((S 1 i) : Int32).toInt := by
        have := sw_ne (k := 1) (z := 1) (by decide) k_3
        have := sw_ne (k := 2) (z := 2) (by decide) k_4
        have := sw_ne (k := 3) (z := 3) (by decide) k_5
        have := sw_ne (k := 4) (z := 4) (by decide) k_6
        have := sw_ne (k := 5) (z := 5) (by decide) k_7
        omega
      refine lv_tableOut (tgt := 107) hx hb dX0_claims_45 sw_45 (by decide) ?_
      refine lv_iload_n hx hb dX0_claims_107 rfl (lv_at hl 1 rfl) ?_
      refine lv_if_eq (tgt := 125) hx hb dX0_claims_108 (by decide) (fun _ => ?_) (fun c => absurd c (by decide))
      refine lv_iconst (v := 0) hx hb dX0_claims_125 (by decide) ?_
      exact r_zret hC hQ hD hW (by decide) () (bz_f (fun z => c_1 ((clm_d k_3 k_4 k_6 k_7).mp z).1)) rfl rfl dX0_claims_126
    · have c_2 : cOwn S i G + cOth S i G = 0 := (nI_eq (a := cOwn S i G + cOth S i G) (b := 0) (by omega) (by omega)).mp c_2
      refine lv_iconst (v := 1) hx hb dX0_claims_32 (by decide) ?_
      refine lv_goto (tgt := 37) hx hb dX0_claims_33 (by decide) ?_
      refine lv_istore (lv' := [(4, .int 1), (3, .int 0), (0, .ref (h 0)), (1, .int (nI i)), (2, .int (nI g))]) hx hb dX0_claims_37 hl (by decide) rfl (fun ls hl => ?_)
      refine lv_aload_n hx hb dX0_claims_39 rfl (lv_at hl 2 rfl) ?_
      refine r_get hC hW flX0_21 0 rfl rfl dX0_claims_40 ?_
      refine lv_iload_n hx hb dX0_claims_43 rfl (lv_at hl 3 rfl) ?_
      refine r_iald hC hW 1 rfl i rfl (by omega) (by decide) dX0_claims_44 ?_
      by_cases k_9 : (S 1 i) = 1
      · refine lv_tableIn (off := 35) (tgt := 80) hx hb dX0_claims_45 (by rw [k_9]; decide) (by rw [k_9]; decide) (by rw [k_9]; rfl) (by decide) ?_
        refine lv_iload_n hx hb dX0_claims_80 rfl (lv_at hl 1 rfl) ?_
        exact r_zret hC hQ hD hW (by decide) () (bz_f (fun z => c_1 ((clm_1 k_9).mp z))) rfl rfl dX0_claims_81
      by_cases k_10 : (S 1 i) = 2
      · refine lv_tableIn (off := 37) (tgt := 82) hx hb dX0_claims_45 (by rw [k_10]; decide) (by rw [k_10]; decide) (by rw [k_10]; rfl) (by decide) ?_
        refine lv_iload hx hb dX0_claims_82 (lv_at hl 0 rfl) ?_
        exact r_zret hC hQ hD hW (by decide) () (bz_t ((clm_2 k_10).mpr c_2)) rfl rfl dX0_claims_84
      by_cases k_11 : (S 1 i) = 3
      · refine lv_tableIn (off := 62) (tgt := 107) hx hb dX0_claims_45 (by rw [k_11]; decide) (by rw [k_11]; decide) (by rw [k_11]; rfl) (by decide) ?_
        refine lv_iload_n hx hb dX0_claims_107 rfl (lv_at hl 1 rfl) ?_
        refine lv_if_eq (tgt := 125) hx hb dX0_claims_108 (by decide) (fun _ => ?_) (fun c => absurd c (by decide))
        refine lv_iconst (v := 0) hx hb dX0_claims_125 (by decide) ?_
        exact r_zret hC hQ hD hW (by decide) () (bz_f (fun z => c_1 ((clm_d (by rw [k_11]; decide) (by rw [k_11]; decide) (by rw [k_11]; decide) (by rw [k_11]; decide)).mp z).1)) rfl rfl dX0_claims_126
      by_cases k_12 : (S 1 i) = 4
      · refine lv_tableIn (off := 35) (tgt := 80) hx hb dX0_claims_45 (by rw [k_12]; decide) (by rw [k_12]; decide) (by rw [k_12]; rfl) (by decide) ?_
        refine lv_iload_n hx hb dX0_claims_80 rfl (lv_at hl 1 rfl) ?_
        exact r_zret hC hQ hD hW (by decide) () (bz_f (fun z => c_1 ((clm_4 k_12).mp z))) rfl rfl dX0_claims_81
      by_cases k_13 : (S 1 i) = 5
      · refine lv_tableIn (off := 40) (tgt := 85) hx hb dX0_claims_45 (by rw [k_13]; decide) (by rw [k_13]; decide) (by rw [k_13]; rfl) (by decide) ?_
        refine lv_iload hx hb dX0_claims_85 (lv_at hl 0 rfl) ?_
        refine lv_if_ne (tgt := 101) hx hb dX0_claims_87 (by decide) (fun _ => ?_) (fun c => absurd c (by decide))
        refine lv_iconst (v := 1) hx hb dX0_claims_101 (by decide) ?_
        refine lv_goto (tgt := 106) hx hb dX0_claims_102 (by decide) ?_
        exact r_zret hC hQ hD hW (by decide) () (bz_t ((clm_5 k_13).mpr (Or.inl c_2))) rfl rfl dX0_claims_106
      have sw_45 : ((S 1 i) : Int32).toInt < 1 ∨ 5 < ((S 1 i) : Int32).toInt := by
        have := sw_ne (k := 1) (z := 1) (by decide) k_9
        have := sw_ne (k := 2) (z := 2) (by decide) k_10
        have := sw_ne (k := 3) (z := 3) (by decide) k_11
        have := sw_ne (k := 4) (z := 4) (by decide) k_12
        have := sw_ne (k := 5) (z := 5) (by decide) k_13
        omega
      refine lv_tableOut (tgt := 107) hx hb dX0_claims_45 sw_45 (by decide) ?_
      refine lv_iload_n hx hb dX0_claims_107 rfl (lv_at hl 1 rfl) ?_
      refine lv_if_eq (tgt := 125) hx hb dX0_claims_108 (by decide) (fun _ => ?_) (fun c => absurd c (by decide))
      refine lv_iconst (v := 0) hx hb dX0_claims_125 (by decide) ?_
      exact r_zret hC hQ hD hW (by decide) () (bz_f (fun z => c_1 ((clm_d k_9 k_10 k_12 k_13).mp z).1)) rfl rfl dX0_claims_126
  · refine lv_iconst (v := 1) hx hb dX0_claims_10 (by decide) ?_
    refine lv_goto (tgt := 15) hx hb dX0_claims_11 (by decide) ?_
    refine lv_istore_n (lv' := [(3, .int 1), (0, .ref (h 0)), (1, .int (nI i)), (2, .int (nI g))]) hx hb dX0_claims_15 rfl hl (by decide) rfl (fun ls hl => ?_)
    refine lv_aload_n hx hb dX0_claims_16 rfl (lv_at hl 1 rfl) ?_
    refine r_get hC hW flX0_49 0 rfl rfl dX0_claims_17 ?_
    refine lv_iload_n hx hb dX0_claims_20 rfl (lv_at hl 2 rfl) ?_
    refine r_iald hC hW 9 rfl i rfl (by omega) (by decide) dX0_claims_21 ?_
    refine n_top (hT i (by omega)).1 ?_
    refine lv_aload_n hx hb dX0_claims_22 rfl (lv_at hl 1 rfl) ?_
    refine r_get hC hW flX0_52 0 rfl rfl dX0_claims_23 ?_
    refine lv_iload_n hx hb dX0_claims_26 rfl (lv_at hl 2 rfl) ?_
    refine r_iald hC hW 10 rfl i rfl (by omega) (by decide) dX0_claims_27 ?_
    refine n_top (hT i (by omega)).2 ?_
    refine n_iadd (v := (nI (cOwn S i G + cOth S i G))) hx hb dX0_claims_28 (nI_add (cOwn S i G) (cOth S i G)) ?_
    refine lv_if_ne (tgt := 36) hx hb dX0_claims_29 (by decide) (fun c_14 => ?_) (fun c_14 => ?_)
    · have c_14 : ¬ cOwn S i G + cOth S i G = 0 := fun z_ => c_14 ((nI_eq (a := cOwn S i G + cOth S i G) (b := 0) (by omega) (by omega)).mpr z_)
      refine lv_iconst (v := 0) hx hb dX0_claims_36 (by decide) ?_
      refine lv_istore (lv' := [(4, .int 0), (3, .int 1), (0, .ref (h 0)), (1, .int (nI i)), (2, .int (nI g))]) hx hb dX0_claims_37 hl (by decide) rfl (fun ls hl => ?_)
      refine lv_aload_n hx hb dX0_claims_39 rfl (lv_at hl 2 rfl) ?_
      refine r_get hC hW flX0_21 0 rfl rfl dX0_claims_40 ?_
      refine lv_iload_n hx hb dX0_claims_43 rfl (lv_at hl 3 rfl) ?_
      refine r_iald hC hW 1 rfl i rfl (by omega) (by decide) dX0_claims_44 ?_
      by_cases k_15 : (S 1 i) = 1
      · refine lv_tableIn (off := 35) (tgt := 80) hx hb dX0_claims_45 (by rw [k_15]; decide) (by rw [k_15]; decide) (by rw [k_15]; rfl) (by decide) ?_
        refine lv_iload_n hx hb dX0_claims_80 rfl (lv_at hl 1 rfl) ?_
        exact r_zret hC hQ hD hW (by decide) () (bz_t ((clm_1 k_15).mpr c_1)) rfl rfl dX0_claims_81
      by_cases k_16 : (S 1 i) = 2
      · refine lv_tableIn (off := 37) (tgt := 82) hx hb dX0_claims_45 (by rw [k_16]; decide) (by rw [k_16]; decide) (by rw [k_16]; rfl) (by decide) ?_
        refine lv_iload hx hb dX0_claims_82 (lv_at hl 0 rfl) ?_
        exact r_zret hC hQ hD hW (by decide) () (bz_f (fun z => c_14 ((clm_2 k_16).mp z))) rfl rfl dX0_claims_84
      by_cases k_17 : (S 1 i) = 3
      · refine lv_tableIn (off := 62) (tgt := 107) hx hb dX0_claims_45 (by rw [k_17]; decide) (by rw [k_17]; decide) (by rw [k_17]; rfl) (by decide) ?_
        refine lv_iload_n hx hb dX0_claims_107 rfl (lv_at hl 1 rfl) ?_
        refine lv_if_eq (tgt := 125) hx hb dX0_claims_108 (by decide) (fun c => absurd c (by decide)) (fun _ => ?_)
        refine lv_aload_n hx hb dX0_claims_111 rfl (lv_at hl 2 rfl) ?_
        refine r_get hC hW flX0_43 0 rfl rfl dX0_claims_112 ?_
        refine lv_iload_n hx hb dX0_claims_115 rfl (lv_at hl 4 rfl) ?_
        refine r_iald hC hW 7 rfl g rfl (by omega) (by decide) dX0_claims_116 ?_
        refine n_top (hV.nmv (by omega)) ?_
        refine lv_iconst (v := 1) hx hb dX0_claims_117 (by decide) ?_
        refine lv_icmp_lt (tgt := 125) hx hb dX0_claims_118 (by decide) (fun c_18 => ?_) (fun c_18 => ?_)
        · have c_18 : nm S g < 1 := (nI_ltI (a := nm S g) (b := 1) (by omega) (by omega)).mp c_18
          refine lv_iconst (v := 0) hx hb dX0_claims_125 (by decide) ?_
          exact r_zret hC hQ hD hW (by decide) () (bz_f (fun z => by have := ((clm_d (by rw [k_17]; decide) (by rw [k_17]; decide) (by rw [k_17]; decide) (by rw [k_17]; decide)).mp z).2; omega)) rfl rfl dX0_claims_126
        · have c_18 : ¬ nm S g < 1 := fun z_ => c_18 ((nI_ltI (a := nm S g) (b := 1) (by omega) (by omega)).mpr z_)
          refine lv_iconst (v := 1) hx hb dX0_claims_121 (by decide) ?_
          refine lv_goto (tgt := 126) hx hb dX0_claims_122 (by decide) ?_
          exact r_zret hC hQ hD hW (by decide) () (bz_t ((clm_d (by rw [k_17]; decide) (by rw [k_17]; decide) (by rw [k_17]; decide) (by rw [k_17]; decide)).mpr ⟨c_1, by omega⟩)) rfl rfl dX0_claims_126
      by_cases k_19 : (S 1 i) = 4
      · refine lv_tableIn (off := 35) (tgt := 80) hx hb dX0_claims_45 (by rw [k_19]; decide) (by rw [k_19]; decide) (by rw [k_19]; rfl) (by decide) ?_
        refine lv_iload_n hx hb dX0_claims_80 rfl (lv_at hl 1 rfl) ?_
        exact r_zret hC hQ hD hW (by decide) () (bz_t ((clm_4 k_19).mpr c_1)) rfl rfl dX0_claims_81
      by_cases k_20 : (S 1 i) = 5
      · refine lv_tableIn (off := 40) (tgt := 85) hx hb dX0_claims_45 (by rw [k_20]; decide) (by rw [k_20]; decide) (by rw [k_20]; rfl) (by decide) ?_
        refine lv_iload hx hb dX0_claims_85 (lv_at hl 0 rfl) ?_
        refine lv_if_ne (tgt := 101) hx hb dX0_claims_87 (by decide) (fun c => absurd c (by decide)) (fun _ => ?_)
        refine lv_aload_n hx hb dX0_claims_90 rfl (lv_at hl 2 rfl) ?_
        refine r_get hC hW flX0_43 0 rfl rfl dX0_claims_91 ?_
        refine lv_iload_n hx hb dX0_claims_94 rfl (lv_at hl 4 rfl) ?_
        refine r_iald hC hW 7 rfl g rfl (by omega) (by decide) dX0_claims_95 ?_
        refine n_top (hV.nmv (by omega)) ?_
        refine lv_bipush (v := 50) hx hb dX0_claims_96 (by decide) ?_
        refine lv_icmp_lt (tgt := 105) hx hb dX0_claims_98 (by decide) (fun c_21 => ?_) (fun c_21 => ?_)
        · have c_21 : nm S g < 50 := (nI_ltI (a := nm S g) (b := 50) (by omega) (by omega)).mp c_21
          refine lv_iconst (v := 0) hx hb dX0_claims_105 (by decide) ?_
          exact r_zret hC hQ hD hW (by decide) () (bz_f (fun z => ((clm_5 k_20).mp z).elim c_14 (fun y => by omega))) rfl rfl dX0_claims_106
        · have c_21 : ¬ nm S g < 50 := fun z_ => c_21 ((nI_ltI (a := nm S g) (b := 50) (by omega) (by omega)).mpr z_)
          refine lv_iconst (v := 1) hx hb dX0_claims_101 (by decide) ?_
          refine lv_goto (tgt := 106) hx hb dX0_claims_102 (by decide) ?_
          exact r_zret hC hQ hD hW (by decide) () (bz_t ((clm_5 k_20).mpr (Or.inr (by omega)))) rfl rfl dX0_claims_106
      have sw_45 : ((S 1 i) : Int32).toInt < 1 ∨ 5 < ((S 1 i) : Int32).toInt := by
        have := sw_ne (k := 1) (z := 1) (by decide) k_15
        have := sw_ne (k := 2) (z := 2) (by decide) k_16
        have := sw_ne (k := 3) (z := 3) (by decide) k_17
        have := sw_ne (k := 4) (z := 4) (by decide) k_19
        have := sw_ne (k := 5) (z := 5) (by decide) k_20
        omega
      refine lv_tableOut (tgt := 107) hx hb dX0_claims_45 sw_45 (by decide) ?_
      refine lv_iload_n hx hb dX0_claims_107 rfl (lv_at hl 1 rfl) ?_
      refine lv_if_eq (tgt := 125) hx hb dX0_claims_108 (by decide) (fun c => absurd c (by decide)) (fun _ => ?_)
      refine lv_aload_n hx hb dX0_claims_111 rfl (lv_at hl 2 rfl) ?_
      refine r_get hC hW flX0_43 0 rfl rfl dX0_claims_112 ?_
      refine lv_iload_n hx hb dX0_claims_115 rfl (lv_at hl 4 rfl) ?_
      refine r_iald hC hW 7 rfl g rfl (by omega) (by decide) dX0_claims_116 ?_
      refine n_top (hV.nmv (by omega)) ?_
      refine lv_iconst (v := 1) hx hb dX0_claims_117 (by decide) ?_
      refine lv_icmp_lt (tgt := 125) hx hb dX0_claims_118 (by decide) (fun c_22 => ?_) (fun c_22 => ?_)
      · have c_22 : nm S g < 1 := (nI_ltI (a := nm S g) (b := 1) (by omega) (by omega)).mp c_22
        refine lv_iconst (v := 0) hx hb dX0_claims_125 (by decide) ?_
        exact r_zret hC hQ hD hW (by decide) () (bz_f (fun z => by have := ((clm_d k_15 k_16 k_19 k_20).mp z).2; omega)) rfl rfl dX0_claims_126
      · have c_22 : ¬ nm S g < 1 := fun z_ => c_22 ((nI_ltI (a := nm S g) (b := 1) (by omega) (by omega)).mpr z_)
        refine lv_iconst (v := 1) hx hb dX0_claims_121 (by decide) ?_
        refine lv_goto (tgt := 126) hx hb dX0_claims_122 (by decide) ?_
        exact r_zret hC hQ hD hW (by decide) () (bz_t ((clm_d k_15 k_16 k_19 k_20).mpr ⟨c_1, by omega⟩)) rfl rfl dX0_claims_126
    · have c_14 : cOwn S i G + cOth S i G = 0 := (nI_eq (a := cOwn S i G + cOth S i G) (b := 0) (by omega) (by omega)).mp c_14
      refine lv_iconst (v := 1) hx hb dX0_claims_32 (by decide) ?_
      refine lv_goto (tgt := 37) hx hb dX0_claims_33 (by decide) ?_
      refine lv_istore (lv' := [(4, .int 1), (3, .int 1), (0, .ref (h 0)), (1, .int (nI i)), (2, .int (nI g))]) hx hb dX0_claims_37 hl (by decide) rfl (fun ls hl => ?_)
      refine lv_aload_n hx hb dX0_claims_39 rfl (lv_at hl 2 rfl) ?_
      refine r_get hC hW flX0_21 0 rfl rfl dX0_claims_40 ?_
      refine lv_iload_n hx hb dX0_claims_43 rfl (lv_at hl 3 rfl) ?_
      refine r_iald hC hW 1 rfl i rfl (by omega) (by decide) dX0_claims_44 ?_
      by_cases k_23 : (S 1 i) = 1
      · refine lv_tableIn (off := 35) (tgt := 80) hx hb dX0_claims_45 (by rw [k_23]; decide) (by rw [k_23]; decide) (by rw [k_23]; rfl) (by decide) ?_
        refine lv_iload_n hx hb dX0_claims_80 rfl (lv_at hl 1 rfl) ?_
        exact r_zret hC hQ hD hW (by decide) () (bz_t ((clm_1 k_23).mpr c_1)) rfl rfl dX0_claims_81
      by_cases k_24 : (S 1 i) = 2
      · refine lv_tableIn (off := 37) (tgt := 82) hx hb dX0_claims_45 (by rw [k_24]; decide) (by rw [k_24]; decide) (by rw [k_24]; rfl) (by decide) ?_
        refine lv_iload hx hb dX0_claims_82 (lv_at hl 0 rfl) ?_
        exact r_zret hC hQ hD hW (by decide) () (bz_t ((clm_2 k_24).mpr c_14)) rfl rfl dX0_claims_84
      by_cases k_25 : (S 1 i) = 3
      · refine lv_tableIn (off := 62) (tgt := 107) hx hb dX0_claims_45 (by rw [k_25]; decide) (by rw [k_25]; decide) (by rw [k_25]; rfl) (by decide) ?_
        refine lv_iload_n hx hb dX0_claims_107 rfl (lv_at hl 1 rfl) ?_
        refine lv_if_eq (tgt := 125) hx hb dX0_claims_108 (by decide) (fun c => absurd c (by decide)) (fun _ => ?_)
        refine lv_aload_n hx hb dX0_claims_111 rfl (lv_at hl 2 rfl) ?_
        refine r_get hC hW flX0_43 0 rfl rfl dX0_claims_112 ?_
        refine lv_iload_n hx hb dX0_claims_115 rfl (lv_at hl 4 rfl) ?_
        refine r_iald hC hW 7 rfl g rfl (by omega) (by decide) dX0_claims_116 ?_
        refine n_top (hV.nmv (by omega)) ?_
        refine lv_iconst (v := 1) hx hb dX0_claims_117 (by decide) ?_
        refine lv_icmp_lt (tgt := 125) hx hb dX0_claims_118 (by decide) (fun c_26 => ?_) (fun c_26 => ?_)
        · have c_26 : nm S g < 1 := (nI_ltI (a := nm S g) (b := 1) (by omega) (by omega)).mp c_26
          refine lv_iconst (v := 0) hx hb dX0_claims_125 (by decide) ?_
          exact r_zret hC hQ hD hW (by decide) () (bz_f (fun z => by have := ((clm_d (by rw [k_25]; decide) (by rw [k_25]; decide) (by rw [k_25]; decide) (by rw [k_25]; decide)).mp z).2; omega)) rfl rfl dX0_claims_126
        · have c_26 : ¬ nm S g < 1 := fun z_ => c_26 ((nI_ltI (a := nm S g) (b := 1) (by omega) (by omega)).mpr z_)
          refine lv_iconst (v := 1) hx hb dX0_claims_121 (by decide) ?_
          refine lv_goto (tgt := 126) hx hb dX0_claims_122 (by decide) ?_
          exact r_zret hC hQ hD hW (by decide) () (bz_t ((clm_d (by rw [k_25]; decide) (by rw [k_25]; decide) (by rw [k_25]; decide) (by rw [k_25]; decide)).mpr ⟨c_1, by omega⟩)) rfl rfl dX0_claims_126
      by_cases k_27 : (S 1 i) = 4
      · refine lv_tableIn (off := 35) (tgt := 80) hx hb dX0_claims_45 (by rw [k_27]; decide) (by rw [k_27]; decide) (by rw [k_27]; rfl) (by decide) ?_
        refine lv_iload_n hx hb dX0_claims_80 rfl (lv_at hl 1 rfl) ?_
        exact r_zret hC hQ hD hW (by decide) () (bz_t ((clm_4 k_27).mpr c_1)) rfl rfl dX0_claims_81
      by_cases k_28 : (S 1 i) = 5
      · refine lv_tableIn (off := 40) (tgt := 85) hx hb dX0_claims_45 (by rw [k_28]; decide) (by rw [k_28]; decide) (by rw [k_28]; rfl) (by decide) ?_
        refine lv_iload hx hb dX0_claims_85 (lv_at hl 0 rfl) ?_
        refine lv_if_ne (tgt := 101) hx hb dX0_claims_87 (by decide) (fun _ => ?_) (fun c => absurd c (by decide))
        refine lv_iconst (v := 1) hx hb dX0_claims_101 (by decide) ?_
        refine lv_goto (tgt := 106) hx hb dX0_claims_102 (by decide) ?_
        exact r_zret hC hQ hD hW (by decide) () (bz_t ((clm_5 k_28).mpr (Or.inl c_14))) rfl rfl dX0_claims_106
      have sw_45 : ((S 1 i) : Int32).toInt < 1 ∨ 5 < ((S 1 i) : Int32).toInt := by
        have := sw_ne (k := 1) (z := 1) (by decide) k_23
        have := sw_ne (k := 2) (z := 2) (by decide) k_24
        have := sw_ne (k := 3) (z := 3) (by decide) k_25
        have := sw_ne (k := 4) (z := 4) (by decide) k_27
        have := sw_ne (k := 5) (z := 5) (by decide) k_28
        omega
      refine lv_tableOut (tgt := 107) hx hb dX0_claims_45 sw_45 (by decide) ?_
      refine lv_iload_n hx hb dX0_claims_107 rfl (lv_at hl 1 rfl) ?_
      refine lv_if_eq (tgt := 125) hx hb dX0_claims_108 (by decide) (fun c => absurd c (by decide)) (fun _ => ?_)
      refine lv_aload_n hx hb dX0_claims_111 rfl (lv_at hl 2 rfl) ?_
      refine r_get hC hW flX0_43 0 rfl rfl dX0_claims_112 ?_
      refine lv_iload_n hx hb dX0_claims_115 rfl (lv_at hl 4 rfl) ?_
      refine r_iald hC hW 7 rfl g rfl (by omega) (by decide) dX0_claims_116 ?_
      refine n_top (hV.nmv (by omega)) ?_
      refine lv_iconst (v := 1) hx hb dX0_claims_117 (by decide) ?_
      refine lv_icmp_lt (tgt := 125) hx hb dX0_claims_118 (by decide) (fun c_29 => ?_) (fun c_29 => ?_)
      · have c_29 : nm S g < 1 := (nI_ltI (a := nm S g) (b := 1) (by omega) (by omega)).mp c_29
        refine lv_iconst (v := 0) hx hb dX0_claims_125 (by decide) ?_
        exact r_zret hC hQ hD hW (by decide) () (bz_f (fun z => by have := ((clm_d k_23 k_24 k_27 k_28).mp z).2; omega)) rfl rfl dX0_claims_126
      · have c_29 : ¬ nm S g < 1 := fun z_ => c_29 ((nI_ltI (a := nm S g) (b := 1) (by omega) (by omega)).mpr z_)
        refine lv_iconst (v := 1) hx hb dX0_claims_121 (by decide) ?_
        refine lv_goto (tgt := 126) hx hb dX0_claims_122 (by decide) ?_
        exact r_zret hC hQ hD hW (by decide) () (bz_t ((clm_d k_23 k_24 k_27 k_28).mpr ⟨c_1, by omega⟩)) rfl rfl dX0_claims_126
set_option maxHeartbeats 4000000 in
set_option maxRecDepth 100000 in
theorem c_X0_minds (l : Launch) (E : Ev) (h : Nat → Nat) (S : HS) (T : HS) (P : Nat) (G : Nat) (hV : HV S P G) (hT : TAn S T P G) (i : Nat) (hi : i < P) : MI l E yX0_minds cX0_minds 4 .int 0 0 0 0 [.ref (h 0), .int (nI i)] (wcat [HW E h S T]) (fun (r : Int32) (_ : Unit) => r = mnd S i G) (fun (_ : Unit) => (wcat [HW E h S T])) := by
  refine MI_intro RX0 (by decide) rfl (Nat.le_of_ble_eq_true rfl) ?_
  intro p e R s m args below meth c A Q hQ hC hD hW hA ls hl
  have hx := hC.1
  have hb := hC.2.1
  have hW : Wd E A s.heap (wcat [HW E h S T]) s.heap [] := hW
  have hD : Dj A [h 0, h 1, h 2, h 3, h 4, h 5, h 6, h 7, h 8, h 9, h 10] := hD
  have hl : lv_has ls 4 [(0, .ref (h 0)), (1, .int (nI i))] := hl
  have hP := hV.p
  have hP1 := hV.p6
  have hG := hV.g
  have hG1 := hV.g10
  have hca := ct_le (own1 S i) G
  have hca : cOwn S i G ≤ G := hca
  have hcb := ct_le (oth1 S i) G
  have hcb : cOth S i G ≤ G := hcb
  refine lv_aload_n hx hb dX0_minds_0 rfl (lv_at hl 0 rfl) ?_
  refine r_get hC hW flX0_49 0 rfl rfl dX0_minds_1 ?_
  refine lv_iload_n hx hb dX0_minds_4 rfl (lv_at hl 1 rfl) ?_
  refine r_iald hC hW 9 rfl i rfl (by omega) (by decide) dX0_minds_5 ?_
  refine n_top (hT i (by omega)).1 ?_
  refine lv_istore_n (lv' := [(2, .int (nI (cOwn S i G))), (0, .ref (h 0)), (1, .int (nI i))]) hx hb dX0_minds_6 rfl hl (by decide) rfl (fun ls hl => ?_)
  refine lv_aload_n hx hb dX0_minds_7 rfl (lv_at hl 1 rfl) ?_
  refine r_get hC hW flX0_52 0 rfl rfl dX0_minds_8 ?_
  refine lv_iload_n hx hb dX0_minds_11 rfl (lv_at hl 2 rfl) ?_
  refine r_iald hC hW 10 rfl i rfl (by omega) (by decide) dX0_minds_12 ?_
  refine n_top (hT i (by omega)).2 ?_
  refine lv_istore_n (lv' := [(3, .int (nI (cOth S i G))), (2, .int (nI (cOwn S i G))), (0, .ref (h 0)), (1, .int (nI i))]) hx hb dX0_minds_13 rfl hl (by decide) rfl (fun ls hl => ?_)
  refine lv_aload_n hx hb dX0_minds_14 rfl (lv_at hl 2 rfl) ?_
  refine r_get hC hW flX0_21 0 rfl rfl dX0_minds_15 ?_
  refine lv_iload_n hx hb dX0_minds_18 rfl (lv_at hl 3 rfl) ?_
  refine r_iald hC hW 1 rfl i rfl (by omega) (by decide) dX0_minds_19 ?_
  by_cases k_1 : (S 1 i) = 1
  · refine lv_tableIn (off := 36) (tgt := 56) hx hb dX0_minds_20 (by rw [k_1]; decide) (by rw [k_1]; decide) (by rw [k_1]; rfl) (by decide) ?_
    refine lv_iconst (v := 2) hx hb dX0_minds_56 (by decide) ?_
    refine lv_iload_n hx hb dX0_minds_57 rfl (lv_at hl 1 rfl) ?_
    refine n_imul (v := (2 * (nI (cOwn S i G)))) hx hb dX0_minds_58 rfl ?_
    refine lv_iconst (v := 3) hx hb dX0_minds_59 (by decide) ?_
    refine lv_iload_n hx hb dX0_minds_60 rfl (lv_at hl 0 rfl) ?_
    refine n_imul (v := (3 * (nI (cOth S i G)))) hx hb dX0_minds_61 rfl ?_
    refine n_isub (v := ((2 * (nI (cOwn S i G))) - (3 * (nI (cOth S i G))))) hx hb dX0_minds_62 rfl ?_
    exact r_iret hC hQ hD hW () (mnd_1 k_1).symm rfl rfl dX0_minds_63
  by_cases k_2 : (S 1 i) = 2
  · refine lv_tableIn (off := 44) (tgt := 64) hx hb dX0_minds_20 (by rw [k_2]; decide) (by rw [k_2]; decide) (by rw [k_2]; rfl) (by decide) ?_
    refine lv_iload_n hx hb dX0_minds_64 rfl (lv_at hl 1 rfl) ?_
    refine lv_iload_n hx hb dX0_minds_65 rfl (lv_at hl 0 rfl) ?_
    refine n_iadd (v := ((nI (cOwn S i G)) + (nI (cOth S i G)))) hx hb dX0_minds_66 rfl ?_
    exact r_iret hC hQ hD hW () (mnd_2 k_2).symm rfl rfl dX0_minds_67
  by_cases k_3 : (S 1 i) = 3
  · refine lv_tableIn (off := 48) (tgt := 68) hx hb dX0_minds_20 (by rw [k_3]; decide) (by rw [k_3]; decide) (by rw [k_3]; rfl) (by decide) ?_
    refine lv_iload_n hx hb dX0_minds_68 rfl (lv_at hl 1 rfl) ?_
    refine lv_iload_n hx hb dX0_minds_69 rfl (lv_at hl 0 rfl) ?_
    refine n_isub (v := ((nI (cOwn S i G)) - (nI (cOth S i G)))) hx hb dX0_minds_70 rfl ?_
    refine lv_iconst (v := 1) hx hb dX0_minds_71 (by decide) ?_
    refine n_iadd (v := (((nI (cOwn S i G)) - (nI (cOth S i G))) + 1)) hx hb dX0_minds_72 rfl ?_
    exact r_iret hC hQ hD hW () (mnd_3 k_3).symm rfl rfl dX0_minds_73
  by_cases k_4 : (S 1 i) = 4
  · refine lv_tableIn (off := 54) (tgt := 74) hx hb dX0_minds_20 (by rw [k_4]; decide) (by rw [k_4]; decide) (by rw [k_4]; rfl) (by decide) ?_
    refine lv_iconst (v := 2) hx hb dX0_minds_74 (by decide) ?_
    refine lv_iload_n hx hb dX0_minds_75 rfl (lv_at hl 1 rfl) ?_
    refine n_imul (v := (2 * (nI (cOwn S i G)))) hx hb dX0_minds_76 rfl ?_
    refine lv_iconst (v := 3) hx hb dX0_minds_77 (by decide) ?_
    refine lv_iload_n hx hb dX0_minds_78 rfl (lv_at hl 0 rfl) ?_
    refine n_imul (v := (3 * (nI (cOth S i G)))) hx hb dX0_minds_79 rfl ?_
    refine n_isub (v := ((2 * (nI (cOwn S i G))) - (3 * (nI (cOth S i G))))) hx hb dX0_minds_80 rfl ?_
    refine lv_iload_n hx hb dX0_minds_81 rfl (lv_at hl 0 rfl) ?_
    refine lv_if_ne (tgt := 89) hx hb dX0_minds_82 (by decide) (fun c_5 => ?_) (fun c_5 => ?_)
    · have c_5 : ¬ cOth S i G = 0 := fun z_ => c_5 ((nI_eq (a := cOth S i G) (b := 0) (by omega) (by omega)).mpr z_)
      refine lv_iconst (v := 0) hx hb dX0_minds_89 (by decide) ?_
      refine n_iadd (v := (((2 * (nI (cOwn S i G))) - (3 * (nI (cOth S i G)))) + 0)) hx hb dX0_minds_90 rfl ?_
      exact r_iret hC hQ hD hW () (by rw [mnd_4 k_4, if_neg c_5]) rfl rfl dX0_minds_91
    · have c_5 : cOth S i G = 0 := (nI_eq (a := cOth S i G) (b := 0) (by omega) (by omega)).mp c_5
      refine lv_iconst (v := 2) hx hb dX0_minds_85 (by decide) ?_
      refine lv_goto (tgt := 90) hx hb dX0_minds_86 (by decide) ?_
      refine n_iadd (v := (((2 * (nI (cOwn S i G))) - (3 * (nI (cOth S i G)))) + 2)) hx hb dX0_minds_90 rfl ?_
      exact r_iret hC hQ hD hW () (by rw [mnd_4 k_4, if_pos c_5]) rfl rfl dX0_minds_91
  by_cases k_6 : (S 1 i) = 5
  · refine lv_tableIn (off := 72) (tgt := 92) hx hb dX0_minds_20 (by rw [k_6]; decide) (by rw [k_6]; decide) (by rw [k_6]; rfl) (by decide) ?_
    refine lv_iload_n hx hb dX0_minds_92 rfl (lv_at hl 1 rfl) ?_
    refine lv_iconst (v := 2) hx hb dX0_minds_93 (by decide) ?_
    refine lv_iload_n hx hb dX0_minds_94 rfl (lv_at hl 0 rfl) ?_
    refine n_imul (v := (2 * (nI (cOth S i G)))) hx hb dX0_minds_95 rfl ?_
    refine n_iadd (v := ((nI (cOwn S i G)) + (2 * (nI (cOth S i G))))) hx hb dX0_minds_96 rfl ?_
    exact r_iret hC hQ hD hW () (mnd_5 k_6).symm rfl rfl dX0_minds_97
  have sw_20 : ((S 1 i) : Int32).toInt < 1 ∨ 5 < ((S 1 i) : Int32).toInt := by
    have := sw_ne (k := 1) (z := 1) (by decide) k_1
    have := sw_ne (k := 2) (z := 2) (by decide) k_2
    have := sw_ne (k := 3) (z := 3) (by decide) k_3
    have := sw_ne (k := 4) (z := 4) (by decide) k_4
    have := sw_ne (k := 5) (z := 5) (by decide) k_6
    omega
  refine lv_tableOut (tgt := 98) hx hb dX0_minds_20 sw_20 (by decide) ?_
  refine lv_iload_n hx hb dX0_minds_98 rfl (lv_at hl 1 rfl) ?_
  refine lv_iload_n hx hb dX0_minds_99 rfl (lv_at hl 0 rfl) ?_
  refine n_isub (v := ((nI (cOwn S i G)) - (nI (cOth S i G)))) hx hb dX0_minds_100 rfl ?_
  exact r_iret hC hQ hD hW () (mnd_d k_1 k_2 k_3 k_4 k_6).symm rfl rfl dX0_minds_101
set_option maxHeartbeats 4000000 in
set_option maxRecDepth 100000 in
theorem c_X0_tallyOne (l : Launch) (E : Ev) (h : Nat → Nat) (S : HS) (T : HS) (P : Nat) (G : Nat) (hV : HV S P G) (g : Nat) (hg : g < G) (h8 : S 8 g = nI (ho S g)) (h8P : ho S g < P) : MV l E yX0_tallyOne cX0_tallyOne 3 0 0 0 0 [.ref (h 0), .int (nI g)] (wcat [HW E h S T]) (fun (_ : Unit) => True) (fun (_ : Unit) => (wcat [HW E h S (tl1 S T g)])) := by
  refine MV_intro RX0 (by decide) rfl (Nat.le_of_ble_eq_true rfl) ?_
  intro p e R s m args below meth c A Q hQ hC hnm hD hW hA ls hl
  have hx := hC.1
  have hb := hC.2.1
  have hW : Wd E A s.heap (wcat [HW E h S T]) s.heap [] := hW
  have hD : Dj A [h 0, h 1, h 2, h 3, h 4, h 5, h 6, h 7, h 8, h 9, h 10] := hD
  have hl : lv_has ls 3 [(0, .ref (h 0)), (1, .int (nI g))] := hl
  have hP := hV.p
  have hP1 := hV.p6
  have hG := hV.g
  have hG1 := hV.g10
  refine lv_aload_n hx hb dX0_tallyOne_0 rfl (lv_at hl 0 rfl) ?_
  refine r_get hC hW flX0_46 0 rfl rfl dX0_tallyOne_1 ?_
  refine lv_iload_n hx hb dX0_tallyOne_4 rfl (lv_at hl 1 rfl) ?_
  refine r_iald hC hW 8 rfl g rfl (by omega) (by decide) dX0_tallyOne_5 ?_
  refine n_top h8 ?_
  refine lv_istore_n (lv' := [(2, .int (nI (ho S g))), (0, .ref (h 0)), (1, .int (nI g))]) hx hb dX0_tallyOne_6 rfl hl (by decide) rfl (fun ls hl => ?_)
  refine lv_aload_n hx hb dX0_tallyOne_7 rfl (lv_at hl 1 rfl) ?_
  refine r_get hC hW flX0_37 0 rfl rfl dX0_tallyOne_8 ?_
  refine lv_iload_n hx hb dX0_tallyOne_11 rfl (lv_at hl 2 rfl) ?_
  refine r_iald hC hW 5 rfl g rfl (by omega) (by decide) dX0_tallyOne_12 ?_
  refine lv_iload_n hx hb dX0_tallyOne_13 rfl (lv_at hl 0 rfl) ?_
  refine lv_icmp_ne (tgt := 30) hx hb dX0_tallyOne_14 (by decide) (fun c_1 => ?_) (fun c_1 => ?_)
  · refine lv_aload_n hx hb dX0_tallyOne_30 rfl (lv_at hl 1 rfl) ?_
    refine r_get hC hW flX0_52 0 rfl rfl dX0_tallyOne_31 ?_
    refine lv_iload_n hx hb dX0_tallyOne_34 rfl (lv_at hl 0 rfl) ?_
    refine lv_dup2_11 hx hb dX0_tallyOne_35 rfl rfl ?_
    refine r_iald hC hW 10 rfl (ho S g) rfl (by omega) (by decide) dX0_tallyOne_36 ?_
    refine lv_iconst (v := 1) hx hb dX0_tallyOne_37 (by decide) ?_
    refine n_iadd (v := ((T 1 (ho S g)) + 1)) hx hb dX0_tallyOne_38 rfl ?_
    refine r_iast (ws' := (wcat [HW E h S (st T 1 (ho S g) ((T 1 (ho S g)) + 1))])) hC hD hW 10 rfl (ho S g) rfl (by omega) (by decide) rfl rfl dX0_tallyOne_39 (fun H locs hW => ?_)
    exact r_vret hC hQ hD hW () trivial (by rw [show tl1 S T g = st T 1 (ho S g) (T 1 (ho S g) + 1) from if_neg (by rw [h8]; exact c_1)]) rfl dX0_tallyOne_40
  · refine lv_aload_n hx hb dX0_tallyOne_17 rfl (lv_at hl 1 rfl) ?_
    refine r_get hC hW flX0_49 0 rfl rfl dX0_tallyOne_18 ?_
    refine lv_iload_n hx hb dX0_tallyOne_21 rfl (lv_at hl 0 rfl) ?_
    refine lv_dup2_11 hx hb dX0_tallyOne_22 rfl rfl ?_
    refine r_iald hC hW 9 rfl (ho S g) rfl (by omega) (by decide) dX0_tallyOne_23 ?_
    refine lv_iconst (v := 1) hx hb dX0_tallyOne_24 (by decide) ?_
    refine n_iadd (v := ((T 0 (ho S g)) + 1)) hx hb dX0_tallyOne_25 rfl ?_
    refine r_iast (ws' := (wcat [HW E h S (st T 0 (ho S g) ((T 0 (ho S g)) + 1))])) hC hD hW 9 rfl (ho S g) rfl (by omega) (by decide) rfl rfl dX0_tallyOne_26 (fun H locs hW => ?_)
    refine lv_goto (tgt := 40) hx hb dX0_tallyOne_27 (by decide) ?_
    exact r_vret hC hQ hD hW () trivial (by rw [show tl1 S T g = st T 0 (ho S g) (T 0 (ho S g) + 1) from if_pos (by rw [h8]; exact c_1)]) rfl dX0_tallyOne_40
set_option maxHeartbeats 4000000 in
set_option maxRecDepth 100000 in
theorem c_X0_tally (l : Launch) (E : Ev) (h : Nat → Nat) (S : HS) (T : HS) (P : Nat) (G : Nat) (hV : HV S P G) : MV l E yX0_tally cX0_tally 2 1 22 0 0 [.ref (h 0)] (wcat [HW E h S T]) (fun (T2 : HS) => TAn S T2 P G) (fun (T2 : HS) => (wcat [HW E h S T2])) := by
  refine MV_intro RX0 (by decide) rfl (Nat.le_of_ble_eq_true rfl) ?_
  intro p e R s m args below meth c A Q hQ hC hnm hD hW hA ls hl
  have hx := hC.1
  have hb := hC.2.1
  have hW : Wd E A s.heap (wcat [HW E h S T]) s.heap [] := hW
  have hD : Dj A [h 0, h 1, h 2, h 3, h 4, h 5, h 6, h 7, h 8, h 9, h 10] := hD
  have hl : lv_has ls 2 [(0, .ref (h 0))] := hl
  have hP := hV.p
  have hP1 := hV.p6
  have hG := hV.g
  have hG1 := hV.g10
  refine lv_iconst (v := 0) hx hb dX0_tally_0 (by decide) ?_
  refine lv_istore_n (lv' := [(1, .int 0), (0, .ref (h 0))]) hx hb dX0_tally_1 rfl hl (by decide) rfl (fun ls hl => ?_)
  have L2 : ∀ (n_ : Nat) (T1 : HS) (i : Nat) (H : Heap) (locs : List Loc) (ls : Array Slot), P - i < n_ → i ≤ P → (∀ j, j < i → T1 0 j = 0 ∧ T1 1 j = 0) → Wd E A s.heap (wcat [HW E h S T1]) H locs → lv_has ls 2 [(0, .ref (h 0)), (1, .int (nI i))] → W p l e R s m args below meth c H locs 0 0 Q (F0 m 2 ls []) := by
    intro n_
    induction n_ with
    | zero => intro T1 i H locs ls hm; exact absurd hm (Nat.not_lt_zero _)
    | succ n_ ih =>
      intro T1 i H locs ls hm hi hz hW hl
      refine lv_iload_n hx hb dX0_tally_2 rfl (lv_at hl 1 rfl) ?_
      refine lv_aload_n hx hb dX0_tally_3 rfl (lv_at hl 0 rfl) ?_
      refine r_get hC hW flX0_18 0 rfl rfl dX0_tally_4 ?_
      refine n_top hV.p ?_
      refine lv_icmp_ge (tgt := 30) hx hb dX0_tally_7 (by decide) (fun c_1 => ?_) (fun c_1 => ?_)
      · have c_1 : P ≤ i := (nI_leI (a := P) (b := i) (by omega) (by omega)).mp c_1
        refine lv_iconst (v := 0) hx hb dX0_tally_30 (by decide) ?_
        refine lv_istore_n (lv' := [(1, .int 0), (0, .ref (h 0))]) hx hb dX0_tally_31 rfl hl (by decide) rfl (fun ls hl => ?_)
        have L32 : ∀ (n_ : Nat) (T1 : HS) (i : Nat) (H : Heap) (locs : List Loc) (ls : Array Slot), G - i < n_ → i ≤ G → TAn S T1 P i → Wd E A s.heap (wcat [HW E h S T1]) H locs → lv_has ls 2 [(0, .ref (h 0)), (1, .int (nI i))] → W p l e R s m args below meth c H locs 0 0 Q (F0 m 32 ls []) := by
          intro n_
          induction n_ with
          | zero => intro T1 i H locs ls hm; exact absurd hm (Nat.not_lt_zero _)
          | succ n_ ih32 =>
            intro T1 i H locs ls hm hi hn hW hl
            refine lv_iload_n hx hb dX0_tally_32 rfl (lv_at hl 1 rfl) ?_
            refine lv_aload_n hx hb dX0_tally_33 rfl (lv_at hl 0 rfl) ?_
            refine r_get hC hW flX0_34 0 rfl rfl dX0_tally_34 ?_
            refine n_top hV.g ?_
            refine lv_icmp_ge (tgt := 61) hx hb dX0_tally_37 (by decide) (fun c_2 => ?_) (fun c_2 => ?_)
            · have c_2 : G ≤ i := (nI_leI (a := G) (b := i) (by omega) (by omega)).mp c_2
              exact r_vret hC hQ hD hW T1 (by rw [show i = G by omega] at hn; exact hn) rfl rfl dX0_tally_61
            · have c_2 : ¬ G ≤ i := fun z_ => c_2 ((nI_leI (a := G) (b := i) (by omega) (by omega)).mpr z_)
              rcases (hV.gv (show i < G by omega)).ho hP1 with h8 | ⟨h8, h8P⟩
              · refine lv_aload_n hx hb dX0_tally_40 rfl (lv_at hl 0 rfl) ?_
                refine r_get hC hW flX0_46 0 rfl rfl dX0_tally_41 ?_
                refine lv_iload_n hx hb dX0_tally_44 rfl (lv_at hl 1 rfl) ?_
                refine r_iald hC hW 8 rfl i rfl (by omega) (by decide) dX0_tally_45 ?_
                refine n_top h8 ?_
                refine lv_iconst (v := (-1)) hx hb dX0_tally_46 (by decide) ?_
                refine lv_icmp_eq (tgt := 55) hx hb dX0_tally_47 (by decide) (fun _ => ?_) (fun c => absurd c (by decide))
                refine lv_iinc (v := (nI (i + 1))) (lv' := [(1, .int (nI (i + 1))), (0, .ref (h 0))]) (k := 1) hx hb dX0_tally_55 hl rfl (nI_inc i 1) (by decide) rfl (fun ls hl => ?_)
                refine lv_goto (tgt := 32) hx hb dX0_tally_58 (by decide) ?_
                exact ih32 T1 (i + 1) _ _ _ (by omega) (by omega) (TAn_heap hP1 h8 hn) hW (lv_sub hl [1, 0] rfl)
              · refine lv_aload_n hx hb dX0_tally_40 rfl (lv_at hl 0 rfl) ?_
                refine r_get hC hW flX0_46 0 rfl rfl dX0_tally_41 ?_
                refine lv_iload_n hx hb dX0_tally_44 rfl (lv_at hl 1 rfl) ?_
                refine r_iald hC hW 8 rfl i rfl (by omega) (by decide) dX0_tally_45 ?_
                refine n_top h8 ?_
                refine lv_iconst (v := (-1)) hx hb dX0_tally_46 (by decide) ?_
                refine lv_icmp_eq (tgt := 55) hx hb dX0_tally_47 (by decide) (fun c_3 => absurd c_3 (nI_m1 (by omega))) (fun c_3 => ?_)
                refine lv_aload_n hx hb dX0_tally_50 rfl (lv_at hl 0 rfl) ?_
                refine lv_iload_n hx hb dX0_tally_51 rfl (lv_at hl 1 rfl) ?_
                refine r_callCv hC hD hW hA lkX0_79 (c_X0_tallyOne l E h S T1 P G hV i (by omega) h8 h8P) rfl rfl ⟨by decide, by decide, by decide, by decide⟩ [0] rfl rfl rfl (fun _ => rfl) hl.1 rfl rfl (Nat.le_of_ble_eq_true rfl) dX0_tally_52 (fun _ H locs hr_4 hW => ?_)
                have hW : Wd E A s.heap (wcat [HW E h S (tl1 S T1 i)]) H locs := hW
                refine lv_iinc (v := (nI (i + 1))) (lv' := [(1, .int (nI (i + 1))), (0, .ref (h 0))]) (k := 1) hx hb dX0_tally_55 hl rfl (nI_inc i 1) (by decide) rfl (fun ls hl => ?_)
                refine lv_goto (tgt := 32) hx hb dX0_tally_58 (by decide) ?_
                exact ih32 (tl1 S T1 i) (i + 1) _ _ _ (by omega) (by omega) (TAn_tl1 hP1 h8 h8P hn) hW (lv_sub hl [1, 0] rfl)
        exact L32 (G - 0 + 1) T1 0 _ _ _ (Nat.lt_succ_self _) (by omega) (TAn_0 (fun j hj => hz j (by omega))) hW (lv_sub hl [1, 0] rfl)
      · have c_1 : ¬ P ≤ i := fun z_ => c_1 ((nI_leI (a := P) (b := i) (by omega) (by omega)).mpr z_)
        refine lv_aload_n hx hb dX0_tally_10 rfl (lv_at hl 0 rfl) ?_
        refine r_get hC hW flX0_49 0 rfl rfl dX0_tally_11 ?_
        refine lv_iload_n hx hb dX0_tally_14 rfl (lv_at hl 1 rfl) ?_
        refine lv_iconst (v := 0) hx hb dX0_tally_15 (by decide) ?_
        refine r_iast (ws' := (wcat [HW E h S (st T1 0 i 0)])) hC hD hW 9 rfl i rfl (by omega) (by decide) rfl rfl dX0_tally_16 (fun H locs hW => ?_)
        refine lv_aload_n hx hb dX0_tally_17 rfl (lv_at hl 0 rfl) ?_
        refine r_get hC hW flX0_52 0 rfl rfl dX0_tally_18 ?_
        refine lv_iload_n hx hb dX0_tally_21 rfl (lv_at hl 1 rfl) ?_
        refine lv_iconst (v := 0) hx hb dX0_tally_22 (by decide) ?_
        refine r_iast (ws' := (wcat [HW E h S (st (st T1 0 i 0) 1 i 0)])) hC hD hW 10 rfl i rfl (by omega) (by decide) rfl rfl dX0_tally_23 (fun H locs hW => ?_)
        refine lv_iinc (v := (nI (i + 1))) (lv' := [(1, .int (nI (i + 1))), (0, .ref (h 0))]) (k := 1) hx hb dX0_tally_24 hl rfl (nI_inc i 1) (by decide) rfl (fun ls hl => ?_)
        refine lv_goto (tgt := 2) hx hb dX0_tally_27 (by decide) ?_
        exact ih (st (st T1 0 i 0) 1 i 0) (i + 1) _ _ _ (by omega) (by omega) (fun j hj => tz_step hz j hj) hW (lv_sub hl [1, 0] rfl)
  exact L2 (P - 0 + 1) T 0 _ _ _ (Nat.lt_succ_self _) (by omega) lt_0 hW (lv_sub hl [1, 0] rfl)
set_option maxHeartbeats 4000000 in
set_option maxRecDepth 100000 in
theorem c_X0_bringWash (l : Launch) (E : Ev) (h : Nat → Nat) (S : HS) (T : HS) (P : Nat) (G : Nat) (hV : HV S P G) : MV l E yX0_bringWash cX0_bringWash 3 2 44 0 0 [.ref (h 0)] (wcat [HW E h S T]) (fun (_ : Unit) => True) (fun (_ : Unit) => (wcat [HW E h (wN S P G) T])) := by
  refine MV_intro RX0 (by decide) rfl (Nat.le_of_ble_eq_true rfl) ?_
  intro p e R s m args below meth c A Q hQ hC hnm hD hW hA ls hl
  have hx := hC.1
  have hb := hC.2.1
  have hW : Wd E A s.heap (wcat [HW E h S T]) s.heap [] := hW
  have hD : Dj A [h 0, h 1, h 2, h 3, h 4, h 5, h 6, h 7, h 8, h 9, h 10] := hD
  have hl : lv_has ls 3 [(0, .ref (h 0))] := hl
  have hP := hV.p
  have hP1 := hV.p6
  have hG := hV.g
  have hG1 := hV.g10
  refine lv_iconst (v := 0) hx hb dX0_bringWash_0 (by decide) ?_
  refine lv_istore_n (lv' := [(1, .int 0), (0, .ref (h 0))]) hx hb dX0_bringWash_1 rfl hl (by decide) rfl (fun ls hl => ?_)
  have L2 : ∀ (n_ : Nat) (i : Nat) (H : Heap) (locs : List Loc) (ls : Array Slot), G - i < n_ → i ≤ G → Wd E A s.heap (wcat [HW E h (wN S P i) T]) H locs → lv_has ls 3 [(0, .ref (h 0)), (1, .int (nI i))] → W p l e R s m args below meth c H locs 0 0 Q (F0 m 2 ls []) := by
    intro n_
    induction n_ with
    | zero => intro i H locs ls hm; exact absurd hm (Nat.not_lt_zero _)
    | succ n_ ih =>
      intro i H locs ls hm hi hW hl
      refine lv_iload_n hx hb dX0_bringWash_2 rfl (lv_at hl 1 rfl) ?_
      refine lv_aload_n hx hb dX0_bringWash_3 rfl (lv_at hl 0 rfl) ?_
      refine r_get hC hW flX0_34 0 rfl rfl dX0_bringWash_4 ?_
      refine n_top (HV_wN hV i (by omega)).g ?_
      refine lv_icmp_ge (tgt := 93) hx hb dX0_bringWash_7 (by decide) (fun c_1 => ?_) (fun c_1 => ?_)
      · have c_1 : G ≤ i := (nI_leI (a := G) (b := i) (by omega) (by omega)).mp c_1
        exact r_vret hC hQ hD hW () trivial (by rw [show i = G by omega]) rfl dX0_bringWash_93
      · have c_1 : ¬ G ≤ i := fun z_ => c_1 ((nI_leI (a := G) (b := i) (by omega) (by omega)).mpr z_)
        rcases ((HV_wN hV i (by omega)).gv (show i < G by omega)).ho hP1 with h8 | ⟨h8, h8P⟩
        · refine lv_aload_n hx hb dX0_bringWash_10 rfl (lv_at hl 0 rfl) ?_
          refine r_get hC hW flX0_46 0 rfl rfl dX0_bringWash_11 ?_
          refine lv_iload_n hx hb dX0_bringWash_14 rfl (lv_at hl 1 rfl) ?_
          refine r_iald hC hW 8 rfl i rfl (by omega) (by decide) dX0_bringWash_15 ?_
          refine n_top h8 ?_
          refine lv_istore_n (lv' := [(2, .int (-1)), (0, .ref (h 0)), (1, .int (nI i))]) hx hb dX0_bringWash_16 rfl hl (by decide) rfl (fun ls hl => ?_)
          refine lv_iload_n hx hb dX0_bringWash_17 rfl (lv_at hl 0 rfl) ?_
          refine lv_iconst (v := (-1)) hx hb dX0_bringWash_18 (by decide) ?_
          refine lv_icmp_ne (tgt := 25) hx hb dX0_bringWash_19 (by decide) (fun c => absurd c (by decide)) (fun _ => ?_)
          refine lv_goto (tgt := 87) hx hb dX0_bringWash_22 (by decide) ?_
          have hW : Wd E A s.heap (wcat [HW E h (wN S P (i + 1)) T]) H locs := by rw [show wN S P (i + 1) = w1 (wN S P i) P i from rfl, w1_no h8]; exact hW
          refine lv_iinc (v := (nI (i + 1))) (lv' := [(1, .int (nI (i + 1))), (2, .int (-1)), (0, .ref (h 0))]) (k := 2) hx hb dX0_bringWash_87 hl rfl (nI_inc i 1) (by decide) rfl (fun ls hl => ?_)
          refine lv_goto (tgt := 2) hx hb dX0_bringWash_90 (by decide) ?_
          exact ih (i + 1) _ _ _ (by omega) (by omega) hW (lv_sub hl [2, 0] rfl)
        · refine lv_aload_n hx hb dX0_bringWash_10 rfl (lv_at hl 0 rfl) ?_
          refine r_get hC hW flX0_46 0 rfl rfl dX0_bringWash_11 ?_
          refine lv_iload_n hx hb dX0_bringWash_14 rfl (lv_at hl 1 rfl) ?_
          refine r_iald hC hW 8 rfl i rfl (by omega) (by decide) dX0_bringWash_15 ?_
          refine n_top h8 ?_
          refine lv_istore_n (lv' := [(2, .int (nI (ho (wN S P i) i))), (0, .ref (h 0)), (1, .int (nI i))]) hx hb dX0_bringWash_16 rfl hl (by decide) rfl (fun ls hl => ?_)
          refine lv_iload_n hx hb dX0_bringWash_17 rfl (lv_at hl 0 rfl) ?_
          refine lv_iconst (v := (-1)) hx hb dX0_bringWash_18 (by decide) ?_
          refine lv_icmp_ne (tgt := 25) hx hb dX0_bringWash_19 (by decide) (fun c_2 => ?_) (fun c_2 => absurd c_2 (nI_m1 (by omega)))
          refine lv_aload_n hx hb dX0_bringWash_25 rfl (lv_at hl 1 rfl) ?_
          refine r_get hC hW flX0_43 0 rfl rfl dX0_bringWash_26 ?_
          refine lv_iload_n hx hb dX0_bringWash_29 rfl (lv_at hl 2 rfl) ?_
          refine lv_iconst (v := 0) hx hb dX0_bringWash_30 (by decide) ?_
          refine lv_aload_n hx hb dX0_bringWash_31 rfl (lv_at hl 1 rfl) ?_
          refine r_get hC hW flX0_43 0 rfl rfl dX0_bringWash_32 ?_
          refine lv_iload_n hx hb dX0_bringWash_35 rfl (lv_at hl 2 rfl) ?_
          refine r_iald hC hW 7 rfl i rfl (by omega) (by decide) dX0_bringWash_36 ?_
          refine n_top ((HV_wN hV i (by omega)).nmv (by omega)) ?_
          refine lv_aload_n hx hb dX0_bringWash_37 rfl (lv_at hl 1 rfl) ?_
          refine lv_iload_n hx hb dX0_bringWash_38 rfl (lv_at hl 2 rfl) ?_
          refine r_callCi hC hD hW hA lkX0_98 (c_X0_fades l E h (wN S P i) T P G (HV_wN hV i (by omega)) i (by omega)) rfl rfl ⟨by decide, by decide, by decide, by decide⟩ [0] rfl rfl rfl (fun _ => rfl) hl.1 rfl rfl (Nat.le_of_ble_eq_true rfl) dX0_bringWash_39 (fun r_3 _ H locs hr_3 hW => ?_)
          have hW : Wd E A s.heap (wcat [HW E h (wN S P i) T]) H locs := hW
          have hr_3 : r_3 = (nI (fdn (wN S P i) i)) := hr_3
          subst hr_3
          refine n_isub (v := ((nI (nm (wN S P i) i)) - (nI (fdn (wN S P i) i)))) hx hb dX0_bringWash_42 rfl ?_
          refine r_mmax hC lkX0_69 hl.1 (by decide) (by decide) (by decide) (by decide) (Nat.le_of_ble_eq_true rfl) dX0_bringWash_43 ?_
          refine n_top (max_sub2 _ (by have := (HV_wN hV i (by omega)).nm99 (show i < G by omega); omega) _ (by have := fdn_le (g := i) (HV_wN hV i (by omega)); omega)) ?_
          refine r_iast (ws' := (wcat [HW E h (fade (wN S P i) i) T])) hC hD hW 7 rfl i rfl (by omega) (by decide) rfl rfl dX0_bringWash_46 (fun H locs hW => ?_)
          refine lv_iload_n hx hb dX0_bringWash_47 rfl (lv_at hl 0 rfl) ?_
          refine lv_aload_n hx hb dX0_bringWash_48 rfl (lv_at hl 1 rfl) ?_
          refine r_get hC hW flX0_37 0 rfl rfl dX0_bringWash_49 ?_
          refine lv_iload_n hx hb dX0_bringWash_52 rfl (lv_at hl 2 rfl) ?_
          refine r_iald hC hW 5 rfl i rfl (by omega) (by decide) dX0_bringWash_53 ?_
          refine n_top (show (fade (wN S P i) i) 5 i = (wN S P i) 5 i from rfl) ?_
          refine lv_icmp_eq (tgt := 76) hx hb dX0_bringWash_54 (by decide) (fun c_4 => ?_) (fun c_4 => ?_)
          · refine lv_aload_n hx hb dX0_bringWash_76 rfl (lv_at hl 1 rfl) ?_
            refine r_get hC hW flX0_46 0 rfl rfl dX0_bringWash_77 ?_
            refine lv_iload_n hx hb dX0_bringWash_80 rfl (lv_at hl 2 rfl) ?_
            refine lv_aload_n hx hb dX0_bringWash_81 rfl (lv_at hl 1 rfl) ?_
            refine lv_iload_n hx hb dX0_bringWash_82 rfl (lv_at hl 2 rfl) ?_
            refine r_callCi hC hD hW hA lkX0_105 (c_X0_readsFor l E h (fade (wN S P i) i) T P G (HV_fade (HV_wN hV i (by omega)) (by omega)) i (by omega)) rfl rfl ⟨by decide, by decide, by decide, by decide⟩ [0] rfl rfl rfl (fun _ => rfl) hl.1 rfl rfl (Nat.le_of_ble_eq_true rfl) dX0_bringWash_83 (fun r_5 _ H locs hr_5 hW => ?_)
            have hW : Wd E A s.heap (wcat [HW E h (fade (wN S P i) i) T]) H locs := hW
            have hr_5 : r_5 = (rdI (fade (wN S P i) i) P i) := hr_5
            subst hr_5
            refine r_iast (ws' := (wcat [HW E h (st (fade (wN S P i) i) 8 i (rdI (fade (wN S P i) i) P i)) T])) hC hD hW 8 rfl i rfl (by omega) (by decide) rfl rfl dX0_bringWash_86 (fun H locs hW => ?_)
            have hW : Wd E A s.heap (wcat [HW E h (wN S P (i + 1)) T]) H locs := by rw [show wN S P (i + 1) = w1 (wN S P i) P i from rfl, w1_y (ho_ne h8 (by omega)) (Or.inl (h8.trans c_4))]; exact hW
            refine lv_iinc (v := (nI (i + 1))) (lv' := [(1, .int (nI (i + 1))), (2, .int (nI (ho (wN S P i) i))), (0, .ref (h 0))]) (k := 2) hx hb dX0_bringWash_87 hl rfl (nI_inc i 1) (by decide) rfl (fun ls hl => ?_)
            refine lv_goto (tgt := 2) hx hb dX0_bringWash_90 (by decide) ?_
            exact ih (i + 1) _ _ _ (by omega) (by omega) hW (lv_sub hl [2, 0] rfl)
          · refine lv_aload_n hx hb dX0_bringWash_57 rfl (lv_at hl 1 rfl) ?_
            refine r_get hC hW flX0_31 0 rfl rfl dX0_bringWash_58 ?_
            refine lv_iload_n hx hb dX0_bringWash_61 rfl (lv_at hl 0 rfl) ?_
            refine r_iald hC hW 4 rfl (ho (wN S P i) i) rfl (by omega) (by decide) dX0_bringWash_62 ?_
            refine n_top (show (fade (wN S P i) i) 4 (ho (wN S P i) i) = (wN S P i) 4 (ho (wN S P i) i) from rfl) ?_
            refine lv_iconst (v := 1) hx hb dX0_bringWash_63 (by decide) ?_
            refine lv_icmp_eq (tgt := 76) hx hb dX0_bringWash_64 (by decide) (fun c_6 => ?_) (fun c_6 => ?_)
            · refine lv_aload_n hx hb dX0_bringWash_76 rfl (lv_at hl 1 rfl) ?_
              refine r_get hC hW flX0_46 0 rfl rfl dX0_bringWash_77 ?_
              refine lv_iload_n hx hb dX0_bringWash_80 rfl (lv_at hl 2 rfl) ?_
              refine lv_aload_n hx hb dX0_bringWash_81 rfl (lv_at hl 1 rfl) ?_
              refine lv_iload_n hx hb dX0_bringWash_82 rfl (lv_at hl 2 rfl) ?_
              refine r_callCi hC hD hW hA lkX0_105 (c_X0_readsFor l E h (fade (wN S P i) i) T P G (HV_fade (HV_wN hV i (by omega)) (by omega)) i (by omega)) rfl rfl ⟨by decide, by decide, by decide, by decide⟩ [0] rfl rfl rfl (fun _ => rfl) hl.1 rfl rfl (Nat.le_of_ble_eq_true rfl) dX0_bringWash_83 (fun r_7 _ H locs hr_7 hW => ?_)
              have hW : Wd E A s.heap (wcat [HW E h (fade (wN S P i) i) T]) H locs := hW
              have hr_7 : r_7 = (rdI (fade (wN S P i) i) P i) := hr_7
              subst hr_7
              refine r_iast (ws' := (wcat [HW E h (st (fade (wN S P i) i) 8 i (rdI (fade (wN S P i) i) P i)) T])) hC hD hW 8 rfl i rfl (by omega) (by decide) rfl rfl dX0_bringWash_86 (fun H locs hW => ?_)
              have hW : Wd E A s.heap (wcat [HW E h (wN S P (i + 1)) T]) H locs := by rw [show wN S P (i + 1) = w1 (wN S P i) P i from rfl, w1_y (ho_ne h8 (by omega)) (Or.inr (Or.inl c_6))]; exact hW
              refine lv_iinc (v := (nI (i + 1))) (lv' := [(1, .int (nI (i + 1))), (2, .int (nI (ho (wN S P i) i))), (0, .ref (h 0))]) (k := 2) hx hb dX0_bringWash_87 hl rfl (nI_inc i 1) (by decide) rfl (fun ls hl => ?_)
              refine lv_goto (tgt := 2) hx hb dX0_bringWash_90 (by decide) ?_
              exact ih (i + 1) _ _ _ (by omega) (by omega) hW (lv_sub hl [2, 0] rfl)
            · refine lv_aload_n hx hb dX0_bringWash_67 rfl (lv_at hl 1 rfl) ?_
              refine lv_iload_n hx hb dX0_bringWash_68 rfl (lv_at hl 0 rfl) ?_
              refine lv_iload_n hx hb dX0_bringWash_69 rfl (lv_at hl 2 rfl) ?_
              refine r_callCi hC hD hW hA lkX0_101 (c_X0_givesBack l E h (fade (wN S P i) i) T P G (HV_fade (HV_wN hV i (by omega)) (by omega)) (ho (wN S P i) i) i (by omega) (by omega)) rfl rfl ⟨by decide, by decide, by decide, by decide⟩ [0] rfl rfl rfl (fun _ => rfl) hl.1 rfl rfl (Nat.le_of_ble_eq_true rfl) dX0_bringWash_70 (fun r_8 _ H locs hr_8 hW => ?_)
              have hW : Wd E A s.heap (wcat [HW E h (fade (wN S P i) i) T]) H locs := hW
              have hr_8 : bz (giv (fade (wN S P i) i) (ho (wN S P i) i) i) r_8 := hr_8
              rcases hr_8 with ⟨rfl, b_9⟩ | ⟨rfl, b_9⟩
              · refine lv_if_eq (tgt := 87) hx hb dX0_bringWash_73 (by decide) (fun _ => ?_) (fun c => absurd c (by decide))
                have hW : Wd E A s.heap (wcat [HW E h (wN S P (i + 1)) T]) H locs := by rw [show wN S P (i + 1) = w1 (wN S P i) P i from rfl, w1_n (ho_ne h8 (by omega)) (fun z => c_4 (h8.symm.trans z)) c_6 b_9]; exact hW
                refine lv_iinc (v := (nI (i + 1))) (lv' := [(1, .int (nI (i + 1))), (2, .int (nI (ho (wN S P i) i))), (0, .ref (h 0))]) (k := 2) hx hb dX0_bringWash_87 hl rfl (nI_inc i 1) (by decide) rfl (fun ls hl => ?_)
                refine lv_goto (tgt := 2) hx hb dX0_bringWash_90 (by decide) ?_
                exact ih (i + 1) _ _ _ (by omega) (by omega) hW (lv_sub hl [2, 0] rfl)
              · refine lv_if_eq (tgt := 87) hx hb dX0_bringWash_73 (by decide) (fun c => absurd c (by decide)) (fun _ => ?_)
                refine lv_aload_n hx hb dX0_bringWash_76 rfl (lv_at hl 1 rfl) ?_
                refine r_get hC hW flX0_46 0 rfl rfl dX0_bringWash_77 ?_
                refine lv_iload_n hx hb dX0_bringWash_80 rfl (lv_at hl 2 rfl) ?_
                refine lv_aload_n hx hb dX0_bringWash_81 rfl (lv_at hl 1 rfl) ?_
                refine lv_iload_n hx hb dX0_bringWash_82 rfl (lv_at hl 2 rfl) ?_
                refine r_callCi hC hD hW hA lkX0_105 (c_X0_readsFor l E h (fade (wN S P i) i) T P G (HV_fade (HV_wN hV i (by omega)) (by omega)) i (by omega)) rfl rfl ⟨by decide, by decide, by decide, by decide⟩ [0] rfl rfl rfl (fun _ => rfl) hl.1 rfl rfl (Nat.le_of_ble_eq_true rfl) dX0_bringWash_83 (fun r_10 _ H locs hr_10 hW => ?_)
                have hW : Wd E A s.heap (wcat [HW E h (fade (wN S P i) i) T]) H locs := hW
                have hr_10 : r_10 = (rdI (fade (wN S P i) i) P i) := hr_10
                subst hr_10
                refine r_iast (ws' := (wcat [HW E h (st (fade (wN S P i) i) 8 i (rdI (fade (wN S P i) i) P i)) T])) hC hD hW 8 rfl i rfl (by omega) (by decide) rfl rfl dX0_bringWash_86 (fun H locs hW => ?_)
                have hW : Wd E A s.heap (wcat [HW E h (wN S P (i + 1)) T]) H locs := by rw [show wN S P (i + 1) = w1 (wN S P i) P i from rfl, w1_y (ho_ne h8 (by omega)) (Or.inr (Or.inr (giB_t.mpr b_9)))]; exact hW
                refine lv_iinc (v := (nI (i + 1))) (lv' := [(1, .int (nI (i + 1))), (2, .int (nI (ho (wN S P i) i))), (0, .ref (h 0))]) (k := 2) hx hb dX0_bringWash_87 hl rfl (nI_inc i 1) (by decide) rfl (fun ls hl => ?_)
                refine lv_goto (tgt := 2) hx hb dX0_bringWash_90 (by decide) ?_
                exact ih (i + 1) _ _ _ (by omega) (by omega) hW (lv_sub hl [2, 0] rfl)
  exact L2 (G - 0 + 1) 0 _ _ _ (Nat.lt_succ_self _) (by omega) hW (lv_sub hl [1, 0] rfl)
set_option maxHeartbeats 4000000 in
set_option maxRecDepth 100000 in
theorem c_X0_leastClaimant (l : Launch) (E : Ev) (h : Nat → Nat) (S : HS) (T : HS) (P : Nat) (G : Nat) (hV : HV S P G) (hT : TAn S T P G) (g : Nat) (hg : g < G) : MI l E yX0_leastClaimant cX0_leastClaimant 3 .int 1 24 0 0 [.ref (h 0), .int (nI g)] (wcat [HW E h S T]) (fun (r : Int32) (_ : Unit) => r = lsI (cls S g G) P) (fun (_ : Unit) => (wcat [HW E h S T])) := by
  refine MI_intro RX0 (by decide) rfl (Nat.le_of_ble_eq_true rfl) ?_
  intro p e R s m args below meth c A Q hQ hC hD hW hA ls hl
  have hx := hC.1
  have hb := hC.2.1
  have hW : Wd E A s.heap (wcat [HW E h S T]) s.heap [] := hW
  have hD : Dj A [h 0, h 1, h 2, h 3, h 4, h 5, h 6, h 7, h 8, h 9, h 10] := hD
  have hl : lv_has ls 3 [(0, .ref (h 0)), (1, .int (nI g))] := hl
  have hP := hV.p
  have hP1 := hV.p6
  have hG := hV.g
  have hG1 := hV.g10
  refine lv_iconst (v := 0) hx hb dX0_leastClaimant_0 (by decide) ?_
  refine lv_istore_n (lv' := [(2, .int 0), (0, .ref (h 0)), (1, .int (nI g))]) hx hb dX0_leastClaimant_1 rfl hl (by decide) rfl (fun ls hl => ?_)
  have L2 : ∀ (n_ : Nat) (i : Nat) (H : Heap) (locs : List Loc) (ls : Array Slot), P - i < n_ → i ≤ P → (∀ j, j < i → cls S g G j = false) → Wd E A s.heap (wcat [HW E h S T]) H locs → lv_has ls 3 [(0, .ref (h 0)), (1, .int (nI g)), (2, .int (nI i))] → W p l e R s m args below meth c H locs 0 0 Q (F0 m 2 ls []) := by
    intro n_
    induction n_ with
    | zero => intro i H locs ls hm; exact absurd hm (Nat.not_lt_zero _)
    | succ n_ ih =>
      intro i H locs ls hm hi hno hW hl
      refine lv_iload_n hx hb dX0_leastClaimant_2 rfl (lv_at hl 2 rfl) ?_
      refine lv_aload_n hx hb dX0_leastClaimant_3 rfl (lv_at hl 0 rfl) ?_
      refine r_get hC hW flX0_18 0 rfl rfl dX0_leastClaimant_4 ?_
      refine n_top hV.p ?_
      refine lv_icmp_ge (tgt := 36) hx hb dX0_leastClaimant_7 (by decide) (fun c_1 => ?_) (fun c_1 => ?_)
      · have c_1 : P ≤ i := (nI_leI (a := P) (b := i) (by omega) (by omega)).mp c_1
        refine lv_iconst (v := (-1)) hx hb dX0_leastClaimant_36 (by decide) ?_
        exact r_iret hC hQ hD hW () (lsI_none (fun j hj => hno j (by omega))).symm rfl rfl dX0_leastClaimant_37
      · have c_1 : ¬ P ≤ i := fun z_ => c_1 ((nI_leI (a := P) (b := i) (by omega) (by omega)).mpr z_)
        refine lv_aload_n hx hb dX0_leastClaimant_10 rfl (lv_at hl 0 rfl) ?_
        refine r_get hC hW flX0_31 0 rfl rfl dX0_leastClaimant_11 ?_
        refine lv_iload_n hx hb dX0_leastClaimant_14 rfl (lv_at hl 2 rfl) ?_
        refine r_iald hC hW 4 rfl i rfl (by omega) (by decide) dX0_leastClaimant_15 ?_
        refine lv_if_ne (tgt := 30) hx hb dX0_leastClaimant_16 (by decide) (fun c_2 => ?_) (fun c_2 => ?_)
        · refine lv_iinc (v := (nI (i + 1))) (lv' := [(2, .int (nI (i + 1))), (0, .ref (h 0)), (1, .int (nI g))]) (k := 2) hx hb dX0_leastClaimant_30 hl rfl (nI_inc i 1) (by decide) rfl (fun ls hl => ?_)
          refine lv_goto (tgt := 2) hx hb dX0_leastClaimant_33 (by decide) ?_
          exact ih (i + 1) _ _ _ (by omega) (by omega) (lt_s hno (cls_f1 c_2)) hW (lv_sub hl [1, 2, 0] rfl)
        · refine lv_aload_n hx hb dX0_leastClaimant_19 rfl (lv_at hl 0 rfl) ?_
          refine lv_iload_n hx hb dX0_leastClaimant_20 rfl (lv_at hl 2 rfl) ?_
          refine lv_iload_n hx hb dX0_leastClaimant_21 rfl (lv_at hl 1 rfl) ?_
          refine r_callCi hC hD hW hA lkX0_111 (c_X0_claims l E h S T P G hV hT i g (by omega) (by omega)) rfl rfl ⟨by decide, by decide, by decide, by decide⟩ [0] rfl rfl rfl (fun _ => rfl) hl.1 rfl rfl (Nat.le_of_ble_eq_true rfl) dX0_leastClaimant_22 (fun r_3 _ H locs hr_3 hW => ?_)
          have hW : Wd E A s.heap (wcat [HW E h S T]) H locs := hW
          have hr_3 : bz (clm S i g G) r_3 := hr_3
          rcases hr_3 with ⟨rfl, b_4⟩ | ⟨rfl, b_4⟩
          · refine lv_if_eq (tgt := 30) hx hb dX0_leastClaimant_25 (by decide) (fun _ => ?_) (fun c => absurd c (by decide))
            refine lv_iinc (v := (nI (i + 1))) (lv' := [(2, .int (nI (i + 1))), (0, .ref (h 0)), (1, .int (nI g))]) (k := 2) hx hb dX0_leastClaimant_30 hl rfl (nI_inc i 1) (by decide) rfl (fun ls hl => ?_)
            refine lv_goto (tgt := 2) hx hb dX0_leastClaimant_33 (by decide) ?_
            exact ih (i + 1) _ _ _ (by omega) (by omega) (lt_s hno (cls_f2 b_4)) hW (lv_sub hl [1, 2, 0] rfl)
          · refine lv_if_eq (tgt := 30) hx hb dX0_leastClaimant_25 (by decide) (fun c => absurd c (by decide)) (fun _ => ?_)
            refine lv_iload_n hx hb dX0_leastClaimant_28 rfl (lv_at hl 2 rfl) ?_
            exact r_iret hC hQ hD hW () (lsI_hit (cls_t c_2 b_4) hno (by omega) (by omega)).symm rfl rfl dX0_leastClaimant_29
  exact L2 (P - 0 + 1) 0 _ _ _ (Nat.lt_succ_self _) (by omega) lt_0 hW (lv_sub hl [1, 2, 0] rfl)
set_option maxHeartbeats 4000000 in
set_option maxRecDepth 100000 in
theorem c_X0_layTable (l : Launch) (E : Ev) (h : Nat → Nat) (S : HS) (T : HS) (P : Nat) (G : Nat) (hV : HV S P G) (hT : TAn S T P G) : MV l E yX0_layTable cX0_layTable 2 2 46 0 0 [.ref (h 0)] (wcat [HW E h S T]) (fun (T2 : HS) => TAn (yN S P G G) T2 P G) (fun (T2 : HS) => (wcat [HW E h (yN S P G G) T2])) := by
  refine MV_intro RX0 (by decide) rfl (Nat.le_of_ble_eq_true rfl) ?_
  intro p e R s m args below meth c A Q hQ hC hnm hD hW hA ls hl
  have hx := hC.1
  have hb := hC.2.1
  have hW : Wd E A s.heap (wcat [HW E h S T]) s.heap [] := hW
  have hD : Dj A [h 0, h 1, h 2, h 3, h 4, h 5, h 6, h 7, h 8, h 9, h 10] := hD
  have hl : lv_has ls 2 [(0, .ref (h 0))] := hl
  have hP := hV.p
  have hP1 := hV.p6
  have hG := hV.g
  have hG1 := hV.g10
  refine lv_iconst (v := 0) hx hb dX0_layTable_0 (by decide) ?_
  refine lv_istore_n (lv' := [(1, .int 0), (0, .ref (h 0))]) hx hb dX0_layTable_1 rfl hl (by decide) rfl (fun ls hl => ?_)
  have L2 : ∀ (n_ : Nat) (T1 : HS) (i : Nat) (H : Heap) (locs : List Loc) (ls : Array Slot), G - i < n_ → i ≤ G → TAn (yN S P G i) T1 P G → Wd E A s.heap (wcat [HW E h (yN S P G i) T1]) H locs → lv_has ls 2 [(0, .ref (h 0)), (1, .int (nI i))] → W p l e R s m args below meth c H locs 0 0 Q (F0 m 2 ls []) := by
    intro n_
    induction n_ with
    | zero => intro T1 i H locs ls hm; exact absurd hm (Nat.not_lt_zero _)
    | succ n_ ih =>
      intro T1 i H locs ls hm hi hn hW hl
      refine lv_iload_n hx hb dX0_layTable_2 rfl (lv_at hl 1 rfl) ?_
      refine lv_aload_n hx hb dX0_layTable_3 rfl (lv_at hl 0 rfl) ?_
      refine r_get hC hW flX0_34 0 rfl rfl dX0_layTable_4 ?_
      refine n_top (HV_yN hV i).g ?_
      refine lv_icmp_ge (tgt := 52) hx hb dX0_layTable_7 (by decide) (fun c_1 => ?_) (fun c_1 => ?_)
      · have c_1 : G ≤ i := (nI_leI (a := G) (b := i) (by omega) (by omega)).mp c_1
        exact r_vret hC hQ hD hW T1 (by rw [show i = G by omega] at hn; exact hn) (by rw [show i = G by omega]) rfl dX0_layTable_52
      · have c_1 : ¬ G ≤ i := fun z_ => c_1 ((nI_leI (a := G) (b := i) (by omega) (by omega)).mpr z_)
        rcases ((HV_yN hV i).gv (show i < G by omega)).ho hP1 with h8 | ⟨h8, h8P⟩
        · refine lv_aload_n hx hb dX0_layTable_10 rfl (lv_at hl 0 rfl) ?_
          refine r_get hC hW flX0_46 0 rfl rfl dX0_layTable_11 ?_
          refine lv_iload_n hx hb dX0_layTable_14 rfl (lv_at hl 1 rfl) ?_
          refine r_iald hC hW 8 rfl i rfl (by omega) (by decide) dX0_layTable_15 ?_
          refine n_top h8 ?_
          refine lv_iconst (v := (-1)) hx hb dX0_layTable_16 (by decide) ?_
          refine lv_icmp_ne (tgt := 46) hx hb dX0_layTable_17 (by decide) (fun c => absurd c (by decide)) (fun _ => ?_)
          refine lv_aload_n hx hb dX0_layTable_20 rfl (lv_at hl 0 rfl) ?_
          refine r_get hC hW flX0_46 0 rfl rfl dX0_layTable_21 ?_
          refine lv_iload_n hx hb dX0_layTable_24 rfl (lv_at hl 1 rfl) ?_
          refine lv_aload_n hx hb dX0_layTable_25 rfl (lv_at hl 0 rfl) ?_
          refine lv_iload_n hx hb dX0_layTable_26 rfl (lv_at hl 1 rfl) ?_
          refine r_callCi hC hD hW hA lkX0_108 (c_X0_leastClaimant l E h (yN S P G i) T1 P G (HV_yN hV i) hn i (by omega)) rfl rfl ⟨by decide, by decide, by decide, by decide⟩ [0] rfl rfl rfl (fun _ => rfl) hl.1 rfl rfl (Nat.le_of_ble_eq_true rfl) dX0_layTable_27 (fun r_2 _ H locs hr_2 hW => ?_)
          have hW : Wd E A s.heap (wcat [HW E h (yN S P G i) T1]) H locs := hW
          have hr_2 : r_2 = (lsI (cls (yN S P G i) i G) P) := hr_2
          subst hr_2
          refine r_iast (ws' := (wcat [HW E h (st (yN S P G i) 8 i (lsI (cls (yN S P G i) i G) P)) T1])) hC hD hW 8 rfl i rfl (by omega) (by decide) rfl rfl dX0_layTable_30 (fun H locs hW => ?_)
          refine lv_aload_n hx hb dX0_layTable_31 rfl (lv_at hl 0 rfl) ?_
          refine r_get hC hW flX0_46 0 rfl rfl dX0_layTable_32 ?_
          refine lv_iload_n hx hb dX0_layTable_35 rfl (lv_at hl 1 rfl) ?_
          refine r_iald hC hW 8 rfl i rfl (by omega) (by decide) dX0_layTable_36 ?_
          refine n_top (show upd (yN S P G i 8) i (lsI (cls (yN S P G i) i G) P) i = _ from upd_at _ _ _) ?_
          refine lv_iconst (v := (-1)) hx hb dX0_layTable_37 (by decide) ?_
          refine lv_icmp_eq (tgt := 46) hx hb dX0_layTable_38 (by decide) (fun c_3 => ?_) (fun c_3 => ?_)
          · refine lv_iinc (v := (nI (i + 1))) (lv' := [(1, .int (nI (i + 1))), (0, .ref (h 0))]) (k := 1) hx hb dX0_layTable_46 hl rfl (nI_inc i 1) (by decide) rfl (fun ls hl => ?_)
            refine lv_goto (tgt := 2) hx hb dX0_layTable_49 (by decide) ?_
            exact ih T1 (i + 1) _ _ _ (by omega) (by omega) (by rw [show yN S P G (i + 1) = y1 (yN S P G i) P G i from rfl, y1_y h8]; exact TAn_same8 h8 c_3 hn) (by rw [show yN S P G (i + 1) = y1 (yN S P G i) P G i from rfl, y1_y h8]; exact hW) (lv_sub hl [1, 0] rfl)
          · obtain ⟨q0, hq0, hq1⟩ : ∃ j, j < P ∧ lsI (cls (yN S P G i) i G) P = nI j := (lsI_cases _ (by omega)).resolve_left c_3
            have hV2 : HV (st (yN S P G i) 8 i (lsI (cls (yN S P G i) i G) P)) P G := HV_8 (HV_yN hV i) (Or.inr ⟨q0, hq0, hq1⟩)
            have e8 : (st (yN S P G i) 8 i (lsI (cls (yN S P G i) i G) P)) 8 i = nI q0 := (upd_at _ _ _).trans hq1
            have eho : ho (st (yN S P G i) 8 i (lsI (cls (yN S P G i) i G) P)) i = q0 := by unfold ho; rw [e8, nI_clamp (by omega)]
            refine lv_aload_n hx hb dX0_layTable_41 rfl (lv_at hl 0 rfl) ?_
            refine lv_iload_n hx hb dX0_layTable_42 rfl (lv_at hl 1 rfl) ?_
            refine r_callCv hC hD hW hA lkX0_79 (c_X0_tallyOne l E h (st (yN S P G i) 8 i (lsI (cls (yN S P G i) i G) P)) T1 P G hV2 i (by omega) (by rw [eho]; exact e8) (by rw [eho]; exact hq0)) rfl rfl ⟨by decide, by decide, by decide, by decide⟩ [0] rfl rfl rfl (fun _ => rfl) hl.1 rfl rfl (Nat.le_of_ble_eq_true rfl) dX0_layTable_43 (fun _ H locs hr_4 hW => ?_)
            have hW : Wd E A s.heap (wcat [HW E h (st (yN S P G i) 8 i (lsI (cls (yN S P G i) i G) P)) (tl1 (st (yN S P G i) 8 i (lsI (cls (yN S P G i) i G) P)) T1 i)]) H locs := hW
            refine lv_iinc (v := (nI (i + 1))) (lv' := [(1, .int (nI (i + 1))), (0, .ref (h 0))]) (k := 1) hx hb dX0_layTable_46 hl rfl (nI_inc i 1) (by decide) rfl (fun ls hl => ?_)
            refine lv_goto (tgt := 2) hx hb dX0_layTable_49 (by decide) ?_
            exact ih (tl1 (st (yN S P G i) 8 i (lsI (cls (yN S P G i) i G) P)) T1 i) (i + 1) _ _ _ (by omega) (by omega) (by rw [show yN S P G (i + 1) = y1 (yN S P G i) P G i from rfl, y1_y h8]; exact TAn_lay hP1 (by omega) h8 hq1 hq0 hn) (by rw [show yN S P G (i + 1) = y1 (yN S P G i) P G i from rfl, y1_y h8]; exact hW) (lv_sub hl [1, 0] rfl)
        · refine lv_aload_n hx hb dX0_layTable_10 rfl (lv_at hl 0 rfl) ?_
          refine r_get hC hW flX0_46 0 rfl rfl dX0_layTable_11 ?_
          refine lv_iload_n hx hb dX0_layTable_14 rfl (lv_at hl 1 rfl) ?_
          refine r_iald hC hW 8 rfl i rfl (by omega) (by decide) dX0_layTable_15 ?_
          refine n_top h8 ?_
          refine lv_iconst (v := (-1)) hx hb dX0_layTable_16 (by decide) ?_
          refine lv_icmp_ne (tgt := 46) hx hb dX0_layTable_17 (by decide) (fun c_5 => ?_) (fun c_5 => absurd c_5 (nI_m1 (by omega)))
          refine lv_iinc (v := (nI (i + 1))) (lv' := [(1, .int (nI (i + 1))), (0, .ref (h 0))]) (k := 1) hx hb dX0_layTable_46 hl rfl (nI_inc i 1) (by decide) rfl (fun ls hl => ?_)
          refine lv_goto (tgt := 2) hx hb dX0_layTable_49 (by decide) ?_
          exact ih T1 (i + 1) _ _ _ (by omega) (by omega) (by rw [show yN S P G (i + 1) = y1 (yN S P G i) P G i from rfl, y1_n (ho_ne h8 (by omega))]; exact hn) (by rw [show yN S P G (i + 1) = y1 (yN S P G i) P G i from rfl, y1_n (ho_ne h8 (by omega))]; exact hW) (lv_sub hl [1, 0] rfl)
  exact L2 (G - 0 + 1) T 0 _ _ _ (Nat.lt_succ_self _) (by omega) hT hW (lv_sub hl [1, 0] rfl)
set_option maxHeartbeats 4000000 in
set_option maxRecDepth 100000 in
theorem c_X0_addContents (l : Launch) (E : Ev) (h : Nat → Nat) (S : HS) (T : HS) (P : Nat) (G : Nat) (hV : HV S P G) (hT : TAn S T P G) : MV l E yX0_addContents cX0_addContents 3 1 23 0 0 [.ref (h 0)] (wcat [HW E h S T]) (fun (_ : Unit) => True) (fun (_ : Unit) => (wcat [HW E h (kN S G P) T])) := by
  refine MV_intro RX0 (by decide) rfl (Nat.le_of_ble_eq_true rfl) ?_
  intro p e R s m args below meth c A Q hQ hC hnm hD hW hA ls hl
  have hx := hC.1
  have hb := hC.2.1
  have hW : Wd E A s.heap (wcat [HW E h S T]) s.heap [] := hW
  have hD : Dj A [h 0, h 1, h 2, h 3, h 4, h 5, h 6, h 7, h 8, h 9, h 10] := hD
  have hl : lv_has ls 3 [(0, .ref (h 0))] := hl
  have hP := hV.p
  have hP1 := hV.p6
  have hG := hV.g
  have hG1 := hV.g10
  refine lv_iconst (v := 0) hx hb dX0_addContents_0 (by decide) ?_
  refine lv_istore_n (lv' := [(1, .int 0), (0, .ref (h 0))]) hx hb dX0_addContents_1 rfl hl (by decide) rfl (fun ls hl => ?_)
  have L2 : ∀ (n_ : Nat) (i : Nat) (H : Heap) (locs : List Loc) (ls : Array Slot), P - i < n_ → i ≤ P → Wd E A s.heap (wcat [HW E h (kN S G i) T]) H locs → lv_has ls 3 [(0, .ref (h 0)), (1, .int (nI i))] → W p l e R s m args below meth c H locs 0 0 Q (F0 m 2 ls []) := by
    intro n_
    induction n_ with
    | zero => intro i H locs ls hm; exact absurd hm (Nat.not_lt_zero _)
    | succ n_ ih =>
      intro i H locs ls hm hi hW hl
      refine lv_iload_n hx hb dX0_addContents_2 rfl (lv_at hl 1 rfl) ?_
      refine lv_aload_n hx hb dX0_addContents_3 rfl (lv_at hl 0 rfl) ?_
      refine r_get hC hW flX0_18 0 rfl rfl dX0_addContents_4 ?_
      refine n_top (HV_kN hV i).p ?_
      refine lv_icmp_ge (tgt := 57) hx hb dX0_addContents_7 (by decide) (fun c_1 => ?_) (fun c_1 => ?_)
      · have c_1 : P ≤ i := (nI_leI (a := P) (b := i) (by omega) (by omega)).mp c_1
        exact r_vret hC hQ hD hW () trivial (by rw [show i = P by omega]) rfl dX0_addContents_57
      · have c_1 : ¬ P ≤ i := fun z_ => c_1 ((nI_leI (a := P) (b := i) (by omega) (by omega)).mpr z_)
        refine lv_aload_n hx hb dX0_addContents_10 rfl (lv_at hl 0 rfl) ?_
        refine r_get hC hW flX0_31 0 rfl rfl dX0_addContents_11 ?_
        refine lv_iload_n hx hb dX0_addContents_14 rfl (lv_at hl 1 rfl) ?_
        refine r_iald hC hW 4 rfl i rfl (by omega) (by decide) dX0_addContents_15 ?_
        refine lv_if_ne (tgt := 51) hx hb dX0_addContents_16 (by decide) (fun c_2 => ?_) (fun c_2 => ?_)
        · have hW : Wd E A s.heap (wcat [HW E h (kN S G (i + 1)) T]) H locs := by rw [kN_f c_2]; exact hW
          refine lv_iinc (v := (nI (i + 1))) (lv' := [(1, .int (nI (i + 1))), (0, .ref (h 0))]) (k := 1) hx hb dX0_addContents_51 hl rfl (nI_inc i 1) (by decide) rfl (fun ls hl => ?_)
          refine lv_goto (tgt := 2) hx hb dX0_addContents_54 (by decide) ?_
          exact ih (i + 1) _ _ _ (by omega) (by omega) hW (lv_sub hl [1, 0] rfl)
        · refine lv_aload_n hx hb dX0_addContents_19 rfl (lv_at hl 0 rfl) ?_
          refine r_get hC hW flX0_28 0 rfl rfl dX0_addContents_20 ?_
          refine lv_iload_n hx hb dX0_addContents_23 rfl (lv_at hl 1 rfl) ?_
          refine r_iald hC hW 3 rfl i rfl (by omega) (by decide) dX0_addContents_24 ?_
          refine lv_aload_n hx hb dX0_addContents_25 rfl (lv_at hl 0 rfl) ?_
          refine lv_iload_n hx hb dX0_addContents_26 rfl (lv_at hl 1 rfl) ?_
          refine r_callCi hC hD hW hA lkX0_114 (c_X0_minds l E h (kN S G i) T P G (HV_kN hV i) (TAn_kN hT i) i (by omega)) rfl rfl ⟨by decide, by decide, by decide, by decide⟩ [0] rfl rfl rfl (fun _ => rfl) hl.1 rfl rfl (Nat.le_of_ble_eq_true rfl) dX0_addContents_27 (fun r_3 _ H locs hr_3 hW => ?_)
          have hW : Wd E A s.heap (wcat [HW E h (kN S G i) T]) H locs := hW
          have hr_3 : r_3 = (mnd (kN S G i) i G) := hr_3
          subst hr_3
          refine n_iadd (v := (((kN S G i) 3 i) + (mnd (kN S G i) i G))) hx hb dX0_addContents_30 rfl ?_
          refine lv_istore_n (lv' := [(2, .int (((kN S G i) 3 i) + (mnd (kN S G i) i G))), (0, .ref (h 0)), (1, .int (nI i))]) hx hb dX0_addContents_31 rfl hl (by decide) rfl (fun ls hl => ?_)
          refine lv_aload_n hx hb dX0_addContents_32 rfl (lv_at hl 1 rfl) ?_
          refine r_get hC hW flX0_28 0 rfl rfl dX0_addContents_33 ?_
          refine lv_iload_n hx hb dX0_addContents_36 rfl (lv_at hl 2 rfl) ?_
          refine lv_sipush (v := (-999)) hx hb dX0_addContents_37 (by decide) ?_
          refine lv_sipush (v := 999) hx hb dX0_addContents_40 (by decide) ?_
          refine lv_iload_n hx hb dX0_addContents_43 rfl (lv_at hl 0 rfl) ?_
          refine r_mmin hC lkX0_117 hl.1 (by decide) (by decide) (by decide) (by decide) (Nat.le_of_ble_eq_true rfl) dX0_addContents_44 ?_
          refine r_mmax hC lkX0_69 hl.1 (by decide) (by decide) (by decide) (by decide) (Nat.le_of_ble_eq_true rfl) dX0_addContents_47 ?_
          refine n_top (hld_mm _) ?_
          refine r_iast (ws' := (wcat [HW E h (st (kN S G i) 3 i (hld ((kN S G i) 3 i + mnd (kN S G i) i G))) T])) hC hD hW 3 rfl i rfl (by omega) (by decide) rfl rfl dX0_addContents_50 (fun H locs hW => ?_)
          have hW : Wd E A s.heap (wcat [HW E h (kN S G (i + 1)) T]) H locs := by rw [kN_t c_2]; exact hW
          refine lv_iinc (v := (nI (i + 1))) (lv' := [(1, .int (nI (i + 1))), (2, .int (((kN S G i) 3 i) + (mnd (kN S G i) i G))), (0, .ref (h 0))]) (k := 2) hx hb dX0_addContents_51 hl rfl (nI_inc i 1) (by decide) rfl (fun ls hl => ?_)
          refine lv_goto (tgt := 2) hx hb dX0_addContents_54 (by decide) ?_
          exact ih (i + 1) _ _ _ (by omega) (by omega) hW (lv_sub hl [2, 0] rfl)
  exact L2 (P - 0 + 1) 0 _ _ _ (Nat.lt_succ_self _) (by omega) hW (lv_sub hl [1, 0] rfl)
set_option maxHeartbeats 4000000 in
set_option maxRecDepth 100000 in
theorem c_X0_goWeeks (l : Launch) (E : Ev) (h : Nat → Nat) (S : HS) (T : HS) (P : Nat) (G : Nat) (hV : HV S P G) (n : Nat) (hn : n ≤ 100) : MV l E yX0_goWeeks cX0_goWeeks 3 3 67 0 0 [.ref (h 0), .int (nI n)] (wcat [HW E h S T]) (fun (T2 : HS) => True) (fun (T2 : HS) => (wcat [HW E h (wks S P G n) T2])) := by
  refine MV_intro RX0 (by decide) rfl (Nat.le_of_ble_eq_true rfl) ?_
  intro p e R s m args below meth c A Q hQ hC hnm hD hW hA ls hl
  have hx := hC.1
  have hb := hC.2.1
  have hW : Wd E A s.heap (wcat [HW E h S T]) s.heap [] := hW
  have hD : Dj A [h 0, h 1, h 2, h 3, h 4, h 5, h 6, h 7, h 8, h 9, h 10] := hD
  have hl : lv_has ls 3 [(0, .ref (h 0)), (1, .int (nI n))] := hl
  have hP := hV.p
  have hP1 := hV.p6
  have hG := hV.g
  have hG1 := hV.g10
  refine lv_iconst (v := 0) hx hb dX0_goWeeks_0 (by decide) ?_
  refine lv_istore_n (lv' := [(2, .int 0), (0, .ref (h 0)), (1, .int (nI n))]) hx hb dX0_goWeeks_1 rfl hl (by decide) rfl (fun ls hl => ?_)
  have L2 : ∀ (n_ : Nat) (T1 : HS) (i : Nat) (H : Heap) (locs : List Loc) (ls : Array Slot), n - i < n_ → i ≤ n → Wd E A s.heap (wcat [HW E h (wks S P G i) T1]) H locs → lv_has ls 3 [(0, .ref (h 0)), (1, .int (nI n)), (2, .int (nI i))] → W p l e R s m args below meth c H locs 0 0 Q (F0 m 2 ls []) := by
    intro n_
    induction n_ with
    | zero => intro T1 i H locs ls hm; exact absurd hm (Nat.not_lt_zero _)
    | succ n_ ih =>
      intro T1 i H locs ls hm hi hW hl
      refine lv_iload_n hx hb dX0_goWeeks_2 rfl (lv_at hl 2 rfl) ?_
      refine lv_iload_n hx hb dX0_goWeeks_3 rfl (lv_at hl 1 rfl) ?_
      refine lv_icmp_ge (tgt := 49) hx hb dX0_goWeeks_4 (by decide) (fun c_1 => ?_) (fun c_1 => ?_)
      · have c_1 : n ≤ i := (nI_leI (a := n) (b := i) (by omega) (by omega)).mp c_1
        exact r_vret hC hQ hD hW T1 trivial (by rw [show i = n by omega]) rfl dX0_goWeeks_49
      · have c_1 : ¬ n ≤ i := fun z_ => c_1 ((nI_leI (a := n) (b := i) (by omega) (by omega)).mpr z_)
        refine lv_aload_n hx hb dX0_goWeeks_7 rfl (lv_at hl 0 rfl) ?_
        refine r_callCv hC hD hW hA lkX0_83 (c_X0_bringWash l E h (wks S P G i) T1 P G (HV_wks hV i)) rfl rfl ⟨by decide, by decide, by decide, by decide⟩ [0] rfl rfl rfl (fun _ => rfl) hl.1 rfl rfl (Nat.le_of_ble_eq_true rfl) dX0_goWeeks_8 (fun _ H locs hr_2 hW => ?_)
        have hW : Wd E A s.heap (wcat [HW E h (wN (wks S P G i) P G) T1]) H locs := hW
        refine lv_aload_n hx hb dX0_goWeeks_11 rfl (lv_at hl 0 rfl) ?_
        refine r_callCv hC hD hW hA lkX0_86 (c_X0_tally l E h (wN (wks S P G i) P G) T1 P G (HV_wN (HV_wks hV i) G (Nat.le_refl G))) rfl rfl ⟨by decide, by decide, by decide, by decide⟩ [0] rfl rfl rfl (fun _ => rfl) hl.1 rfl rfl (Nat.le_of_ble_eq_true rfl) dX0_goWeeks_12 (fun u_4 H locs hr_3 hW => ?_)
        have hW : Wd E A s.heap (wcat [HW E h (wN (wks S P G i) P G) u_4]) H locs := hW
        have xr_3 := hr_3
        have xT_ : TAn (wN (wks S P G i) P G) u_4 P G := xr_3
        refine lv_aload_n hx hb dX0_goWeeks_15 rfl (lv_at hl 0 rfl) ?_
        refine r_get hC hW flX0_9 0 rfl rfl dX0_goWeeks_16 ?_
        refine lv_iconst (v := 2) hx hb dX0_goWeeks_19 (by decide) ?_
        refine n_irem (v := (((wN (wks S P G i) P G) 0 0) - ((wN (wks S P G i) P G) 0 0) / 2 * 2)) hx hb dX0_goWeeks_20 (by decide) rfl ?_
        refine lv_iconst (v := 1) hx hb dX0_goWeeks_21 (by decide) ?_
        refine lv_icmp_ne (tgt := 29) hx hb dX0_goWeeks_22 (by decide) (fun c_5 => ?_) (fun c_5 => ?_)
        · have hW : Wd E A s.heap (wcat [HW E h (yT (wN (wks S P G i) P G) P G) u_4]) H locs := by rw [show yT (wN (wks S P G i) P G) P G = wN (wks S P G i) P G from if_neg c_5]; exact hW
          have hT3 : TAn (yT (wN (wks S P G i) P G) P G) u_4 P G := by rw [show yT (wN (wks S P G i) P G) P G = wN (wks S P G i) P G from if_neg c_5]; exact xT_
          refine lv_aload_n hx hb dX0_goWeeks_29 rfl (lv_at hl 0 rfl) ?_
          refine r_callCv hC hD hW hA lkX0_92 (c_X0_addContents l E h (yT (wN (wks S P G i) P G) P G) u_4 P G (HV_yT (HV_wN (HV_wks hV i) G (Nat.le_refl G))) hT3) rfl rfl ⟨by decide, by decide, by decide, by decide⟩ [0] rfl rfl rfl (fun _ => rfl) hl.1 rfl rfl (Nat.le_of_ble_eq_true rfl) dX0_goWeeks_30 (fun _ H locs hr_6 hW => ?_)
          have hW : Wd E A s.heap (wcat [HW E h (kN (yT (wN (wks S P G i) P G) P G) G P) u_4]) H locs := hW
          refine lv_aload_n hx hb dX0_goWeeks_33 rfl (lv_at hl 0 rfl) ?_
          refine lv_dup hx hb dX0_goWeeks_34 rfl ?_
          refine r_get hC hW flX0_9 0 rfl rfl dX0_goWeeks_35 ?_
          refine lv_iconst (v := 1) hx hb dX0_goWeeks_38 (by decide) ?_
          refine n_iadd (v := (((kN (yT (wN (wks S P G i) P G) P G) G P) 0 0) + 1)) hx hb dX0_goWeeks_39 rfl ?_
          refine r_put (ws' := (wcat [HW E h (st (kN (yT (wN (wks S P G i) P G) P G) G P) 0 0 (((kN (yT (wN (wks S P G i) P G) P G) G P) 0 0) + 1)) u_4])) hC hD hW fpX0_9 0 rfl rfl rfl (Nat.le_of_ble_eq_true rfl) rfl rfl dX0_goWeeks_40 (fun H locs hW => ?_)
          have hW : Wd E A s.heap (wcat [HW E h (wks S P G (i + 1)) u_4]) H locs := hW
          refine lv_iinc (v := (nI (i + 1))) (lv' := [(2, .int (nI (i + 1))), (0, .ref (h 0)), (1, .int (nI n))]) (k := 2) hx hb dX0_goWeeks_43 hl rfl (nI_inc i 1) (by decide) rfl (fun ls hl => ?_)
          refine lv_goto (tgt := 2) hx hb dX0_goWeeks_46 (by decide) ?_
          exact ih u_4 (i + 1) _ _ _ (by omega) (by omega) hW (lv_sub hl [1, 2, 0] rfl)
        · refine lv_aload_n hx hb dX0_goWeeks_25 rfl (lv_at hl 0 rfl) ?_
          refine r_callCv hC hD hW hA lkX0_89 (c_X0_layTable l E h (wN (wks S P G i) P G) u_4 P G (HV_wN (HV_wks hV i) G (Nat.le_refl G)) xT_) rfl rfl ⟨by decide, by decide, by decide, by decide⟩ [0] rfl rfl rfl (fun _ => rfl) hl.1 rfl rfl (Nat.le_of_ble_eq_true rfl) dX0_goWeeks_26 (fun u_8 H locs hr_7 hW => ?_)
          have hW : Wd E A s.heap (wcat [HW E h (yN (wN (wks S P G i) P G) P G G) u_8]) H locs := hW
          have xr_7 := hr_7
          have xT2_ : TAn (yN (wN (wks S P G i) P G) P G G) u_8 P G := xr_7
          have hW : Wd E A s.heap (wcat [HW E h (yT (wN (wks S P G i) P G) P G) u_8]) H locs := by rw [show yT (wN (wks S P G i) P G) P G = yN (wN (wks S P G i) P G) P G G from if_pos c_5]; exact hW
          have hT3 : TAn (yT (wN (wks S P G i) P G) P G) u_8 P G := by rw [show yT (wN (wks S P G i) P G) P G = yN (wN (wks S P G i) P G) P G G from if_pos c_5]; exact xT2_
          refine lv_aload_n hx hb dX0_goWeeks_29 rfl (lv_at hl 0 rfl) ?_
          refine r_callCv hC hD hW hA lkX0_92 (c_X0_addContents l E h (yT (wN (wks S P G i) P G) P G) u_8 P G (HV_yT (HV_wN (HV_wks hV i) G (Nat.le_refl G))) hT3) rfl rfl ⟨by decide, by decide, by decide, by decide⟩ [0] rfl rfl rfl (fun _ => rfl) hl.1 rfl rfl (Nat.le_of_ble_eq_true rfl) dX0_goWeeks_30 (fun _ H locs hr_9 hW => ?_)
          have hW : Wd E A s.heap (wcat [HW E h (kN (yT (wN (wks S P G i) P G) P G) G P) u_8]) H locs := hW
          refine lv_aload_n hx hb dX0_goWeeks_33 rfl (lv_at hl 0 rfl) ?_
          refine lv_dup hx hb dX0_goWeeks_34 rfl ?_
          refine r_get hC hW flX0_9 0 rfl rfl dX0_goWeeks_35 ?_
          refine lv_iconst (v := 1) hx hb dX0_goWeeks_38 (by decide) ?_
          refine n_iadd (v := (((kN (yT (wN (wks S P G i) P G) P G) G P) 0 0) + 1)) hx hb dX0_goWeeks_39 rfl ?_
          refine r_put (ws' := (wcat [HW E h (st (kN (yT (wN (wks S P G i) P G) P G) G P) 0 0 (((kN (yT (wN (wks S P G i) P G) P G) G P) 0 0) + 1)) u_8])) hC hD hW fpX0_9 0 rfl rfl rfl (Nat.le_of_ble_eq_true rfl) rfl rfl dX0_goWeeks_40 (fun H locs hW => ?_)
          have hW : Wd E A s.heap (wcat [HW E h (wks S P G (i + 1)) u_8]) H locs := hW
          refine lv_iinc (v := (nI (i + 1))) (lv' := [(2, .int (nI (i + 1))), (0, .ref (h 0)), (1, .int (nI n))]) (k := 2) hx hb dX0_goWeeks_43 hl rfl (nI_inc i 1) (by decide) rfl (fun ls hl => ?_)
          refine lv_goto (tgt := 2) hx hb dX0_goWeeks_46 (by decide) ?_
          exact ih u_8 (i + 1) _ _ _ (by omega) (by omega) hW (lv_sub hl [1, 2, 0] rfl)
  exact L2 (n - 0 + 1) T 0 _ _ _ (Nat.lt_succ_self _) (by omega) hW (lv_sub hl [1, 2, 0] rfl)
set_option maxHeartbeats 4000000 in
set_option maxRecDepth 100000 in
theorem c_X0_countRightWeeks (l : Launch) (E : Ev) (h : Nat → Nat) (S : HS) (T : HS) (P : Nat) (G : Nat) (hV : HV S P G) (g : Nat) (hg : g < G) (n : Nat) (hn : n ≤ 40) : MI l E yX0_countRightWeeks cX0_countRightWeeks 5 .int 4 89 0 0 [.ref (h 0), .int (nI g), .int (nI n)] (wcat [HW E h S T]) (fun (r : Int32) (T2 : HS) => r = nI (ct (fun q_ => rgt (wks S P G (q_ + 1)) g) n)) (fun (T2 : HS) => (wcat [HW E h (wks S P G n) T2])) := by
  refine MI_intro RX0 (by decide) rfl (Nat.le_of_ble_eq_true rfl) ?_
  intro p e R s m args below meth c A Q hQ hC hD hW hA ls hl
  have hx := hC.1
  have hb := hC.2.1
  have hW : Wd E A s.heap (wcat [HW E h S T]) s.heap [] := hW
  have hD : Dj A [h 0, h 1, h 2, h 3, h 4, h 5, h 6, h 7, h 8, h 9, h 10] := hD
  have hl : lv_has ls 5 [(0, .ref (h 0)), (1, .int (nI g)), (2, .int (nI n))] := hl
  have hP := hV.p
  have hP1 := hV.p6
  have hG := hV.g
  have hG1 := hV.g10
  refine lv_iconst (v := 0) hx hb dX0_countRightWeeks_0 (by decide) ?_
  refine lv_istore_n (lv' := [(3, .int 0), (0, .ref (h 0)), (1, .int (nI g)), (2, .int (nI n))]) hx hb dX0_countRightWeeks_1 rfl hl (by decide) rfl (fun ls hl => ?_)
  refine lv_iconst (v := 0) hx hb dX0_countRightWeeks_2 (by decide) ?_
  refine lv_istore (lv' := [(4, .int 0), (3, .int 0), (0, .ref (h 0)), (1, .int (nI g)), (2, .int (nI n))]) hx hb dX0_countRightWeeks_3 hl (by decide) rfl (fun ls hl => ?_)
  have L5 : ∀ (n_ : Nat) (T1 : HS) (i : Nat) (H : Heap) (locs : List Loc) (ls : Array Slot), n - i < n_ → i ≤ n → Wd E A s.heap (wcat [HW E h (wks S P G i) T1]) H locs → lv_has ls 5 [(0, .ref (h 0)), (1, .int (nI g)), (2, .int (nI n)), (3, .int (nI (ct (fun q_ => rgt (wks S P G (q_ + 1)) g) i))), (4, .int (nI i))] → W p l e R s m args below meth c H locs 0 0 Q (F0 m 5 ls []) := by
    intro n_
    induction n_ with
    | zero => intro T1 i H locs ls hm; exact absurd hm (Nat.not_lt_zero _)
    | succ n_ ih =>
      intro T1 i H locs ls hm hi hW hl
      refine lv_iload hx hb dX0_countRightWeeks_5 (lv_at hl 4 rfl) ?_
      refine lv_iload_n hx hb dX0_countRightWeeks_7 rfl (lv_at hl 2 rfl) ?_
      refine lv_icmp_ge (tgt := 33) hx hb dX0_countRightWeeks_8 (by decide) (fun c_1 => ?_) (fun c_1 => ?_)
      · have c_1 : n ≤ i := (nI_leI (a := n) (b := i) (by omega) (by omega)).mp c_1
        refine lv_iload_n hx hb dX0_countRightWeeks_33 rfl (lv_at hl 3 rfl) ?_
        exact r_iret hC hQ hD hW T1 (by rw [show i = n by omega]) (by rw [show i = n by omega]) rfl dX0_countRightWeeks_34
      · have c_1 : ¬ n ≤ i := fun z_ => c_1 ((nI_leI (a := n) (b := i) (by omega) (by omega)).mpr z_)
        refine lv_aload_n hx hb dX0_countRightWeeks_11 rfl (lv_at hl 0 rfl) ?_
        refine lv_iconst (v := 1) hx hb dX0_countRightWeeks_12 (by decide) ?_
        refine r_callCv hC hD hW hA lkX0_95 (c_X0_goWeeks l E h (wks S P G i) T1 P G (HV_wks hV i) 1 (by omega)) rfl rfl ⟨by decide, by decide, by decide, by decide⟩ [0] rfl rfl rfl (fun _ => rfl) hl.1 rfl rfl (Nat.le_of_ble_eq_true rfl) dX0_countRightWeeks_13 (fun u_3 H locs hr_2 hW => ?_)
        have hW : Wd E A s.heap (wcat [HW E h (wks S P G (i + 1)) u_3]) H locs := hW
        refine lv_aload_n hx hb dX0_countRightWeeks_16 rfl (lv_at hl 0 rfl) ?_
        refine lv_iload_n hx hb dX0_countRightWeeks_17 rfl (lv_at hl 1 rfl) ?_
        refine r_callCi hC hD hW hA lkX0_65 (c_X0_isRight l E h (wks S P G (i + 1)) u_3 g (by omega)) rfl rfl ⟨by decide, by decide, by decide, by decide⟩ [0] rfl rfl rfl (fun _ => rfl) hl.1 rfl rfl (Nat.le_of_ble_eq_true rfl) dX0_countRightWeeks_18 (fun r_4 _ H locs hr_4 hW => ?_)
        have hW : Wd E A s.heap (wcat [HW E h (wks S P G (i + 1)) u_3]) H locs := hW
        have hr_4 : bz ((wks S P G (i + 1)) 8 g = (wks S P G (i + 1)) 5 g) r_4 := hr_4
        rcases hr_4 with ⟨rfl, b_5⟩ | ⟨rfl, b_5⟩
        · refine lv_if_eq (tgt := 27) hx hb dX0_countRightWeeks_21 (by decide) (fun _ => ?_) (fun c => absurd c (by decide))
          refine lv_iinc (v := (nI (i + 1))) (lv' := [(4, .int (nI (i + 1))), (0, .ref (h 0)), (1, .int (nI g)), (2, .int (nI n)), (3, .int (nI (ct (fun q_ => rgt (wks S P G (q_ + 1)) g) i)))]) (k := 4) hx hb dX0_countRightWeeks_27 hl rfl (nI_inc i 1) (by decide) rfl (fun ls hl => ?_)
          refine lv_goto (tgt := 5) hx hb dX0_countRightWeeks_30 (by decide) ?_
          exact ih u_3 (i + 1) _ _ _ (by omega) (by omega) hW (by rw [ct_n (c := fun q_ => rgt (wks S P G (q_ + 1)) g) (decide_eq_false b_5)]; exact lv_sub hl [1, 2, 3, 4, 0] rfl)
        · refine lv_if_eq (tgt := 27) hx hb dX0_countRightWeeks_21 (by decide) (fun c => absurd c (by decide)) (fun _ => ?_)
          refine lv_iinc (v := (nI (ct (fun q_ => rgt (wks S P G (q_ + 1)) g) i + 1))) (lv' := [(3, .int (nI (ct (fun q_ => rgt (wks S P G (q_ + 1)) g) i + 1))), (0, .ref (h 0)), (1, .int (nI g)), (2, .int (nI n)), (4, .int (nI i))]) (k := 3) hx hb dX0_countRightWeeks_24 hl rfl (nI_inc (ct (fun q_ => rgt (wks S P G (q_ + 1)) g) i) 1) (by decide) rfl (fun ls hl => ?_)
          refine lv_iinc (v := (nI (i + 1))) (lv' := [(4, .int (nI (i + 1))), (3, .int (nI (ct (fun q_ => rgt (wks S P G (q_ + 1)) g) i + 1))), (0, .ref (h 0)), (1, .int (nI g)), (2, .int (nI n))]) (k := 4) hx hb dX0_countRightWeeks_27 hl rfl (nI_inc i 1) (by decide) rfl (fun ls hl => ?_)
          refine lv_goto (tgt := 5) hx hb dX0_countRightWeeks_30 (by decide) ?_
          exact ih u_3 (i + 1) _ _ _ (by omega) (by omega) hW (by rw [ct_y (c := fun q_ => rgt (wks S P G (q_ + 1)) g) (decide_eq_true b_5)]; exact lv_sub hl [2, 3, 4, 1, 0] rfl)
  exact L5 (n - 0 + 1) T 0 _ _ _ (Nat.lt_succ_self _) (by omega) hW (lv_sub hl [2, 3, 4, 1, 0] rfl)
set_option maxHeartbeats 4000000 in
set_option maxRecDepth 100000 in
theorem c_X0_become (l : Launch) (E : Ev) (h : Nat → Nat) (S : HS) (T : HS) (h2 : Nat → Nat) (S2 : HS) (T2 : HS) : MV l E yX0_become cX0_become 2 1 26 0 0 [.ref (h 0), .ref (h2 0)] (wcat [HW E h S T, HW E h2 S2 T2]) (fun (_ : Unit) => True) (fun (_ : Unit) => (wcat [HW E h S2 T, HW E h2 S2 T2])) := by
  refine MV_intro RX0 (by decide) rfl (Nat.le_of_ble_eq_true rfl) ?_
  intro p e R s m args below meth c A Q hQ hC hnm hD hW hA ls hl
  have hx := hC.1
  have hb := hC.2.1
  have hW : Wd E A s.heap (wcat [HW E h S T, HW E h2 S2 T2]) s.heap [] := hW
  have hD : Dj A [h 0, h 1, h 2, h 3, h 4, h 5, h 6, h 7, h 8, h 9, h 10, h2 0, h2 1, h2 2, h2 3, h2 4, h2 5, h2 6, h2 7, h2 8, h2 9, h2 10] := hD
  have hl : lv_has ls 2 [(0, .ref (h 0)), (1, .ref (h2 0))] := hl
  refine lv_aload_n hx hb dX0_become_0 rfl (lv_at hl 0 rfl) ?_
  refine lv_aload_n hx hb dX0_become_1 rfl (lv_at hl 1 rfl) ?_
  refine r_get hC hW flX0_9 11 rfl rfl dX0_become_2 ?_
  refine r_put (ws' := (wcat [HW E h (st S 0 0 (S2 0 0)) T, HW E h2 S2 T2])) hC hD hW fpX0_9 0 rfl rfl rfl (Nat.le_of_ble_eq_true rfl) rfl rfl dX0_become_5 (fun H locs hW => ?_)
  refine lv_aload_n hx hb dX0_become_8 rfl (lv_at hl 0 rfl) ?_
  refine lv_aload_n hx hb dX0_become_9 rfl (lv_at hl 1 rfl) ?_
  refine r_get hC hW flX0_15 11 rfl rfl dX0_become_10 ?_
  refine r_put (ws' := (wcat [HW E h (st (st S 0 0 (S2 0 0)) 0 1 (S2 0 1)) T, HW E h2 S2 T2])) hC hD hW fpX0_15 0 rfl rfl rfl (Nat.le_of_ble_eq_true rfl) rfl rfl dX0_become_13 (fun H locs hW => ?_)
  refine lv_aload_n hx hb dX0_become_16 rfl (lv_at hl 0 rfl) ?_
  refine lv_aload_n hx hb dX0_become_17 rfl (lv_at hl 1 rfl) ?_
  refine r_get hC hW flX0_18 11 rfl rfl dX0_become_18 ?_
  refine r_put (ws' := (wcat [HW E h (st (st (st S 0 0 (S2 0 0)) 0 1 (S2 0 1)) 0 2 (S2 0 2)) T, HW E h2 S2 T2])) hC hD hW fpX0_18 0 rfl rfl rfl (Nat.le_of_ble_eq_true rfl) rfl rfl dX0_become_21 (fun H locs hW => ?_)
  refine lv_aload_n hx hb dX0_become_24 rfl (lv_at hl 1 rfl) ?_
  refine r_get hC hW flX0_21 11 rfl rfl dX0_become_25 ?_
  refine lv_iconst (v := 0) hx hb dX0_become_28 (by decide) ?_
  refine lv_aload_n hx hb dX0_become_29 rfl (lv_at hl 0 rfl) ?_
  refine r_get hC hW flX0_21 0 rfl rfl dX0_become_30 ?_
  refine lv_iconst (v := 0) hx hb dX0_become_33 (by decide) ?_
  refine lv_bipush (v := 6) hx hb dX0_become_34 (by decide) ?_
  refine r_copyi (ws' := (wcat [HW E h (rws (st (st (st S 0 0 (S2 0 0)) 0 1 (S2 0 1)) 0 2 (S2 0 2)) 1 (S2 1)) T, HW E h2 S2 T2])) hC hD hW lcX0_55 hl.1 ⟨by decide, by decide⟩ (Nat.le_of_ble_eq_true rfl) 12 1 rfl rfl 0 0 6 rfl rfl rfl (by omega) (by omega) ⟨by decide, by decide⟩ cpy_all rfl rfl dX0_become_36 (fun H locs hW => ?_)
  refine lv_aload_n hx hb dX0_become_39 rfl (lv_at hl 1 rfl) ?_
  refine r_get hC hW flX0_25 11 rfl rfl dX0_become_40 ?_
  refine lv_iconst (v := 0) hx hb dX0_become_43 (by decide) ?_
  refine lv_aload_n hx hb dX0_become_44 rfl (lv_at hl 0 rfl) ?_
  refine r_get hC hW flX0_25 0 rfl rfl dX0_become_45 ?_
  refine lv_iconst (v := 0) hx hb dX0_become_48 (by decide) ?_
  refine lv_bipush (v := 6) hx hb dX0_become_49 (by decide) ?_
  refine r_copyi (ws' := (wcat [HW E h (rws (rws (st (st (st S 0 0 (S2 0 0)) 0 1 (S2 0 1)) 0 2 (S2 0 2)) 1 (S2 1)) 2 (S2 2)) T, HW E h2 S2 T2])) hC hD hW lcX0_55 hl.1 ⟨by decide, by decide⟩ (Nat.le_of_ble_eq_true rfl) 13 2 rfl rfl 0 0 6 rfl rfl rfl (by omega) (by omega) ⟨by decide, by decide⟩ cpy_all rfl rfl dX0_become_51 (fun H locs hW => ?_)
  refine lv_aload_n hx hb dX0_become_54 rfl (lv_at hl 1 rfl) ?_
  refine r_get hC hW flX0_28 11 rfl rfl dX0_become_55 ?_
  refine lv_iconst (v := 0) hx hb dX0_become_58 (by decide) ?_
  refine lv_aload_n hx hb dX0_become_59 rfl (lv_at hl 0 rfl) ?_
  refine r_get hC hW flX0_28 0 rfl rfl dX0_become_60 ?_
  refine lv_iconst (v := 0) hx hb dX0_become_63 (by decide) ?_
  refine lv_bipush (v := 6) hx hb dX0_become_64 (by decide) ?_
  refine r_copyi (ws' := (wcat [HW E h (rws (rws (rws (st (st (st S 0 0 (S2 0 0)) 0 1 (S2 0 1)) 0 2 (S2 0 2)) 1 (S2 1)) 2 (S2 2)) 3 (S2 3)) T, HW E h2 S2 T2])) hC hD hW lcX0_55 hl.1 ⟨by decide, by decide⟩ (Nat.le_of_ble_eq_true rfl) 14 3 rfl rfl 0 0 6 rfl rfl rfl (by omega) (by omega) ⟨by decide, by decide⟩ cpy_all rfl rfl dX0_become_66 (fun H locs hW => ?_)
  refine lv_aload_n hx hb dX0_become_69 rfl (lv_at hl 1 rfl) ?_
  refine r_get hC hW flX0_31 11 rfl rfl dX0_become_70 ?_
  refine lv_iconst (v := 0) hx hb dX0_become_73 (by decide) ?_
  refine lv_aload_n hx hb dX0_become_74 rfl (lv_at hl 0 rfl) ?_
  refine r_get hC hW flX0_31 0 rfl rfl dX0_become_75 ?_
  refine lv_iconst (v := 0) hx hb dX0_become_78 (by decide) ?_
  refine lv_bipush (v := 6) hx hb dX0_become_79 (by decide) ?_
  refine r_copyi (ws' := (wcat [HW E h (rws (rws (rws (rws (st (st (st S 0 0 (S2 0 0)) 0 1 (S2 0 1)) 0 2 (S2 0 2)) 1 (S2 1)) 2 (S2 2)) 3 (S2 3)) 4 (S2 4)) T, HW E h2 S2 T2])) hC hD hW lcX0_55 hl.1 ⟨by decide, by decide⟩ (Nat.le_of_ble_eq_true rfl) 15 4 rfl rfl 0 0 6 rfl rfl rfl (by omega) (by omega) ⟨by decide, by decide⟩ cpy_all rfl rfl dX0_become_81 (fun H locs hW => ?_)
  refine lv_aload_n hx hb dX0_become_84 rfl (lv_at hl 0 rfl) ?_
  refine lv_aload_n hx hb dX0_become_85 rfl (lv_at hl 1 rfl) ?_
  refine r_get hC hW flX0_34 11 rfl rfl dX0_become_86 ?_
  refine r_put (ws' := (wcat [HW E h (st (rws (rws (rws (rws (st (st (st S 0 0 (S2 0 0)) 0 1 (S2 0 1)) 0 2 (S2 0 2)) 1 (S2 1)) 2 (S2 2)) 3 (S2 3)) 4 (S2 4)) 0 3 (S2 0 3)) T, HW E h2 S2 T2])) hC hD hW fpX0_34 0 rfl rfl rfl (Nat.le_of_ble_eq_true rfl) rfl rfl dX0_become_89 (fun H locs hW => ?_)
  refine lv_aload_n hx hb dX0_become_92 rfl (lv_at hl 1 rfl) ?_
  refine r_get hC hW flX0_37 11 rfl rfl dX0_become_93 ?_
  refine lv_iconst (v := 0) hx hb dX0_become_96 (by decide) ?_
  refine lv_aload_n hx hb dX0_become_97 rfl (lv_at hl 0 rfl) ?_
  refine r_get hC hW flX0_37 0 rfl rfl dX0_become_98 ?_
  refine lv_iconst (v := 0) hx hb dX0_become_101 (by decide) ?_
  refine lv_bipush (v := 10) hx hb dX0_become_102 (by decide) ?_
  refine r_copyi (ws' := (wcat [HW E h (rws (st (rws (rws (rws (rws (st (st (st S 0 0 (S2 0 0)) 0 1 (S2 0 1)) 0 2 (S2 0 2)) 1 (S2 1)) 2 (S2 2)) 3 (S2 3)) 4 (S2 4)) 0 3 (S2 0 3)) 5 (S2 5)) T, HW E h2 S2 T2])) hC hD hW lcX0_55 hl.1 ⟨by decide, by decide⟩ (Nat.le_of_ble_eq_true rfl) 16 5 rfl rfl 0 0 10 rfl rfl rfl (by omega) (by omega) ⟨by decide, by decide⟩ cpy_all rfl rfl dX0_become_104 (fun H locs hW => ?_)
  refine lv_aload_n hx hb dX0_become_107 rfl (lv_at hl 1 rfl) ?_
  refine r_get hC hW flX0_40 11 rfl rfl dX0_become_108 ?_
  refine lv_iconst (v := 0) hx hb dX0_become_111 (by decide) ?_
  refine lv_aload_n hx hb dX0_become_112 rfl (lv_at hl 0 rfl) ?_
  refine r_get hC hW flX0_40 0 rfl rfl dX0_become_113 ?_
  refine lv_iconst (v := 0) hx hb dX0_become_116 (by decide) ?_
  refine lv_bipush (v := 10) hx hb dX0_become_117 (by decide) ?_
  refine r_copyi (ws' := (wcat [HW E h (rws (rws (st (rws (rws (rws (rws (st (st (st S 0 0 (S2 0 0)) 0 1 (S2 0 1)) 0 2 (S2 0 2)) 1 (S2 1)) 2 (S2 2)) 3 (S2 3)) 4 (S2 4)) 0 3 (S2 0 3)) 5 (S2 5)) 6 (S2 6)) T, HW E h2 S2 T2])) hC hD hW lcX0_55 hl.1 ⟨by decide, by decide⟩ (Nat.le_of_ble_eq_true rfl) 17 6 rfl rfl 0 0 10 rfl rfl rfl (by omega) (by omega) ⟨by decide, by decide⟩ cpy_all rfl rfl dX0_become_119 (fun H locs hW => ?_)
  refine lv_aload_n hx hb dX0_become_122 rfl (lv_at hl 1 rfl) ?_
  refine r_get hC hW flX0_43 11 rfl rfl dX0_become_123 ?_
  refine lv_iconst (v := 0) hx hb dX0_become_126 (by decide) ?_
  refine lv_aload_n hx hb dX0_become_127 rfl (lv_at hl 0 rfl) ?_
  refine r_get hC hW flX0_43 0 rfl rfl dX0_become_128 ?_
  refine lv_iconst (v := 0) hx hb dX0_become_131 (by decide) ?_
  refine lv_bipush (v := 10) hx hb dX0_become_132 (by decide) ?_
  refine r_copyi (ws' := (wcat [HW E h (rws (rws (rws (st (rws (rws (rws (rws (st (st (st S 0 0 (S2 0 0)) 0 1 (S2 0 1)) 0 2 (S2 0 2)) 1 (S2 1)) 2 (S2 2)) 3 (S2 3)) 4 (S2 4)) 0 3 (S2 0 3)) 5 (S2 5)) 6 (S2 6)) 7 (S2 7)) T, HW E h2 S2 T2])) hC hD hW lcX0_55 hl.1 ⟨by decide, by decide⟩ (Nat.le_of_ble_eq_true rfl) 18 7 rfl rfl 0 0 10 rfl rfl rfl (by omega) (by omega) ⟨by decide, by decide⟩ cpy_all rfl rfl dX0_become_134 (fun H locs hW => ?_)
  refine lv_aload_n hx hb dX0_become_137 rfl (lv_at hl 1 rfl) ?_
  refine r_get hC hW flX0_46 11 rfl rfl dX0_become_138 ?_
  refine lv_iconst (v := 0) hx hb dX0_become_141 (by decide) ?_
  refine lv_aload_n hx hb dX0_become_142 rfl (lv_at hl 0 rfl) ?_
  refine r_get hC hW flX0_46 0 rfl rfl dX0_become_143 ?_
  refine lv_iconst (v := 0) hx hb dX0_become_146 (by decide) ?_
  refine lv_bipush (v := 10) hx hb dX0_become_147 (by decide) ?_
  refine r_copyi (ws' := (wcat [HW E h (rws (rws (rws (rws (st (rws (rws (rws (rws (st (st (st S 0 0 (S2 0 0)) 0 1 (S2 0 1)) 0 2 (S2 0 2)) 1 (S2 1)) 2 (S2 2)) 3 (S2 3)) 4 (S2 4)) 0 3 (S2 0 3)) 5 (S2 5)) 6 (S2 6)) 7 (S2 7)) 8 (S2 8)) T, HW E h2 S2 T2])) hC hD hW lcX0_55 hl.1 ⟨by decide, by decide⟩ (Nat.le_of_ble_eq_true rfl) 19 8 rfl rfl 0 0 10 rfl rfl rfl (by omega) (by omega) ⟨by decide, by decide⟩ cpy_all rfl rfl dX0_become_149 (fun H locs hW => ?_)
  exact r_vret hC hQ hD hW () trivial rfl rfl dX0_become_152
