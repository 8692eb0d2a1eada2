set_option maxHeartbeats 4000000 in
set_option maxRecDepth 100000 in
theorem c_J6_bitCount_0f7a4 (l : Launch) (E : Ev) (k : Nat) (hk : k < 1024) : MI l E yJ6_bitCount_0f7a4 cJ6_bitCount_0f7a4 1 .int 0 0 0 0 [.int (nI k)] [] (fun (r : Int32) (_ : Unit) => r = nI (pcN k)) (fun (_ : Unit) => []) := by
  refine MI_intro RJ6 (by decide) rfl (Nat.le_of_ble_eq_true rfl) ?_
  intro p e R s m args below meth c A Q hQ hC hD hW hA ls hl
  have hx := hC.1
  have hb := hC.2.1
  have hW : Wd E A s.heap [] s.heap [] := hW
  have hl : lv_has ls 1 [(0, .int (nI k))] := hl
  refine lv_iload_n hx hb dJ6_bitCount_0f7a4_0 rfl (lv_at hl 0 rfl) ?_
  refine lv_iload_n hx hb dJ6_bitCount_0f7a4_1 rfl (lv_at hl 0 rfl) ?_
  refine lv_iconst (v := 1) hx hb dJ6_bitCount_0f7a4_2 (by decide) ?_
  refine lv_iushr (v := (ush (nI k) 1)) hx hb dJ6_bitCount_0f7a4_3 rfl ?_
  refine r_ldcw hC ctJ6_265 dJ6_bitCount_0f7a4_4 ?_
  refine n_iand (v := ((ush (nI k) 1) &&& 1431655765)) hx hb dJ6_bitCount_0f7a4_7 rfl ?_
  refine n_isub (v := (bc1 (nI k))) hx hb dJ6_bitCount_0f7a4_8 rfl ?_
  refine lv_istore_n (lv' := [(0, .int (bc1 (nI k)))]) hx hb dJ6_bitCount_0f7a4_9 rfl hl (by decide) rfl (fun ls hl => ?_)
  refine lv_iload_n hx hb dJ6_bitCount_0f7a4_10 rfl (lv_at hl 0 rfl) ?_
  refine r_ldcw hC ctJ6_266 dJ6_bitCount_0f7a4_11 ?_
  refine n_iand (v := ((bc1 (nI k)) &&& 858993459)) hx hb dJ6_bitCount_0f7a4_14 rfl ?_
  refine lv_iload_n hx hb dJ6_bitCount_0f7a4_15 rfl (lv_at hl 0 rfl) ?_
  refine lv_iconst (v := 2) hx hb dJ6_bitCount_0f7a4_16 (by decide) ?_
  refine lv_iushr (v := (ush (bc1 (nI k)) 2)) hx hb dJ6_bitCount_0f7a4_17 rfl ?_
  refine r_ldcw hC ctJ6_266 dJ6_bitCount_0f7a4_18 ?_
  refine n_iand (v := ((ush (bc1 (nI k)) 2) &&& 858993459)) hx hb dJ6_bitCount_0f7a4_21 rfl ?_
  refine n_iadd (v := (bc2 (nI k))) hx hb dJ6_bitCount_0f7a4_22 rfl ?_
  refine lv_istore_n (lv' := [(0, .int (bc2 (nI k)))]) hx hb dJ6_bitCount_0f7a4_23 rfl hl (by decide) rfl (fun ls hl => ?_)
  refine lv_iload_n hx hb dJ6_bitCount_0f7a4_24 rfl (lv_at hl 0 rfl) ?_
  refine lv_iload_n hx hb dJ6_bitCount_0f7a4_25 rfl (lv_at hl 0 rfl) ?_
  refine lv_iconst (v := 4) hx hb dJ6_bitCount_0f7a4_26 (by decide) ?_
  refine lv_iushr (v := (ush (bc2 (nI k)) 4)) hx hb dJ6_bitCount_0f7a4_27 rfl ?_
  refine n_iadd (v := ((bc2 (nI k)) + (ush (bc2 (nI k)) 4))) hx hb dJ6_bitCount_0f7a4_28 rfl ?_
  refine r_ldcw hC ctJ6_267 dJ6_bitCount_0f7a4_29 ?_
  refine n_iand (v := (bc3 (nI k))) hx hb dJ6_bitCount_0f7a4_32 rfl ?_
  refine lv_istore_n (lv' := [(0, .int (bc3 (nI k)))]) hx hb dJ6_bitCount_0f7a4_33 rfl hl (by decide) rfl (fun ls hl => ?_)
  refine lv_iload_n hx hb dJ6_bitCount_0f7a4_34 rfl (lv_at hl 0 rfl) ?_
  refine lv_iload_n hx hb dJ6_bitCount_0f7a4_35 rfl (lv_at hl 0 rfl) ?_
  refine lv_bipush (v := 8) hx hb dJ6_bitCount_0f7a4_36 (by decide) ?_
  refine lv_iushr (v := (ush (bc3 (nI k)) 8)) hx hb dJ6_bitCount_0f7a4_38 rfl ?_
  refine n_iadd (v := (bc4 (nI k))) hx hb dJ6_bitCount_0f7a4_39 rfl ?_
  refine lv_istore_n (lv' := [(0, .int (bc4 (nI k)))]) hx hb dJ6_bitCount_0f7a4_40 rfl hl (by decide) rfl (fun ls hl => ?_)
  refine lv_iload_n hx hb dJ6_bitCount_0f7a4_41 rfl (lv_at hl 0 rfl) ?_
  refine lv_iload_n hx hb dJ6_bitCount_0f7a4_42 rfl (lv_at hl 0 rfl) ?_
  refine lv_bipush (v := 16) hx hb dJ6_bitCount_0f7a4_43 (by decide) ?_
  refine lv_iushr (v := (ush (bc4 (nI k)) 16)) hx hb dJ6_bitCount_0f7a4_45 rfl ?_
  refine n_iadd (v := (bc5 (nI k))) hx hb dJ6_bitCount_0f7a4_46 rfl ?_
  refine lv_istore_n (lv' := [(0, .int (bc5 (nI k)))]) hx hb dJ6_bitCount_0f7a4_47 rfl hl (by decide) rfl (fun ls hl => ?_)
  refine lv_iload_n hx hb dJ6_bitCount_0f7a4_48 rfl (lv_at hl 0 rfl) ?_
  refine lv_bipush (v := 63) hx hb dJ6_bitCount_0f7a4_49 (by decide) ?_
  refine n_iand (v := ((bc5 (nI k)) &&& 63)) hx hb dJ6_bitCount_0f7a4_51 rfl ?_
  exact r_iret hC hQ hD hW () (bc_pc k hk) rfl rfl dJ6_bitCount_0f7a4_52
set_option maxHeartbeats 4000000 in
set_option maxRecDepth 100000 in
theorem c_X4_finding (l : Launch) (E : Ev) (o : Nat → Nat) (vl : Nat → Nat) (vt : Nat → Nat) (vk : Nat → Nat) (vy : Nat → Nat) (kp : Int32) (F : FT) (k : Nat) (v : Int32) (hk : k < 7) (hv : (-1000000001) - nI k = v) : MI l E yX4_finding cX4_finding 2 .int 0 0 0 0 [.ref (o 0), .int (nI k)] (wcat [CO o vl vt vk vy kp, IA E (o 3) 7 F]) (fun (r : Int32) (_ : Unit) => r = v) (fun (_ : Unit) => (wcat [CO o vl vt vk vy kp, IA E (o 3) 7 (upd F k (F k + 1))])) := by
  refine MI_intro RX4 (by decide) rfl (Nat.le_of_ble_eq_true rfl) ?_
  intro p e R s m args below meth c A Q hQ hC hD hW hA ls hl
  have hx := hC.1
  have hb := hC.2.1
  have hW : Wd E A s.heap (wcat [CO o vl vt vk vy kp, IA E (o 3) 7 F]) s.heap [] := hW
  have hD : Dj A [o 0, o 3] := hD
  have hl : lv_has ls 2 [(0, .ref (o 0)), (1, .int (nI k))] := hl
  refine lv_aload_n hx hb dX4_finding_0 rfl (lv_at hl 0 rfl) ?_
  refine r_get hC hW flX4_49 0 rfl rfl dX4_finding_1 ?_
  refine lv_iload_n hx hb dX4_finding_4 rfl (lv_at hl 1 rfl) ?_
  refine lv_dup2_11 hx hb dX4_finding_5 rfl rfl ?_
  refine r_iald hC hW 1 rfl k rfl (by omega) (by decide) dX4_finding_6 ?_
  refine lv_iconst (v := 1) hx hb dX4_finding_7 (by decide) ?_
  refine n_iadd (v := ((F k) + 1)) hx hb dX4_finding_8 rfl ?_
  refine r_iast (ws' := (wcat [CO o vl vt vk vy kp, IA E (o 3) 7 (upd F k ((F k) + 1))])) hC hD hW 1 rfl k rfl (by omega) (by decide) rfl rfl dX4_finding_9 (fun H locs hW => ?_)
  refine r_ldc hC ctX4_239 dX4_finding_10 ?_
  refine lv_iload_n hx hb dX4_finding_12 rfl (lv_at hl 1 rfl) ?_
  refine n_isub (v := v) hx hb dX4_finding_13 hv ?_
  exact r_iret hC hQ hD hW () rfl rfl rfl dX4_finding_14
set_option maxHeartbeats 4000000 in
set_option maxRecDepth 100000 in
theorem c_X4_isKind (l : Launch) (E : Ev) (x : Int32) : MI l E yX4_isKind cX4_isKind 1 .boolean 1 22 0 0 [.int x] [] (fun (r : Int32) (_ : Unit) => bz (0 ≤ x ∧ x ≤ 5) r) (fun (_ : Unit) => []) := by
  refine MI_intro RX4 (by decide) rfl (Nat.le_of_ble_eq_true rfl) ?_
  intro p e R s m args below meth c A Q hQ hC hD hW hA ls hl
  have hx := hC.1
  have hb := hC.2.1
  have hW : Wd E A s.heap [] s.heap [] := hW
  have hl : lv_has ls 1 [(0, .int x)] := hl
  refine lv_iload_n hx hb dX4_isKind_0 rfl (lv_at hl 0 rfl) ?_
  refine lv_iconst (v := 0) hx hb dX4_isKind_1 (by decide) ?_
  refine lv_iconst (v := 5) hx hb dX4_isKind_2 (by decide) ?_
  refine r_callSi hC hD hW hA lkX4_53 (c_X4_isWithin l E x 0 5) ⟨by decide, by decide, by decide, by decide⟩ rfl hl.1 rfl rfl (Nat.le_of_ble_eq_true rfl) dX4_isKind_3 (fun r_1 _ H locs hr_1 hW => ?_)
  have hr_1 : bz (0 ≤ x ∧ x ≤ 5) r_1 := hr_1
  exact r_zret hC hQ hD hW (bz_01 hr_1) () hr_1 rfl rfl dX4_isKind_6
set_option maxHeartbeats 4000000 in
set_option maxRecDepth 100000 in
theorem c_X4_isSheet (l : Launch) (E : Ev) (x : Int32) : MI l E yX4_isSheet cX4_isSheet 1 .boolean 1 22 0 0 [.int x] [] (fun (r : Int32) (_ : Unit) => bz (isN 4 x) r) (fun (_ : Unit) => []) := by
  refine MI_intro RX4 (by decide) rfl (Nat.le_of_ble_eq_true rfl) ?_
  intro p e R s m args below meth c A Q hQ hC hD hW hA ls hl
  have hx := hC.1
  have hb := hC.2.1
  have hW : Wd E A s.heap [] s.heap [] := hW
  have hl : lv_has ls 1 [(0, .int x)] := hl
  refine lv_iload_n hx hb dX4_isSheet_0 rfl (lv_at hl 0 rfl) ?_
  refine lv_iconst (v := 0) hx hb dX4_isSheet_1 (by decide) ?_
  refine lv_iconst (v := 3) hx hb dX4_isSheet_2 (by decide) ?_
  refine r_callSi hC hD hW hA lkX4_53 (c_X4_isWithin l E x 0 3) ⟨by decide, by decide, by decide, by decide⟩ rfl hl.1 rfl rfl (Nat.le_of_ble_eq_true rfl) dX4_isSheet_3 (fun r_1 _ H locs hr_1 hW => ?_)
  have hr_1 : bz (0 ≤ x ∧ x ≤ 3) r_1 := hr_1
  exact r_zret hC hQ hD hW (bz_01 hr_1) () (bz_iff in3 hr_1) rfl rfl dX4_isSheet_6
set_option maxHeartbeats 4000000 in
set_option maxRecDepth 100000 in
theorem c_X4_kindAbove (l : Launch) (E : Ev) (x : Int32) : MI l E yX4_kindAbove cX4_kindAbove 1 .int 0 0 0 0 [.int x] [] (fun (r : Int32) (_ : Unit) => r = kab x) (fun (_ : Unit) => []) := by
  refine MI_intro RX4 (by decide) rfl (Nat.le_of_ble_eq_true rfl) ?_
  intro p e R s m args below meth c A Q hQ hC hD hW hA ls hl
  have hx := hC.1
  have hb := hC.2.1
  have hW : Wd E A s.heap [] s.heap [] := hW
  have hl : lv_has ls 1 [(0, .int x)] := hl
  refine lv_iload_n hx hb dX4_kindAbove_0 rfl (lv_at hl 0 rfl) ?_
  by_cases k_1 : x = 4
  · refine lv_lookup (off := 27) (tgt := 28) hx hb dX4_kindAbove_1 (by decide) (by rw [k_1]; decide) (by decide) ?_
    refine lv_iconst (v := 1) hx hb dX4_kindAbove_28 (by decide) ?_
    exact r_iret hC hQ hD hW () (by unfold kab; rw [if_pos k_1]) rfl rfl dX4_kindAbove_29
  by_cases k_2 : x = 5
  · refine lv_lookup (off := 29) (tgt := 30) hx hb dX4_kindAbove_1 (by decide) (by rw [k_2]; decide) (by decide) ?_
    refine lv_iconst (v := 2) hx hb dX4_kindAbove_30 (by decide) ?_
    exact r_iret hC hQ hD hW () (by unfold kab; rw [if_neg (by rw [k_2]; decide), if_pos k_2]) rfl rfl dX4_kindAbove_31
  refine lv_lookup (off := 31) (tgt := 32) hx hb dX4_kindAbove_1 (by decide) (by rw [lv_osw k_1 (by decide), lv_osw k_2 (by decide)]; rfl) (by decide) ?_
  refine lv_iconst (v := 0) hx hb dX4_kindAbove_32 (by decide) ?_
  exact r_iret hC hQ hD hW () (by unfold kab; rw [if_neg k_1, if_neg k_2]) rfl rfl dX4_kindAbove_33
set_option maxHeartbeats 4000000 in
set_option maxRecDepth 100000 in
theorem c_X4_isUnder (l : Launch) (E : Ev) (x1 : Int32) (x2 : Int32) : MI l E yX4_isUnder cX4_isUnder 2 .boolean 1 20 0 0 [.int x1, .int x2] [] (fun (r : Int32) (_ : Unit) => bz (asP x1 x2) r) (fun (_ : Unit) => []) := by
  refine MI_intro RX4 (by decide) rfl (Nat.le_of_ble_eq_true rfl) ?_
  intro p e R s m args below meth c A Q hQ hC hD hW hA ls hl
  have hx := hC.1
  have hb := hC.2.1
  have hW : Wd E A s.heap [] s.heap [] := hW
  have hl : lv_has ls 2 [(0, .int x1), (1, .int x2)] := hl
  refine lv_iload_n hx hb dX4_isUnder_0 rfl (lv_at hl 0 rfl) ?_
  refine lv_iload_n hx hb dX4_isUnder_1 rfl (lv_at hl 1 rfl) ?_
  refine lv_icmp_eq (tgt := 17) hx hb dX4_isUnder_2 (by decide) (fun c_1 => ?_) (fun c_1 => ?_)
  · refine lv_iconst (v := 1) hx hb dX4_isUnder_17 (by decide) ?_
    refine lv_goto (tgt := 22) hx hb dX4_isUnder_18 (by decide) ?_
    exact r_zret hC hQ hD hW (by decide) () (bz_t ((asP_iff x1 x2).mpr (Or.inl c_1))) rfl rfl dX4_isUnder_22
  · refine lv_iload_n hx hb dX4_isUnder_5 rfl (lv_at hl 1 rfl) ?_
    refine lv_if_eq (tgt := 17) hx hb dX4_isUnder_6 (by decide) (fun c_2 => ?_) (fun c_2 => ?_)
    · refine lv_iconst (v := 1) hx hb dX4_isUnder_17 (by decide) ?_
      refine lv_goto (tgt := 22) hx hb dX4_isUnder_18 (by decide) ?_
      exact r_zret hC hQ hD hW (by decide) () (bz_t ((asP_iff x1 x2).mpr (Or.inr (Or.inl c_2)))) rfl rfl dX4_isUnder_22
    · refine lv_iload_n hx hb dX4_isUnder_9 rfl (lv_at hl 0 rfl) ?_
      refine r_callSi hC hD hW hA lkX4_240 (c_X4_kindAbove l E x1) ⟨by decide, by decide, by decide, by decide⟩ rfl hl.1 rfl rfl (Nat.le_of_ble_eq_true rfl) dX4_isUnder_10 (fun r_3 _ H locs hr_3 hW => ?_)
      have hr_3 : r_3 = (kab x1) := hr_3
      subst hr_3
      refine lv_iload_n hx hb dX4_isUnder_13 rfl (lv_at hl 1 rfl) ?_
      refine lv_icmp_ne (tgt := 21) hx hb dX4_isUnder_14 (by decide) (fun c_4 => ?_) (fun c_4 => ?_)
      · refine lv_iconst (v := 0) hx hb dX4_isUnder_21 (by decide) ?_
        exact r_zret hC hQ hD hW (by decide) () (bz_f (fun z_ => ((asP_iff x1 x2).mp z_).elim c_1 (fun z_ => z_.elim c_2 c_4))) rfl rfl dX4_isUnder_22
      · refine lv_iconst (v := 1) hx hb dX4_isUnder_17 (by decide) ?_
        refine lv_goto (tgt := 22) hx hb dX4_isUnder_18 (by decide) ?_
        exact r_zret hC hQ hD hW (by decide) () (bz_t ((asP_iff x1 x2).mpr (Or.inr (Or.inr c_4)))) rfl rfl dX4_isUnder_22
set_option maxHeartbeats 4000000 in
set_option maxRecDepth 100000 in
theorem c_X4_putChecked_o (l : Launch) (E : Ev) (o : Nat → Nat) (vl : Nat → Nat) (vt : Nat → Nat) (vk : Nat → Nat) (vy : Nat → Nat) (kp : Int32) (F : FT) (d : Nat) (n : Nat) (hn31 : n < 2 ^ 31) (f : Nat → Int32) (j : Nat) (hj : j < n) (x3 : Int32) (x4 : Int32) (x5 : Int32) (hgd : x4 ≤ x3 ∧ x3 ≤ x5) : MI l E yX4_putChecked cX4_putChecked 7 .int 1 22 0 0 [.ref (o 0), .ref d, .int (nI j), .int x3, .int x4, .int x5] (wcat [CO o vl vt vk vy kp, IA E (o 3) 7 F, IA E d n f]) (fun (r : Int32) (_ : Unit) => r = f j) (fun (_ : Unit) => (wcat [CO o vl vt vk vy kp, IA E (o 3) 7 F, IA E d n (upd f j x3)])) := by
  refine MI_intro RX4 (by decide) rfl (Nat.le_of_ble_eq_true rfl) ?_
  intro p e R s m args below meth c A Q hQ hC hD hW hA ls hl
  have hx := hC.1
  have hb := hC.2.1
  have hW : Wd E A s.heap (wcat [CO o vl vt vk vy kp, IA E (o 3) 7 F, IA E d n f]) s.heap [] := hW
  have hD : Dj A [o 0, o 3, d] := hD
  have hl : lv_has ls 7 [(0, .ref (o 0)), (1, .ref d), (2, .int (nI j)), (3, .int x3), (4, .int x4), (5, .int x5)] := hl
  refine lv_iload_n hx hb dX4_putChecked_0 rfl (lv_at hl 3 rfl) ?_
  refine lv_iload hx hb dX4_putChecked_1 (lv_at hl 4 rfl) ?_
  refine lv_iload hx hb dX4_putChecked_3 (lv_at hl 5 rfl) ?_
  refine r_callSi hC hD hW hA lkX4_53 (c_X4_isWithin l E x3 x4 x5) ⟨by decide, by decide, by decide, by decide⟩ rfl hl.1 rfl rfl (Nat.le_of_ble_eq_true rfl) dX4_putChecked_5 (fun r_1 _ H locs hr_1 hW => ?_)
  have hW : Wd E A s.heap (wcat [CO o vl vt vk vy kp, IA E (o 3) 7 F, IA E d n f]) H locs := hW
  have hr_1 : bz (x4 ≤ x3 ∧ x3 ≤ x5) r_1 := hr_1
  rcases hr_1 with ⟨rfl, b_2⟩ | ⟨rfl, b_2⟩
  · exact absurd hgd b_2
  · refine lv_if_ne (tgt := 17) hx hb dX4_putChecked_8 (by decide) (fun _ => ?_) (fun c => absurd c (by decide))
    refine lv_aload_n hx hb dX4_putChecked_17 rfl (lv_at hl 1 rfl) ?_
    refine lv_iload_n hx hb dX4_putChecked_18 rfl (lv_at hl 2 rfl) ?_
    refine r_iald hC hW 2 rfl j rfl (by omega) hn31 dX4_putChecked_19 ?_
    refine lv_istore (lv' := [(6, .int (f j)), (0, .ref (o 0)), (1, .ref d), (2, .int (nI j)), (3, .int x3), (4, .int x4), (5, .int x5)]) hx hb dX4_putChecked_20 hl (by decide) rfl (fun ls hl => ?_)
    refine lv_aload_n hx hb dX4_putChecked_22 rfl (lv_at hl 2 rfl) ?_
    refine lv_iload_n hx hb dX4_putChecked_23 rfl (lv_at hl 3 rfl) ?_
    refine lv_iload_n hx hb dX4_putChecked_24 rfl (lv_at hl 4 rfl) ?_
    refine r_iast (ws' := (wcat [CO o vl vt vk vy kp, IA E (o 3) 7 F, IA E d n (upd f j x3)])) hC hD hW 2 rfl j rfl (by omega) hn31 rfl rfl dX4_putChecked_25 (fun H locs hW => ?_)
    refine lv_iload hx hb dX4_putChecked_26 (lv_at hl 0 rfl) ?_
    exact r_iret hC hQ hD hW () rfl rfl rfl dX4_putChecked_28
set_option maxHeartbeats 4000000 in
set_option maxRecDepth 100000 in
theorem c_X4_putChecked_b (l : Launch) (E : Ev) (o : Nat → Nat) (vl : Nat → Nat) (vt : Nat → Nat) (vk : Nat → Nat) (vy : Nat → Nat) (kp : Int32) (F : FT) (d : Nat) (n : Nat) (hn31 : n < 2 ^ 31) (f : Nat → Int32) (j : Nat) (hj : j < n) (x3 : Int32) (x4 : Int32) (x5 : Int32) (hgd : ¬ (x4 ≤ x3 ∧ x3 ≤ x5)) : MI l E yX4_putChecked cX4_putChecked 7 .int 1 22 0 0 [.ref (o 0), .ref d, .int (nI j), .int x3, .int x4, .int x5] (wcat [CO o vl vt vk vy kp, IA E (o 3) 7 F, IA E d n f]) (fun (r : Int32) (_ : Unit) => r = (-1000000001)) (fun (_ : Unit) => (wcat [CO o vl vt vk vy kp, IA E (o 3) 7 (upd F 0 (F 0 + 1)), IA E d n f])) := by
  refine MI_intro RX4 (by decide) rfl (Nat.le_of_ble_eq_true rfl) ?_
  intro p e R s m args below meth c A Q hQ hC hD hW hA ls hl
  have hx := hC.1
  have hb := hC.2.1
  have hW : Wd E A s.heap (wcat [CO o vl vt vk vy kp, IA E (o 3) 7 F, IA E d n f]) s.heap [] := hW
  have hD : Dj A [o 0, o 3, d] := hD
  have hl : lv_has ls 7 [(0, .ref (o 0)), (1, .ref d), (2, .int (nI j)), (3, .int x3), (4, .int x4), (5, .int x5)] := hl
  refine lv_iload_n hx hb dX4_putChecked_0 rfl (lv_at hl 3 rfl) ?_
  refine lv_iload hx hb dX4_putChecked_1 (lv_at hl 4 rfl) ?_
  refine lv_iload hx hb dX4_putChecked_3 (lv_at hl 5 rfl) ?_
  refine r_callSi hC hD hW hA lkX4_53 (c_X4_isWithin l E x3 x4 x5) ⟨by decide, by decide, by decide, by decide⟩ rfl hl.1 rfl rfl (Nat.le_of_ble_eq_true rfl) dX4_putChecked_5 (fun r_1 _ H locs hr_1 hW => ?_)
  have hW : Wd E A s.heap (wcat [CO o vl vt vk vy kp, IA E (o 3) 7 F, IA E d n f]) H locs := hW
  have hr_1 : bz (x4 ≤ x3 ∧ x3 ≤ x5) r_1 := hr_1
  rcases hr_1 with ⟨rfl, b_2⟩ | ⟨rfl, b_2⟩
  · refine lv_if_ne (tgt := 17) hx hb dX4_putChecked_8 (by decide) (fun c => absurd c (by decide)) (fun _ => ?_)
    refine lv_aload_n hx hb dX4_putChecked_11 rfl (lv_at hl 0 rfl) ?_
    refine lv_iconst (v := 0) hx hb dX4_putChecked_12 (by decide) ?_
    refine r_callCi hC hD hW hA lkX4_57 (c_X4_finding l E o vl vt vk vy kp F 0 (-1000000001) (by decide) (by decide)) rfl rfl ⟨by decide, by decide, by decide, by decide⟩ [0, 1] rfl rfl rfl (fun _ => rfl) hl.1 rfl rfl (Nat.le_of_ble_eq_true rfl) dX4_putChecked_13 (fun r_3 _ H locs hr_3 hW => ?_)
    have hW : Wd E A s.heap (wcat [CO o vl vt vk vy kp, IA E (o 3) 7 (upd F 0 (F 0 + 1)), IA E d n f]) H locs := hW
    have hr_3 : r_3 = (-1000000001) := hr_3
    subst hr_3
    exact r_iret hC hQ hD hW () rfl rfl rfl dX4_putChecked_16
  · exact absurd b_2 hgd
set_option maxHeartbeats 4000000 in
set_option maxRecDepth 100000 in
theorem c_X4_startTrial (l : Launch) (E : Ev) (o : Nat → Nat) (vl : Nat → Nat) (vt : Nat → Nat) (vk : Nat → Nat) (vy : Nat → Nat) (kp : Int32) (S : HS) (Tl : HS) (St : HS) (Tt : HS) : MV l E yX4_startTrial cX4_startTrial 1 2 47 0 0 [.ref (o 0)] (wcat [CO o vl vt vk vy kp, HW E vl S Tl, HW E vt St Tt]) (fun (_ : Unit) => True) (fun (_ : Unit) => (wcat [CO o vl vt vk vy kp, HW E vl S Tl, HW E vt S Tt])) := by
  refine MV_intro RX4 (by decide) rfl (Nat.le_of_ble_eq_true rfl) ?_
  intro p e R s m args below meth c A Q hQ hC hnm hD hW hA ls hl
  have hx := hC.1
  have hb := hC.2.1
  have hW : Wd E A s.heap (wcat [CO o vl vt vk vy kp, HW E vl S Tl, HW E vt St Tt]) s.heap [] := hW
  have hD : Dj A [o 0, vl 0, vl 1, vl 2, vl 3, vl 4, vl 5, vl 6, vl 7, vl 8, vl 9, vl 10, vt 0, vt 1, vt 2, vt 3, vt 4, vt 5, vt 6, vt 7, vt 8, vt 9, vt 10] := hD
  have hl : lv_has ls 1 [(0, .ref (o 0))] := hl
  refine lv_aload_n hx hb dX4_startTrial_0 rfl (lv_at hl 0 rfl) ?_
  refine r_get hC hW flX4_16 0 rfl rfl dX4_startTrial_1 ?_
  refine lv_aload_n hx hb dX4_startTrial_4 rfl (lv_at hl 0 rfl) ?_
  refine r_get hC hW flX4_10 0 rfl rfl dX4_startTrial_5 ?_
  refine r_callCv hC hD hW hA lkX4_189 (c_X0_become l E vt St Tt vl S Tl) rfl rfl ⟨by decide, by decide, by decide, by decide⟩ [2, 1] rfl rfl rfl (fun _ => rfl) hl.1 rfl rfl (Nat.le_of_ble_eq_true rfl) dX4_startTrial_8 (fun _ H locs hr_1 hW => ?_)
  have hW : Wd E A s.heap (wcat [CO o vl vt vk vy kp, HW E vl S Tl, HW E vt S Tt]) H locs := hW
  exact r_vret hC hQ hD hW () trivial rfl rfl dX4_startTrial_11
set_option maxHeartbeats 4000000 in
set_option maxRecDepth 100000 in
theorem c_X4_heat (l : Launch) (E : Ev) (o : Nat → Nat) (vl : Nat → Nat) (vt : Nat → Nat) (vk : Nat → Nat) (vy : Nat → Nat) (kp : Int32) (S : HS) (Tl : HS) (F : FT) (P : Nat) (G : Nat) (hV : HV S P G) (x1 : Int32) : MI l E yX4_heat cX4_heat 3 .int 1 22 0 0 [.ref (o 0), .int x1] (wcat [CO o vl vt vk vy kp, IA E (o 3) 7 F, HW E vl S Tl]) (fun (r : Int32) (_ : Unit) => r = (mHeat S F x1).1) (fun (_ : Unit) => (wcat [CO o vl vt vk vy kp, IA E (o 3) 7 ((mHeat S F x1).2.2), HW E vl ((mHeat S F x1).2.1) Tl])) := by
  refine MI_intro RX4 (by decide) rfl (Nat.le_of_ble_eq_true rfl) ?_
  intro p e R s m args below meth c A Q hQ hC hD hW hA ls hl
  have hx := hC.1
  have hb := hC.2.1
  have hW : Wd E A s.heap (wcat [CO o vl vt vk vy kp, IA E (o 3) 7 F, HW E vl S Tl]) s.heap [] := hW
  have hD : Dj A [o 0, o 3, vl 0, vl 1, vl 2, vl 3, vl 4, vl 5, vl 6, vl 7, vl 8, vl 9, vl 10] := hD
  have hl : lv_has ls 3 [(0, .ref (o 0)), (1, .int x1)] := hl
  refine lv_iload_n hx hb dX4_heat_0 rfl (lv_at hl 1 rfl) ?_
  refine lv_bipush (v := 20) hx hb dX4_heat_1 (by decide) ?_
  refine lv_bipush (v := 90) hx hb dX4_heat_3 (by decide) ?_
  refine r_callSi hC hD hW hA lkX4_53 (c_X4_isWithin l E x1 20 90) ⟨by decide, by decide, by decide, by decide⟩ rfl hl.1 rfl rfl (Nat.le_of_ble_eq_true rfl) dX4_heat_5 (fun r_1 _ H locs hr_1 hW => ?_)
  have hW : Wd E A s.heap (wcat [CO o vl vt vk vy kp, IA E (o 3) 7 F, HW E vl S Tl]) H locs := hW
  have hr_1 : bz (20 ≤ x1 ∧ x1 ≤ 90) r_1 := hr_1
  rcases hr_1 with ⟨rfl, b_2⟩ | ⟨rfl, b_2⟩
  · refine lv_if_ne (tgt := 17) hx hb dX4_heat_8 (by decide) (fun c => absurd c (by decide)) (fun _ => ?_)
    refine lv_aload_n hx hb dX4_heat_11 rfl (lv_at hl 0 rfl) ?_
    refine lv_iconst (v := 0) hx hb dX4_heat_12 (by decide) ?_
    refine r_callCi hC hD hW hA lkX4_57 (c_X4_finding l E o vl vt vk vy kp F 0 (-1000000001) (by decide) (by decide)) rfl rfl ⟨by decide, by decide, by decide, by decide⟩ [0, 1] rfl rfl rfl (fun _ => rfl) hl.1 rfl rfl (Nat.le_of_ble_eq_true rfl) dX4_heat_13 (fun r_3 _ H locs hr_3 hW => ?_)
    have hW : Wd E A s.heap (wcat [CO o vl vt vk vy kp, IA E (o 3) 7 (upd F 0 (F 0 + 1)), HW E vl S Tl]) H locs := hW
    have hr_3 : r_3 = (-1000000001) := hr_3
    subst hr_3
    exact r_iret hC hQ hD hW () (by rw [mHeat, cif_f b_2]; first | done | rfl) (by rw [mHeat, cif_f b_2]; first | done | rfl) rfl dX4_heat_16
  · refine lv_if_ne (tgt := 17) hx hb dX4_heat_8 (by decide) (fun _ => ?_) (fun c => absurd c (by decide))
    refine lv_aload_n hx hb dX4_heat_17 rfl (lv_at hl 0 rfl) ?_
    refine r_get hC hW flX4_10 0 rfl rfl dX4_heat_18 ?_
    refine r_get hC hW flX4_61 2 rfl rfl dX4_heat_21 ?_
    refine lv_istore_n (lv' := [(2, .int (S 0 1)), (0, .ref (o 0)), (1, .int x1)]) hx hb dX4_heat_24 rfl hl (by decide) rfl (fun ls hl => ?_)
    refine lv_aload_n hx hb dX4_heat_25 rfl (lv_at hl 1 rfl) ?_
    refine r_get hC hW flX4_10 0 rfl rfl dX4_heat_26 ?_
    refine lv_iload_n hx hb dX4_heat_29 rfl (lv_at hl 2 rfl) ?_
    refine r_put (ws' := (wcat [CO o vl vt vk vy kp, IA E (o 3) 7 F, HW E vl (st S 0 1 x1) Tl])) hC hD hW fpX4_61 2 rfl rfl rfl (Nat.le_of_ble_eq_true rfl) rfl rfl dX4_heat_30 (fun H locs hW => ?_)
    refine lv_iload_n hx hb dX4_heat_33 rfl (lv_at hl 0 rfl) ?_
    exact r_iret hC hQ hD hW () (by rw [mHeat, cif_t b_2]; first | done | rfl) (by rw [mHeat, cif_t b_2]; first | done | rfl) rfl dX4_heat_34
set_option maxHeartbeats 4000000 in
set_option maxRecDepth 100000 in
theorem c_X4_now (l : Launch) (E : Ev) (o : Nat → Nat) (vl : Nat → Nat) (vt : Nat → Nat) (vk : Nat → Nat) (vy : Nat → Nat) (kp : Int32) (S : HS) (Tl : HS) (F : FT) (P : Nat) (G : Nat) (hV : HV S P G) (x1 : Int32) : MI l E yX4_now cX4_now 2 .int 2 43 0 0 [.ref (o 0), .int x1] (wcat [CO o vl vt vk vy kp, IA E (o 3) 7 F, HW E vl S Tl]) (fun (r : Int32) (_ : Unit) => r = (mNow S F P G x1).1) (fun (_ : Unit) => (wcat [CO o vl vt vk vy kp, IA E (o 3) 7 ((mNow S F P G x1).2), HW E vl S Tl])) := by
  refine MI_intro RX4 (by decide) rfl (Nat.le_of_ble_eq_true rfl) ?_
  intro p e R s m args below meth c A Q hQ hC hD hW hA ls hl
  have hx := hC.1
  have hb := hC.2.1
  have hW : Wd E A s.heap (wcat [CO o vl vt vk vy kp, IA E (o 3) 7 F, HW E vl S Tl]) s.heap [] := hW
  have hD : Dj A [o 0, o 3, vl 0, vl 1, vl 2, vl 3, vl 4, vl 5, vl 6, vl 7, vl 8, vl 9, vl 10] := hD
  have hl : lv_has ls 2 [(0, .ref (o 0)), (1, .int x1)] := hl
  have hP := hV.p
  have hP1 := hV.p6
  have hG := hV.g
  have hG1 := hV.g10
  refine lv_iload_n hx hb dX4_now_0 rfl (lv_at hl 1 rfl) ?_
  by_cases k_1 : x1 = 0
  · refine lv_tableIn (off := 39) (tgt := 40) hx hb dX4_now_1 (by rw [k_1]; decide) (by rw [k_1]; decide) (by rw [k_1]; rfl) (by decide) ?_
    refine lv_aload_n hx hb dX4_now_40 rfl (lv_at hl 0 rfl) ?_
    refine r_get hC hW flX4_10 0 rfl rfl dX4_now_41 ?_
    refine r_get hC hW flX4_65 2 rfl rfl dX4_now_44 ?_
    exact r_iret hC hQ hD hW () (by rw [mNow, if_pos k_1]; first | done | rfl) (by rw [mNow, if_pos k_1]; first | done | rfl) rfl dX4_now_47
  by_cases k_2 : x1 = 1
  · refine lv_tableIn (off := 47) (tgt := 48) hx hb dX4_now_1 (by rw [k_2]; decide) (by rw [k_2]; decide) (by rw [k_2]; rfl) (by decide) ?_
    refine lv_aload_n hx hb dX4_now_48 rfl (lv_at hl 0 rfl) ?_
    refine r_get hC hW flX4_10 0 rfl rfl dX4_now_49 ?_
    refine r_get hC hW flX4_61 2 rfl rfl dX4_now_52 ?_
    exact r_iret hC hQ hD hW () (by rw [mNow, if_neg (by rw [k_2]; decide), if_pos k_2]; first | done | rfl) (by rw [mNow, if_neg (by rw [k_2]; decide), if_pos k_2]; first | done | rfl) rfl dX4_now_55
  by_cases k_3 : x1 = 2
  · refine lv_tableIn (off := 55) (tgt := 56) hx hb dX4_now_1 (by rw [k_3]; decide) (by rw [k_3]; decide) (by rw [k_3]; rfl) (by decide) ?_
    refine lv_aload_n hx hb dX4_now_56 rfl (lv_at hl 0 rfl) ?_
    refine r_get hC hW flX4_10 0 rfl rfl dX4_now_57 ?_
    refine lv_iconst (v := (-1)) hx hb dX4_now_60 (by decide) ?_
    refine r_callCi hC hD hW hA lkX4_68 (c_X0_setHeldBy l E vl S Tl G hV.g hV.g10 (-1)) rfl rfl ⟨by decide, by decide, by decide, by decide⟩ [2] rfl rfl rfl (fun _ => rfl) hl.1 rfl rfl (Nat.le_of_ble_eq_true rfl) dX4_now_61 (fun r_4 _ H locs hr_4 hW => ?_)
    have hW : Wd E A s.heap (wcat [CO o vl vt vk vy kp, IA E (o 3) 7 F, HW E vl S Tl]) H locs := hW
    have hr_4 : r_4 = (nI (mset (wth S (-1)) G)) := hr_4
    subst hr_4
    exact r_iret hC hQ hD hW () (by rw [mNow, if_neg (by rw [k_3]; decide), if_neg (by rw [k_3]; decide), if_pos k_3]; first | done | rfl) (by rw [mNow, if_neg (by rw [k_3]; decide), if_neg (by rw [k_3]; decide), if_pos k_3]; first | done | rfl) rfl dX4_now_64
  by_cases k_5 : x1 = 3
  · refine lv_tableIn (off := 64) (tgt := 65) hx hb dX4_now_1 (by rw [k_5]; decide) (by rw [k_5]; decide) (by rw [k_5]; rfl) (by decide) ?_
    refine lv_aload_n hx hb dX4_now_65 rfl (lv_at hl 0 rfl) ?_
    refine r_get hC hW flX4_10 0 rfl rfl dX4_now_66 ?_
    refine r_callCi hC hD hW hA lkX4_71 (c_X0_setOfRight l E vl S Tl G hV.g hV.g10) rfl rfl ⟨by decide, by decide, by decide, by decide⟩ [2] rfl rfl rfl (fun _ => rfl) hl.1 rfl rfl (Nat.le_of_ble_eq_true rfl) dX4_now_69 (fun r_6 _ H locs hr_6 hW => ?_)
    have hW : Wd E A s.heap (wcat [CO o vl vt vk vy kp, IA E (o 3) 7 F, HW E vl S Tl]) H locs := hW
    have hr_6 : r_6 = (nI (mset (rgt S) G)) := hr_6
    subst hr_6
    exact r_iret hC hQ hD hW () (by rw [mNow, if_neg (by rw [k_5]; decide), if_neg (by rw [k_5]; decide), if_neg (by rw [k_5]; decide), if_pos k_5]; first | done | rfl) (by rw [mNow, if_neg (by rw [k_5]; decide), if_neg (by rw [k_5]; decide), if_neg (by rw [k_5]; decide), if_pos k_5]; first | done | rfl) rfl dX4_now_72
  by_cases k_7 : x1 = 4
  · refine lv_tableIn (off := 72) (tgt := 73) hx hb dX4_now_1 (by rw [k_7]; decide) (by rw [k_7]; decide) (by rw [k_7]; rfl) (by decide) ?_
    refine lv_aload_n hx hb dX4_now_73 rfl (lv_at hl 0 rfl) ?_
    refine r_get hC hW flX4_10 0 rfl rfl dX4_now_74 ?_
    refine r_callCi hC hD hW hA lkX4_75 (c_X0_setOfLiving l E vl S Tl P hV.p hV.p6) rfl rfl ⟨by decide, by decide, by decide, by decide⟩ [2] rfl rfl rfl (fun _ => rfl) hl.1 rfl rfl (Nat.le_of_ble_eq_true rfl) dX4_now_77 (fun r_8 _ H locs hr_8 hW => ?_)
    have hW : Wd E A s.heap (wcat [CO o vl vt vk vy kp, IA E (o 3) 7 F, HW E vl S Tl]) H locs := hW
    have hr_8 : r_8 = (nI (mset (liv S) P)) := hr_8
    subst hr_8
    exact r_iret hC hQ hD hW () (by rw [mNow, if_neg (by rw [k_7]; decide), if_neg (by rw [k_7]; decide), if_neg (by rw [k_7]; decide), if_neg (by rw [k_7]; decide), if_pos k_7]; first | done | rfl) (by rw [mNow, if_neg (by rw [k_7]; decide), if_neg (by rw [k_7]; decide), if_neg (by rw [k_7]; decide), if_neg (by rw [k_7]; decide), if_pos k_7]; first | done | rfl) rfl dX4_now_80
  by_cases k_9 : x1 = 5
  · refine lv_tableIn (off := 80) (tgt := 81) hx hb dX4_now_1 (by rw [k_9]; decide) (by rw [k_9]; decide) (by rw [k_9]; rfl) (by decide) ?_
    refine lv_sipush (v := 10000) hx hb dX4_now_81 (by decide) ?_
    refine lv_aload_n hx hb dX4_now_84 rfl (lv_at hl 0 rfl) ?_
    refine r_get hC hW flX4_10 0 rfl rfl dX4_now_85 ?_
    refine r_callCi hC hD hW hA lkX4_78 (c_X0_sumOfContents l E vl S Tl P hV.p hV.p6) rfl rfl ⟨by decide, by decide, by decide, by decide⟩ [2] rfl rfl rfl (fun _ => rfl) hl.1 rfl rfl (Nat.le_of_ble_eq_true rfl) dX4_now_88 (fun r_10 _ H locs hr_10 hW => ?_)
    have hW : Wd E A s.heap (wcat [CO o vl vt vk vy kp, IA E (o 3) 7 F, HW E vl S Tl]) H locs := hW
    have hr_10 : r_10 = (smI (S 3) P) := hr_10
    subst hr_10
    refine n_iadd (v := (10000 + (smI (S 3) P))) hx hb dX4_now_91 rfl ?_
    exact r_iret hC hQ hD hW () (by rw [mNow, if_neg (by rw [k_9]; decide), if_neg (by rw [k_9]; decide), if_neg (by rw [k_9]; decide), if_neg (by rw [k_9]; decide), if_neg (by rw [k_9]; decide), if_pos k_9]; first | done | rfl) (by rw [mNow, if_neg (by rw [k_9]; decide), if_neg (by rw [k_9]; decide), if_neg (by rw [k_9]; decide), if_neg (by rw [k_9]; decide), if_neg (by rw [k_9]; decide), if_pos k_9]; first | done | rfl) rfl dX4_now_92
  have sw_1 : (x1 : Int32).toInt < 0 ∨ 5 < (x1 : Int32).toInt := by
    have := sw_ne (k := 0) (z := 0) (by decide) k_1
    have := sw_ne (k := 1) (z := 1) (by decide) k_2
    have := sw_ne (k := 2) (z := 2) (by decide) k_3
    have := sw_ne (k := 3) (z := 3) (by decide) k_5
    have := sw_ne (k := 4) (z := 4) (by decide) k_7
    have := sw_ne (k := 5) (z := 5) (by decide) k_9
    omega
  refine lv_tableOut (tgt := 93) hx hb dX4_now_1 sw_1 (by decide) ?_
  refine lv_aload_n hx hb dX4_now_93 rfl (lv_at hl 0 rfl) ?_
  refine lv_iconst (v := 0) hx hb dX4_now_94 (by decide) ?_
  refine r_callCi hC hD hW hA lkX4_57 (c_X4_finding l E o vl vt vk vy kp F 0 (-1000000001) (by decide) (by decide)) rfl rfl ⟨by decide, by decide, by decide, by decide⟩ [0, 1] rfl rfl rfl (fun _ => rfl) hl.1 rfl rfl (Nat.le_of_ble_eq_true rfl) dX4_now_95 (fun r_11 _ H locs hr_11 hW => ?_)
  have hW : Wd E A s.heap (wcat [CO o vl vt vk vy kp, IA E (o 3) 7 (upd F 0 (F 0 + 1)), HW E vl S Tl]) H locs := hW
  have hr_11 : r_11 = (-1000000001) := hr_11
  subst hr_11
  exact r_iret hC hQ hD hW () (by rw [mNow, if_neg k_1, if_neg k_2, if_neg k_3, if_neg k_5, if_neg k_7, if_neg k_9]; first | done | rfl) (by rw [mNow, if_neg k_1, if_neg k_2, if_neg k_3, if_neg k_5, if_neg k_7, if_neg k_9]; first | done | rfl) rfl dX4_now_98
set_option maxHeartbeats 4000000 in
set_option maxRecDepth 100000 in
theorem c_X4_person (l : Launch) (E : Ev) (o : Nat → Nat) (vl : Nat → Nat) (vt : Nat → Nat) (vk : Nat → Nat) (vy : Nat → Nat) (kp : Int32) (S : HS) (Tl : HS) (F : FT) (P : Nat) (G : Nat) (hV : HV S P G) (x1 : Int32) : MI l E yX4_person cX4_person 2 .int 2 42 0 0 [.ref (o 0), .int x1] (wcat [CO o vl vt vk vy kp, IA E (o 3) 7 F, HW E vl S Tl]) (fun (r : Int32) (_ : Unit) => r = (mPerson S F P x1).1) (fun (_ : Unit) => (wcat [CO o vl vt vk vy kp, IA E (o 3) 7 ((mPerson S F P x1).2.2), HW E vl ((mPerson S F P x1).2.1) Tl])) := by
  refine MI_intro RX4 (by decide) rfl (Nat.le_of_ble_eq_true rfl) ?_
  intro p e R s m args below meth c A Q hQ hC hD hW hA ls hl
  have hx := hC.1
  have hb := hC.2.1
  have hW : Wd E A s.heap (wcat [CO o vl vt vk vy kp, IA E (o 3) 7 F, HW E vl S Tl]) s.heap [] := hW
  have hD : Dj A [o 0, o 3, vl 0, vl 1, vl 2, vl 3, vl 4, vl 5, vl 6, vl 7, vl 8, vl 9, vl 10] := hD
  have hl : lv_has ls 2 [(0, .ref (o 0)), (1, .int x1)] := hl
  have hP := hV.p
  have hP1 := hV.p6
  have hG := hV.g
  have hG1 := hV.g10
  refine lv_iload_n hx hb dX4_person_0 rfl (lv_at hl 1 rfl) ?_
  refine r_callSi hC hD hW hA lkX4_81 (c_X4_isKind l E x1) ⟨by decide, by decide, by decide, by decide⟩ rfl hl.1 rfl rfl (Nat.le_of_ble_eq_true rfl) dX4_person_1 (fun r_1 _ H locs hr_1 hW => ?_)
  have hW : Wd E A s.heap (wcat [CO o vl vt vk vy kp, IA E (o 3) 7 F, HW E vl S Tl]) H locs := hW
  have hr_1 : bz (0 ≤ x1 ∧ x1 ≤ 5) r_1 := hr_1
  rcases hr_1 with ⟨rfl, b_2⟩ | ⟨rfl, b_2⟩
  · refine lv_if_ne (tgt := 13) hx hb dX4_person_4 (by decide) (fun c => absurd c (by decide)) (fun _ => ?_)
    refine lv_aload_n hx hb dX4_person_7 rfl (lv_at hl 0 rfl) ?_
    refine lv_iconst (v := 0) hx hb dX4_person_8 (by decide) ?_
    refine r_callCi hC hD hW hA lkX4_57 (c_X4_finding l E o vl vt vk vy kp F 0 (-1000000001) (by decide) (by decide)) rfl rfl ⟨by decide, by decide, by decide, by decide⟩ [0, 1] rfl rfl rfl (fun _ => rfl) hl.1 rfl rfl (Nat.le_of_ble_eq_true rfl) dX4_person_9 (fun r_3 _ H locs hr_3 hW => ?_)
    have hW : Wd E A s.heap (wcat [CO o vl vt vk vy kp, IA E (o 3) 7 (upd F 0 (F 0 + 1)), HW E vl S Tl]) H locs := hW
    have hr_3 : r_3 = (-1000000001) := hr_3
    subst hr_3
    exact r_iret hC hQ hD hW () (by rw [mPerson, cif_f b_2]; first | done | rfl) (by rw [mPerson, cif_f b_2]; first | done | rfl) rfl dX4_person_12
  · refine lv_if_ne (tgt := 13) hx hb dX4_person_4 (by decide) (fun _ => ?_) (fun c => absurd c (by decide))
    refine lv_aload_n hx hb dX4_person_13 rfl (lv_at hl 0 rfl) ?_
    refine r_get hC hW flX4_10 0 rfl rfl dX4_person_14 ?_
    refine r_get hC hW flX4_85 2 rfl rfl dX4_person_17 ?_
    refine n_top hV.p ?_
    refine lv_bipush (v := 6) hx hb dX4_person_20 (by decide) ?_
    refine lv_icmp_lt (tgt := 31) hx hb dX4_person_22 (by decide) (fun c_4 => ?_) (fun c_4 => ?_)
    · have c_4 : P < 6 := (nI_ltI (a := P) (b := 6) (by omega) (by omega)).mp c_4
      refine lv_aload_n hx hb dX4_person_31 rfl (lv_at hl 0 rfl) ?_
      refine r_get hC hW flX4_10 0 rfl rfl dX4_person_32 ?_
      refine lv_iload_n hx hb dX4_person_35 rfl (lv_at hl 1 rfl) ?_
      refine r_callCi hC hD hW hA lkX4_88 (c_X0_addPerson l E vl S Tl P hP (by omega) x1) rfl rfl ⟨by decide, by decide, by decide, by decide⟩ [2] rfl rfl rfl (fun _ => rfl) hl.1 rfl rfl (Nat.le_of_ble_eq_true rfl) dX4_person_36 (fun r_5 _ H locs hr_5 hW => ?_)
      have hW : Wd E A s.heap (wcat [CO o vl vt vk vy kp, IA E (o 3) 7 F, HW E vl (addP S P x1 (nI (P % 3))) Tl]) H locs := hW
      have hr_5 : r_5 = (nI P) := hr_5
      subst hr_5
      exact r_iret hC hQ hD hW () (by rw [mPerson, cif_t b_2, if_neg (show ¬ P = 6 by omega)]; first | done | rfl) (by rw [mPerson, cif_t b_2, if_neg (show ¬ P = 6 by omega)]; first | done | rfl) rfl dX4_person_39
    · have c_4 : ¬ P < 6 := fun z_ => c_4 ((nI_ltI (a := P) (b := 6) (by omega) (by omega)).mpr z_)
      refine lv_aload_n hx hb dX4_person_25 rfl (lv_at hl 0 rfl) ?_
      refine lv_iconst (v := 1) hx hb dX4_person_26 (by decide) ?_
      refine r_callCi hC hD hW hA lkX4_57 (c_X4_finding l E o vl vt vk vy kp F 1 (-1000000002) (by decide) (by decide)) rfl rfl ⟨by decide, by decide, by decide, by decide⟩ [0, 1] rfl rfl rfl (fun _ => rfl) hl.1 rfl rfl (Nat.le_of_ble_eq_true rfl) dX4_person_27 (fun r_6 _ H locs hr_6 hW => ?_)
      have hW : Wd E A s.heap (wcat [CO o vl vt vk vy kp, IA E (o 3) 7 (upd F 1 (F 1 + 1)), HW E vl S Tl]) H locs := hW
      have hr_6 : r_6 = (-1000000002) := hr_6
      subst hr_6
      exact r_iret hC hQ hD hW () (by rw [mPerson, cif_t b_2, if_pos (show P = 6 by omega)]; first | done | rfl) (by rw [mPerson, cif_t b_2, if_pos (show P = 6 by omega)]; first | done | rfl) rfl dX4_person_30
set_option maxHeartbeats 4000000 in
set_option maxRecDepth 100000 in
theorem c_X4_of (l : Launch) (E : Ev) (o : Nat → Nat) (vl : Nat → Nat) (vt : Nat → Nat) (vk : Nat → Nat) (vy : Nat → Nat) (kp : Int32) (S : HS) (Tl : HS) (F : FT) (P : Nat) (G : Nat) (hV : HV S P G) (x1 : Int32) (x2 : Int32) : MI l E yX4_of cX4_of 3 .int 2 43 0 0 [.ref (o 0), .int x1, .int x2] (wcat [CO o vl vt vk vy kp, IA E (o 3) 7 F, HW E vl S Tl]) (fun (r : Int32) (u : HS) => r = (mOf S F P G x1 x2).1) (fun (u : HS) => (wcat [CO o vl vt vk vy kp, IA E (o 3) 7 ((mOf S F P G x1 x2).2), HW E vl S u])) := by
  refine MI_intro RX4 (by decide) rfl (Nat.le_of_ble_eq_true rfl) ?_
  intro p e R s m args below meth c A Q hQ hC hD hW hA ls hl
  have hx := hC.1
  have hb := hC.2.1
  have hW : Wd E A s.heap (wcat [CO o vl vt vk vy kp, IA E (o 3) 7 F, HW E vl S Tl]) s.heap [] := hW
  have hD : Dj A [o 0, o 3, vl 0, vl 1, vl 2, vl 3, vl 4, vl 5, vl 6, vl 7, vl 8, vl 9, vl 10] := hD
  have hl : lv_has ls 3 [(0, .ref (o 0)), (1, .int x1), (2, .int x2)] := hl
  have hP := hV.p
  have hP1 := hV.p6
  have hG := hV.g
  have hG1 := hV.g10
  refine lv_aload_n hx hb dX4_of_0 rfl (lv_at hl 0 rfl) ?_
  refine r_get hC hW flX4_10 0 rfl rfl dX4_of_1 ?_
  refine lv_iload_n hx hb dX4_of_4 rfl (lv_at hl 1 rfl) ?_
  refine r_callCi hC hD hW hA lkX4_91 (c_X0_hasPerson l E vl S Tl P hV.p hV.p6 x1) rfl rfl ⟨by decide, by decide, by decide, by decide⟩ [2] rfl rfl rfl (fun _ => rfl) hl.1 rfl rfl (Nat.le_of_ble_eq_true rfl) dX4_of_5 (fun r_1 _ H locs hr_1 hW => ?_)
  have hW : Wd E A s.heap (wcat [CO o vl vt vk vy kp, IA E (o 3) 7 F, HW E vl S Tl]) H locs := hW
  have hr_1 : bz (∃ j, j < P ∧ x1 = nI j) r_1 := hr_1
  rcases hr_1 with ⟨rfl, b_2⟩ | ⟨rfl, b_2⟩
  · refine lv_if_ne (tgt := 17) hx hb dX4_of_8 (by decide) (fun c => absurd c (by decide)) (fun _ => ?_)
    refine lv_aload_n hx hb dX4_of_11 rfl (lv_at hl 0 rfl) ?_
    refine lv_iconst (v := 0) hx hb dX4_of_12 (by decide) ?_
    refine r_callCi hC hD hW hA lkX4_57 (c_X4_finding l E o vl vt vk vy kp F 0 (-1000000001) (by decide) (by decide)) rfl rfl ⟨by decide, by decide, by decide, by decide⟩ [0, 1] rfl rfl rfl (fun _ => rfl) hl.1 rfl rfl (Nat.le_of_ble_eq_true rfl) dX4_of_13 (fun r_3 _ H locs hr_3 hW => ?_)
    have hW : Wd E A s.heap (wcat [CO o vl vt vk vy kp, IA E (o 3) 7 (upd F 0 (F 0 + 1)), HW E vl S Tl]) H locs := hW
    have hr_3 : r_3 = (-1000000001) := hr_3
    subst hr_3
    exact r_iret hC hQ hD hW Tl (by rw [mOf, cif_f b_2]; first | done | rfl) (by rw [mOf, cif_f b_2]; first | done | rfl) rfl dX4_of_16
  · have eb_2 := b_2
    obtain ⟨j, hj, rfl⟩ := eb_2
    refine lv_if_ne (tgt := 17) hx hb dX4_of_8 (by decide) (fun _ => ?_) (fun c => absurd c (by decide))
    refine lv_iload_n hx hb dX4_of_17 rfl (lv_at hl 2 rfl) ?_
    by_cases k_4 : x2 = 0
    · refine lv_tableIn (off := 38) (tgt := 56) hx hb dX4_of_18 (by rw [k_4]; decide) (by rw [k_4]; decide) (by rw [k_4]; rfl) (by decide) ?_
      refine lv_aload_n hx hb dX4_of_56 rfl (lv_at hl 0 rfl) ?_
      refine r_get hC hW flX4_10 0 rfl rfl dX4_of_57 ?_
      refine r_get hC hW flX4_94 2 rfl rfl dX4_of_60 ?_
      refine lv_iload_n hx hb dX4_of_63 rfl (lv_at hl 1 rfl) ?_
      refine r_iald hC hW 3 rfl j rfl (by omega) (by decide) dX4_of_64 ?_
      exact r_iret hC hQ hD hW Tl (by rw [mOf, cif_t b_2, if_pos k_4, ix_nI (n := j) (by omega)]; first | done | rfl) (by rw [mOf, cif_t b_2, if_pos k_4, ix_nI (n := j) (by omega)]; first | done | rfl) rfl dX4_of_65
    by_cases k_5 : x2 = 1
    · refine lv_tableIn (off := 48) (tgt := 66) hx hb dX4_of_18 (by rw [k_5]; decide) (by rw [k_5]; decide) (by rw [k_5]; rfl) (by decide) ?_
      refine lv_aload_n hx hb dX4_of_66 rfl (lv_at hl 0 rfl) ?_
      refine r_get hC hW flX4_10 0 rfl rfl dX4_of_67 ?_
      refine r_get hC hW flX4_97 2 rfl rfl dX4_of_70 ?_
      refine lv_iload_n hx hb dX4_of_73 rfl (lv_at hl 1 rfl) ?_
      refine r_iald hC hW 4 rfl j rfl (by omega) (by decide) dX4_of_74 ?_
      exact r_iret hC hQ hD hW Tl (by rw [mOf, cif_t b_2, if_neg (by rw [k_5]; decide), if_pos k_5, ix_nI (n := j) (by omega)]; first | done | rfl) (by rw [mOf, cif_t b_2, if_neg (by rw [k_5]; decide), if_pos k_5, ix_nI (n := j) (by omega)]; first | done | rfl) rfl dX4_of_75
    by_cases k_6 : x2 = 2
    · refine lv_tableIn (off := 58) (tgt := 76) hx hb dX4_of_18 (by rw [k_6]; decide) (by rw [k_6]; decide) (by rw [k_6]; rfl) (by decide) ?_
      refine lv_sipush (v := 1000) hx hb dX4_of_76 (by decide) ?_
      refine lv_aload_n hx hb dX4_of_79 rfl (lv_at hl 0 rfl) ?_
      refine r_get hC hW flX4_10 0 rfl rfl dX4_of_80 ?_
      refine r_get hC hW flX4_100 2 rfl rfl dX4_of_83 ?_
      refine lv_iload_n hx hb dX4_of_86 rfl (lv_at hl 1 rfl) ?_
      refine r_iald hC hW 5 rfl j rfl (by omega) (by decide) dX4_of_87 ?_
      refine n_iadd (v := (1000 + (S 3 j))) hx hb dX4_of_88 rfl ?_
      exact r_iret hC hQ hD hW Tl (by rw [mOf, cif_t b_2, if_neg (by rw [k_6]; decide), if_neg (by rw [k_6]; decide), if_pos k_6, ix_nI (n := j) (by omega)]; first | done | rfl) (by rw [mOf, cif_t b_2, if_neg (by rw [k_6]; decide), if_neg (by rw [k_6]; decide), if_pos k_6, ix_nI (n := j) (by omega)]; first | done | rfl) rfl dX4_of_89
    by_cases k_7 : x2 = 3
    · refine lv_tableIn (off := 72) (tgt := 90) hx hb dX4_of_18 (by rw [k_7]; decide) (by rw [k_7]; decide) (by rw [k_7]; rfl) (by decide) ?_
      refine lv_aload_n hx hb dX4_of_90 rfl (lv_at hl 0 rfl) ?_
      refine r_get hC hW flX4_10 0 rfl rfl dX4_of_91 ?_
      refine r_get hC hW flX4_103 2 rfl rfl dX4_of_94 ?_
      refine lv_iload_n hx hb dX4_of_97 rfl (lv_at hl 1 rfl) ?_
      refine r_iald hC hW 6 rfl j rfl (by omega) (by decide) dX4_of_98 ?_
      exact r_iret hC hQ hD hW Tl (by rw [mOf, cif_t b_2, if_neg (by rw [k_7]; decide), if_neg (by rw [k_7]; decide), if_neg (by rw [k_7]; decide), if_pos k_7, ix_nI (n := j) (by omega)]; first | done | rfl) (by rw [mOf, cif_t b_2, if_neg (by rw [k_7]; decide), if_neg (by rw [k_7]; decide), if_neg (by rw [k_7]; decide), if_pos k_7, ix_nI (n := j) (by omega)]; first | done | rfl) rfl dX4_of_99
    by_cases k_8 : x2 = 4
    · refine lv_tableIn (off := 82) (tgt := 100) hx hb dX4_of_18 (by rw [k_8]; decide) (by rw [k_8]; decide) (by rw [k_8]; rfl) (by decide) ?_
      refine lv_aload_n hx hb dX4_of_100 rfl (lv_at hl 0 rfl) ?_
      refine r_get hC hW flX4_10 0 rfl rfl dX4_of_101 ?_
      refine lv_iload_n hx hb dX4_of_104 rfl (lv_at hl 1 rfl) ?_
      refine r_callCi hC hD hW hA lkX4_68 (c_X0_setHeldBy l E vl S Tl G hV.g hV.g10 (nI j)) rfl rfl ⟨by decide, by decide, by decide, by decide⟩ [2] rfl rfl rfl (fun _ => rfl) hl.1 rfl rfl (Nat.le_of_ble_eq_true rfl) dX4_of_105 (fun r_9 _ H locs hr_9 hW => ?_)
      have hW : Wd E A s.heap (wcat [CO o vl vt vk vy kp, IA E (o 3) 7 F, HW E vl S Tl]) H locs := hW
      have hr_9 : r_9 = (nI (mset (wth S (nI j)) G)) := hr_9
      subst hr_9
      exact r_iret hC hQ hD hW Tl (by rw [mOf, cif_t b_2, if_neg (by rw [k_8]; decide), if_neg (by rw [k_8]; decide), if_neg (by rw [k_8]; decide), if_neg (by rw [k_8]; decide), if_pos k_8]; first | done | rfl) (by rw [mOf, cif_t b_2, if_neg (by rw [k_8]; decide), if_neg (by rw [k_8]; decide), if_neg (by rw [k_8]; decide), if_neg (by rw [k_8]; decide), if_pos k_8]; first | done | rfl) rfl dX4_of_108
    by_cases k_10 : x2 = 5
    · refine lv_tableIn (off := 91) (tgt := 109) hx hb dX4_of_18 (by rw [k_10]; decide) (by rw [k_10]; decide) (by rw [k_10]; rfl) (by decide) ?_
      refine lv_aload_n hx hb dX4_of_109 rfl (lv_at hl 0 rfl) ?_
      refine r_get hC hW flX4_10 0 rfl rfl dX4_of_110 ?_
      refine r_callCv hC hD hW hA lkX4_106 (c_X0_tally l E vl S Tl P G hV) rfl rfl ⟨by decide, by decide, by decide, by decide⟩ [2] rfl rfl rfl (fun _ => rfl) hl.1 rfl rfl (Nat.le_of_ble_eq_true rfl) dX4_of_113 (fun u_12 H locs hr_11 hW => ?_)
      have hW : Wd E A s.heap (wcat [CO o vl vt vk vy kp, IA E (o 3) 7 F, HW E vl S u_12]) H locs := hW
      have xr_11 := hr_11
      have hT_ : TAn S u_12 P G := xr_11
      refine lv_sipush (v := 1000) hx hb dX4_of_116 (by decide) ?_
      refine lv_aload_n hx hb dX4_of_119 rfl (lv_at hl 0 rfl) ?_
      refine r_get hC hW flX4_10 0 rfl rfl dX4_of_120 ?_
      refine lv_iload_n hx hb dX4_of_123 rfl (lv_at hl 1 rfl) ?_
      refine r_callCi hC hD hW hA lkX4_109 (c_X0_minds l E vl S u_12 P G hV hT_ j (by omega)) rfl rfl ⟨by decide, by decide, by decide, by decide⟩ [2] rfl rfl rfl (fun _ => rfl) hl.1 rfl rfl (Nat.le_of_ble_eq_true rfl) dX4_of_124 (fun r_13 _ H locs hr_13 hW => ?_)
      have hW : Wd E A s.heap (wcat [CO o vl vt vk vy kp, IA E (o 3) 7 F, HW E vl S u_12]) H locs := hW
      have hr_13 : r_13 = (mnd S j G) := hr_13
      subst hr_13
      refine n_iadd (v := (1000 + (mnd S j G))) hx hb dX4_of_127 rfl ?_
      exact r_iret hC hQ hD hW u_12 (by rw [mOf, cif_t b_2, if_neg (by rw [k_10]; decide), if_neg (by rw [k_10]; decide), if_neg (by rw [k_10]; decide), if_neg (by rw [k_10]; decide), if_neg (by rw [k_10]; decide), if_pos k_10, ix_nI (n := j) (by omega)]; first | done | rfl) (by rw [mOf, cif_t b_2, if_neg (by rw [k_10]; decide), if_neg (by rw [k_10]; decide), if_neg (by rw [k_10]; decide), if_neg (by rw [k_10]; decide), if_neg (by rw [k_10]; decide), if_pos k_10, ix_nI (n := j) (by omega)]; first | done | rfl) rfl dX4_of_128
    have sw_18 : (x2 : Int32).toInt < 0 ∨ 5 < (x2 : Int32).toInt := by
      have := sw_ne (k := 0) (z := 0) (by decide) k_4
      have := sw_ne (k := 1) (z := 1) (by decide) k_5
      have := sw_ne (k := 2) (z := 2) (by decide) k_6
      have := sw_ne (k := 3) (z := 3) (by decide) k_7
      have := sw_ne (k := 4) (z := 4) (by decide) k_8
      have := sw_ne (k := 5) (z := 5) (by decide) k_10
      omega
    refine lv_tableOut (tgt := 129) hx hb dX4_of_18 sw_18 (by decide) ?_
    refine lv_aload_n hx hb dX4_of_129 rfl (lv_at hl 0 rfl) ?_
    refine lv_iconst (v := 0) hx hb dX4_of_130 (by decide) ?_
    refine r_callCi hC hD hW hA lkX4_57 (c_X4_finding l E o vl vt vk vy kp F 0 (-1000000001) (by decide) (by decide)) rfl rfl ⟨by decide, by decide, by decide, by decide⟩ [0, 1] rfl rfl rfl (fun _ => rfl) hl.1 rfl rfl (Nat.le_of_ble_eq_true rfl) dX4_of_131 (fun r_14 _ H locs hr_14 hW => ?_)
    have hW : Wd E A s.heap (wcat [CO o vl vt vk vy kp, IA E (o 3) 7 (upd F 0 (F 0 + 1)), HW E vl S Tl]) H locs := hW
    have hr_14 : r_14 = (-1000000001) := hr_14
    subst hr_14
    exact r_iret hC hQ hD hW Tl (by rw [mOf, cif_t b_2, if_neg k_4, if_neg k_5, if_neg k_6, if_neg k_7, if_neg k_8, if_neg k_10]; first | done | rfl) (by rw [mOf, cif_t b_2, if_neg k_4, if_neg k_5, if_neg k_6, if_neg k_7, if_neg k_8, if_neg k_10]; first | done | rfl) rfl dX4_of_134
set_option maxHeartbeats 4000000 in
set_option maxRecDepth 100000 in
theorem c_X4_set (l : Launch) (E : Ev) (o : Nat → Nat) (vl : Nat → Nat) (vt : Nat → Nat) (vk : Nat → Nat) (vy : Nat → Nat) (kp : Int32) (S : HS) (Tl : HS) (F : FT) (P : Nat) (G : Nat) (hV : HV S P G) (x1 : Int32) (x2 : Int32) (x3 : Int32) : MI l E yX4_set cX4_set 4 .int 2 48 0 0 [.ref (o 0), .int x1, .int x2, .int x3] (wcat [CO o vl vt vk vy kp, IA E (o 3) 7 F, HW E vl S Tl]) (fun (r : Int32) (_ : Unit) => r = (mSet S F P x1 x2 x3).1) (fun (_ : Unit) => (wcat [CO o vl vt vk vy kp, IA E (o 3) 7 ((mSet S F P x1 x2 x3).2.2), HW E vl ((mSet S F P x1 x2 x3).2.1) Tl])) := by
  refine MI_intro RX4 (by decide) rfl (Nat.le_of_ble_eq_true rfl) ?_
  intro p e R s m args below meth c A Q hQ hC hD hW hA ls hl
  have hx := hC.1
  have hb := hC.2.1
  have hW : Wd E A s.heap (wcat [CO o vl vt vk vy kp, IA E (o 3) 7 F, HW E vl S Tl]) s.heap [] := hW
  have hD : Dj A [o 0, o 3, vl 0, vl 1, vl 2, vl 3, vl 4, vl 5, vl 6, vl 7, vl 8, vl 9, vl 10] := hD
  have hl : lv_has ls 4 [(0, .ref (o 0)), (1, .int x1), (2, .int x2), (3, .int x3)] := hl
  have hP := hV.p
  have hP1 := hV.p6
  have hG := hV.g
  have hG1 := hV.g10
  refine lv_aload_n hx hb dX4_set_0 rfl (lv_at hl 0 rfl) ?_
  refine r_get hC hW flX4_10 0 rfl rfl dX4_set_1 ?_
  refine lv_iload_n hx hb dX4_set_4 rfl (lv_at hl 1 rfl) ?_
  refine r_callCi hC hD hW hA lkX4_91 (c_X0_hasPerson l E vl S Tl P hV.p hV.p6 x1) rfl rfl ⟨by decide, by decide, by decide, by decide⟩ [2] rfl rfl rfl (fun _ => rfl) hl.1 rfl rfl (Nat.le_of_ble_eq_true rfl) dX4_set_5 (fun r_1 _ H locs hr_1 hW => ?_)
  have hW : Wd E A s.heap (wcat [CO o vl vt vk vy kp, IA E (o 3) 7 F, HW E vl S Tl]) H locs := hW
  have hr_1 : bz (∃ j, j < P ∧ x1 = nI j) r_1 := hr_1
  rcases hr_1 with ⟨rfl, b_2⟩ | ⟨rfl, b_2⟩
  · refine lv_if_ne (tgt := 17) hx hb dX4_set_8 (by decide) (fun c => absurd c (by decide)) (fun _ => ?_)
    refine lv_aload_n hx hb dX4_set_11 rfl (lv_at hl 0 rfl) ?_
    refine lv_iconst (v := 0) hx hb dX4_set_12 (by decide) ?_
    refine r_callCi hC hD hW hA lkX4_57 (c_X4_finding l E o vl vt vk vy kp F 0 (-1000000001) (by decide) (by decide)) rfl rfl ⟨by decide, by decide, by decide, by decide⟩ [0, 1] rfl rfl rfl (fun _ => rfl) hl.1 rfl rfl (Nat.le_of_ble_eq_true rfl) dX4_set_13 (fun r_3 _ H locs hr_3 hW => ?_)
    have hW : Wd E A s.heap (wcat [CO o vl vt vk vy kp, IA E (o 3) 7 (upd F 0 (F 0 + 1)), HW E vl S Tl]) H locs := hW
    have hr_3 : r_3 = (-1000000001) := hr_3
    subst hr_3
    exact r_iret hC hQ hD hW () (by rw [mSet, cif_f (fun z_ => b_2 z_.1)]; first | done | rfl) (by rw [mSet, cif_f (fun z_ => b_2 z_.1)]; first | done | rfl) rfl dX4_set_16
  · have eb_2 := b_2
    obtain ⟨j, hj, rfl⟩ := eb_2
    refine lv_if_ne (tgt := 17) hx hb dX4_set_8 (by decide) (fun _ => ?_) (fun c => absurd c (by decide))
    refine lv_iload_n hx hb dX4_set_17 rfl (lv_at hl 2 rfl) ?_
    by_cases k_4 : x2 = 1
    · refine lv_tableIn (off := 26) (tgt := 44) hx hb dX4_set_18 (by rw [k_4]; decide) (by rw [k_4]; decide) (by rw [k_4]; rfl) (by decide) ?_
      subst k_4
      refine lv_aload_n hx hb dX4_set_44 rfl (lv_at hl 0 rfl) ?_
      refine lv_aload_n hx hb dX4_set_45 rfl (lv_at hl 0 rfl) ?_
      refine r_get hC hW flX4_10 0 rfl rfl dX4_set_46 ?_
      refine r_get hC hW flX4_97 2 rfl rfl dX4_set_49 ?_
      refine lv_iload_n hx hb dX4_set_52 rfl (lv_at hl 1 rfl) ?_
      refine lv_iload_n hx hb dX4_set_53 rfl (lv_at hl 3 rfl) ?_
      refine lv_iconst (v := 0) hx hb dX4_set_54 (by decide) ?_
      refine lv_iconst (v := 2) hx hb dX4_set_55 (by decide) ?_
      by_cases h_5 : 0 ≤ x3 ∧ x3 ≤ 2
      · refine r_callVi hC hD hW hA lkX4_112 (c_X4_putChecked_o l E o vl vt vk vy kp F (vl 2) 6 (by decide) (S 2) j (by omega) x3 0 2 h_5) rfl ⟨by decide, by decide, by decide, by decide⟩ [0, 1, 4] rfl rfl rfl (fun _ => rfl) hl.1 rfl rfl (Nat.le_of_ble_eq_true rfl) dX4_set_56 (fun r_6 _ H locs hr_6 hW => ?_)
        have hW : Wd E A s.heap (wcat [CO o vl vt vk vy kp, IA E (o 3) 7 F, HW E vl (rws S 2 (upd (S 2) j x3)) Tl]) H locs := hW
        have hr_6 : r_6 = ((S 2) j) := hr_6
        subst hr_6
        exact r_iret hC hQ hD hW () (by rw [mSet, cif_t ⟨b_2, (setP_1).mpr h_5⟩, ix_nI (n := j) (by omega), ix1]; first | done | rfl) (by rw [mSet, cif_t ⟨b_2, (setP_1).mpr h_5⟩, ix_nI (n := j) (by omega), ix1]; first | done | rfl) rfl dX4_set_59
      · refine r_callVi hC hD hW hA lkX4_112 (c_X4_putChecked_b l E o vl vt vk vy kp F (vl 2) 6 (by decide) (S 2) j (by omega) x3 0 2 h_5) rfl ⟨by decide, by decide, by decide, by decide⟩ [0, 1, 4] rfl rfl rfl (fun _ => rfl) hl.1 rfl rfl (Nat.le_of_ble_eq_true rfl) dX4_set_56 (fun r_7 _ H locs hr_7 hW => ?_)
        have hW : Wd E A s.heap (wcat [CO o vl vt vk vy kp, IA E (o 3) 7 (upd F 0 (F 0 + 1)), HW E vl (rws S 2 (S 2)) Tl]) H locs := hW
        have hr_7 : r_7 = (-1000000001) := hr_7
        subst hr_7
        exact r_iret hC hQ hD hW () (by rw [mSet, cif_f (fun z_ => h_5 ((setP_1).mp z_.2))]; first | done | rfl) (by rw [mSet, cif_f (fun z_ => h_5 ((setP_1).mp z_.2))]; first | done | rfl) rfl dX4_set_59
    by_cases k_8 : x2 = 2
    · refine lv_tableIn (off := 42) (tgt := 60) hx hb dX4_set_18 (by rw [k_8]; decide) (by rw [k_8]; decide) (by rw [k_8]; rfl) (by decide) ?_
      subst k_8
      refine lv_aload_n hx hb dX4_set_60 rfl (lv_at hl 0 rfl) ?_
      refine lv_aload_n hx hb dX4_set_61 rfl (lv_at hl 0 rfl) ?_
      refine r_get hC hW flX4_10 0 rfl rfl dX4_set_62 ?_
      refine r_get hC hW flX4_100 2 rfl rfl dX4_set_65 ?_
      refine lv_iload_n hx hb dX4_set_68 rfl (lv_at hl 1 rfl) ?_
      refine lv_iload_n hx hb dX4_set_69 rfl (lv_at hl 3 rfl) ?_
      refine lv_sipush (v := (-999)) hx hb dX4_set_70 (by decide) ?_
      refine lv_sipush (v := 999) hx hb dX4_set_73 (by decide) ?_
      by_cases h_9 : (-999) ≤ x3 ∧ x3 ≤ 999
      · refine r_callVi hC hD hW hA lkX4_112 (c_X4_putChecked_o l E o vl vt vk vy kp F (vl 3) 6 (by decide) (S 3) j (by omega) x3 (-999) 999 h_9) rfl ⟨by decide, by decide, by decide, by decide⟩ [0, 1, 5] rfl rfl rfl (fun _ => rfl) hl.1 rfl rfl (Nat.le_of_ble_eq_true rfl) dX4_set_76 (fun r_10 _ H locs hr_10 hW => ?_)
        have hW : Wd E A s.heap (wcat [CO o vl vt vk vy kp, IA E (o 3) 7 F, HW E vl (rws S 3 (upd (S 3) j x3)) Tl]) H locs := hW
        have hr_10 : r_10 = ((S 3) j) := hr_10
        subst hr_10
        exact r_iret hC hQ hD hW () (by rw [mSet, cif_t ⟨b_2, (setP_2).mpr h_9⟩, ix_nI (n := j) (by omega), ix2]; first | done | rfl) (by rw [mSet, cif_t ⟨b_2, (setP_2).mpr h_9⟩, ix_nI (n := j) (by omega), ix2]; first | done | rfl) rfl dX4_set_79
      · refine r_callVi hC hD hW hA lkX4_112 (c_X4_putChecked_b l E o vl vt vk vy kp F (vl 3) 6 (by decide) (S 3) j (by omega) x3 (-999) 999 h_9) rfl ⟨by decide, by decide, by decide, by decide⟩ [0, 1, 5] rfl rfl rfl (fun _ => rfl) hl.1 rfl rfl (Nat.le_of_ble_eq_true rfl) dX4_set_76 (fun r_11 _ H locs hr_11 hW => ?_)
        have hW : Wd E A s.heap (wcat [CO o vl vt vk vy kp, IA E (o 3) 7 (upd F 0 (F 0 + 1)), HW E vl (rws S 3 (S 3)) Tl]) H locs := hW
        have hr_11 : r_11 = (-1000000001) := hr_11
        subst hr_11
        exact r_iret hC hQ hD hW () (by rw [mSet, cif_f (fun z_ => h_9 ((setP_2).mp z_.2))]; first | done | rfl) (by rw [mSet, cif_f (fun z_ => h_9 ((setP_2).mp z_.2))]; first | done | rfl) rfl dX4_set_79
    by_cases k_12 : x2 = 3
    · refine lv_tableIn (off := 62) (tgt := 80) hx hb dX4_set_18 (by rw [k_12]; decide) (by rw [k_12]; decide) (by rw [k_12]; rfl) (by decide) ?_
      subst k_12
      refine lv_aload_n hx hb dX4_set_80 rfl (lv_at hl 0 rfl) ?_
      refine lv_aload_n hx hb dX4_set_81 rfl (lv_at hl 0 rfl) ?_
      refine r_get hC hW flX4_10 0 rfl rfl dX4_set_82 ?_
      refine r_get hC hW flX4_103 2 rfl rfl dX4_set_85 ?_
      refine lv_iload_n hx hb dX4_set_88 rfl (lv_at hl 1 rfl) ?_
      refine lv_iload_n hx hb dX4_set_89 rfl (lv_at hl 3 rfl) ?_
      refine lv_iconst (v := 0) hx hb dX4_set_90 (by decide) ?_
      refine lv_iconst (v := 1) hx hb dX4_set_91 (by decide) ?_
      by_cases h_13 : 0 ≤ x3 ∧ x3 ≤ 1
      · refine r_callVi hC hD hW hA lkX4_112 (c_X4_putChecked_o l E o vl vt vk vy kp F (vl 4) 6 (by decide) (S 4) j (by omega) x3 0 1 h_13) rfl ⟨by decide, by decide, by decide, by decide⟩ [0, 1, 6] rfl rfl rfl (fun _ => rfl) hl.1 rfl rfl (Nat.le_of_ble_eq_true rfl) dX4_set_92 (fun r_14 _ H locs hr_14 hW => ?_)
        have hW : Wd E A s.heap (wcat [CO o vl vt vk vy kp, IA E (o 3) 7 F, HW E vl (rws S 4 (upd (S 4) j x3)) Tl]) H locs := hW
        have hr_14 : r_14 = ((S 4) j) := hr_14
        subst hr_14
        exact r_iret hC hQ hD hW () (by rw [mSet, cif_t ⟨b_2, (setP_3).mpr h_13⟩, ix_nI (n := j) (by omega), ix3]; first | done | rfl) (by rw [mSet, cif_t ⟨b_2, (setP_3).mpr h_13⟩, ix_nI (n := j) (by omega), ix3]; first | done | rfl) rfl dX4_set_95
      · refine r_callVi hC hD hW hA lkX4_112 (c_X4_putChecked_b l E o vl vt vk vy kp F (vl 4) 6 (by decide) (S 4) j (by omega) x3 0 1 h_13) rfl ⟨by decide, by decide, by decide, by decide⟩ [0, 1, 6] rfl rfl rfl (fun _ => rfl) hl.1 rfl rfl (Nat.le_of_ble_eq_true rfl) dX4_set_92 (fun r_15 _ H locs hr_15 hW => ?_)
        have hW : Wd E A s.heap (wcat [CO o vl vt vk vy kp, IA E (o 3) 7 (upd F 0 (F 0 + 1)), HW E vl (rws S 4 (S 4)) Tl]) H locs := hW
        have hr_15 : r_15 = (-1000000001) := hr_15
        subst hr_15
        exact r_iret hC hQ hD hW () (by rw [mSet, cif_f (fun z_ => h_13 ((setP_3).mp z_.2))]; first | done | rfl) (by rw [mSet, cif_f (fun z_ => h_13 ((setP_3).mp z_.2))]; first | done | rfl) rfl dX4_set_95
    have sw_18 : (x2 : Int32).toInt < 1 ∨ 3 < (x2 : Int32).toInt := by
      have := sw_ne (k := 1) (z := 1) (by decide) k_4
      have := sw_ne (k := 2) (z := 2) (by decide) k_8
      have := sw_ne (k := 3) (z := 3) (by decide) k_12
      omega
    refine lv_tableOut (tgt := 96) hx hb dX4_set_18 sw_18 (by decide) ?_
    refine lv_aload_n hx hb dX4_set_96 rfl (lv_at hl 0 rfl) ?_
    refine lv_iconst (v := 0) hx hb dX4_set_97 (by decide) ?_
    refine r_callCi hC hD hW hA lkX4_57 (c_X4_finding l E o vl vt vk vy kp F 0 (-1000000001) (by decide) (by decide)) rfl rfl ⟨by decide, by decide, by decide, by decide⟩ [0, 1] rfl rfl rfl (fun _ => rfl) hl.1 rfl rfl (Nat.le_of_ble_eq_true rfl) dX4_set_98 (fun r_16 _ H locs hr_16 hW => ?_)
    have hW : Wd E A s.heap (wcat [CO o vl vt vk vy kp, IA E (o 3) 7 (upd F 0 (F 0 + 1)), HW E vl S Tl]) H locs := hW
    have hr_16 : r_16 = (-1000000001) := hr_16
    subst hr_16
    exact r_iret hC hQ hD hW () (by rw [mSet, cif_f (fun z_ => setP_no k_4 k_8 k_12 z_.2)]; first | done | rfl) (by rw [mSet, cif_f (fun z_ => setP_no k_4 k_8 k_12 z_.2)]; first | done | rfl) rfl dX4_set_101
set_option maxHeartbeats 4000000 in
set_option maxRecDepth 100000 in
theorem c_X4_would (l : Launch) (E : Ev) (o : Nat → Nat) (vl : Nat → Nat) (vt : Nat → Nat) (vk : Nat → Nat) (vy : Nat → Nat) (kp : Int32) (S : HS) (Tl : HS) (F : FT) (P : Nat) (G : Nat) (hV : HV S P G) (x1 : Int32) (x2 : Int32) (x3 : Int32) : MI l E yX4_would cX4_would 5 .int 2 43 0 0 [.ref (o 0), .int x1, .int x2, .int x3] (wcat [CO o vl vt vk vy kp, IA E (o 3) 7 F, HW E vl S Tl]) (fun (r : Int32) (u : HS) => r = (mWould S F P G x1 x2 x3).1) (fun (u : HS) => (wcat [CO o vl vt vk vy kp, IA E (o 3) 7 ((mWould S F P G x1 x2 x3).2), HW E vl S u])) := by
  refine MI_intro RX4 (by decide) rfl (Nat.le_of_ble_eq_true rfl) ?_
  intro p e R s m args below meth c A Q hQ hC hD hW hA ls hl
  have hx := hC.1
  have hb := hC.2.1
  have hW : Wd E A s.heap (wcat [CO o vl vt vk vy kp, IA E (o 3) 7 F, HW E vl S Tl]) s.heap [] := hW
  have hD : Dj A [o 0, o 3, vl 0, vl 1, vl 2, vl 3, vl 4, vl 5, vl 6, vl 7, vl 8, vl 9, vl 10] := hD
  have hl : lv_has ls 5 [(0, .ref (o 0)), (1, .int x1), (2, .int x2), (3, .int x3)] := hl
  have hP := hV.p
  have hP1 := hV.p6
  have hG := hV.g
  have hG1 := hV.g10
  refine lv_aload_n hx hb dX4_would_0 rfl (lv_at hl 0 rfl) ?_
  refine r_get hC hW flX4_10 0 rfl rfl dX4_would_1 ?_
  refine lv_iload_n hx hb dX4_would_4 rfl (lv_at hl 1 rfl) ?_
  refine r_callCi hC hD hW hA lkX4_91 (c_X0_hasPerson l E vl S Tl P hV.p hV.p6 x1) rfl rfl ⟨by decide, by decide, by decide, by decide⟩ [2] rfl rfl rfl (fun _ => rfl) hl.1 rfl rfl (Nat.le_of_ble_eq_true rfl) dX4_would_5 (fun r_1 _ H locs hr_1 hW => ?_)
  have hW : Wd E A s.heap (wcat [CO o vl vt vk vy kp, IA E (o 3) 7 F, HW E vl S Tl]) H locs := hW
  have hr_1 : bz (∃ j, j < P ∧ x1 = nI j) r_1 := hr_1
  rcases hr_1 with ⟨rfl, b_2⟩ | ⟨rfl, b_2⟩
  · refine lv_if_eq (tgt := 31) hx hb dX4_would_8 (by decide) (fun _ => ?_) (fun c => absurd c (by decide))
    refine lv_aload_n hx hb dX4_would_31 rfl (lv_at hl 0 rfl) ?_
    refine lv_iconst (v := 0) hx hb dX4_would_32 (by decide) ?_
    refine r_callCi hC hD hW hA lkX4_57 (c_X4_finding l E o vl vt vk vy kp F 0 (-1000000001) (by decide) (by decide)) rfl rfl ⟨by decide, by decide, by decide, by decide⟩ [0, 1] rfl rfl rfl (fun _ => rfl) hl.1 rfl rfl (Nat.le_of_ble_eq_true rfl) dX4_would_33 (fun r_3 _ H locs hr_3 hW => ?_)
    have hW : Wd E A s.heap (wcat [CO o vl vt vk vy kp, IA E (o 3) 7 (upd F 0 (F 0 + 1)), HW E vl S Tl]) H locs := hW
    have hr_3 : r_3 = (-1000000001) := hr_3
    subst hr_3
    exact r_iret hC hQ hD hW Tl (by rw [mWould, cif_f (fun z_ => b_2 z_.1)]; first | done | rfl) (by rw [mWould, cif_f (fun z_ => b_2 z_.1)]; first | done | rfl) rfl dX4_would_36
  · have eb_2 := b_2
    obtain ⟨j, hj, rfl⟩ := eb_2
    refine lv_if_eq (tgt := 31) hx hb dX4_would_8 (by decide) (fun c => absurd c (by decide)) (fun _ => ?_)
    refine lv_aload_n hx hb dX4_would_11 rfl (lv_at hl 0 rfl) ?_
    refine r_get hC hW flX4_10 0 rfl rfl dX4_would_12 ?_
    refine lv_iload_n hx hb dX4_would_15 rfl (lv_at hl 2 rfl) ?_
    refine r_callCi hC hD hW hA lkX4_116 (c_X0_hasGarment l E vl S Tl G hV.g hV.g10 x2) rfl rfl ⟨by decide, by decide, by decide, by decide⟩ [2] rfl rfl rfl (fun _ => rfl) hl.1 rfl rfl (Nat.le_of_ble_eq_true rfl) dX4_would_16 (fun r_4 _ H locs hr_4 hW => ?_)
    have hW : Wd E A s.heap (wcat [CO o vl vt vk vy kp, IA E (o 3) 7 F, HW E vl S Tl]) H locs := hW
    have hr_4 : bz (∃ j, j < G ∧ x2 = nI j) r_4 := hr_4
    rcases hr_4 with ⟨rfl, b_5⟩ | ⟨rfl, b_5⟩
    · refine lv_if_eq (tgt := 31) hx hb dX4_would_19 (by decide) (fun _ => ?_) (fun c => absurd c (by decide))
      refine lv_aload_n hx hb dX4_would_31 rfl (lv_at hl 0 rfl) ?_
      refine lv_iconst (v := 0) hx hb dX4_would_32 (by decide) ?_
      refine r_callCi hC hD hW hA lkX4_57 (c_X4_finding l E o vl vt vk vy kp F 0 (-1000000001) (by decide) (by decide)) rfl rfl ⟨by decide, by decide, by decide, by decide⟩ [0, 1] rfl rfl rfl (fun _ => rfl) hl.1 rfl rfl (Nat.le_of_ble_eq_true rfl) dX4_would_33 (fun r_6 _ H locs hr_6 hW => ?_)
      have hW : Wd E A s.heap (wcat [CO o vl vt vk vy kp, IA E (o 3) 7 (upd F 0 (F 0 + 1)), HW E vl S Tl]) H locs := hW
      have hr_6 : r_6 = (-1000000001) := hr_6
      subst hr_6
      exact r_iret hC hQ hD hW Tl (by rw [mWould, cif_f (fun z_ => b_5 z_.2.1)]; first | done | rfl) (by rw [mWould, cif_f (fun z_ => b_5 z_.2.1)]; first | done | rfl) rfl dX4_would_36
    · have eb_5 := b_5
      obtain ⟨g, hg, rfl⟩ := eb_5
      refine lv_if_eq (tgt := 31) hx hb dX4_would_19 (by decide) (fun c => absurd c (by decide)) (fun _ => ?_)
      refine lv_iload_n hx hb dX4_would_22 rfl (lv_at hl 3 rfl) ?_
      refine lv_iconst (v := 0) hx hb dX4_would_23 (by decide) ?_
      refine lv_iconst (v := 1) hx hb dX4_would_24 (by decide) ?_
      refine r_callSi hC hD hW hA lkX4_53 (c_X4_isWithin l E x3 0 1) ⟨by decide, by decide, by decide, by decide⟩ rfl hl.1 rfl rfl (Nat.le_of_ble_eq_true rfl) dX4_would_25 (fun r_7 _ H locs hr_7 hW => ?_)
      have hW : Wd E A s.heap (wcat [CO o vl vt vk vy kp, IA E (o 3) 7 F, HW E vl S Tl]) H locs := hW
      have hr_7 : bz (0 ≤ x3 ∧ x3 ≤ 1) r_7 := hr_7
      rcases hr_7 with ⟨rfl, b_8⟩ | ⟨rfl, b_8⟩
      · refine lv_if_ne (tgt := 37) hx hb dX4_would_28 (by decide) (fun c => absurd c (by decide)) (fun _ => ?_)
        refine lv_aload_n hx hb dX4_would_31 rfl (lv_at hl 0 rfl) ?_
        refine lv_iconst (v := 0) hx hb dX4_would_32 (by decide) ?_
        refine r_callCi hC hD hW hA lkX4_57 (c_X4_finding l E o vl vt vk vy kp F 0 (-1000000001) (by decide) (by decide)) rfl rfl ⟨by decide, by decide, by decide, by decide⟩ [0, 1] rfl rfl rfl (fun _ => rfl) hl.1 rfl rfl (Nat.le_of_ble_eq_true rfl) dX4_would_33 (fun r_9 _ H locs hr_9 hW => ?_)
        have hW : Wd E A s.heap (wcat [CO o vl vt vk vy kp, IA E (o 3) 7 (upd F 0 (F 0 + 1)), HW E vl S Tl]) H locs := hW
        have hr_9 : r_9 = (-1000000001) := hr_9
        subst hr_9
        exact r_iret hC hQ hD hW Tl (by rw [mWould, cif_f (fun z_ => b_8 z_.2.2)]; first | done | rfl) (by rw [mWould, cif_f (fun z_ => b_8 z_.2.2)]; first | done | rfl) rfl dX4_would_36
      · have eb_8 := rng (k := 1) (by decide) b_8
        obtain ⟨n, hn, rfl⟩ := eb_8
        refine lv_if_ne (tgt := 37) hx hb dX4_would_28 (by decide) (fun _ => ?_) (fun c => absurd c (by decide))
        refine lv_aload_n hx hb dX4_would_37 rfl (lv_at hl 0 rfl) ?_
        refine r_get hC hW flX4_10 0 rfl rfl dX4_would_38 ?_
        refine r_callCv hC hD hW hA lkX4_106 (c_X0_tally l E vl S Tl P G hV) rfl rfl ⟨by decide, by decide, by decide, by decide⟩ [2] rfl rfl rfl (fun _ => rfl) hl.1 rfl rfl (Nat.le_of_ble_eq_true rfl) dX4_would_41 (fun u_11 H locs hr_10 hW => ?_)
        have hW : Wd E A s.heap (wcat [CO o vl vt vk vy kp, IA E (o 3) 7 F, HW E vl S u_11]) H locs := hW
        have xr_10 := hr_10
        have hT_ : TAn S u_11 P G := xr_10
        refine lv_iload_n hx hb dX4_would_44 rfl (lv_at hl 3 rfl) ?_
        refine lv_if_ne (tgt := 60) hx hb dX4_would_45 (by decide) (fun c_12 => ?_) (fun c_12 => ?_)
        · have c_12 : ¬ n = 0 := fun z_ => c_12 ((nI_eq (a := n) (b := 0) (by omega) (by omega)).mpr z_)
          refine lv_aload_n hx hb dX4_would_60 rfl (lv_at hl 0 rfl) ?_
          refine r_get hC hW flX4_10 0 rfl rfl dX4_would_61 ?_
          refine lv_iload_n hx hb dX4_would_64 rfl (lv_at hl 1 rfl) ?_
          refine lv_iload_n hx hb dX4_would_65 rfl (lv_at hl 2 rfl) ?_
          refine r_callCi hC hD hW hA lkX4_123 (c_X0_claims l E vl S u_11 P G hV hT_ j g (by omega) (by omega)) rfl rfl ⟨by decide, by decide, by decide, by decide⟩ [2] rfl rfl rfl (fun _ => rfl) hl.1 rfl rfl (Nat.le_of_ble_eq_true rfl) dX4_would_66 (fun r_13 _ H locs hr_13 hW => ?_)
          have hW : Wd E A s.heap (wcat [CO o vl vt vk vy kp, IA E (o 3) 7 F, HW E vl S u_11]) H locs := hW
          have hr_13 : bz (clm S j g G) r_13 := hr_13
          rcases hr_13 with ⟨rfl, b_14⟩ | ⟨rfl, b_14⟩
          · refine lv_istore (lv' := [(4, .int 0), (0, .ref (o 0)), (1, .int (nI j)), (2, .int (nI g)), (3, .int (nI n))]) hx hb dX4_would_69 hl (by decide) rfl (fun ls hl => ?_)
            refine lv_iload hx hb dX4_would_71 (lv_at hl 0 rfl) ?_
            refine lv_if_eq (tgt := 80) hx hb dX4_would_73 (by decide) (fun _ => ?_) (fun c => absurd c (by decide))
            refine lv_iconst (v := 0) hx hb dX4_would_80 (by decide) ?_
            exact r_iret hC hQ hD hW u_11 (by rw [mWould, cif_t ⟨b_2, b_5, b_8⟩, if_neg (show ¬ nI n = 0 from fun z_ => c_12 ((nI_eq (a := n) (b := 0) (by omega) (by decide)).mp z_)), ix_nI (n := j) (by omega), ix_nI (n := g) (by omega), b01_f b_14]; first | done | rfl) (by rw [mWould, cif_t ⟨b_2, b_5, b_8⟩, if_neg (show ¬ nI n = 0 from fun z_ => c_12 ((nI_eq (a := n) (b := 0) (by omega) (by decide)).mp z_)), ix_nI (n := j) (by omega), ix_nI (n := g) (by omega), b01_f b_14]; first | done | rfl) rfl dX4_would_81
          · refine lv_istore (lv' := [(4, .int 1), (0, .ref (o 0)), (1, .int (nI j)), (2, .int (nI g)), (3, .int (nI n))]) hx hb dX4_would_69 hl (by decide) rfl (fun ls hl => ?_)
            refine lv_iload hx hb dX4_would_71 (lv_at hl 0 rfl) ?_
            refine lv_if_eq (tgt := 80) hx hb dX4_would_73 (by decide) (fun c => absurd c (by decide)) (fun _ => ?_)
            refine lv_iconst (v := 1) hx hb dX4_would_76 (by decide) ?_
            refine lv_goto (tgt := 81) hx hb dX4_would_77 (by decide) ?_
            exact r_iret hC hQ hD hW u_11 (by rw [mWould, cif_t ⟨b_2, b_5, b_8⟩, if_neg (show ¬ nI n = 0 from fun z_ => c_12 ((nI_eq (a := n) (b := 0) (by omega) (by decide)).mp z_)), ix_nI (n := j) (by omega), ix_nI (n := g) (by omega), b01_t b_14]; first | done | rfl) (by rw [mWould, cif_t ⟨b_2, b_5, b_8⟩, if_neg (show ¬ nI n = 0 from fun z_ => c_12 ((nI_eq (a := n) (b := 0) (by omega) (by decide)).mp z_)), ix_nI (n := j) (by omega), ix_nI (n := g) (by omega), b01_t b_14]; first | done | rfl) rfl dX4_would_81
        · have c_12 : n = 0 := (nI_eq (a := n) (b := 0) (by omega) (by omega)).mp c_12
          refine lv_aload_n hx hb dX4_would_48 rfl (lv_at hl 0 rfl) ?_
          refine r_get hC hW flX4_10 0 rfl rfl dX4_would_49 ?_
          refine lv_iload_n hx hb dX4_would_52 rfl (lv_at hl 1 rfl) ?_
          refine lv_iload_n hx hb dX4_would_53 rfl (lv_at hl 2 rfl) ?_
          refine r_callCi hC hD hW hA lkX4_119 (c_X0_givesBack l E vl S u_11 P G hV j g (by omega) (by omega)) rfl rfl ⟨by decide, by decide, by decide, by decide⟩ [2] rfl rfl rfl (fun _ => rfl) hl.1 rfl rfl (Nat.le_of_ble_eq_true rfl) dX4_would_54 (fun r_15 _ H locs hr_15 hW => ?_)
          have hW : Wd E A s.heap (wcat [CO o vl vt vk vy kp, IA E (o 3) 7 F, HW E vl S u_11]) H locs := hW
          have hr_15 : bz (giv S j g) r_15 := hr_15
          rcases hr_15 with ⟨rfl, b_16⟩ | ⟨rfl, b_16⟩
          · refine lv_goto (tgt := 69) hx hb dX4_would_57 (by decide) ?_
            refine lv_istore (lv' := [(4, .int 0), (0, .ref (o 0)), (1, .int (nI j)), (2, .int (nI g)), (3, .int (nI n))]) hx hb dX4_would_69 hl (by decide) rfl (fun ls hl => ?_)
            refine lv_iload hx hb dX4_would_71 (lv_at hl 0 rfl) ?_
            refine lv_if_eq (tgt := 80) hx hb dX4_would_73 (by decide) (fun _ => ?_) (fun c => absurd c (by decide))
            refine lv_iconst (v := 0) hx hb dX4_would_80 (by decide) ?_
            exact r_iret hC hQ hD hW u_11 (by rw [mWould, cif_t ⟨b_2, b_5, b_8⟩, if_pos (show nI n = 0 from congrArg nI c_12), ix_nI (n := j) (by omega), ix_nI (n := g) (by omega), b01_f b_16]; first | done | rfl) (by rw [mWould, cif_t ⟨b_2, b_5, b_8⟩, if_pos (show nI n = 0 from congrArg nI c_12), ix_nI (n := j) (by omega), ix_nI (n := g) (by omega), b01_f b_16]; first | done | rfl) rfl dX4_would_81
          · refine lv_goto (tgt := 69) hx hb dX4_would_57 (by decide) ?_
            refine lv_istore (lv' := [(4, .int 1), (0, .ref (o 0)), (1, .int (nI j)), (2, .int (nI g)), (3, .int (nI n))]) hx hb dX4_would_69 hl (by decide) rfl (fun ls hl => ?_)
            refine lv_iload hx hb dX4_would_71 (lv_at hl 0 rfl) ?_
            refine lv_if_eq (tgt := 80) hx hb dX4_would_73 (by decide) (fun c => absurd c (by decide)) (fun _ => ?_)
            refine lv_iconst (v := 1) hx hb dX4_would_76 (by decide) ?_
            refine lv_goto (tgt := 81) hx hb dX4_would_77 (by decide) ?_
            exact r_iret hC hQ hD hW u_11 (by rw [mWould, cif_t ⟨b_2, b_5, b_8⟩, if_pos (show nI n = 0 from congrArg nI c_12), ix_nI (n := j) (by omega), ix_nI (n := g) (by omega), b01_t b_16]; first | done | rfl) (by rw [mWould, cif_t ⟨b_2, b_5, b_8⟩, if_pos (show nI n = 0 from congrArg nI c_12), ix_nI (n := j) (by omega), ix_nI (n := g) (by omega), b01_t b_16]; first | done | rfl) rfl dX4_would_81
set_option maxHeartbeats 4000000 in
set_option maxRecDepth 100000 in
theorem c_X4_turn (l : Launch) (E : Ev) (o : Nat → Nat) (vl : Nat → Nat) (vt : Nat → Nat) (vk : Nat → Nat) (vy : Nat → Nat) (kp : Int32) (S : HS) (Tl : HS) (F : FT) (P : Nat) (G : Nat) (hV : HV S P G) (x1 : Int32) (x2 : Int32) : MI l E yX4_turn cX4_turn 3 .int 2 48 0 0 [.ref (o 0), .int x1, .int x2] (wcat [CO o vl vt vk vy kp, IA E (o 3) 7 F, HW E vl S Tl]) (fun (r : Int32) (_ : Unit) => r = (mTurn S F P x1 x2).1) (fun (_ : Unit) => (wcat [CO o vl vt vk vy kp, IA E (o 3) 7 ((mTurn S F P x1 x2).2.2), HW E vl ((mTurn S F P x1 x2).2.1) Tl])) := by
  refine MI_intro RX4 (by decide) rfl (Nat.le_of_ble_eq_true rfl) ?_
  intro p e R s m args below meth c A Q hQ hC hD hW hA ls hl
  have hx := hC.1
  have hb := hC.2.1
  have hW : Wd E A s.heap (wcat [CO o vl vt vk vy kp, IA E (o 3) 7 F, HW E vl S Tl]) s.heap [] := hW
  have hD : Dj A [o 0, o 3, vl 0, vl 1, vl 2, vl 3, vl 4, vl 5, vl 6, vl 7, vl 8, vl 9, vl 10] := hD
  have hl : lv_has ls 3 [(0, .ref (o 0)), (1, .int x1), (2, .int x2)] := hl
  have hP := hV.p
  have hP1 := hV.p6
  have hG := hV.g
  have hG1 := hV.g10
  refine lv_aload_n hx hb dX4_turn_0 rfl (lv_at hl 0 rfl) ?_
  refine r_get hC hW flX4_10 0 rfl rfl dX4_turn_1 ?_
  refine lv_iload_n hx hb dX4_turn_4 rfl (lv_at hl 1 rfl) ?_
  refine r_callCi hC hD hW hA lkX4_91 (c_X0_hasPerson l E vl S Tl P hV.p hV.p6 x1) rfl rfl ⟨by decide, by decide, by decide, by decide⟩ [2] rfl rfl rfl (fun _ => rfl) hl.1 rfl rfl (Nat.le_of_ble_eq_true rfl) dX4_turn_5 (fun r_1 _ H locs hr_1 hW => ?_)
  have hW : Wd E A s.heap (wcat [CO o vl vt vk vy kp, IA E (o 3) 7 F, HW E vl S Tl]) H locs := hW
  have hr_1 : bz (∃ j, j < P ∧ x1 = nI j) r_1 := hr_1
  rcases hr_1 with ⟨rfl, b_2⟩ | ⟨rfl, b_2⟩
  · refine lv_if_ne (tgt := 17) hx hb dX4_turn_8 (by decide) (fun c => absurd c (by decide)) (fun _ => ?_)
    refine lv_aload_n hx hb dX4_turn_11 rfl (lv_at hl 0 rfl) ?_
    refine lv_iconst (v := 0) hx hb dX4_turn_12 (by decide) ?_
    refine r_callCi hC hD hW hA lkX4_57 (c_X4_finding l E o vl vt vk vy kp F 0 (-1000000001) (by decide) (by decide)) rfl rfl ⟨by decide, by decide, by decide, by decide⟩ [0, 1] rfl rfl rfl (fun _ => rfl) hl.1 rfl rfl (Nat.le_of_ble_eq_true rfl) dX4_turn_13 (fun r_3 _ H locs hr_3 hW => ?_)
    have hW : Wd E A s.heap (wcat [CO o vl vt vk vy kp, IA E (o 3) 7 (upd F 0 (F 0 + 1)), HW E vl S Tl]) H locs := hW
    have hr_3 : r_3 = (-1000000001) := hr_3
    subst hr_3
    exact r_iret hC hQ hD hW () (by rw [mTurn, cif_f (fun z_ => b_2 z_.1)]; first | done | rfl) (by rw [mTurn, cif_f (fun z_ => b_2 z_.1)]; first | done | rfl) rfl dX4_turn_16
  · have eb_2 := b_2
    obtain ⟨j, hj, rfl⟩ := eb_2
    refine lv_if_ne (tgt := 17) hx hb dX4_turn_8 (by decide) (fun _ => ?_) (fun c => absurd c (by decide))
    refine lv_aload_n hx hb dX4_turn_17 rfl (lv_at hl 0 rfl) ?_
    refine lv_aload_n hx hb dX4_turn_18 rfl (lv_at hl 0 rfl) ?_
    refine r_get hC hW flX4_10 0 rfl rfl dX4_turn_19 ?_
    refine r_get hC hW flX4_94 2 rfl rfl dX4_turn_22 ?_
    refine lv_iload_n hx hb dX4_turn_25 rfl (lv_at hl 1 rfl) ?_
    refine lv_iload_n hx hb dX4_turn_26 rfl (lv_at hl 2 rfl) ?_
    refine lv_iconst (v := 0) hx hb dX4_turn_27 (by decide) ?_
    refine lv_iconst (v := 5) hx hb dX4_turn_28 (by decide) ?_
    by_cases h_4 : 0 ≤ x2 ∧ x2 ≤ 5
    · refine r_callVi hC hD hW hA lkX4_112 (c_X4_putChecked_o l E o vl vt vk vy kp F (vl 1) 6 (by decide) (S 1) j (by omega) x2 0 5 h_4) rfl ⟨by decide, by decide, by decide, by decide⟩ [0, 1, 3] rfl rfl rfl (fun _ => rfl) hl.1 rfl rfl (Nat.le_of_ble_eq_true rfl) dX4_turn_29 (fun r_5 _ H locs hr_5 hW => ?_)
      have hW : Wd E A s.heap (wcat [CO o vl vt vk vy kp, IA E (o 3) 7 F, HW E vl (rws S 1 (upd (S 1) j x2)) Tl]) H locs := hW
      have hr_5 : r_5 = ((S 1) j) := hr_5
      subst hr_5
      exact r_iret hC hQ hD hW () (by rw [mTurn, cif_t ⟨b_2, h_4⟩, ix_nI (n := j) (by omega)]; first | done | rfl) (by rw [mTurn, cif_t ⟨b_2, h_4⟩, ix_nI (n := j) (by omega)]; first | done | rfl) rfl dX4_turn_32
    · refine r_callVi hC hD hW hA lkX4_112 (c_X4_putChecked_b l E o vl vt vk vy kp F (vl 1) 6 (by decide) (S 1) j (by omega) x2 0 5 h_4) rfl ⟨by decide, by decide, by decide, by decide⟩ [0, 1, 3] rfl rfl rfl (fun _ => rfl) hl.1 rfl rfl (Nat.le_of_ble_eq_true rfl) dX4_turn_29 (fun r_6 _ H locs hr_6 hW => ?_)
      have hW : Wd E A s.heap (wcat [CO o vl vt vk vy kp, IA E (o 3) 7 (upd F 0 (F 0 + 1)), HW E vl (rws S 1 (S 1)) Tl]) H locs := hW
      have hr_6 : r_6 = (-1000000001) := hr_6
      subst hr_6
      exact r_iret hC hQ hD hW () (by rw [mTurn, cif_f (fun z_ => h_4 z_.2)]; first | done | rfl) (by rw [mTurn, cif_f (fun z_ => h_4 z_.2)]; first | done | rfl) rfl dX4_turn_32
set_option maxHeartbeats 4000000 in
set_option maxRecDepth 100000 in
theorem c_X4_as (l : Launch) (E : Ev) (o : Nat → Nat) (vl : Nat → Nat) (vt : Nat → Nat) (vk : Nat → Nat) (vy : Nat → Nat) (kp : Int32) (S : HS) (Tl : HS) (F : FT) (P : Nat) (G : Nat) (hV : HV S P G) (x1 : Int32) (x2 : Int32) : MI l E yX4_as cX4_as 3 .int 2 43 0 0 [.ref (o 0), .int x1, .int x2] (wcat [CO o vl vt vk vy kp, IA E (o 3) 7 F, HW E vl S Tl]) (fun (r : Int32) (_ : Unit) => r = (mAs S F P x1 x2).1) (fun (_ : Unit) => (wcat [CO o vl vt vk vy kp, IA E (o 3) 7 ((mAs S F P x1 x2).2), HW E vl S Tl])) := by
  refine MI_intro RX4 (by decide) rfl (Nat.le_of_ble_eq_true rfl) ?_
  intro p e R s m args below meth c A Q hQ hC hD hW hA ls hl
  have hx := hC.1
  have hb := hC.2.1
  have hW : Wd E A s.heap (wcat [CO o vl vt vk vy kp, IA E (o 3) 7 F, HW E vl S Tl]) s.heap [] := hW
  have hD : Dj A [o 0, o 3, vl 0, vl 1, vl 2, vl 3, vl 4, vl 5, vl 6, vl 7, vl 8, vl 9, vl 10] := hD
  have hl : lv_has ls 3 [(0, .ref (o 0)), (1, .int x1), (2, .int x2)] := hl
  have hP := hV.p
  have hP1 := hV.p6
  have hG := hV.g
  have hG1 := hV.g10
  refine lv_aload_n hx hb dX4_as_0 rfl (lv_at hl 0 rfl) ?_
  refine r_get hC hW flX4_10 0 rfl rfl dX4_as_1 ?_
  refine lv_iload_n hx hb dX4_as_4 rfl (lv_at hl 1 rfl) ?_
  refine r_callCi hC hD hW hA lkX4_91 (c_X0_hasPerson l E vl S Tl P hV.p hV.p6 x1) rfl rfl ⟨by decide, by decide, by decide, by decide⟩ [2] rfl rfl rfl (fun _ => rfl) hl.1 rfl rfl (Nat.le_of_ble_eq_true rfl) dX4_as_5 (fun r_1 _ H locs hr_1 hW => ?_)
  have hW : Wd E A s.heap (wcat [CO o vl vt vk vy kp, IA E (o 3) 7 F, HW E vl S Tl]) H locs := hW
  have hr_1 : bz (∃ j, j < P ∧ x1 = nI j) r_1 := hr_1
  rcases hr_1 with ⟨rfl, b_2⟩ | ⟨rfl, b_2⟩
  · refine lv_if_eq (tgt := 18) hx hb dX4_as_8 (by decide) (fun _ => ?_) (fun c => absurd c (by decide))
    refine lv_aload_n hx hb dX4_as_18 rfl (lv_at hl 0 rfl) ?_
    refine lv_iconst (v := 0) hx hb dX4_as_19 (by decide) ?_
    refine r_callCi hC hD hW hA lkX4_57 (c_X4_finding l E o vl vt vk vy kp F 0 (-1000000001) (by decide) (by decide)) rfl rfl ⟨by decide, by decide, by decide, by decide⟩ [0, 1] rfl rfl rfl (fun _ => rfl) hl.1 rfl rfl (Nat.le_of_ble_eq_true rfl) dX4_as_20 (fun r_3 _ H locs hr_3 hW => ?_)
    have hW : Wd E A s.heap (wcat [CO o vl vt vk vy kp, IA E (o 3) 7 (upd F 0 (F 0 + 1)), HW E vl S Tl]) H locs := hW
    have hr_3 : r_3 = (-1000000001) := hr_3
    subst hr_3
    exact r_iret hC hQ hD hW () (by rw [mAs, cif_f (fun z_ => b_2 z_.1)]; first | done | rfl) (by rw [mAs, cif_f (fun z_ => b_2 z_.1)]; first | done | rfl) rfl dX4_as_23
  · have eb_2 := b_2
    obtain ⟨j, hj, rfl⟩ := eb_2
    refine lv_if_eq (tgt := 18) hx hb dX4_as_8 (by decide) (fun c => absurd c (by decide)) (fun _ => ?_)
    refine lv_iload_n hx hb dX4_as_11 rfl (lv_at hl 2 rfl) ?_
    refine r_callSi hC hD hW hA lkX4_81 (c_X4_isKind l E x2) ⟨by decide, by decide, by decide, by decide⟩ rfl hl.1 rfl rfl (Nat.le_of_ble_eq_true rfl) dX4_as_12 (fun r_4 _ H locs hr_4 hW => ?_)
    have hW : Wd E A s.heap (wcat [CO o vl vt vk vy kp, IA E (o 3) 7 F, HW E vl S Tl]) H locs := hW
    have hr_4 : bz (0 ≤ x2 ∧ x2 ≤ 5) r_4 := hr_4
    rcases hr_4 with ⟨rfl, b_5⟩ | ⟨rfl, b_5⟩
    · refine lv_if_ne (tgt := 24) hx hb dX4_as_15 (by decide) (fun c => absurd c (by decide)) (fun _ => ?_)
      refine lv_aload_n hx hb dX4_as_18 rfl (lv_at hl 0 rfl) ?_
      refine lv_iconst (v := 0) hx hb dX4_as_19 (by decide) ?_
      refine r_callCi hC hD hW hA lkX4_57 (c_X4_finding l E o vl vt vk vy kp F 0 (-1000000001) (by decide) (by decide)) rfl rfl ⟨by decide, by decide, by decide, by decide⟩ [0, 1] rfl rfl rfl (fun _ => rfl) hl.1 rfl rfl (Nat.le_of_ble_eq_true rfl) dX4_as_20 (fun r_6 _ H locs hr_6 hW => ?_)
      have hW : Wd E A s.heap (wcat [CO o vl vt vk vy kp, IA E (o 3) 7 (upd F 0 (F 0 + 1)), HW E vl S Tl]) H locs := hW
      have hr_6 : r_6 = (-1000000001) := hr_6
      subst hr_6
      exact r_iret hC hQ hD hW () (by rw [mAs, cif_f (fun z_ => b_5 z_.2)]; first | done | rfl) (by rw [mAs, cif_f (fun z_ => b_5 z_.2)]; first | done | rfl) rfl dX4_as_23
    · refine lv_if_ne (tgt := 24) hx hb dX4_as_15 (by decide) (fun _ => ?_) (fun c => absurd c (by decide))
      refine lv_aload_n hx hb dX4_as_24 rfl (lv_at hl 0 rfl) ?_
      refine r_get hC hW flX4_10 0 rfl rfl dX4_as_25 ?_
      refine r_get hC hW flX4_94 2 rfl rfl dX4_as_28 ?_
      refine lv_iload_n hx hb dX4_as_31 rfl (lv_at hl 1 rfl) ?_
      refine r_iald hC hW 3 rfl j rfl (by omega) (by decide) dX4_as_32 ?_
      refine lv_iload_n hx hb dX4_as_33 rfl (lv_at hl 2 rfl) ?_
      refine r_callSi hC hD hW hA lkX4_126 (c_X4_isUnder l E (S 1 j) x2) ⟨by decide, by decide, by decide, by decide⟩ rfl hl.1 rfl rfl (Nat.le_of_ble_eq_true rfl) dX4_as_34 (fun r_7 _ H locs hr_7 hW => ?_)
      have hW : Wd E A s.heap (wcat [CO o vl vt vk vy kp, IA E (o 3) 7 F, HW E vl S Tl]) H locs := hW
      have hr_7 : bz (asP (S 1 j) x2) r_7 := hr_7
      rcases hr_7 with ⟨rfl, b_8⟩ | ⟨rfl, b_8⟩
      · refine lv_if_ne (tgt := 46) hx hb dX4_as_37 (by decide) (fun c => absurd c (by decide)) (fun _ => ?_)
        refine lv_aload_n hx hb dX4_as_40 rfl (lv_at hl 0 rfl) ?_
        refine lv_iconst (v := 2) hx hb dX4_as_41 (by decide) ?_
        refine r_callCi hC hD hW hA lkX4_57 (c_X4_finding l E o vl vt vk vy kp F 2 (-1000000003) (by decide) (by decide)) rfl rfl ⟨by decide, by decide, by decide, by decide⟩ [0, 1] rfl rfl rfl (fun _ => rfl) hl.1 rfl rfl (Nat.le_of_ble_eq_true rfl) dX4_as_42 (fun r_9 _ H locs hr_9 hW => ?_)
        have hW : Wd E A s.heap (wcat [CO o vl vt vk vy kp, IA E (o 3) 7 (upd F 2 (F 2 + 1)), HW E vl S Tl]) H locs := hW
        have hr_9 : r_9 = (-1000000003) := hr_9
        subst hr_9
        exact r_iret hC hQ hD hW () (by rw [mAs, cif_t ⟨b_2, b_5⟩, ix_nI (n := j) (by omega), cif_f b_8]; first | done | rfl) (by rw [mAs, cif_t ⟨b_2, b_5⟩, ix_nI (n := j) (by omega), cif_f b_8]; first | done | rfl) rfl dX4_as_45
      · refine lv_if_ne (tgt := 46) hx hb dX4_as_37 (by decide) (fun _ => ?_) (fun c => absurd c (by decide))
        refine lv_sipush (v := 1000) hx hb dX4_as_46 (by decide) ?_
        refine lv_aload_n hx hb dX4_as_49 rfl (lv_at hl 0 rfl) ?_
        refine r_get hC hW flX4_10 0 rfl rfl dX4_as_50 ?_
        refine r_get hC hW flX4_100 2 rfl rfl dX4_as_53 ?_
        refine lv_iload_n hx hb dX4_as_56 rfl (lv_at hl 1 rfl) ?_
        refine r_iald hC hW 5 rfl j rfl (by omega) (by decide) dX4_as_57 ?_
        refine n_iadd (v := (1000 + (S 3 j))) hx hb dX4_as_58 rfl ?_
        exact r_iret hC hQ hD hW () (by rw [mAs, cif_t ⟨b_2, b_5⟩, ix_nI (n := j) (by omega), cif_t b_8]; first | done | rfl) (by rw [mAs, cif_t ⟨b_2, b_5⟩, ix_nI (n := j) (by omega), cif_t b_8]; first | done | rfl) rfl dX4_as_59
set_option maxHeartbeats 4000000 in
set_option maxRecDepth 100000 in
theorem c_X4_garment (l : Launch) (E : Ev) (o : Nat → Nat) (vl : Nat → Nat) (vt : Nat → Nat) (vk : Nat → Nat) (vy : Nat → Nat) (kp : Int32) (S : HS) (Tl : HS) (F : FT) (P : Nat) (G : Nat) (hV : HV S P G) (x1 : Int32) (x2 : Int32) : MI l E yX4_garment cX4_garment 3 .int 2 43 0 0 [.ref (o 0), .int x1, .int x2] (wcat [CO o vl vt vk vy kp, IA E (o 3) 7 F, HW E vl S Tl]) (fun (r : Int32) (_ : Unit) => r = (mGarment S F P G x1 x2).1) (fun (_ : Unit) => (wcat [CO o vl vt vk vy kp, IA E (o 3) 7 ((mGarment S F P G x1 x2).2.2), HW E vl ((mGarment S F P G x1 x2).2.1) Tl])) := by
  refine MI_intro RX4 (by decide) rfl (Nat.le_of_ble_eq_true rfl) ?_
  intro p e R s m args below meth c A Q hQ hC hD hW hA ls hl
  have hx := hC.1
  have hb := hC.2.1
  have hW : Wd E A s.heap (wcat [CO o vl vt vk vy kp, IA E (o 3) 7 F, HW E vl S Tl]) s.heap [] := hW
  have hD : Dj A [o 0, o 3, vl 0, vl 1, vl 2, vl 3, vl 4, vl 5, vl 6, vl 7, vl 8, vl 9, vl 10] := hD
  have hl : lv_has ls 3 [(0, .ref (o 0)), (1, .int x1), (2, .int x2)] := hl
  have hP := hV.p
  have hP1 := hV.p6
  have hG := hV.g
  have hG1 := hV.g10
  refine lv_aload_n hx hb dX4_garment_0 rfl (lv_at hl 0 rfl) ?_
  refine r_get hC hW flX4_10 0 rfl rfl dX4_garment_1 ?_
  refine lv_iload_n hx hb dX4_garment_4 rfl (lv_at hl 1 rfl) ?_
  refine r_callCi hC hD hW hA lkX4_91 (c_X0_hasPerson l E vl S Tl P hV.p hV.p6 x1) rfl rfl ⟨by decide, by decide, by decide, by decide⟩ [2] rfl rfl rfl (fun _ => rfl) hl.1 rfl rfl (Nat.le_of_ble_eq_true rfl) dX4_garment_5 (fun r_1 _ H locs hr_1 hW => ?_)
  have hW : Wd E A s.heap (wcat [CO o vl vt vk vy kp, IA E (o 3) 7 F, HW E vl S Tl]) H locs := hW
  have hr_1 : bz (∃ j, j < P ∧ x1 = nI j) r_1 := hr_1
  rcases hr_1 with ⟨rfl, b_2⟩ | ⟨rfl, b_2⟩
  · refine lv_if_eq (tgt := 20) hx hb dX4_garment_8 (by decide) (fun _ => ?_) (fun c => absurd c (by decide))
    refine lv_aload_n hx hb dX4_garment_20 rfl (lv_at hl 0 rfl) ?_
    refine lv_iconst (v := 0) hx hb dX4_garment_21 (by decide) ?_
    refine r_callCi hC hD hW hA lkX4_57 (c_X4_finding l E o vl vt vk vy kp F 0 (-1000000001) (by decide) (by decide)) rfl rfl ⟨by decide, by decide, by decide, by decide⟩ [0, 1] rfl rfl rfl (fun _ => rfl) hl.1 rfl rfl (Nat.le_of_ble_eq_true rfl) dX4_garment_22 (fun r_3 _ H locs hr_3 hW => ?_)
    have hW : Wd E A s.heap (wcat [CO o vl vt vk vy kp, IA E (o 3) 7 (upd F 0 (F 0 + 1)), HW E vl S Tl]) H locs := hW
    have hr_3 : r_3 = (-1000000001) := hr_3
    subst hr_3
    exact r_iret hC hQ hD hW () (by rw [mGarment, cif_f (fun z_ => b_2 z_.1)]; first | done | rfl) (by rw [mGarment, cif_f (fun z_ => b_2 z_.1)]; first | done | rfl) rfl dX4_garment_25
  · have eb_2 := b_2
    obtain ⟨j, hj, rfl⟩ := eb_2
    refine lv_if_eq (tgt := 20) hx hb dX4_garment_8 (by decide) (fun c => absurd c (by decide)) (fun _ => ?_)
    refine lv_iload_n hx hb dX4_garment_11 rfl (lv_at hl 2 rfl) ?_
    refine lv_iconst (v := 0) hx hb dX4_garment_12 (by decide) ?_
    refine lv_iconst (v := 2) hx hb dX4_garment_13 (by decide) ?_
    refine r_callSi hC hD hW hA lkX4_53 (c_X4_isWithin l E x2 0 2) ⟨by decide, by decide, by decide, by decide⟩ rfl hl.1 rfl rfl (Nat.le_of_ble_eq_true rfl) dX4_garment_14 (fun r_4 _ H locs hr_4 hW => ?_)
    have hW : Wd E A s.heap (wcat [CO o vl vt vk vy kp, IA E (o 3) 7 F, HW E vl S Tl]) H locs := hW
    have hr_4 : bz (0 ≤ x2 ∧ x2 ≤ 2) r_4 := hr_4
    rcases hr_4 with ⟨rfl, b_5⟩ | ⟨rfl, b_5⟩
    · refine lv_if_ne (tgt := 26) hx hb dX4_garment_17 (by decide) (fun c => absurd c (by decide)) (fun _ => ?_)
      refine lv_aload_n hx hb dX4_garment_20 rfl (lv_at hl 0 rfl) ?_
      refine lv_iconst (v := 0) hx hb dX4_garment_21 (by decide) ?_
      refine r_callCi hC hD hW hA lkX4_57 (c_X4_finding l E o vl vt vk vy kp F 0 (-1000000001) (by decide) (by decide)) rfl rfl ⟨by decide, by decide, by decide, by decide⟩ [0, 1] rfl rfl rfl (fun _ => rfl) hl.1 rfl rfl (Nat.le_of_ble_eq_true rfl) dX4_garment_22 (fun r_6 _ H locs hr_6 hW => ?_)
      have hW : Wd E A s.heap (wcat [CO o vl vt vk vy kp, IA E (o 3) 7 (upd F 0 (F 0 + 1)), HW E vl S Tl]) H locs := hW
      have hr_6 : r_6 = (-1000000001) := hr_6
      subst hr_6
      exact r_iret hC hQ hD hW () (by rw [mGarment, cif_f (fun z_ => b_5 z_.2)]; first | done | rfl) (by rw [mGarment, cif_f (fun z_ => b_5 z_.2)]; first | done | rfl) rfl dX4_garment_25
    · refine lv_if_ne (tgt := 26) hx hb dX4_garment_17 (by decide) (fun _ => ?_) (fun c => absurd c (by decide))
      refine lv_aload_n hx hb dX4_garment_26 rfl (lv_at hl 0 rfl) ?_
      refine r_get hC hW flX4_10 0 rfl rfl dX4_garment_27 ?_
      refine r_get hC hW flX4_129 2 rfl rfl dX4_garment_30 ?_
      refine n_top hV.g ?_
      refine lv_bipush (v := 10) hx hb dX4_garment_33 (by decide) ?_
      refine lv_icmp_lt (tgt := 44) hx hb dX4_garment_35 (by decide) (fun c_7 => ?_) (fun c_7 => ?_)
      · have c_7 : G < 10 := (nI_ltI (a := G) (b := 10) (by omega) (by omega)).mp c_7
        refine lv_aload_n hx hb dX4_garment_44 rfl (lv_at hl 0 rfl) ?_
        refine r_get hC hW flX4_10 0 rfl rfl dX4_garment_45 ?_
        refine lv_iload_n hx hb dX4_garment_48 rfl (lv_at hl 1 rfl) ?_
        refine lv_iload_n hx hb dX4_garment_49 rfl (lv_at hl 2 rfl) ?_
        refine r_callCi hC hD hW hA lkX4_132 (c_X0_addGarment l E vl S Tl G hG (by omega) (nI j) x2) rfl rfl ⟨by decide, by decide, by decide, by decide⟩ [2] rfl rfl rfl (fun _ => rfl) hl.1 rfl rfl (Nat.le_of_ble_eq_true rfl) dX4_garment_50 (fun r_8 _ H locs hr_8 hW => ?_)
        have hW : Wd E A s.heap (wcat [CO o vl vt vk vy kp, IA E (o 3) 7 F, HW E vl (addG S G (nI j) x2 99 (nI j)) Tl]) H locs := hW
        have hr_8 : r_8 = (nI G) := hr_8
        subst hr_8
        exact r_iret hC hQ hD hW () (by rw [mGarment, cif_t ⟨b_2, b_5⟩, if_neg (show ¬ G = 10 by omega)]; first | done | rfl) (by rw [mGarment, cif_t ⟨b_2, b_5⟩, if_neg (show ¬ G = 10 by omega)]; first | done | rfl) rfl dX4_garment_53
      · have c_7 : ¬ G < 10 := fun z_ => c_7 ((nI_ltI (a := G) (b := 10) (by omega) (by omega)).mpr z_)
        refine lv_aload_n hx hb dX4_garment_38 rfl (lv_at hl 0 rfl) ?_
        refine lv_iconst (v := 1) hx hb dX4_garment_39 (by decide) ?_
        refine r_callCi hC hD hW hA lkX4_57 (c_X4_finding l E o vl vt vk vy kp F 1 (-1000000002) (by decide) (by decide)) rfl rfl ⟨by decide, by decide, by decide, by decide⟩ [0, 1] rfl rfl rfl (fun _ => rfl) hl.1 rfl rfl (Nat.le_of_ble_eq_true rfl) dX4_garment_40 (fun r_9 _ H locs hr_9 hW => ?_)
        have hW : Wd E A s.heap (wcat [CO o vl vt vk vy kp, IA E (o 3) 7 (upd F 1 (F 1 + 1)), HW E vl S Tl]) H locs := hW
        have hr_9 : r_9 = (-1000000002) := hr_9
        subst hr_9
        exact r_iret hC hQ hD hW () (by rw [mGarment, cif_t ⟨b_2, b_5⟩, if_pos (show G = 10 by omega)]; first | done | rfl) (by rw [mGarment, cif_t ⟨b_2, b_5⟩, if_pos (show G = 10 by omega)]; first | done | rfl) rfl dX4_garment_43
set_option maxHeartbeats 4000000 in
set_option maxRecDepth 100000 in
theorem c_X4_garmentOf (l : Launch) (E : Ev) (o : Nat → Nat) (vl : Nat → Nat) (vt : Nat → Nat) (vk : Nat → Nat) (vy : Nat → Nat) (kp : Int32) (S : HS) (Tl : HS) (F : FT) (P : Nat) (G : Nat) (hV : HV S P G) (x1 : Int32) (x2 : Int32) : MI l E yX4_garmentOf cX4_garmentOf 3 .int 2 44 0 0 [.ref (o 0), .int x1, .int x2] (wcat [CO o vl vt vk vy kp, IA E (o 3) 7 F, HW E vl S Tl]) (fun (r : Int32) (_ : Unit) => r = (mGarmentOf S F P G x1 x2).1) (fun (_ : Unit) => (wcat [CO o vl vt vk vy kp, IA E (o 3) 7 ((mGarmentOf S F P G x1 x2).2), HW E vl S Tl])) := by
  refine MI_intro RX4 (by decide) rfl (Nat.le_of_ble_eq_true rfl) ?_
  intro p e R s m args below meth c A Q hQ hC hD hW hA ls hl
  have hx := hC.1
  have hb := hC.2.1
  have hW : Wd E A s.heap (wcat [CO o vl vt vk vy kp, IA E (o 3) 7 F, HW E vl S Tl]) s.heap [] := hW
  have hD : Dj A [o 0, o 3, vl 0, vl 1, vl 2, vl 3, vl 4, vl 5, vl 6, vl 7, vl 8, vl 9, vl 10] := hD
  have hl : lv_has ls 3 [(0, .ref (o 0)), (1, .int x1), (2, .int x2)] := hl
  have hP := hV.p
  have hP1 := hV.p6
  have hG := hV.g
  have hG1 := hV.g10
  refine lv_aload_n hx hb dX4_garmentOf_0 rfl (lv_at hl 0 rfl) ?_
  refine r_get hC hW flX4_10 0 rfl rfl dX4_garmentOf_1 ?_
  refine lv_iload_n hx hb dX4_garmentOf_4 rfl (lv_at hl 1 rfl) ?_
  refine r_callCi hC hD hW hA lkX4_116 (c_X0_hasGarment l E vl S Tl G hV.g hV.g10 x1) rfl rfl ⟨by decide, by decide, by decide, by decide⟩ [2] rfl rfl rfl (fun _ => rfl) hl.1 rfl rfl (Nat.le_of_ble_eq_true rfl) dX4_garmentOf_5 (fun r_1 _ H locs hr_1 hW => ?_)
  have hW : Wd E A s.heap (wcat [CO o vl vt vk vy kp, IA E (o 3) 7 F, HW E vl S Tl]) H locs := hW
  have hr_1 : bz (∃ j, j < G ∧ x1 = nI j) r_1 := hr_1
  rcases hr_1 with ⟨rfl, b_2⟩ | ⟨rfl, b_2⟩
  · refine lv_if_ne (tgt := 17) hx hb dX4_garmentOf_8 (by decide) (fun c => absurd c (by decide)) (fun _ => ?_)
    refine lv_aload_n hx hb dX4_garmentOf_11 rfl (lv_at hl 0 rfl) ?_
    refine lv_iconst (v := 0) hx hb dX4_garmentOf_12 (by decide) ?_
    refine r_callCi hC hD hW hA lkX4_57 (c_X4_finding l E o vl vt vk vy kp F 0 (-1000000001) (by decide) (by decide)) rfl rfl ⟨by decide, by decide, by decide, by decide⟩ [0, 1] rfl rfl rfl (fun _ => rfl) hl.1 rfl rfl (Nat.le_of_ble_eq_true rfl) dX4_garmentOf_13 (fun r_3 _ H locs hr_3 hW => ?_)
    have hW : Wd E A s.heap (wcat [CO o vl vt vk vy kp, IA E (o 3) 7 (upd F 0 (F 0 + 1)), HW E vl S Tl]) H locs := hW
    have hr_3 : r_3 = (-1000000001) := hr_3
    subst hr_3
    exact r_iret hC hQ hD hW () (by rw [mGarmentOf, cif_f b_2]; first | done | rfl) (by rw [mGarmentOf, cif_f b_2]; first | done | rfl) rfl dX4_garmentOf_16
  · have eb_2 := b_2
    obtain ⟨g, hg, rfl⟩ := eb_2
    refine lv_if_ne (tgt := 17) hx hb dX4_garmentOf_8 (by decide) (fun _ => ?_) (fun c => absurd c (by decide))
    refine lv_iload_n hx hb dX4_garmentOf_17 rfl (lv_at hl 2 rfl) ?_
    by_cases k_4 : x2 = 0
    · refine lv_tableIn (off := 38) (tgt := 56) hx hb dX4_garmentOf_18 (by rw [k_4]; decide) (by rw [k_4]; decide) (by rw [k_4]; rfl) (by decide) ?_
      refine lv_aload_n hx hb dX4_garmentOf_56 rfl (lv_at hl 0 rfl) ?_
      refine r_get hC hW flX4_10 0 rfl rfl dX4_garmentOf_57 ?_
      refine r_get hC hW flX4_136 2 rfl rfl dX4_garmentOf_60 ?_
      refine lv_iload_n hx hb dX4_garmentOf_63 rfl (lv_at hl 1 rfl) ?_
      refine r_iald hC hW 7 rfl g rfl (by omega) (by decide) dX4_garmentOf_64 ?_
      exact r_iret hC hQ hD hW () (by rw [mGarmentOf, cif_t b_2, if_pos k_4, ix_nI (n := g) (by omega)]; first | done | rfl) (by rw [mGarmentOf, cif_t b_2, if_pos k_4, ix_nI (n := g) (by omega)]; first | done | rfl) rfl dX4_garmentOf_65
    by_cases k_5 : x2 = 1
    · refine lv_tableIn (off := 48) (tgt := 66) hx hb dX4_garmentOf_18 (by rw [k_5]; decide) (by rw [k_5]; decide) (by rw [k_5]; rfl) (by decide) ?_
      refine lv_aload_n hx hb dX4_garmentOf_66 rfl (lv_at hl 0 rfl) ?_
      refine r_get hC hW flX4_10 0 rfl rfl dX4_garmentOf_67 ?_
      refine r_get hC hW flX4_139 2 rfl rfl dX4_garmentOf_70 ?_
      refine lv_iload_n hx hb dX4_garmentOf_73 rfl (lv_at hl 1 rfl) ?_
      refine r_iald hC hW 8 rfl g rfl (by omega) (by decide) dX4_garmentOf_74 ?_
      exact r_iret hC hQ hD hW () (by rw [mGarmentOf, cif_t b_2, if_neg (by rw [k_5]; decide), if_pos k_5, ix_nI (n := g) (by omega)]; first | done | rfl) (by rw [mGarmentOf, cif_t b_2, if_neg (by rw [k_5]; decide), if_pos k_5, ix_nI (n := g) (by omega)]; first | done | rfl) rfl dX4_garmentOf_75
    by_cases k_6 : x2 = 2
    · refine lv_tableIn (off := 58) (tgt := 76) hx hb dX4_garmentOf_18 (by rw [k_6]; decide) (by rw [k_6]; decide) (by rw [k_6]; rfl) (by decide) ?_
      refine lv_aload_n hx hb dX4_garmentOf_76 rfl (lv_at hl 0 rfl) ?_
      refine r_get hC hW flX4_10 0 rfl rfl dX4_garmentOf_77 ?_
      refine r_get hC hW flX4_142 2 rfl rfl dX4_garmentOf_80 ?_
      refine lv_iload_n hx hb dX4_garmentOf_83 rfl (lv_at hl 1 rfl) ?_
      refine r_iald hC hW 9 rfl g rfl (by omega) (by decide) dX4_garmentOf_84 ?_
      exact r_iret hC hQ hD hW () (by rw [mGarmentOf, cif_t b_2, if_neg (by rw [k_6]; decide), if_neg (by rw [k_6]; decide), if_pos k_6, ix_nI (n := g) (by omega)]; first | done | rfl) (by rw [mGarmentOf, cif_t b_2, if_neg (by rw [k_6]; decide), if_neg (by rw [k_6]; decide), if_pos k_6, ix_nI (n := g) (by omega)]; first | done | rfl) rfl dX4_garmentOf_85
    by_cases k_7 : x2 = 3
    · refine lv_tableIn (off := 68) (tgt := 86) hx hb dX4_garmentOf_18 (by rw [k_7]; decide) (by rw [k_7]; decide) (by rw [k_7]; rfl) (by decide) ?_
      refine lv_aload_n hx hb dX4_garmentOf_86 rfl (lv_at hl 0 rfl) ?_
      refine r_get hC hW flX4_10 0 rfl rfl dX4_garmentOf_87 ?_
      refine r_get hC hW flX4_145 2 rfl rfl dX4_garmentOf_90 ?_
      refine lv_iload_n hx hb dX4_garmentOf_93 rfl (lv_at hl 1 rfl) ?_
      refine r_iald hC hW 10 rfl g rfl (by omega) (by decide) dX4_garmentOf_94 ?_
      exact r_iret hC hQ hD hW () (by rw [mGarmentOf, cif_t b_2, if_neg (by rw [k_7]; decide), if_neg (by rw [k_7]; decide), if_neg (by rw [k_7]; decide), if_pos k_7, ix_nI (n := g) (by omega)]; first | done | rfl) (by rw [mGarmentOf, cif_t b_2, if_neg (by rw [k_7]; decide), if_neg (by rw [k_7]; decide), if_neg (by rw [k_7]; decide), if_pos k_7, ix_nI (n := g) (by omega)]; first | done | rfl) rfl dX4_garmentOf_95
    by_cases k_8 : x2 = 4
    · refine lv_tableIn (off := 78) (tgt := 96) hx hb dX4_garmentOf_18 (by rw [k_8]; decide) (by rw [k_8]; decide) (by rw [k_8]; rfl) (by decide) ?_
      refine lv_aload_n hx hb dX4_garmentOf_96 rfl (lv_at hl 0 rfl) ?_
      refine r_get hC hW flX4_10 0 rfl rfl dX4_garmentOf_97 ?_
      refine lv_iload_n hx hb dX4_garmentOf_100 rfl (lv_at hl 1 rfl) ?_
      refine r_callCi hC hD hW hA lkX4_148 (c_X0_readsFor l E vl S Tl P G hV g (by omega)) rfl rfl ⟨by decide, by decide, by decide, by decide⟩ [2] rfl rfl rfl (fun _ => rfl) hl.1 rfl rfl (Nat.le_of_ble_eq_true rfl) dX4_garmentOf_101 (fun r_9 _ H locs hr_9 hW => ?_)
      have hW : Wd E A s.heap (wcat [CO o vl vt vk vy kp, IA E (o 3) 7 F, HW E vl S Tl]) H locs := hW
      have hr_9 : r_9 = (rdI S P g) := hr_9
      subst hr_9
      exact r_iret hC hQ hD hW () (by rw [mGarmentOf, cif_t b_2, if_neg (by rw [k_8]; decide), if_neg (by rw [k_8]; decide), if_neg (by rw [k_8]; decide), if_neg (by rw [k_8]; decide), if_pos k_8, ix_nI (n := g) (by omega)]; first | done | rfl) (by rw [mGarmentOf, cif_t b_2, if_neg (by rw [k_8]; decide), if_neg (by rw [k_8]; decide), if_neg (by rw [k_8]; decide), if_neg (by rw [k_8]; decide), if_pos k_8, ix_nI (n := g) (by omega)]; first | done | rfl) rfl dX4_garmentOf_104
    by_cases k_10 : x2 = 5
    · refine lv_tableIn (off := 87) (tgt := 105) hx hb dX4_garmentOf_18 (by rw [k_10]; decide) (by rw [k_10]; decide) (by rw [k_10]; rfl) (by decide) ?_
      refine lv_aload_n hx hb dX4_garmentOf_105 rfl (lv_at hl 0 rfl) ?_
      refine r_get hC hW flX4_10 0 rfl rfl dX4_garmentOf_106 ?_
      refine lv_iload_n hx hb dX4_garmentOf_109 rfl (lv_at hl 1 rfl) ?_
      refine r_callCi hC hD hW hA lkX4_151 (c_X0_fades l E vl S Tl P G hV g (by omega)) rfl rfl ⟨by decide, by decide, by decide, by decide⟩ [2] rfl rfl rfl (fun _ => rfl) hl.1 rfl rfl (Nat.le_of_ble_eq_true rfl) dX4_garmentOf_110 (fun r_11 _ H locs hr_11 hW => ?_)
      have hW : Wd E A s.heap (wcat [CO o vl vt vk vy kp, IA E (o 3) 7 F, HW E vl S Tl]) H locs := hW
      have hr_11 : r_11 = (nI (fdn S g)) := hr_11
      subst hr_11
      exact r_iret hC hQ hD hW () (by rw [mGarmentOf, cif_t b_2, if_neg (by rw [k_10]; decide), if_neg (by rw [k_10]; decide), if_neg (by rw [k_10]; decide), if_neg (by rw [k_10]; decide), if_neg (by rw [k_10]; decide), if_pos k_10, ix_nI (n := g) (by omega)]; first | done | rfl) (by rw [mGarmentOf, cif_t b_2, if_neg (by rw [k_10]; decide), if_neg (by rw [k_10]; decide), if_neg (by rw [k_10]; decide), if_neg (by rw [k_10]; decide), if_neg (by rw [k_10]; decide), if_pos k_10, ix_nI (n := g) (by omega)]; first | done | rfl) rfl dX4_garmentOf_113
    have sw_18 : (x2 : Int32).toInt < 0 ∨ 5 < (x2 : Int32).toInt := by
      have := sw_ne (k := 0) (z := 0) (by decide) k_4
      have := sw_ne (k := 1) (z := 1) (by decide) k_5
      have := sw_ne (k := 2) (z := 2) (by decide) k_6
      have := sw_ne (k := 3) (z := 3) (by decide) k_7
      have := sw_ne (k := 4) (z := 4) (by decide) k_8
      have := sw_ne (k := 5) (z := 5) (by decide) k_10
      omega
    refine lv_tableOut (tgt := 114) hx hb dX4_garmentOf_18 sw_18 (by decide) ?_
    refine lv_aload_n hx hb dX4_garmentOf_114 rfl (lv_at hl 0 rfl) ?_
    refine lv_iconst (v := 0) hx hb dX4_garmentOf_115 (by decide) ?_
    refine r_callCi hC hD hW hA lkX4_57 (c_X4_finding l E o vl vt vk vy kp F 0 (-1000000001) (by decide) (by decide)) rfl rfl ⟨by decide, by decide, by decide, by decide⟩ [0, 1] rfl rfl rfl (fun _ => rfl) hl.1 rfl rfl (Nat.le_of_ble_eq_true rfl) dX4_garmentOf_116 (fun r_12 _ H locs hr_12 hW => ?_)
    have hW : Wd E A s.heap (wcat [CO o vl vt vk vy kp, IA E (o 3) 7 (upd F 0 (F 0 + 1)), HW E vl S Tl]) H locs := hW
    have hr_12 : r_12 = (-1000000001) := hr_12
    subst hr_12
    exact r_iret hC hQ hD hW () (by rw [mGarmentOf, cif_t b_2, if_neg k_4, if_neg k_5, if_neg k_6, if_neg k_7, if_neg k_8, if_neg k_10]; first | done | rfl) (by rw [mGarmentOf, cif_t b_2, if_neg k_4, if_neg k_5, if_neg k_6, if_neg k_7, if_neg k_8, if_neg k_10]; first | done | rfl) rfl dX4_garmentOf_119
set_option maxHeartbeats 4000000 in
set_option maxRecDepth 100000 in
theorem c_X4_sew (l : Launch) (E : Ev) (o : Nat → Nat) (vl : Nat → Nat) (vt : Nat → Nat) (vk : Nat → Nat) (vy : Nat → Nat) (kp : Int32) (S : HS) (Tl : HS) (F : FT) (P : Nat) (G : Nat) (hV : HV S P G) (x1 : Int32) (x2 : Int32) (x3 : Int32) : MI l E yX4_sew cX4_sew 4 .int 2 48 0 0 [.ref (o 0), .int x1, .int x2, .int x3] (wcat [CO o vl vt vk vy kp, IA E (o 3) 7 F, HW E vl S Tl]) (fun (r : Int32) (_ : Unit) => r = (mSew S F P G x1 x2 x3).1) (fun (_ : Unit) => (wcat [CO o vl vt vk vy kp, IA E (o 3) 7 ((mSew S F P G x1 x2 x3).2.2), HW E vl ((mSew S F P G x1 x2 x3).2.1) Tl])) := by
  refine MI_intro RX4 (by decide) rfl (Nat.le_of_ble_eq_true rfl) ?_
  intro p e R s m args below meth c A Q hQ hC hD hW hA ls hl
  have hx := hC.1
  have hb := hC.2.1
  have hW : Wd E A s.heap (wcat [CO o vl vt vk vy kp, IA E (o 3) 7 F, HW E vl S Tl]) s.heap [] := hW
  have hD : Dj A [o 0, o 3, vl 0, vl 1, vl 2, vl 3, vl 4, vl 5, vl 6, vl 7, vl 8, vl 9, vl 10] := hD
  have hl : lv_has ls 4 [(0, .ref (o 0)), (1, .int x1), (2, .int x2), (3, .int x3)] := hl
  have hP := hV.p
  have hP1 := hV.p6
  have hG := hV.g
  have hG1 := hV.g10
  refine lv_aload_n hx hb dX4_sew_0 rfl (lv_at hl 0 rfl) ?_
  refine r_get hC hW flX4_10 0 rfl rfl dX4_sew_1 ?_
  refine lv_iload_n hx hb dX4_sew_4 rfl (lv_at hl 1 rfl) ?_
  refine r_callCi hC hD hW hA lkX4_116 (c_X0_hasGarment l E vl S Tl G hV.g hV.g10 x1) rfl rfl ⟨by decide, by decide, by decide, by decide⟩ [2] rfl rfl rfl (fun _ => rfl) hl.1 rfl rfl (Nat.le_of_ble_eq_true rfl) dX4_sew_5 (fun r_1 _ H locs hr_1 hW => ?_)
  have hW : Wd E A s.heap (wcat [CO o vl vt vk vy kp, IA E (o 3) 7 F, HW E vl S Tl]) H locs := hW
  have hr_1 : bz (∃ j, j < G ∧ x1 = nI j) r_1 := hr_1
  rcases hr_1 with ⟨rfl, b_2⟩ | ⟨rfl, b_2⟩
  · refine lv_if_ne (tgt := 17) hx hb dX4_sew_8 (by decide) (fun c => absurd c (by decide)) (fun _ => ?_)
    refine lv_aload_n hx hb dX4_sew_11 rfl (lv_at hl 0 rfl) ?_
    refine lv_iconst (v := 0) hx hb dX4_sew_12 (by decide) ?_
    refine r_callCi hC hD hW hA lkX4_57 (c_X4_finding l E o vl vt vk vy kp F 0 (-1000000001) (by decide) (by decide)) rfl rfl ⟨by decide, by decide, by decide, by decide⟩ [0, 1] rfl rfl rfl (fun _ => rfl) hl.1 rfl rfl (Nat.le_of_ble_eq_true rfl) dX4_sew_13 (fun r_3 _ H locs hr_3 hW => ?_)
    have hW : Wd E A s.heap (wcat [CO o vl vt vk vy kp, IA E (o 3) 7 (upd F 0 (F 0 + 1)), HW E vl S Tl]) H locs := hW
    have hr_3 : r_3 = (-1000000001) := hr_3
    subst hr_3
    exact r_iret hC hQ hD hW () (by rw [mSew, cif_f (fun z_ => b_2 z_.1)]; first | done | rfl) (by rw [mSew, cif_f (fun z_ => b_2 z_.1)]; first | done | rfl) rfl dX4_sew_16
  · have eb_2 := b_2
    obtain ⟨g, hg, rfl⟩ := eb_2
    refine lv_if_ne (tgt := 17) hx hb dX4_sew_8 (by decide) (fun _ => ?_) (fun c => absurd c (by decide))
    refine lv_iload_n hx hb dX4_sew_17 rfl (lv_at hl 2 rfl) ?_
    by_cases k_4 : x2 = 0
    · refine lv_tableIn (off := 30) (tgt := 48) hx hb dX4_sew_18 (by rw [k_4]; decide) (by rw [k_4]; decide) (by rw [k_4]; rfl) (by decide) ?_
      subst k_4
      refine lv_aload_n hx hb dX4_sew_48 rfl (lv_at hl 0 rfl) ?_
      refine lv_aload_n hx hb dX4_sew_49 rfl (lv_at hl 0 rfl) ?_
      refine r_get hC hW flX4_10 0 rfl rfl dX4_sew_50 ?_
      refine r_get hC hW flX4_136 2 rfl rfl dX4_sew_53 ?_
      refine lv_iload_n hx hb dX4_sew_56 rfl (lv_at hl 1 rfl) ?_
      refine lv_iload_n hx hb dX4_sew_57 rfl (lv_at hl 3 rfl) ?_
      refine lv_iconst (v := 0) hx hb dX4_sew_58 (by decide) ?_
      refine lv_aload_n hx hb dX4_sew_59 rfl (lv_at hl 0 rfl) ?_
      refine r_get hC hW flX4_10 0 rfl rfl dX4_sew_60 ?_
      refine r_get hC hW flX4_85 2 rfl rfl dX4_sew_63 ?_
      refine n_top hV.p ?_
      refine lv_iconst (v := 1) hx hb dX4_sew_66 (by decide) ?_
      refine n_isub (v := (nI P - 1)) hx hb dX4_sew_67 rfl ?_
      by_cases h_5 : 0 ≤ x3 ∧ x3 ≤ (nI P - 1)
      · refine r_callVi hC hD hW hA lkX4_112 (c_X4_putChecked_o l E o vl vt vk vy kp F (vl 5) 10 (by decide) (S 5) g (by omega) x3 0 (nI P - 1) h_5) rfl ⟨by decide, by decide, by decide, by decide⟩ [0, 1, 7] rfl rfl rfl (fun _ => rfl) hl.1 rfl rfl (Nat.le_of_ble_eq_true rfl) dX4_sew_68 (fun r_6 _ H locs hr_6 hW => ?_)
        have hW : Wd E A s.heap (wcat [CO o vl vt vk vy kp, IA E (o 3) 7 F, HW E vl (rws S 5 (upd (S 5) g x3)) Tl]) H locs := hW
        have hr_6 : r_6 = ((S 5) g) := hr_6
        subst hr_6
        exact r_iret hC hQ hD hW () (by rw [mSew, cif_t ⟨b_2, (sewP_0 (P := P) hP1).mpr h_5⟩, ix_nI (n := g) (by omega), ix0]; first | done | rfl) (by rw [mSew, cif_t ⟨b_2, (sewP_0 (P := P) hP1).mpr h_5⟩, ix_nI (n := g) (by omega), ix0]; first | done | rfl) rfl dX4_sew_71
      · refine r_callVi hC hD hW hA lkX4_112 (c_X4_putChecked_b l E o vl vt vk vy kp F (vl 5) 10 (by decide) (S 5) g (by omega) x3 0 (nI P - 1) h_5) rfl ⟨by decide, by decide, by decide, by decide⟩ [0, 1, 7] rfl rfl rfl (fun _ => rfl) hl.1 rfl rfl (Nat.le_of_ble_eq_true rfl) dX4_sew_68 (fun r_7 _ H locs hr_7 hW => ?_)
        have hW : Wd E A s.heap (wcat [CO o vl vt vk vy kp, IA E (o 3) 7 (upd F 0 (F 0 + 1)), HW E vl (rws S 5 (S 5)) Tl]) H locs := hW
        have hr_7 : r_7 = (-1000000001) := hr_7
        subst hr_7
        exact r_iret hC hQ hD hW () (by rw [mSew, cif_f (fun z_ => h_5 ((sewP_0 (P := P) hP1).mp z_.2))]; first | done | rfl) (by rw [mSew, cif_f (fun z_ => h_5 ((sewP_0 (P := P) hP1).mp z_.2))]; first | done | rfl) rfl dX4_sew_71
    by_cases k_8 : x2 = 1
    · refine lv_tableIn (off := 54) (tgt := 72) hx hb dX4_sew_18 (by rw [k_8]; decide) (by rw [k_8]; decide) (by rw [k_8]; rfl) (by decide) ?_
      subst k_8
      refine lv_aload_n hx hb dX4_sew_72 rfl (lv_at hl 0 rfl) ?_
      refine lv_aload_n hx hb dX4_sew_73 rfl (lv_at hl 0 rfl) ?_
      refine r_get hC hW flX4_10 0 rfl rfl dX4_sew_74 ?_
      refine r_get hC hW flX4_139 2 rfl rfl dX4_sew_77 ?_
      refine lv_iload_n hx hb dX4_sew_80 rfl (lv_at hl 1 rfl) ?_
      refine lv_iload_n hx hb dX4_sew_81 rfl (lv_at hl 3 rfl) ?_
      refine lv_iconst (v := 0) hx hb dX4_sew_82 (by decide) ?_
      refine lv_iconst (v := 2) hx hb dX4_sew_83 (by decide) ?_
      by_cases h_9 : 0 ≤ x3 ∧ x3 ≤ 2
      · refine r_callVi hC hD hW hA lkX4_112 (c_X4_putChecked_o l E o vl vt vk vy kp F (vl 6) 10 (by decide) (S 6) g (by omega) x3 0 2 h_9) rfl ⟨by decide, by decide, by decide, by decide⟩ [0, 1, 8] rfl rfl rfl (fun _ => rfl) hl.1 rfl rfl (Nat.le_of_ble_eq_true rfl) dX4_sew_84 (fun r_10 _ H locs hr_10 hW => ?_)
        have hW : Wd E A s.heap (wcat [CO o vl vt vk vy kp, IA E (o 3) 7 F, HW E vl (rws S 6 (upd (S 6) g x3)) Tl]) H locs := hW
        have hr_10 : r_10 = ((S 6) g) := hr_10
        subst hr_10
        exact r_iret hC hQ hD hW () (by rw [mSew, cif_t ⟨b_2, (sewP_1).mpr h_9⟩, ix_nI (n := g) (by omega), ix1]; first | done | rfl) (by rw [mSew, cif_t ⟨b_2, (sewP_1).mpr h_9⟩, ix_nI (n := g) (by omega), ix1]; first | done | rfl) rfl dX4_sew_87
      · refine r_callVi hC hD hW hA lkX4_112 (c_X4_putChecked_b l E o vl vt vk vy kp F (vl 6) 10 (by decide) (S 6) g (by omega) x3 0 2 h_9) rfl ⟨by decide, by decide, by decide, by decide⟩ [0, 1, 8] rfl rfl rfl (fun _ => rfl) hl.1 rfl rfl (Nat.le_of_ble_eq_true rfl) dX4_sew_84 (fun r_11 _ H locs hr_11 hW => ?_)
        have hW : Wd E A s.heap (wcat [CO o vl vt vk vy kp, IA E (o 3) 7 (upd F 0 (F 0 + 1)), HW E vl (rws S 6 (S 6)) Tl]) H locs := hW
        have hr_11 : r_11 = (-1000000001) := hr_11
        subst hr_11
        exact r_iret hC hQ hD hW () (by rw [mSew, cif_f (fun z_ => h_9 ((sewP_1).mp z_.2))]; first | done | rfl) (by rw [mSew, cif_f (fun z_ => h_9 ((sewP_1).mp z_.2))]; first | done | rfl) rfl dX4_sew_87
    by_cases k_12 : x2 = 2
    · refine lv_tableIn (off := 70) (tgt := 88) hx hb dX4_sew_18 (by rw [k_12]; decide) (by rw [k_12]; decide) (by rw [k_12]; rfl) (by decide) ?_
      subst k_12
      refine lv_aload_n hx hb dX4_sew_88 rfl (lv_at hl 0 rfl) ?_
      refine lv_aload_n hx hb dX4_sew_89 rfl (lv_at hl 0 rfl) ?_
      refine r_get hC hW flX4_10 0 rfl rfl dX4_sew_90 ?_
      refine r_get hC hW flX4_142 2 rfl rfl dX4_sew_93 ?_
      refine lv_iload_n hx hb dX4_sew_96 rfl (lv_at hl 1 rfl) ?_
      refine lv_iload_n hx hb dX4_sew_97 rfl (lv_at hl 3 rfl) ?_
      refine lv_iconst (v := 0) hx hb dX4_sew_98 (by decide) ?_
      refine lv_bipush (v := 99) hx hb dX4_sew_99 (by decide) ?_
      by_cases h_13 : 0 ≤ x3 ∧ x3 ≤ 99
      · refine r_callVi hC hD hW hA lkX4_112 (c_X4_putChecked_o l E o vl vt vk vy kp F (vl 7) 10 (by decide) (S 7) g (by omega) x3 0 99 h_13) rfl ⟨by decide, by decide, by decide, by decide⟩ [0, 1, 9] rfl rfl rfl (fun _ => rfl) hl.1 rfl rfl (Nat.le_of_ble_eq_true rfl) dX4_sew_101 (fun r_14 _ H locs hr_14 hW => ?_)
        have hW : Wd E A s.heap (wcat [CO o vl vt vk vy kp, IA E (o 3) 7 F, HW E vl (rws S 7 (upd (S 7) g x3)) Tl]) H locs := hW
        have hr_14 : r_14 = ((S 7) g) := hr_14
        subst hr_14
        exact r_iret hC hQ hD hW () (by rw [mSew, cif_t ⟨b_2, (sewP_2).mpr h_13⟩, ix_nI (n := g) (by omega), ix2]; first | done | rfl) (by rw [mSew, cif_t ⟨b_2, (sewP_2).mpr h_13⟩, ix_nI (n := g) (by omega), ix2]; first | done | rfl) rfl dX4_sew_104
      · refine r_callVi hC hD hW hA lkX4_112 (c_X4_putChecked_b l E o vl vt vk vy kp F (vl 7) 10 (by decide) (S 7) g (by omega) x3 0 99 h_13) rfl ⟨by decide, by decide, by decide, by decide⟩ [0, 1, 9] rfl rfl rfl (fun _ => rfl) hl.1 rfl rfl (Nat.le_of_ble_eq_true rfl) dX4_sew_101 (fun r_15 _ H locs hr_15 hW => ?_)
        have hW : Wd E A s.heap (wcat [CO o vl vt vk vy kp, IA E (o 3) 7 (upd F 0 (F 0 + 1)), HW E vl (rws S 7 (S 7)) Tl]) H locs := hW
        have hr_15 : r_15 = (-1000000001) := hr_15
        subst hr_15
        exact r_iret hC hQ hD hW () (by rw [mSew, cif_f (fun z_ => h_13 ((sewP_2).mp z_.2))]; first | done | rfl) (by rw [mSew, cif_f (fun z_ => h_13 ((sewP_2).mp z_.2))]; first | done | rfl) rfl dX4_sew_104
    by_cases k_16 : x2 = 3
    · refine lv_tableIn (off := 87) (tgt := 105) hx hb dX4_sew_18 (by rw [k_16]; decide) (by rw [k_16]; decide) (by rw [k_16]; rfl) (by decide) ?_
      subst k_16
      refine lv_aload_n hx hb dX4_sew_105 rfl (lv_at hl 0 rfl) ?_
      refine lv_aload_n hx hb dX4_sew_106 rfl (lv_at hl 0 rfl) ?_
      refine r_get hC hW flX4_10 0 rfl rfl dX4_sew_107 ?_
      refine r_get hC hW flX4_145 2 rfl rfl dX4_sew_110 ?_
      refine lv_iload_n hx hb dX4_sew_113 rfl (lv_at hl 1 rfl) ?_
      refine lv_iload_n hx hb dX4_sew_114 rfl (lv_at hl 3 rfl) ?_
      refine lv_iconst (v := (-1)) hx hb dX4_sew_115 (by decide) ?_
      refine lv_aload_n hx hb dX4_sew_116 rfl (lv_at hl 0 rfl) ?_
      refine r_get hC hW flX4_10 0 rfl rfl dX4_sew_117 ?_
      refine r_get hC hW flX4_85 2 rfl rfl dX4_sew_120 ?_
      refine n_top hV.p ?_
      refine lv_iconst (v := 1) hx hb dX4_sew_123 (by decide) ?_
      refine n_isub (v := (nI P - 1)) hx hb dX4_sew_124 rfl ?_
      by_cases h_17 : (-1) ≤ x3 ∧ x3 ≤ (nI P - 1)
      · refine r_callVi hC hD hW hA lkX4_112 (c_X4_putChecked_o l E o vl vt vk vy kp F (vl 8) 10 (by decide) (S 8) g (by omega) x3 (-1) (nI P - 1) h_17) rfl ⟨by decide, by decide, by decide, by decide⟩ [0, 1, 10] rfl rfl rfl (fun _ => rfl) hl.1 rfl rfl (Nat.le_of_ble_eq_true rfl) dX4_sew_125 (fun r_18 _ H locs hr_18 hW => ?_)
        have hW : Wd E A s.heap (wcat [CO o vl vt vk vy kp, IA E (o 3) 7 F, HW E vl (rws S 8 (upd (S 8) g x3)) Tl]) H locs := hW
        have hr_18 : r_18 = ((S 8) g) := hr_18
        subst hr_18
        exact r_iret hC hQ hD hW () (by rw [mSew, cif_t ⟨b_2, (sewP_3 (P := P) hP1).mpr h_17⟩, ix_nI (n := g) (by omega), ix3]; first | done | rfl) (by rw [mSew, cif_t ⟨b_2, (sewP_3 (P := P) hP1).mpr h_17⟩, ix_nI (n := g) (by omega), ix3]; first | done | rfl) rfl dX4_sew_128
      · refine r_callVi hC hD hW hA lkX4_112 (c_X4_putChecked_b l E o vl vt vk vy kp F (vl 8) 10 (by decide) (S 8) g (by omega) x3 (-1) (nI P - 1) h_17) rfl ⟨by decide, by decide, by decide, by decide⟩ [0, 1, 10] rfl rfl rfl (fun _ => rfl) hl.1 rfl rfl (Nat.le_of_ble_eq_true rfl) dX4_sew_125 (fun r_19 _ H locs hr_19 hW => ?_)
        have hW : Wd E A s.heap (wcat [CO o vl vt vk vy kp, IA E (o 3) 7 (upd F 0 (F 0 + 1)), HW E vl (rws S 8 (S 8)) Tl]) H locs := hW
        have hr_19 : r_19 = (-1000000001) := hr_19
        subst hr_19
        exact r_iret hC hQ hD hW () (by rw [mSew, cif_f (fun z_ => h_17 ((sewP_3 (P := P) hP1).mp z_.2))]; first | done | rfl) (by rw [mSew, cif_f (fun z_ => h_17 ((sewP_3 (P := P) hP1).mp z_.2))]; first | done | rfl) rfl dX4_sew_128
    have sw_18 : (x2 : Int32).toInt < 0 ∨ 3 < (x2 : Int32).toInt := by
      have := sw_ne (k := 0) (z := 0) (by decide) k_4
      have := sw_ne (k := 1) (z := 1) (by decide) k_8
      have := sw_ne (k := 2) (z := 2) (by decide) k_12
      have := sw_ne (k := 3) (z := 3) (by decide) k_16
      omega
    refine lv_tableOut (tgt := 129) hx hb dX4_sew_18 sw_18 (by decide) ?_
    refine lv_aload_n hx hb dX4_sew_129 rfl (lv_at hl 0 rfl) ?_
    refine lv_iconst (v := 0) hx hb dX4_sew_130 (by decide) ?_
    refine r_callCi hC hD hW hA lkX4_57 (c_X4_finding l E o vl vt vk vy kp F 0 (-1000000001) (by decide) (by decide)) rfl rfl ⟨by decide, by decide, by decide, by decide⟩ [0, 1] rfl rfl rfl (fun _ => rfl) hl.1 rfl rfl (Nat.le_of_ble_eq_true rfl) dX4_sew_131 (fun r_20 _ H locs hr_20 hW => ?_)
    have hW : Wd E A s.heap (wcat [CO o vl vt vk vy kp, IA E (o 3) 7 (upd F 0 (F 0 + 1)), HW E vl S Tl]) H locs := hW
    have hr_20 : r_20 = (-1000000001) := hr_20
    subst hr_20
    exact r_iret hC hQ hD hW () (by rw [mSew, cif_f (fun z_ => sewP_no k_4 k_8 k_12 k_16 z_.2)]; first | done | rfl) (by rw [mSew, cif_f (fun z_ => sewP_no k_4 k_8 k_12 k_16 z_.2)]; first | done | rfl) rfl dX4_sew_134
set_option maxHeartbeats 4000000 in
set_option maxRecDepth 100000 in
theorem c_X4_weeks (l : Launch) (E : Ev) (o : Nat → Nat) (vl : Nat → Nat) (vt : Nat → Nat) (vk : Nat → Nat) (vy : Nat → Nat) (kp : Int32) (S : HS) (Tl : HS) (F : FT) (P : Nat) (G : Nat) (hV : HV S P G) (x1 : Int32) : MI l E yX4_weeks cX4_weeks 2 .int 4 89 0 0 [.ref (o 0), .int x1] (wcat [CO o vl vt vk vy kp, IA E (o 3) 7 F, HW E vl S Tl]) (fun (r : Int32) (u : HS) => r = (mWeeks S F P G x1).1) (fun (u : HS) => (wcat [CO o vl vt vk vy kp, IA E (o 3) 7 ((mWeeks S F P G x1).2.2), HW E vl ((mWeeks S F P G x1).2.1) u])) := by
  refine MI_intro RX4 (by decide) rfl (Nat.le_of_ble_eq_true rfl) ?_
  intro p e R s m args below meth c A Q hQ hC hD hW hA ls hl
  have hx := hC.1
  have hb := hC.2.1
  have hW : Wd E A s.heap (wcat [CO o vl vt vk vy kp, IA E (o 3) 7 F, HW E vl S Tl]) s.heap [] := hW
  have hD : Dj A [o 0, o 3, vl 0, vl 1, vl 2, vl 3, vl 4, vl 5, vl 6, vl 7, vl 8, vl 9, vl 10] := hD
  have hl : lv_has ls 2 [(0, .ref (o 0)), (1, .int x1)] := hl
  have hP := hV.p
  have hP1 := hV.p6
  have hG := hV.g
  have hG1 := hV.g10
  refine lv_iload_n hx hb dX4_weeks_0 rfl (lv_at hl 1 rfl) ?_
  refine lv_iconst (v := 1) hx hb dX4_weeks_1 (by decide) ?_
  refine lv_bipush (v := 60) hx hb dX4_weeks_2 (by decide) ?_
  refine r_callSi hC hD hW hA lkX4_53 (c_X4_isWithin l E x1 1 60) ⟨by decide, by decide, by decide, by decide⟩ rfl hl.1 rfl rfl (Nat.le_of_ble_eq_true rfl) dX4_weeks_4 (fun r_1 _ H locs hr_1 hW => ?_)
  have hW : Wd E A s.heap (wcat [CO o vl vt vk vy kp, IA E (o 3) 7 F, HW E vl S Tl]) H locs := hW
  have hr_1 : bz (1 ≤ x1 ∧ x1 ≤ 60) r_1 := hr_1
  rcases hr_1 with ⟨rfl, b_2⟩ | ⟨rfl, b_2⟩
  · refine lv_if_ne (tgt := 16) hx hb dX4_weeks_7 (by decide) (fun c => absurd c (by decide)) (fun _ => ?_)
    refine lv_aload_n hx hb dX4_weeks_10 rfl (lv_at hl 0 rfl) ?_
    refine lv_iconst (v := 0) hx hb dX4_weeks_11 (by decide) ?_
    refine r_callCi hC hD hW hA lkX4_57 (c_X4_finding l E o vl vt vk vy kp F 0 (-1000000001) (by decide) (by decide)) rfl rfl ⟨by decide, by decide, by decide, by decide⟩ [0, 1] rfl rfl rfl (fun _ => rfl) hl.1 rfl rfl (Nat.le_of_ble_eq_true rfl) dX4_weeks_12 (fun r_3 _ H locs hr_3 hW => ?_)
    have hW : Wd E A s.heap (wcat [CO o vl vt vk vy kp, IA E (o 3) 7 (upd F 0 (F 0 + 1)), HW E vl S Tl]) H locs := hW
    have hr_3 : r_3 = (-1000000001) := hr_3
    subst hr_3
    exact r_iret hC hQ hD hW Tl (by rw [mWeeks, cif_f b_2]; first | done | rfl) (by rw [mWeeks, cif_f b_2]; first | done | rfl) rfl dX4_weeks_15
  · have eb_2 := rng1 (k := 60) (by decide) b_2
    obtain ⟨n, hn, rfl⟩ := eb_2
    refine lv_if_ne (tgt := 16) hx hb dX4_weeks_7 (by decide) (fun _ => ?_) (fun c => absurd c (by decide))
    refine lv_aload_n hx hb dX4_weeks_16 rfl (lv_at hl 0 rfl) ?_
    refine r_get hC hW flX4_10 0 rfl rfl dX4_weeks_17 ?_
    refine r_get hC hW flX4_65 2 rfl rfl dX4_weeks_20 ?_
    refine lv_iload_n hx hb dX4_weeks_23 rfl (lv_at hl 1 rfl) ?_
    refine n_iadd (v := ((S 0 0) + (nI n))) hx hb dX4_weeks_24 rfl ?_
    refine r_ldc hC ctX4_154 dX4_weeks_25 ?_
    refine lv_icmp_le (tgt := 36) hx hb dX4_weeks_27 (by decide) (fun c_4 => ?_) (fun c_4 => ?_)
    · refine lv_aload_n hx hb dX4_weeks_36 rfl (lv_at hl 0 rfl) ?_
      refine r_get hC hW flX4_10 0 rfl rfl dX4_weeks_37 ?_
      refine lv_iload_n hx hb dX4_weeks_40 rfl (lv_at hl 1 rfl) ?_
      refine r_callCv hC hD hW hA lkX4_155 (c_X0_goWeeks l E vl S Tl P G hV n (by omega)) rfl rfl ⟨by decide, by decide, by decide, by decide⟩ [2] rfl rfl rfl (fun _ => rfl) hl.1 rfl rfl (Nat.le_of_ble_eq_true rfl) dX4_weeks_41 (fun u_6 H locs hr_5 hW => ?_)
      have hW : Wd E A s.heap (wcat [CO o vl vt vk vy kp, IA E (o 3) 7 F, HW E vl (wks S P G n) u_6]) H locs := hW
      refine lv_aload_n hx hb dX4_weeks_44 rfl (lv_at hl 0 rfl) ?_
      refine r_get hC hW flX4_10 0 rfl rfl dX4_weeks_45 ?_
      refine r_callCi hC hD hW hA lkX4_71 (c_X0_setOfRight l E vl (wks S P G n) u_6 G (HV_wks hV n).g (HV_wks hV n).g10) rfl rfl ⟨by decide, by decide, by decide, by decide⟩ [2] rfl rfl rfl (fun _ => rfl) hl.1 rfl rfl (Nat.le_of_ble_eq_true rfl) dX4_weeks_48 (fun r_7 _ H locs hr_7 hW => ?_)
      have hW : Wd E A s.heap (wcat [CO o vl vt vk vy kp, IA E (o 3) 7 F, HW E vl (wks S P G n) u_6]) H locs := hW
      have hr_7 : r_7 = (nI (mset (rgt (wks S P G n)) G)) := hr_7
      subst hr_7
      exact r_iret hC hQ hD hW u_6 (by rw [mWeeks, cif_t b_2, if_neg (Int32.not_lt.mpr c_4), ix_nI (n := n) (by omega)]; first | done | rfl) (by rw [mWeeks, cif_t b_2, if_neg (Int32.not_lt.mpr c_4), ix_nI (n := n) (by omega)]; first | done | rfl) rfl dX4_weeks_51
    · refine lv_aload_n hx hb dX4_weeks_30 rfl (lv_at hl 0 rfl) ?_
      refine lv_iconst (v := 4) hx hb dX4_weeks_31 (by decide) ?_
      refine r_callCi hC hD hW hA lkX4_57 (c_X4_finding l E o vl vt vk vy kp F 4 (-1000000005) (by decide) (by decide)) rfl rfl ⟨by decide, by decide, by decide, by decide⟩ [0, 1] rfl rfl rfl (fun _ => rfl) hl.1 rfl rfl (Nat.le_of_ble_eq_true rfl) dX4_weeks_32 (fun r_8 _ H locs hr_8 hW => ?_)
      have hW : Wd E A s.heap (wcat [CO o vl vt vk vy kp, IA E (o 3) 7 (upd F 4 (F 4 + 1)), HW E vl S Tl]) H locs := hW
      have hr_8 : r_8 = (-1000000005) := hr_8
      subst hr_8
      exact r_iret hC hQ hD hW Tl (by rw [mWeeks, cif_t b_2, if_pos (Int32.not_le.mp c_4)]; first | done | rfl) (by rw [mWeeks, cif_t b_2, if_pos (Int32.not_le.mp c_4)]; first | done | rfl) rfl dX4_weeks_35
set_option maxHeartbeats 4000000 in
set_option maxRecDepth 100000 in
theorem c_X4_on (l : Launch) (E : Ev) (o : Nat → Nat) (vl : Nat → Nat) (vt : Nat → Nat) (vk : Nat → Nat) (vy : Nat → Nat) (kp : Int32) (S : HS) (Tl : HS) (F : FT) (P : Nat) (G : Nat) (hV : HV S P G) (St : HS) (Tt : HS) (x1 : Int32) (x2 : Int32) (x3 : Int32) : MI l E yX4_on cX4_on 4 .int 4 89 0 0 [.ref (o 0), .int x1, .int x2, .int x3] (wcat [CO o vl vt vk vy kp, IA E (o 3) 7 F, HW E vl S Tl, HW E vt St Tt]) (fun (r : Int32) (u : (HS × HS)) => r = (mOn S F P G x1 x2 x3).1) (fun (u : (HS × HS)) => (wcat [CO o vl vt vk vy kp, IA E (o 3) 7 ((mOn S F P G x1 x2 x3).2), HW E vl S Tl, HW E vt u.1 u.2])) := by
  refine MI_intro RX4 (by decide) rfl (Nat.le_of_ble_eq_true rfl) ?_
  intro p e R s m args below meth c A Q hQ hC hD hW hA ls hl
  have hx := hC.1
  have hb := hC.2.1
  have hW : Wd E A s.heap (wcat [CO o vl vt vk vy kp, IA E (o 3) 7 F, HW E vl S Tl, HW E vt St Tt]) s.heap [] := hW
  have hD : Dj A [o 0, o 3, vl 0, vl 1, vl 2, vl 3, vl 4, vl 5, vl 6, vl 7, vl 8, vl 9, vl 10, vt 0, vt 1, vt 2, vt 3, vt 4, vt 5, vt 6, vt 7, vt 8, vt 9, vt 10] := hD
  have hl : lv_has ls 4 [(0, .ref (o 0)), (1, .int x1), (2, .int x2), (3, .int x3)] := hl
  have hP := hV.p
  have hP1 := hV.p6
  have hG := hV.g
  have hG1 := hV.g10
  refine lv_aload_n hx hb dX4_on_0 rfl (lv_at hl 0 rfl) ?_
  refine r_get hC hW flX4_10 0 rfl rfl dX4_on_1 ?_
  refine lv_iload_n hx hb dX4_on_4 rfl (lv_at hl 1 rfl) ?_
  refine r_callCi hC hD hW hA lkX4_116 (c_X0_hasGarment l E vl S Tl G hV.g hV.g10 x1) rfl rfl ⟨by decide, by decide, by decide, by decide⟩ [2] rfl rfl rfl (fun _ => rfl) hl.1 rfl rfl (Nat.le_of_ble_eq_true rfl) dX4_on_5 (fun r_1 _ H locs hr_1 hW => ?_)
  have hW : Wd E A s.heap (wcat [CO o vl vt vk vy kp, IA E (o 3) 7 F, HW E vl S Tl, HW E vt St Tt]) H locs := hW
  have hr_1 : bz (∃ j, j < G ∧ x1 = nI j) r_1 := hr_1
  rcases hr_1 with ⟨rfl, b_2⟩ | ⟨rfl, b_2⟩
  · refine lv_if_eq (tgt := 30) hx hb dX4_on_8 (by decide) (fun _ => ?_) (fun c => absurd c (by decide))
    refine lv_aload_n hx hb dX4_on_30 rfl (lv_at hl 0 rfl) ?_
    refine lv_iconst (v := 0) hx hb dX4_on_31 (by decide) ?_
    refine r_callCi hC hD hW hA lkX4_57 (c_X4_finding l E o vl vt vk vy kp F 0 (-1000000001) (by decide) (by decide)) rfl rfl ⟨by decide, by decide, by decide, by decide⟩ [0, 1] rfl rfl rfl (fun _ => rfl) hl.1 rfl rfl (Nat.le_of_ble_eq_true rfl) dX4_on_32 (fun r_3 _ H locs hr_3 hW => ?_)
    have hW : Wd E A s.heap (wcat [CO o vl vt vk vy kp, IA E (o 3) 7 (upd F 0 (F 0 + 1)), HW E vl S Tl, HW E vt St Tt]) H locs := hW
    have hr_3 : r_3 = (-1000000001) := hr_3
    subst hr_3
    exact r_iret hC hQ hD hW (St, Tt) (by rw [mOn, cif_f (fun z_ => b_2 z_.1)]; first | done | rfl) (by rw [mOn, cif_f (fun z_ => b_2 z_.1)]; first | done | rfl) rfl dX4_on_35
  · have eb_2 := b_2
    obtain ⟨g, hg, rfl⟩ := eb_2
    refine lv_if_eq (tgt := 30) hx hb dX4_on_8 (by decide) (fun c => absurd c (by decide)) (fun _ => ?_)
    refine lv_iload_n hx hb dX4_on_11 rfl (lv_at hl 2 rfl) ?_
    refine lv_iconst (v := 0) hx hb dX4_on_12 (by decide) ?_
    refine lv_bipush (v := 100) hx hb dX4_on_13 (by decide) ?_
    refine r_callSi hC hD hW hA lkX4_53 (c_X4_isWithin l E x2 0 100) ⟨by decide, by decide, by decide, by decide⟩ rfl hl.1 rfl rfl (Nat.le_of_ble_eq_true rfl) dX4_on_15 (fun r_4 _ H locs hr_4 hW => ?_)
    have hW : Wd E A s.heap (wcat [CO o vl vt vk vy kp, IA E (o 3) 7 F, HW E vl S Tl, HW E vt St Tt]) H locs := hW
    have hr_4 : bz (0 ≤ x2 ∧ x2 ≤ 100) r_4 := hr_4
    rcases hr_4 with ⟨rfl, b_5⟩ | ⟨rfl, b_5⟩
    · refine lv_if_eq (tgt := 30) hx hb dX4_on_18 (by decide) (fun _ => ?_) (fun c => absurd c (by decide))
      refine lv_aload_n hx hb dX4_on_30 rfl (lv_at hl 0 rfl) ?_
      refine lv_iconst (v := 0) hx hb dX4_on_31 (by decide) ?_
      refine r_callCi hC hD hW hA lkX4_57 (c_X4_finding l E o vl vt vk vy kp F 0 (-1000000001) (by decide) (by decide)) rfl rfl ⟨by decide, by decide, by decide, by decide⟩ [0, 1] rfl rfl rfl (fun _ => rfl) hl.1 rfl rfl (Nat.le_of_ble_eq_true rfl) dX4_on_32 (fun r_6 _ H locs hr_6 hW => ?_)
      have hW : Wd E A s.heap (wcat [CO o vl vt vk vy kp, IA E (o 3) 7 (upd F 0 (F 0 + 1)), HW E vl S Tl, HW E vt St Tt]) H locs := hW
      have hr_6 : r_6 = (-1000000001) := hr_6
      subst hr_6
      exact r_iret hC hQ hD hW (St, Tt) (by rw [mOn, cif_f (fun z_ => b_5 z_.2.1)]; first | done | rfl) (by rw [mOn, cif_f (fun z_ => b_5 z_.2.1)]; first | done | rfl) rfl dX4_on_35
    · have eb_5 := rng (k := 100) (by decide) b_5
      obtain ⟨n, hn, rfl⟩ := eb_5
      refine lv_if_eq (tgt := 30) hx hb dX4_on_18 (by decide) (fun c => absurd c (by decide)) (fun _ => ?_)
      refine lv_iload_n hx hb dX4_on_21 rfl (lv_at hl 3 rfl) ?_
      refine lv_iconst (v := 0) hx hb dX4_on_22 (by decide) ?_
      refine lv_iconst (v := 1) hx hb dX4_on_23 (by decide) ?_
      refine r_callSi hC hD hW hA lkX4_53 (c_X4_isWithin l E x3 0 1) ⟨by decide, by decide, by decide, by decide⟩ rfl hl.1 rfl rfl (Nat.le_of_ble_eq_true rfl) dX4_on_24 (fun r_7 _ H locs hr_7 hW => ?_)
      have hW : Wd E A s.heap (wcat [CO o vl vt vk vy kp, IA E (o 3) 7 F, HW E vl S Tl, HW E vt St Tt]) H locs := hW
      have hr_7 : bz (0 ≤ x3 ∧ x3 ≤ 1) r_7 := hr_7
      rcases hr_7 with ⟨rfl, b_8⟩ | ⟨rfl, b_8⟩
      · refine lv_if_ne (tgt := 36) hx hb dX4_on_27 (by decide) (fun c => absurd c (by decide)) (fun _ => ?_)
        refine lv_aload_n hx hb dX4_on_30 rfl (lv_at hl 0 rfl) ?_
        refine lv_iconst (v := 0) hx hb dX4_on_31 (by decide) ?_
        refine r_callCi hC hD hW hA lkX4_57 (c_X4_finding l E o vl vt vk vy kp F 0 (-1000000001) (by decide) (by decide)) rfl rfl ⟨by decide, by decide, by decide, by decide⟩ [0, 1] rfl rfl rfl (fun _ => rfl) hl.1 rfl rfl (Nat.le_of_ble_eq_true rfl) dX4_on_32 (fun r_9 _ H locs hr_9 hW => ?_)
        have hW : Wd E A s.heap (wcat [CO o vl vt vk vy kp, IA E (o 3) 7 (upd F 0 (F 0 + 1)), HW E vl S Tl, HW E vt St Tt]) H locs := hW
        have hr_9 : r_9 = (-1000000001) := hr_9
        subst hr_9
        exact r_iret hC hQ hD hW (St, Tt) (by rw [mOn, cif_f (fun z_ => b_8 z_.2.2)]; first | done | rfl) (by rw [mOn, cif_f (fun z_ => b_8 z_.2.2)]; first | done | rfl) rfl dX4_on_35
      · have eb_8 := rng (k := 1) (by decide) b_8
        obtain ⟨k, hk, rfl⟩ := eb_8
        refine lv_if_ne (tgt := 36) hx hb dX4_on_27 (by decide) (fun _ => ?_) (fun c => absurd c (by decide))
        refine lv_aload_n hx hb dX4_on_36 rfl (lv_at hl 0 rfl) ?_
        refine r_callCv hC hD hW hA lkX4_159 (c_X4_startTrial l E o vl vt vk vy kp S Tl St Tt) rfl rfl ⟨by decide, by decide, by decide, by decide⟩ [0, 2, 3] rfl rfl rfl (fun _ => rfl) hl.1 rfl rfl (Nat.le_of_ble_eq_true rfl) dX4_on_37 (fun _ H locs hr_10 hW => ?_)
        have hW : Wd E A s.heap (wcat [CO o vl vt vk vy kp, IA E (o 3) 7 F, HW E vl S Tl, HW E vt S Tt]) H locs := hW
        refine lv_aload_n hx hb dX4_on_40 rfl (lv_at hl 0 rfl) ?_
        refine r_get hC hW flX4_16 0 rfl rfl dX4_on_41 ?_
        refine lv_iload_n hx hb dX4_on_44 rfl (lv_at hl 2 rfl) ?_
        refine r_callCv hC hD hW hA lkX4_155 (c_X0_goWeeks l E vt S Tt P G hV n (by omega)) rfl rfl ⟨by decide, by decide, by decide, by decide⟩ [3] rfl rfl rfl (fun _ => rfl) hl.1 rfl rfl (Nat.le_of_ble_eq_true rfl) dX4_on_45 (fun u_12 H locs hr_11 hW => ?_)
        have hW : Wd E A s.heap (wcat [CO o vl vt vk vy kp, IA E (o 3) 7 F, HW E vl S Tl, HW E vt (wks S P G n) u_12]) H locs := hW
        refine lv_iload_n hx hb dX4_on_48 rfl (lv_at hl 3 rfl) ?_
        refine lv_if_ne (tgt := 64) hx hb dX4_on_49 (by decide) (fun c_13 => ?_) (fun c_13 => ?_)
        · have c_13 : ¬ k = 0 := fun z_ => c_13 ((nI_eq (a := k) (b := 0) (by omega) (by omega)).mpr z_)
          refine lv_aload_n hx hb dX4_on_64 rfl (lv_at hl 0 rfl) ?_
          refine r_get hC hW flX4_16 0 rfl rfl dX4_on_65 ?_
          refine r_get hC hW flX4_145 13 rfl rfl dX4_on_68 ?_
          refine lv_iload_n hx hb dX4_on_71 rfl (lv_at hl 1 rfl) ?_
          refine r_iald hC hW 21 rfl g rfl (by omega) (by decide) dX4_on_72 ?_
          exact r_iret hC hQ hD hW (wks S P G n, u_12) (by rw [mOn, cif_t ⟨b_2, b_5, b_8⟩, ix_nI (n := n) (by omega), ix_nI (n := g) (by omega), ix_nI (n := k) (by omega), show k = 1 by omega]; first | done | rfl) (by rw [mOn, cif_t ⟨b_2, b_5, b_8⟩, ix_nI (n := n) (by omega), ix_nI (n := g) (by omega), ix_nI (n := k) (by omega), show k = 1 by omega]; first | done | rfl) rfl dX4_on_73
        · have c_13 : k = 0 := (nI_eq (a := k) (b := 0) (by omega) (by omega)).mp c_13
          refine lv_aload_n hx hb dX4_on_52 rfl (lv_at hl 0 rfl) ?_
          refine r_get hC hW flX4_16 0 rfl rfl dX4_on_53 ?_
          refine r_get hC hW flX4_142 13 rfl rfl dX4_on_56 ?_
          refine lv_iload_n hx hb dX4_on_59 rfl (lv_at hl 1 rfl) ?_
          refine r_iald hC hW 20 rfl g rfl (by omega) (by decide) dX4_on_60 ?_
          refine lv_goto (tgt := 73) hx hb dX4_on_61 (by decide) ?_
          exact r_iret hC hQ hD hW (wks S P G n, u_12) (by rw [mOn, cif_t ⟨b_2, b_5, b_8⟩, ix_nI (n := n) (by omega), ix_nI (n := g) (by omega), ix_nI (n := k) (by omega), show k = 0 by omega]; first | done | rfl) (by rw [mOn, cif_t ⟨b_2, b_5, b_8⟩, ix_nI (n := n) (by omega), ix_nI (n := g) (by omega), ix_nI (n := k) (by omega), show k = 0 by omega]; first | done | rfl) rfl dX4_on_73
set_option maxHeartbeats 4000000 in
set_option maxRecDepth 100000 in
theorem c_X4_then (l : Launch) (E : Ev) (o : Nat → Nat) (vl : Nat → Nat) (vt : Nat → Nat) (vk : Nat → Nat) (vy : Nat → Nat) (kp : Int32) (S : HS) (Tl : HS) (F : FT) (P : Nat) (G : Nat) (hV : HV S P G) (St : HS) (Tt : HS) (x1 : Int32) (x2 : Int32) : MI l E yX4_then cX4_then 3 .int 4 89 0 0 [.ref (o 0), .int x1, .int x2] (wcat [CO o vl vt vk vy kp, IA E (o 3) 7 F, HW E vl S Tl, HW E vt St Tt]) (fun (r : Int32) (u : (HS × HS)) => r = (mThen S F P G x1 x2).1) (fun (u : (HS × HS)) => (wcat [CO o vl vt vk vy kp, IA E (o 3) 7 ((mThen S F P G x1 x2).2), HW E vl S Tl, HW E vt u.1 u.2])) := by
  refine MI_intro RX4 (by decide) rfl (Nat.le_of_ble_eq_true rfl) ?_
  intro p e R s m args below meth c A Q hQ hC hD hW hA ls hl
  have hx := hC.1
  have hb := hC.2.1
  have hW : Wd E A s.heap (wcat [CO o vl vt vk vy kp, IA E (o 3) 7 F, HW E vl S Tl, HW E vt St Tt]) s.heap [] := hW
  have hD : Dj A [o 0, o 3, vl 0, vl 1, vl 2, vl 3, vl 4, vl 5, vl 6, vl 7, vl 8, vl 9, vl 10, vt 0, vt 1, vt 2, vt 3, vt 4, vt 5, vt 6, vt 7, vt 8, vt 9, vt 10] := hD
  have hl : lv_has ls 3 [(0, .ref (o 0)), (1, .int x1), (2, .int x2)] := hl
  have hP := hV.p
  have hP1 := hV.p6
  have hG := hV.g
  have hG1 := hV.g10
  refine lv_aload_n hx hb dX4_then_0 rfl (lv_at hl 0 rfl) ?_
  refine r_get hC hW flX4_10 0 rfl rfl dX4_then_1 ?_
  refine lv_iload_n hx hb dX4_then_4 rfl (lv_at hl 1 rfl) ?_
  refine r_callCi hC hD hW hA lkX4_91 (c_X0_hasPerson l E vl S Tl P hV.p hV.p6 x1) rfl rfl ⟨by decide, by decide, by decide, by decide⟩ [2] rfl rfl rfl (fun _ => rfl) hl.1 rfl rfl (Nat.le_of_ble_eq_true rfl) dX4_then_5 (fun r_1 _ H locs hr_1 hW => ?_)
  have hW : Wd E A s.heap (wcat [CO o vl vt vk vy kp, IA E (o 3) 7 F, HW E vl S Tl, HW E vt St Tt]) H locs := hW
  have hr_1 : bz (∃ j, j < P ∧ x1 = nI j) r_1 := hr_1
  rcases hr_1 with ⟨rfl, b_2⟩ | ⟨rfl, b_2⟩
  · refine lv_if_eq (tgt := 21) hx hb dX4_then_8 (by decide) (fun _ => ?_) (fun c => absurd c (by decide))
    refine lv_aload_n hx hb dX4_then_21 rfl (lv_at hl 0 rfl) ?_
    refine lv_iconst (v := 0) hx hb dX4_then_22 (by decide) ?_
    refine r_callCi hC hD hW hA lkX4_57 (c_X4_finding l E o vl vt vk vy kp F 0 (-1000000001) (by decide) (by decide)) rfl rfl ⟨by decide, by decide, by decide, by decide⟩ [0, 1] rfl rfl rfl (fun _ => rfl) hl.1 rfl rfl (Nat.le_of_ble_eq_true rfl) dX4_then_23 (fun r_3 _ H locs hr_3 hW => ?_)
    have hW : Wd E A s.heap (wcat [CO o vl vt vk vy kp, IA E (o 3) 7 (upd F 0 (F 0 + 1)), HW E vl S Tl, HW E vt St Tt]) H locs := hW
    have hr_3 : r_3 = (-1000000001) := hr_3
    subst hr_3
    exact r_iret hC hQ hD hW (St, Tt) (by rw [mThen, cif_f (fun z_ => b_2 z_.1)]; first | done | rfl) (by rw [mThen, cif_f (fun z_ => b_2 z_.1)]; first | done | rfl) rfl dX4_then_26
  · have eb_2 := b_2
    obtain ⟨j, hj, rfl⟩ := eb_2
    refine lv_if_eq (tgt := 21) hx hb dX4_then_8 (by decide) (fun c => absurd c (by decide)) (fun _ => ?_)
    refine lv_iload_n hx hb dX4_then_11 rfl (lv_at hl 2 rfl) ?_
    refine lv_iconst (v := 0) hx hb dX4_then_12 (by decide) ?_
    refine lv_bipush (v := 100) hx hb dX4_then_13 (by decide) ?_
    refine r_callSi hC hD hW hA lkX4_53 (c_X4_isWithin l E x2 0 100) ⟨by decide, by decide, by decide, by decide⟩ rfl hl.1 rfl rfl (Nat.le_of_ble_eq_true rfl) dX4_then_15 (fun r_4 _ H locs hr_4 hW => ?_)
    have hW : Wd E A s.heap (wcat [CO o vl vt vk vy kp, IA E (o 3) 7 F, HW E vl S Tl, HW E vt St Tt]) H locs := hW
    have hr_4 : bz (0 ≤ x2 ∧ x2 ≤ 100) r_4 := hr_4
    rcases hr_4 with ⟨rfl, b_5⟩ | ⟨rfl, b_5⟩
    · refine lv_if_ne (tgt := 27) hx hb dX4_then_18 (by decide) (fun c => absurd c (by decide)) (fun _ => ?_)
      refine lv_aload_n hx hb dX4_then_21 rfl (lv_at hl 0 rfl) ?_
      refine lv_iconst (v := 0) hx hb dX4_then_22 (by decide) ?_
      refine r_callCi hC hD hW hA lkX4_57 (c_X4_finding l E o vl vt vk vy kp F 0 (-1000000001) (by decide) (by decide)) rfl rfl ⟨by decide, by decide, by decide, by decide⟩ [0, 1] rfl rfl rfl (fun _ => rfl) hl.1 rfl rfl (Nat.le_of_ble_eq_true rfl) dX4_then_23 (fun r_6 _ H locs hr_6 hW => ?_)
      have hW : Wd E A s.heap (wcat [CO o vl vt vk vy kp, IA E (o 3) 7 (upd F 0 (F 0 + 1)), HW E vl S Tl, HW E vt St Tt]) H locs := hW
      have hr_6 : r_6 = (-1000000001) := hr_6
      subst hr_6
      exact r_iret hC hQ hD hW (St, Tt) (by rw [mThen, cif_f (fun z_ => b_5 z_.2)]; first | done | rfl) (by rw [mThen, cif_f (fun z_ => b_5 z_.2)]; first | done | rfl) rfl dX4_then_26
    · have eb_5 := rng (k := 100) (by decide) b_5
      obtain ⟨n, hn, rfl⟩ := eb_5
      refine lv_if_ne (tgt := 27) hx hb dX4_then_18 (by decide) (fun _ => ?_) (fun c => absurd c (by decide))
      refine lv_aload_n hx hb dX4_then_27 rfl (lv_at hl 0 rfl) ?_
      refine r_callCv hC hD hW hA lkX4_159 (c_X4_startTrial l E o vl vt vk vy kp S Tl St Tt) rfl rfl ⟨by decide, by decide, by decide, by decide⟩ [0, 2, 3] rfl rfl rfl (fun _ => rfl) hl.1 rfl rfl (Nat.le_of_ble_eq_true rfl) dX4_then_28 (fun _ H locs hr_7 hW => ?_)
      have hW : Wd E A s.heap (wcat [CO o vl vt vk vy kp, IA E (o 3) 7 F, HW E vl S Tl, HW E vt S Tt]) H locs := hW
      refine lv_aload_n hx hb dX4_then_31 rfl (lv_at hl 0 rfl) ?_
      refine r_get hC hW flX4_16 0 rfl rfl dX4_then_32 ?_
      refine lv_iload_n hx hb dX4_then_35 rfl (lv_at hl 2 rfl) ?_
      refine r_callCv hC hD hW hA lkX4_155 (c_X0_goWeeks l E vt S Tt P G hV n (by omega)) rfl rfl ⟨by decide, by decide, by decide, by decide⟩ [3] rfl rfl rfl (fun _ => rfl) hl.1 rfl rfl (Nat.le_of_ble_eq_true rfl) dX4_then_36 (fun u_9 H locs hr_8 hW => ?_)
      have hW : Wd E A s.heap (wcat [CO o vl vt vk vy kp, IA E (o 3) 7 F, HW E vl S Tl, HW E vt (wks S P G n) u_9]) H locs := hW
      refine lv_sipush (v := 1000) hx hb dX4_then_39 (by decide) ?_
      refine lv_aload_n hx hb dX4_then_42 rfl (lv_at hl 0 rfl) ?_
      refine r_get hC hW flX4_16 0 rfl rfl dX4_then_43 ?_
      refine r_get hC hW flX4_100 13 rfl rfl dX4_then_46 ?_
      refine lv_iload_n hx hb dX4_then_49 rfl (lv_at hl 1 rfl) ?_
      refine r_iald hC hW 16 rfl j rfl (by omega) (by decide) dX4_then_50 ?_
      refine n_iadd (v := (1000 + ((wks S P G n) 3 j))) hx hb dX4_then_51 rfl ?_
      exact r_iret hC hQ hD hW (wks S P G n, u_9) (by rw [mThen, cif_t ⟨b_2, b_5⟩, ix_nI (n := n) (by omega), ix_nI (n := j) (by omega)]; first | done | rfl) (by rw [mThen, cif_t ⟨b_2, b_5⟩, ix_nI (n := n) (by omega), ix_nI (n := j) (by omega)]; first | done | rfl) rfl dX4_then_52
set_option maxHeartbeats 4000000 in
set_option maxRecDepth 100000 in
theorem c_X4_lost (l : Launch) (E : Ev) (o : Nat → Nat) (vl : Nat → Nat) (vt : Nat → Nat) (vk : Nat → Nat) (vy : Nat → Nat) (kp : Int32) (S : HS) (Tl : HS) (F : FT) (P : Nat) (G : Nat) (hV : HV S P G) (St : HS) (Tt : HS) (x1 : Int32) : MI l E yX4_lost cX4_lost 3 .int 4 89 0 0 [.ref (o 0), .int x1] (wcat [CO o vl vt vk vy kp, IA E (o 3) 7 F, HW E vl S Tl, HW E vt St Tt]) (fun (r : Int32) (u : (HS × HS)) => r = (mLost S F P G x1).1) (fun (u : (HS × HS)) => (wcat [CO o vl vt vk vy kp, IA E (o 3) 7 ((mLost S F P G x1).2), HW E vl S Tl, HW E vt u.1 u.2])) := by
  refine MI_intro RX4 (by decide) rfl (Nat.le_of_ble_eq_true rfl) ?_
  intro p e R s m args below meth c A Q hQ hC hD hW hA ls hl
  have hx := hC.1
  have hb := hC.2.1
  have hW : Wd E A s.heap (wcat [CO o vl vt vk vy kp, IA E (o 3) 7 F, HW E vl S Tl, HW E vt St Tt]) s.heap [] := hW
  have hD : Dj A [o 0, o 3, vl 0, vl 1, vl 2, vl 3, vl 4, vl 5, vl 6, vl 7, vl 8, vl 9, vl 10, vt 0, vt 1, vt 2, vt 3, vt 4, vt 5, vt 6, vt 7, vt 8, vt 9, vt 10] := hD
  have hl : lv_has ls 3 [(0, .ref (o 0)), (1, .int x1)] := hl
  have hP := hV.p
  have hP1 := hV.p6
  have hG := hV.g
  have hG1 := hV.g10
  refine lv_aload_n hx hb dX4_lost_0 rfl (lv_at hl 0 rfl) ?_
  refine r_get hC hW flX4_10 0 rfl rfl dX4_lost_1 ?_
  refine lv_iload_n hx hb dX4_lost_4 rfl (lv_at hl 1 rfl) ?_
  refine r_callCi hC hD hW hA lkX4_116 (c_X0_hasGarment l E vl S Tl G hV.g hV.g10 x1) rfl rfl ⟨by decide, by decide, by decide, by decide⟩ [2] rfl rfl rfl (fun _ => rfl) hl.1 rfl rfl (Nat.le_of_ble_eq_true rfl) dX4_lost_5 (fun r_1 _ H locs hr_1 hW => ?_)
  have hW : Wd E A s.heap (wcat [CO o vl vt vk vy kp, IA E (o 3) 7 F, HW E vl S Tl, HW E vt St Tt]) H locs := hW
  have hr_1 : bz (∃ j, j < G ∧ x1 = nI j) r_1 := hr_1
  rcases hr_1 with ⟨rfl, b_2⟩ | ⟨rfl, b_2⟩
  · refine lv_if_ne (tgt := 17) hx hb dX4_lost_8 (by decide) (fun c => absurd c (by decide)) (fun _ => ?_)
    refine lv_aload_n hx hb dX4_lost_11 rfl (lv_at hl 0 rfl) ?_
    refine lv_iconst (v := 0) hx hb dX4_lost_12 (by decide) ?_
    refine r_callCi hC hD hW hA lkX4_57 (c_X4_finding l E o vl vt vk vy kp F 0 (-1000000001) (by decide) (by decide)) rfl rfl ⟨by decide, by decide, by decide, by decide⟩ [0, 1] rfl rfl rfl (fun _ => rfl) hl.1 rfl rfl (Nat.le_of_ble_eq_true rfl) dX4_lost_13 (fun r_3 _ H locs hr_3 hW => ?_)
    have hW : Wd E A s.heap (wcat [CO o vl vt vk vy kp, IA E (o 3) 7 (upd F 0 (F 0 + 1)), HW E vl S Tl, HW E vt St Tt]) H locs := hW
    have hr_3 : r_3 = (-1000000001) := hr_3
    subst hr_3
    exact r_iret hC hQ hD hW (St, Tt) (by rw [mLost, cif_f b_2]; first | done | rfl) (by rw [mLost, cif_f b_2]; first | done | rfl) rfl dX4_lost_16
  · have eb_2 := b_2
    obtain ⟨g, hg, rfl⟩ := eb_2
    refine lv_if_ne (tgt := 17) hx hb dX4_lost_8 (by decide) (fun _ => ?_) (fun c => absurd c (by decide))
    refine lv_aload_n hx hb dX4_lost_17 rfl (lv_at hl 0 rfl) ?_
    refine r_callCv hC hD hW hA lkX4_159 (c_X4_startTrial l E o vl vt vk vy kp S Tl St Tt) rfl rfl ⟨by decide, by decide, by decide, by decide⟩ [0, 2, 3] rfl rfl rfl (fun _ => rfl) hl.1 rfl rfl (Nat.le_of_ble_eq_true rfl) dX4_lost_18 (fun _ H locs hr_4 hW => ?_)
    have hW : Wd E A s.heap (wcat [CO o vl vt vk vy kp, IA E (o 3) 7 F, HW E vl S Tl, HW E vt S Tt]) H locs := hW
    refine lv_iconst (v := 0) hx hb dX4_lost_21 (by decide) ?_
    refine lv_istore_n (lv' := [(2, .int 0), (0, .ref (o 0)), (1, .int (nI g))]) hx hb dX4_lost_22 rfl hl (by decide) rfl (fun ls hl => ?_)
    have L23 : ∀ (n_ : Nat) (k : Nat) (T1 : HS) (H : Heap) (locs : List Loc) (ls : Array Slot), 101 - k < n_ → k ≤ 101 → (∀ q_, q_ < k → cLost S P G g q_ = false) → Wd E A s.heap (wcat [CO o vl vt vk vy kp, IA E (o 3) 7 F, HW E vl S Tl, HW E vt (wks S P G k) T1]) H locs → lv_has ls 3 [(0, .ref (o 0)), (1, .int (nI g)), (2, .int (nI k))] → W p l e R s m args below meth c H locs 0 0 Q (F0 m 23 ls []) := by
      intro n_
      induction n_ with
      | zero => intro k T1 H locs ls hm; exact absurd hm (Nat.not_lt_zero _)
      | succ n_ ih =>
        intro k T1 H locs ls hm hk_ hno hW hl
        refine lv_iload_n hx hb dX4_lost_23 rfl (lv_at hl 2 rfl) ?_
        refine lv_bipush (v := 100) hx hb dX4_lost_24 (by decide) ?_
        refine lv_icmp_gt (tgt := 56) hx hb dX4_lost_26 (by decide) (fun c_5 => ?_) (fun c_5 => ?_)
        · have c_5 : 100 < k := (nI_ltI (a := 100) (b := k) (by omega) (by omega)).mp c_5
          refine lv_aload_n hx hb dX4_lost_56 rfl (lv_at hl 0 rfl) ?_
          refine lv_iconst (v := 3) hx hb dX4_lost_57 (by decide) ?_
          refine r_callCi hC hD hW hA lkX4_57 (c_X4_finding l E o vl vt vk vy kp F 3 (-1000000004) (by decide) (by decide)) rfl rfl ⟨by decide, by decide, by decide, by decide⟩ [0, 1] rfl rfl rfl (fun _ => rfl) hl.1 rfl rfl (Nat.le_of_ble_eq_true rfl) dX4_lost_58 (fun r_6 _ H locs hr_6 hW => ?_)
          have hW : Wd E A s.heap (wcat [CO o vl vt vk vy kp, IA E (o 3) 7 (upd F 3 (F 3 + 1)), HW E vl S Tl, HW E vt (wks S P G k) T1]) H locs := hW
          have hr_6 : r_6 = (-1000000004) := hr_6
          subst hr_6
          exact r_iret hC hQ hD hW (wks S P G k, T1) (by rw [mLost, cif_t b_2, ix_nI (n := g) (by omega), fs1_none (fun q hq => hno q (by omega)), if_neg (by decide)]; first | done | rfl) (by rw [mLost, cif_t b_2, ix_nI (n := g) (by omega), fs1_none (fun q hq => hno q (by omega)), if_neg (by decide)]; first | done | rfl) rfl dX4_lost_61
        · have c_5 : ¬ 100 < k := fun z_ => c_5 ((nI_ltI (a := 100) (b := k) (by omega) (by omega)).mpr z_)
          refine lv_aload_n hx hb dX4_lost_29 rfl (lv_at hl 0 rfl) ?_
          refine r_get hC hW flX4_16 0 rfl rfl dX4_lost_30 ?_
          refine lv_iload_n hx hb dX4_lost_33 rfl (lv_at hl 1 rfl) ?_
          refine r_callCi hC hD hW hA lkX4_162 (c_X0_isRight l E vt (wks S P G k) T1 g (by omega)) rfl rfl ⟨by decide, by decide, by decide, by decide⟩ [3] rfl rfl rfl (fun _ => rfl) hl.1 rfl rfl (Nat.le_of_ble_eq_true rfl) dX4_lost_34 (fun r_7 _ H locs hr_7 hW => ?_)
          have hW : Wd E A s.heap (wcat [CO o vl vt vk vy kp, IA E (o 3) 7 F, HW E vl S Tl, HW E vt (wks S P G k) T1]) H locs := hW
          have hr_7 : bz ((wks S P G k) 8 g = (wks S P G k) 5 g) r_7 := hr_7
          rcases hr_7 with ⟨rfl, b_8⟩ | ⟨rfl, b_8⟩
          · refine lv_if_ne (tgt := 42) hx hb dX4_lost_37 (by decide) (fun c => absurd c (by decide)) (fun _ => ?_)
            refine lv_iload_n hx hb dX4_lost_40 rfl (lv_at hl 2 rfl) ?_
            exact r_iret hC hQ hD hW ((wks S P G k), T1) (by rw [mLost, cif_t b_2, ix_nI (n := g) (by omega), fs1_hit (cLost_t b_8) hno (show k < 101 by omega), if_pos (show k < 101 by omega)]; first | done | rfl) (by rw [mLost, cif_t b_2, ix_nI (n := g) (by omega), fs1_hit (cLost_t b_8) hno (show k < 101 by omega), if_pos (show k < 101 by omega)]; first | done | rfl) rfl dX4_lost_41
          · refine lv_if_ne (tgt := 42) hx hb dX4_lost_37 (by decide) (fun _ => ?_) (fun c => absurd c (by decide))
            refine lv_aload_n hx hb dX4_lost_42 rfl (lv_at hl 0 rfl) ?_
            refine r_get hC hW flX4_16 0 rfl rfl dX4_lost_43 ?_
            refine lv_iconst (v := 1) hx hb dX4_lost_46 (by decide) ?_
            refine r_callCv hC hD hW hA lkX4_155 (c_X0_goWeeks l E vt (wks S P G k) T1 P G (HV_wks hV k) 1 (by omega)) rfl rfl ⟨by decide, by decide, by decide, by decide⟩ [3] rfl rfl rfl (fun _ => rfl) hl.1 rfl rfl (Nat.le_of_ble_eq_true rfl) dX4_lost_47 (fun u_10 H locs hr_9 hW => ?_)
            have hW : Wd E A s.heap (wcat [CO o vl vt vk vy kp, IA E (o 3) 7 F, HW E vl S Tl, HW E vt (wks S P G (k + 1)) u_10]) H locs := hW
            refine lv_iinc (v := (nI (k + 1))) (lv' := [(2, .int (nI (k + 1))), (0, .ref (o 0)), (1, .int (nI g))]) (k := 2) hx hb dX4_lost_50 hl rfl (nI_inc k 1) (by decide) rfl (fun ls hl => ?_)
            refine lv_goto (tgt := 23) hx hb dX4_lost_53 (by decide) ?_
            exact ih (k + 1) u_10 _ _ _ (by omega) (by omega) (lt_s hno (cLost_f b_8)) hW (lv_sub hl [1, 2, 0] rfl)
    exact L23 (101 - 0 + 1) 0 Tt _ _ _ (Nat.lt_succ_self _) (by omega) lt_0 hW (lv_sub hl [1, 2, 0] rfl)
set_option maxHeartbeats 4000000 in
set_option maxRecDepth 100000 in
theorem c_X4_comes (l : Launch) (E : Ev) (o : Nat → Nat) (vl : Nat → Nat) (vt : Nat → Nat) (vk : Nat → Nat) (vy : Nat → Nat) (kp : Int32) (S : HS) (Tl : HS) (F : FT) (P : Nat) (G : Nat) (hV : HV S P G) (St : HS) (Tt : HS) (x1 : Int32) (x2 : Int32) : MI l E yX4_comes cX4_comes 4 .int 4 89 0 0 [.ref (o 0), .int x1, .int x2] (wcat [CO o vl vt vk vy kp, IA E (o 3) 7 F, HW E vl S Tl, HW E vt St Tt]) (fun (r : Int32) (u : (HS × HS)) => r = (mComes S F P G x1 x2).1) (fun (u : (HS × HS)) => (wcat [CO o vl vt vk vy kp, IA E (o 3) 7 ((mComes S F P G x1 x2).2), HW E vl S Tl, HW E vt u.1 u.2])) := by
  refine MI_intro RX4 (by decide) rfl (Nat.le_of_ble_eq_true rfl) ?_
  intro p e R s m args below meth c A Q hQ hC hD hW hA ls hl
  have hx := hC.1
  have hb := hC.2.1
  have hW : Wd E A s.heap (wcat [CO o vl vt vk vy kp, IA E (o 3) 7 F, HW E vl S Tl, HW E vt St Tt]) s.heap [] := hW
  have hD : Dj A [o 0, o 3, vl 0, vl 1, vl 2, vl 3, vl 4, vl 5, vl 6, vl 7, vl 8, vl 9, vl 10, vt 0, vt 1, vt 2, vt 3, vt 4, vt 5, vt 6, vt 7, vt 8, vt 9, vt 10] := hD
  have hl : lv_has ls 4 [(0, .ref (o 0)), (1, .int x1), (2, .int x2)] := hl
  have hP := hV.p
  have hP1 := hV.p6
  have hG := hV.g
  have hG1 := hV.g10
  refine lv_aload_n hx hb dX4_comes_0 rfl (lv_at hl 0 rfl) ?_
  refine r_get hC hW flX4_10 0 rfl rfl dX4_comes_1 ?_
  refine lv_iload_n hx hb dX4_comes_4 rfl (lv_at hl 1 rfl) ?_
  refine r_callCi hC hD hW hA lkX4_116 (c_X0_hasGarment l E vl S Tl G hV.g hV.g10 x1) rfl rfl ⟨by decide, by decide, by decide, by decide⟩ [2] rfl rfl rfl (fun _ => rfl) hl.1 rfl rfl (Nat.le_of_ble_eq_true rfl) dX4_comes_5 (fun r_1 _ H locs hr_1 hW => ?_)
  have hW : Wd E A s.heap (wcat [CO o vl vt vk vy kp, IA E (o 3) 7 F, HW E vl S Tl, HW E vt St Tt]) H locs := hW
  have hr_1 : bz (∃ j, j < G ∧ x1 = nI j) r_1 := hr_1
  rcases hr_1 with ⟨rfl, b_2⟩ | ⟨rfl, b_2⟩
  · refine lv_if_eq (tgt := 22) hx hb dX4_comes_8 (by decide) (fun _ => ?_) (fun c => absurd c (by decide))
    refine lv_aload_n hx hb dX4_comes_22 rfl (lv_at hl 0 rfl) ?_
    refine lv_iconst (v := 0) hx hb dX4_comes_23 (by decide) ?_
    refine r_callCi hC hD hW hA lkX4_57 (c_X4_finding l E o vl vt vk vy kp F 0 (-1000000001) (by decide) (by decide)) rfl rfl ⟨by decide, by decide, by decide, by decide⟩ [0, 1] rfl rfl rfl (fun _ => rfl) hl.1 rfl rfl (Nat.le_of_ble_eq_true rfl) dX4_comes_24 (fun r_3 _ H locs hr_3 hW => ?_)
    have hW : Wd E A s.heap (wcat [CO o vl vt vk vy kp, IA E (o 3) 7 (upd F 0 (F 0 + 1)), HW E vl S Tl, HW E vt St Tt]) H locs := hW
    have hr_3 : r_3 = (-1000000001) := hr_3
    subst hr_3
    exact r_iret hC hQ hD hW (St, Tt) (by rw [mComes, cif_f (fun z_ => b_2 z_.1)]; first | done | rfl) (by rw [mComes, cif_f (fun z_ => b_2 z_.1)]; first | done | rfl) rfl dX4_comes_27
  · have eb_2 := b_2
    obtain ⟨g, hg, rfl⟩ := eb_2
    refine lv_if_eq (tgt := 22) hx hb dX4_comes_8 (by decide) (fun c => absurd c (by decide)) (fun _ => ?_)
    refine lv_aload_n hx hb dX4_comes_11 rfl (lv_at hl 0 rfl) ?_
    refine r_get hC hW flX4_10 0 rfl rfl dX4_comes_12 ?_
    refine lv_iload_n hx hb dX4_comes_15 rfl (lv_at hl 2 rfl) ?_
    refine r_callCi hC hD hW hA lkX4_91 (c_X0_hasPerson l E vl S Tl P hV.p hV.p6 x2) rfl rfl ⟨by decide, by decide, by decide, by decide⟩ [2] rfl rfl rfl (fun _ => rfl) hl.1 rfl rfl (Nat.le_of_ble_eq_true rfl) dX4_comes_16 (fun r_4 _ H locs hr_4 hW => ?_)
    have hW : Wd E A s.heap (wcat [CO o vl vt vk vy kp, IA E (o 3) 7 F, HW E vl S Tl, HW E vt St Tt]) H locs := hW
    have hr_4 : bz (∃ j, j < P ∧ x2 = nI j) r_4 := hr_4
    rcases hr_4 with ⟨rfl, b_5⟩ | ⟨rfl, b_5⟩
    · refine lv_if_ne (tgt := 28) hx hb dX4_comes_19 (by decide) (fun c => absurd c (by decide)) (fun _ => ?_)
      refine lv_aload_n hx hb dX4_comes_22 rfl (lv_at hl 0 rfl) ?_
      refine lv_iconst (v := 0) hx hb dX4_comes_23 (by decide) ?_
      refine r_callCi hC hD hW hA lkX4_57 (c_X4_finding l E o vl vt vk vy kp F 0 (-1000000001) (by decide) (by decide)) rfl rfl ⟨by decide, by decide, by decide, by decide⟩ [0, 1] rfl rfl rfl (fun _ => rfl) hl.1 rfl rfl (Nat.le_of_ble_eq_true rfl) dX4_comes_24 (fun r_6 _ H locs hr_6 hW => ?_)
      have hW : Wd E A s.heap (wcat [CO o vl vt vk vy kp, IA E (o 3) 7 (upd F 0 (F 0 + 1)), HW E vl S Tl, HW E vt St Tt]) H locs := hW
      have hr_6 : r_6 = (-1000000001) := hr_6
      subst hr_6
      exact r_iret hC hQ hD hW (St, Tt) (by rw [mComes, cif_f (fun z_ => b_5 z_.2)]; first | done | rfl) (by rw [mComes, cif_f (fun z_ => b_5 z_.2)]; first | done | rfl) rfl dX4_comes_27
    · have eb_5 := b_5
      obtain ⟨j, hj, rfl⟩ := eb_5
      refine lv_if_ne (tgt := 28) hx hb dX4_comes_19 (by decide) (fun _ => ?_) (fun c => absurd c (by decide))
      refine lv_aload_n hx hb dX4_comes_28 rfl (lv_at hl 0 rfl) ?_
      refine r_callCv hC hD hW hA lkX4_159 (c_X4_startTrial l E o vl vt vk vy kp S Tl St Tt) rfl rfl ⟨by decide, by decide, by decide, by decide⟩ [0, 2, 3] rfl rfl rfl (fun _ => rfl) hl.1 rfl rfl (Nat.le_of_ble_eq_true rfl) dX4_comes_29 (fun _ H locs hr_7 hW => ?_)
      have hW : Wd E A s.heap (wcat [CO o vl vt vk vy kp, IA E (o 3) 7 F, HW E vl S Tl, HW E vt S Tt]) H locs := hW
      refine lv_iconst (v := 0) hx hb dX4_comes_32 (by decide) ?_
      refine lv_istore_n (lv' := [(3, .int 0), (0, .ref (o 0)), (1, .int (nI g)), (2, .int (nI j))]) hx hb dX4_comes_33 rfl hl (by decide) rfl (fun ls hl => ?_)
      have L34 : ∀ (n_ : Nat) (k : Nat) (T1 : HS) (H : Heap) (locs : List Loc) (ls : Array Slot), 101 - k < n_ → k ≤ 101 → (∀ q_, q_ < k → cCome S P G g (nI j) q_ = false) → Wd E A s.heap (wcat [CO o vl vt vk vy kp, IA E (o 3) 7 F, HW E vl S Tl, HW E vt (wks S P G k) T1]) H locs → lv_has ls 4 [(0, .ref (o 0)), (1, .int (nI g)), (2, .int (nI j)), (3, .int (nI k))] → W p l e R s m args below meth c H locs 0 0 Q (F0 m 34 ls []) := by
        intro n_
        induction n_ with
        | zero => intro k T1 H locs ls hm; exact absurd hm (Nat.not_lt_zero _)
        | succ n_ ih =>
          intro k T1 H locs ls hm hk_ hno hW hl
          refine lv_iload_n hx hb dX4_comes_34 rfl (lv_at hl 3 rfl) ?_
          refine lv_bipush (v := 100) hx hb dX4_comes_35 (by decide) ?_
          refine lv_icmp_gt (tgt := 69) hx hb dX4_comes_37 (by decide) (fun c_8 => ?_) (fun c_8 => ?_)
          · have c_8 : 100 < k := (nI_ltI (a := 100) (b := k) (by omega) (by omega)).mp c_8
            refine lv_aload_n hx hb dX4_comes_69 rfl (lv_at hl 0 rfl) ?_
            refine lv_iconst (v := 3) hx hb dX4_comes_70 (by decide) ?_
            refine r_callCi hC hD hW hA lkX4_57 (c_X4_finding l E o vl vt vk vy kp F 3 (-1000000004) (by decide) (by decide)) rfl rfl ⟨by decide, by decide, by decide, by decide⟩ [0, 1] rfl rfl rfl (fun _ => rfl) hl.1 rfl rfl (Nat.le_of_ble_eq_true rfl) dX4_comes_71 (fun r_9 _ H locs hr_9 hW => ?_)
            have hW : Wd E A s.heap (wcat [CO o vl vt vk vy kp, IA E (o 3) 7 (upd F 3 (F 3 + 1)), HW E vl S Tl, HW E vt (wks S P G k) T1]) H locs := hW
            have hr_9 : r_9 = (-1000000004) := hr_9
            subst hr_9
            exact r_iret hC hQ hD hW (wks S P G k, T1) (by rw [mComes, cif_t ⟨b_2, b_5⟩, ix_nI (n := g) (by omega), fs1_none (fun q hq => hno q (by omega)), if_neg (by decide)]; first | done | rfl) (by rw [mComes, cif_t ⟨b_2, b_5⟩, ix_nI (n := g) (by omega), fs1_none (fun q hq => hno q (by omega)), if_neg (by decide)]; first | done | rfl) rfl dX4_comes_74
          · have c_8 : ¬ 100 < k := fun z_ => c_8 ((nI_ltI (a := 100) (b := k) (by omega) (by omega)).mpr z_)
            refine lv_aload_n hx hb dX4_comes_40 rfl (lv_at hl 0 rfl) ?_
            refine r_get hC hW flX4_16 0 rfl rfl dX4_comes_41 ?_
            refine r_get hC hW flX4_145 13 rfl rfl dX4_comes_44 ?_
            refine lv_iload_n hx hb dX4_comes_47 rfl (lv_at hl 1 rfl) ?_
            refine r_iald hC hW 21 rfl g rfl (by omega) (by decide) dX4_comes_48 ?_
            refine lv_iload_n hx hb dX4_comes_49 rfl (lv_at hl 2 rfl) ?_
            refine lv_icmp_ne (tgt := 55) hx hb dX4_comes_50 (by decide) (fun c_10 => ?_) (fun c_10 => ?_)
            · refine lv_aload_n hx hb dX4_comes_55 rfl (lv_at hl 0 rfl) ?_
              refine r_get hC hW flX4_16 0 rfl rfl dX4_comes_56 ?_
              refine lv_iconst (v := 1) hx hb dX4_comes_59 (by decide) ?_
              refine r_callCv hC hD hW hA lkX4_155 (c_X0_goWeeks l E vt (wks S P G k) T1 P G (HV_wks hV k) 1 (by omega)) rfl rfl ⟨by decide, by decide, by decide, by decide⟩ [3] rfl rfl rfl (fun _ => rfl) hl.1 rfl rfl (Nat.le_of_ble_eq_true rfl) dX4_comes_60 (fun u_12 H locs hr_11 hW => ?_)
              have hW : Wd E A s.heap (wcat [CO o vl vt vk vy kp, IA E (o 3) 7 F, HW E vl S Tl, HW E vt (wks S P G (k + 1)) u_12]) H locs := hW
              refine lv_iinc (v := (nI (k + 1))) (lv' := [(3, .int (nI (k + 1))), (0, .ref (o 0)), (1, .int (nI g)), (2, .int (nI j))]) (k := 3) hx hb dX4_comes_63 hl rfl (nI_inc k 1) (by decide) rfl (fun ls hl => ?_)
              refine lv_goto (tgt := 34) hx hb dX4_comes_66 (by decide) ?_
              exact ih (k + 1) u_12 _ _ _ (by omega) (by omega) (lt_s hno (cCome_f c_10)) hW (lv_sub hl [1, 2, 3, 0] rfl)
            · refine lv_iload_n hx hb dX4_comes_53 rfl (lv_at hl 3 rfl) ?_
              exact r_iret hC hQ hD hW (wks S P G k, T1) (by rw [mComes, cif_t ⟨b_2, b_5⟩, ix_nI (n := g) (by omega), fs1_hit (cCome_t c_10) hno (show k < 101 by omega), if_pos (show k < 101 by omega)]; first | done | rfl) (by rw [mComes, cif_t ⟨b_2, b_5⟩, ix_nI (n := g) (by omega), fs1_hit (cCome_t c_10) hno (show k < 101 by omega), if_pos (show k < 101 by omega)]; first | done | rfl) rfl dX4_comes_54
      exact L34 (101 - 0 + 1) 0 Tt _ _ _ (Nat.lt_succ_self _) (by omega) lt_0 hW (lv_sub hl [1, 2, 3, 0] rfl)
set_option maxHeartbeats 4000000 in
set_option maxRecDepth 100000 in
theorem c_X4_mark (l : Launch) (E : Ev) (o : Nat → Nat) (vl : Nat → Nat) (vt : Nat → Nat) (vk : Nat → Nat) (vy : Nat → Nat) (kp : Int32) (S : HS) (Tl : HS) (F : FT) (P : Nat) (G : Nat) (hV : HV S P G) (St : HS) (Tt : HS) (x1 : Int32) (x2 : Int32) : MI l E yX4_mark cX4_mark 7 .int 5 113 0 0 [.ref (o 0), .int x1, .int x2] (wcat [CO o vl vt vk vy kp, IA E (o 3) 7 F, HW E vl S Tl, HW E vt St Tt]) (fun (r : Int32) (u : (HS × HS)) => r = (mMark S F P G x1 x2).1) (fun (u : (HS × HS)) => (wcat [CO o vl vt vk vy kp, IA E (o 3) 7 ((mMark S F P G x1 x2).2), HW E vl S Tl, HW E vt u.1 u.2])) := by
  refine MI_intro RX4 (by decide) rfl (Nat.le_of_ble_eq_true rfl) ?_
  intro p e R s m args below meth c A Q hQ hC hD hW hA ls hl
  have hx := hC.1
  have hb := hC.2.1
  have hW : Wd E A s.heap (wcat [CO o vl vt vk vy kp, IA E (o 3) 7 F, HW E vl S Tl, HW E vt St Tt]) s.heap [] := hW
  have hD : Dj A [o 0, o 3, vl 0, vl 1, vl 2, vl 3, vl 4, vl 5, vl 6, vl 7, vl 8, vl 9, vl 10, vt 0, vt 1, vt 2, vt 3, vt 4, vt 5, vt 6, vt 7, vt 8, vt 9, vt 10] := hD
  have hl : lv_has ls 7 [(0, .ref (o 0)), (1, .int x1), (2, .int x2)] := hl
  have hP := hV.p
  have hP1 := hV.p6
  have hG := hV.g
  have hG1 := hV.g10
  refine lv_aload_n hx hb dX4_mark_0 rfl (lv_at hl 0 rfl) ?_
  refine r_get hC hW flX4_10 0 rfl rfl dX4_mark_1 ?_
  refine lv_iload_n hx hb dX4_mark_4 rfl (lv_at hl 1 rfl) ?_
  refine r_callCi hC hD hW hA lkX4_116 (c_X0_hasGarment l E vl S Tl G hV.g hV.g10 x1) rfl rfl ⟨by decide, by decide, by decide, by decide⟩ [2] rfl rfl rfl (fun _ => rfl) hl.1 rfl rfl (Nat.le_of_ble_eq_true rfl) dX4_mark_5 (fun r_1 _ H locs hr_1 hW => ?_)
  have hW : Wd E A s.heap (wcat [CO o vl vt vk vy kp, IA E (o 3) 7 F, HW E vl S Tl, HW E vt St Tt]) H locs := hW
  have hr_1 : bz (∃ j, j < G ∧ x1 = nI j) r_1 := hr_1
  rcases hr_1 with ⟨rfl, b_2⟩ | ⟨rfl, b_2⟩
  · refine lv_if_eq (tgt := 21) hx hb dX4_mark_8 (by decide) (fun _ => ?_) (fun c => absurd c (by decide))
    refine lv_aload_n hx hb dX4_mark_21 rfl (lv_at hl 0 rfl) ?_
    refine lv_iconst (v := 0) hx hb dX4_mark_22 (by decide) ?_
    refine r_callCi hC hD hW hA lkX4_57 (c_X4_finding l E o vl vt vk vy kp F 0 (-1000000001) (by decide) (by decide)) rfl rfl ⟨by decide, by decide, by decide, by decide⟩ [0, 1] rfl rfl rfl (fun _ => rfl) hl.1 rfl rfl (Nat.le_of_ble_eq_true rfl) dX4_mark_23 (fun r_3 _ H locs hr_3 hW => ?_)
    have hW : Wd E A s.heap (wcat [CO o vl vt vk vy kp, IA E (o 3) 7 (upd F 0 (F 0 + 1)), HW E vl S Tl, HW E vt St Tt]) H locs := hW
    have hr_3 : r_3 = (-1000000001) := hr_3
    subst hr_3
    exact r_iret hC hQ hD hW (St, Tt) (by rw [mMark, cif_f (fun z_ => b_2 z_.1)]; first | done | rfl) (by rw [mMark, cif_f (fun z_ => b_2 z_.1)]; first | done | rfl) rfl dX4_mark_26
  · have eb_2 := b_2
    obtain ⟨g, hg, rfl⟩ := eb_2
    refine lv_if_eq (tgt := 21) hx hb dX4_mark_8 (by decide) (fun c => absurd c (by decide)) (fun _ => ?_)
    refine lv_iload_n hx hb dX4_mark_11 rfl (lv_at hl 2 rfl) ?_
    refine lv_iconst (v := 1) hx hb dX4_mark_12 (by decide) ?_
    refine lv_bipush (v := 40) hx hb dX4_mark_13 (by decide) ?_
    refine r_callSi hC hD hW hA lkX4_53 (c_X4_isWithin l E x2 1 40) ⟨by decide, by decide, by decide, by decide⟩ rfl hl.1 rfl rfl (Nat.le_of_ble_eq_true rfl) dX4_mark_15 (fun r_4 _ H locs hr_4 hW => ?_)
    have hW : Wd E A s.heap (wcat [CO o vl vt vk vy kp, IA E (o 3) 7 F, HW E vl S Tl, HW E vt St Tt]) H locs := hW
    have hr_4 : bz (1 ≤ x2 ∧ x2 ≤ 40) r_4 := hr_4
    rcases hr_4 with ⟨rfl, b_5⟩ | ⟨rfl, b_5⟩
    · refine lv_if_ne (tgt := 27) hx hb dX4_mark_18 (by decide) (fun c => absurd c (by decide)) (fun _ => ?_)
      refine lv_aload_n hx hb dX4_mark_21 rfl (lv_at hl 0 rfl) ?_
      refine lv_iconst (v := 0) hx hb dX4_mark_22 (by decide) ?_
      refine r_callCi hC hD hW hA lkX4_57 (c_X4_finding l E o vl vt vk vy kp F 0 (-1000000001) (by decide) (by decide)) rfl rfl ⟨by decide, by decide, by decide, by decide⟩ [0, 1] rfl rfl rfl (fun _ => rfl) hl.1 rfl rfl (Nat.le_of_ble_eq_true rfl) dX4_mark_23 (fun r_6 _ H locs hr_6 hW => ?_)
      have hW : Wd E A s.heap (wcat [CO o vl vt vk vy kp, IA E (o 3) 7 (upd F 0 (F 0 + 1)), HW E vl S Tl, HW E vt St Tt]) H locs := hW
      have hr_6 : r_6 = (-1000000001) := hr_6
      subst hr_6
      exact r_iret hC hQ hD hW (St, Tt) (by rw [mMark, cif_f (fun z_ => b_5 z_.2)]; first | done | rfl) (by rw [mMark, cif_f (fun z_ => b_5 z_.2)]; first | done | rfl) rfl dX4_mark_26
    · have eb_5 := rng1 (k := 40) (by decide) b_5
      obtain ⟨n, hn, rfl⟩ := eb_5
      refine lv_if_ne (tgt := 27) hx hb dX4_mark_18 (by decide) (fun _ => ?_) (fun c => absurd c (by decide))
      refine lv_iconst (v := 0) hx hb dX4_mark_27 (by decide) ?_
      refine lv_istore_n (lv' := [(3, .int 0), (0, .ref (o 0)), (1, .int (nI g)), (2, .int (nI n))]) hx hb dX4_mark_28 rfl hl (by decide) rfl (fun ls hl => ?_)
      refine lv_iconst (v := (-1)) hx hb dX4_mark_29 (by decide) ?_
      refine lv_istore (lv' := [(4, .int (-1)), (3, .int 0), (0, .ref (o 0)), (1, .int (nI g)), (2, .int (nI n))]) hx hb dX4_mark_30 hl (by decide) rfl (fun ls hl => ?_)
      refine lv_iconst (v := 0) hx hb dX4_mark_32 (by decide) ?_
      refine lv_istore (lv' := [(5, .int 0), (4, .int (-1)), (3, .int 0), (0, .ref (o 0)), (1, .int (nI g)), (2, .int (nI n))]) hx hb dX4_mark_33 hl (by decide) rfl (fun ls hl => ?_)
      have L35 : ∀ (n_ : Nat) (k : Nat) (S1 : HS) (T1 : HS) (H : Heap) (locs : List Loc) (ls : Array Slot), 3 - k < n_ → k ≤ 3 → Wd E A s.heap (wcat [CO o vl vt vk vy kp, IA E (o 3) 7 F, HW E vl S Tl, HW E vt S1 T1]) H locs → lv_has ls 7 [(0, .ref (o 0)), (1, .int (nI g)), (2, .int (nI n)), (3, .int (nI (bx (vMark S P G g n) k))), (4, .int (mst (vMark S P G g n) k)), (5, .int (nI k))] → W p l e R s m args below meth c H locs 0 0 Q (F0 m 35 ls []) := by
        intro n_
        induction n_ with
        | zero => intro k S1 T1 H locs ls hm; exact absurd hm (Nat.not_lt_zero _)
        | succ n_ ih =>
          intro k S1 T1 H locs ls hm hk_ hW hl
          refine lv_iload hx hb dX4_mark_35 (lv_at hl 5 rfl) ?_
          refine lv_iconst (v := 3) hx hb dX4_mark_37 (by decide) ?_
          refine lv_icmp_ge (tgt := 87) hx hb dX4_mark_38 (by decide) (fun c_7 => ?_) (fun c_7 => ?_)
          · have c_7 : 3 ≤ k := (nI_leI (a := 3) (b := k) (by omega) (by omega)).mp c_7
            refine lv_iload_n hx hb dX4_mark_87 rfl (lv_at hl 3 rfl) ?_
            exact r_iret hC hQ hD hW (S1, T1) (by rw [mMark, cif_t ⟨b_2, b_5⟩, ix_nI (n := g) (by omega), ix_nI (n := n) (by omega), show 3 = k by omega]; first | done | rfl) (by rw [mMark, cif_t ⟨b_2, b_5⟩, ix_nI (n := g) (by omega), ix_nI (n := n) (by omega), show 3 = k by omega]; first | done | rfl) rfl dX4_mark_88
          · have c_7 : ¬ 3 ≤ k := fun z_ => c_7 ((nI_leI (a := 3) (b := k) (by omega) (by omega)).mpr z_)
            refine lv_aload_n hx hb dX4_mark_41 rfl (lv_at hl 0 rfl) ?_
            refine r_callCv hC hD hW hA lkX4_159 (c_X4_startTrial l E o vl vt vk vy kp S Tl S1 T1) rfl rfl ⟨by decide, by decide, by decide, by decide⟩ [0, 2, 3] rfl rfl rfl (fun _ => rfl) hl.1 rfl rfl (Nat.le_of_ble_eq_true rfl) dX4_mark_42 (fun _ H locs hr_8 hW => ?_)
            have hW : Wd E A s.heap (wcat [CO o vl vt vk vy kp, IA E (o 3) 7 F, HW E vl S Tl, HW E vt S T1]) H locs := hW
            refine lv_aload_n hx hb dX4_mark_45 rfl (lv_at hl 0 rfl) ?_
            refine r_get hC hW flX4_16 0 rfl rfl dX4_mark_46 ?_
            refine r_get hC hW flX4_139 13 rfl rfl dX4_mark_49 ?_
            refine lv_iload_n hx hb dX4_mark_52 rfl (lv_at hl 1 rfl) ?_
            refine lv_iload hx hb dX4_mark_53 (lv_at hl 5 rfl) ?_
            refine r_iast (ws' := (wcat [CO o vl vt vk vy kp, IA E (o 3) 7 F, HW E vl S Tl, HW E vt (st S 6 g (nI k)) T1])) hC hD hW 19 rfl g rfl (by omega) (by decide) rfl rfl dX4_mark_55 (fun H locs hW => ?_)
            refine lv_aload_n hx hb dX4_mark_56 rfl (lv_at hl 0 rfl) ?_
            refine r_get hC hW flX4_16 0 rfl rfl dX4_mark_57 ?_
            refine lv_iload_n hx hb dX4_mark_60 rfl (lv_at hl 1 rfl) ?_
            refine lv_iload_n hx hb dX4_mark_61 rfl (lv_at hl 2 rfl) ?_
            refine r_callCi hC hD hW hA lkX4_165 (c_X0_countRightWeeks l E vt (st S 6 g (nI k)) T1 P G (HV_6n hV (by omega)) g (by omega) n (by omega)) rfl rfl ⟨by decide, by decide, by decide, by decide⟩ [3] rfl rfl rfl (fun _ => rfl) hl.1 rfl rfl (Nat.le_of_ble_eq_true rfl) dX4_mark_62 (fun r_9 u_10 H locs hr_9 hW => ?_)
            have hW : Wd E A s.heap (wcat [CO o vl vt vk vy kp, IA E (o 3) 7 F, HW E vl S Tl, HW E vt (wks (st S 6 g (nI k)) P G n) u_10]) H locs := hW
            have hr_9 : r_9 = (nI (ct (fun q_ => rgt (wks (st S 6 g (nI k)) P G (q_ + 1)) g) n)) := hr_9
            subst hr_9
            refine n_top rfl ?_
            refine lv_istore (lv' := [(6, .int (vMark S P G g n k)), (0, .ref (o 0)), (1, .int (nI g)), (2, .int (nI n)), (3, .int (nI (bx (vMark S P G g n) k))), (4, .int (mst (vMark S P G g n) k)), (5, .int (nI k))]) hx hb dX4_mark_65 hl (by decide) rfl (fun ls hl => ?_)
            refine lv_iload hx hb dX4_mark_67 (lv_at hl 0 rfl) ?_
            refine lv_iload hx hb dX4_mark_69 (lv_at hl 5 rfl) ?_
            refine lv_icmp_le (tgt := 81) hx hb dX4_mark_71 (by decide) (fun c_11 => ?_) (fun c_11 => ?_)
            · refine lv_iinc (v := (nI (k + 1))) (lv' := [(5, .int (nI (k + 1))), (6, .int (vMark S P G g n k)), (0, .ref (o 0)), (1, .int (nI g)), (2, .int (nI n)), (3, .int (nI (bx (vMark S P G g n) k))), (4, .int (mst (vMark S P G g n) k))]) (k := 6) hx hb dX4_mark_81 hl rfl (nI_inc k 1) (by decide) rfl (fun ls hl => ?_)
              refine lv_goto (tgt := 35) hx hb dX4_mark_84 (by decide) ?_
              exact ih (k + 1) (wks (st S 6 g (nI k)) P G n) u_10 _ _ _ (by omega) (by omega) hW (by rw [(mst_f (vMark_pos S P G g n k (by omega)) (Int32.not_lt.mpr c_11)).1, (mst_f (vMark_pos S P G g n k (by omega)) (Int32.not_lt.mpr c_11)).2.1]; exact lv_sub hl [2, 3, 4, 5, 6, 0] rfl)
            · refine lv_iload hx hb dX4_mark_74 (lv_at hl 0 rfl) ?_
              refine lv_istore (lv' := [(4, .int (vMark S P G g n k)), (6, .int (vMark S P G g n k)), (0, .ref (o 0)), (1, .int (nI g)), (2, .int (nI n)), (3, .int (nI (bx (vMark S P G g n) k))), (5, .int (nI k))]) hx hb dX4_mark_76 hl (by decide) rfl (fun ls hl => ?_)
              refine lv_iload hx hb dX4_mark_78 (lv_at hl 6 rfl) ?_
              refine lv_istore_n (lv' := [(3, .int (nI k)), (4, .int (vMark S P G g n k)), (6, .int (vMark S P G g n k)), (0, .ref (o 0)), (1, .int (nI g)), (2, .int (nI n)), (5, .int (nI k))]) hx hb dX4_mark_80 rfl hl (by decide) rfl (fun ls hl => ?_)
              refine lv_iinc (v := (nI (k + 1))) (lv' := [(5, .int (nI (k + 1))), (3, .int (nI k)), (4, .int (vMark S P G g n k)), (6, .int (vMark S P G g n k)), (0, .ref (o 0)), (1, .int (nI g)), (2, .int (nI n))]) (k := 6) hx hb dX4_mark_81 hl rfl (nI_inc k 1) (by decide) rfl (fun ls hl => ?_)
              refine lv_goto (tgt := 35) hx hb dX4_mark_84 (by decide) ?_
              exact ih (k + 1) (wks (st S 6 g (nI k)) P G n) u_10 _ _ _ (by omega) (by omega) hW (by rw [(mst_t (Int32.not_le.mp c_11)).1, (mst_t (Int32.not_le.mp c_11)).2]; exact lv_sub hl [4, 5, 6, 1, 2, 0] rfl)
      exact L35 (3 - 0 + 1) 0 St Tt _ _ _ (Nat.lt_succ_self _) (by omega) hW (lv_sub hl [3, 4, 5, 2, 1, 0] rfl)
set_option maxHeartbeats 4000000 in
set_option maxRecDepth 100000 in
theorem c_X4_kind (l : Launch) (E : Ev) (o : Nat → Nat) (vl : Nat → Nat) (vt : Nat → Nat) (vk : Nat → Nat) (vy : Nat → Nat) (kp : Int32) (S : HS) (Tl : HS) (F : FT) (P : Nat) (G : Nat) (hV : HV S P G) (St : HS) (Tt : HS) (x1 : Int32) (x2 : Int32) : MI l E yX4_kind cX4_kind 7 .int 4 89 0 0 [.ref (o 0), .int x1, .int x2] (wcat [CO o vl vt vk vy kp, IA E (o 3) 7 F, HW E vl S Tl, HW E vt St Tt]) (fun (r : Int32) (u : (HS × HS)) => r = (mKind S F P G x1 x2).1) (fun (u : (HS × HS)) => (wcat [CO o vl vt vk vy kp, IA E (o 3) 7 ((mKind S F P G x1 x2).2), HW E vl S Tl, HW E vt u.1 u.2])) := by
  refine MI_intro RX4 (by decide) rfl (Nat.le_of_ble_eq_true rfl) ?_
  intro p e R s m args below meth c A Q hQ hC hD hW hA ls hl
  have hx := hC.1
  have hb := hC.2.1
  have hW : Wd E A s.heap (wcat [CO o vl vt vk vy kp, IA E (o 3) 7 F, HW E vl S Tl, HW E vt St Tt]) s.heap [] := hW
  have hD : Dj A [o 0, o 3, vl 0, vl 1, vl 2, vl 3, vl 4, vl 5, vl 6, vl 7, vl 8, vl 9, vl 10, vt 0, vt 1, vt 2, vt 3, vt 4, vt 5, vt 6, vt 7, vt 8, vt 9, vt 10] := hD
  have hl : lv_has ls 7 [(0, .ref (o 0)), (1, .int x1), (2, .int x2)] := hl
  have hP := hV.p
  have hP1 := hV.p6
  have hG := hV.g
  have hG1 := hV.g10
  refine lv_aload_n hx hb dX4_kind_0 rfl (lv_at hl 0 rfl) ?_
  refine r_get hC hW flX4_10 0 rfl rfl dX4_kind_1 ?_
  refine lv_iload_n hx hb dX4_kind_4 rfl (lv_at hl 1 rfl) ?_
  refine r_callCi hC hD hW hA lkX4_91 (c_X0_hasPerson l E vl S Tl P hV.p hV.p6 x1) rfl rfl ⟨by decide, by decide, by decide, by decide⟩ [2] rfl rfl rfl (fun _ => rfl) hl.1 rfl rfl (Nat.le_of_ble_eq_true rfl) dX4_kind_5 (fun r_1 _ H locs hr_1 hW => ?_)
  have hW : Wd E A s.heap (wcat [CO o vl vt vk vy kp, IA E (o 3) 7 F, HW E vl S Tl, HW E vt St Tt]) H locs := hW
  have hr_1 : bz (∃ j, j < P ∧ x1 = nI j) r_1 := hr_1
  rcases hr_1 with ⟨rfl, b_2⟩ | ⟨rfl, b_2⟩
  · refine lv_if_eq (tgt := 21) hx hb dX4_kind_8 (by decide) (fun _ => ?_) (fun c => absurd c (by decide))
    refine lv_aload_n hx hb dX4_kind_21 rfl (lv_at hl 0 rfl) ?_
    refine lv_iconst (v := 0) hx hb dX4_kind_22 (by decide) ?_
    refine r_callCi hC hD hW hA lkX4_57 (c_X4_finding l E o vl vt vk vy kp F 0 (-1000000001) (by decide) (by decide)) rfl rfl ⟨by decide, by decide, by decide, by decide⟩ [0, 1] rfl rfl rfl (fun _ => rfl) hl.1 rfl rfl (Nat.le_of_ble_eq_true rfl) dX4_kind_23 (fun r_3 _ H locs hr_3 hW => ?_)
    have hW : Wd E A s.heap (wcat [CO o vl vt vk vy kp, IA E (o 3) 7 (upd F 0 (F 0 + 1)), HW E vl S Tl, HW E vt St Tt]) H locs := hW
    have hr_3 : r_3 = (-1000000001) := hr_3
    subst hr_3
    exact r_iret hC hQ hD hW (St, Tt) (by rw [mKind, cif_f (fun z_ => b_2 z_.1)]; first | done | rfl) (by rw [mKind, cif_f (fun z_ => b_2 z_.1)]; first | done | rfl) rfl dX4_kind_26
  · have eb_2 := b_2
    obtain ⟨j, hj, rfl⟩ := eb_2
    refine lv_if_eq (tgt := 21) hx hb dX4_kind_8 (by decide) (fun c => absurd c (by decide)) (fun _ => ?_)
    refine lv_iload_n hx hb dX4_kind_11 rfl (lv_at hl 2 rfl) ?_
    refine lv_iconst (v := 1) hx hb dX4_kind_12 (by decide) ?_
    refine lv_bipush (v := 60) hx hb dX4_kind_13 (by decide) ?_
    refine r_callSi hC hD hW hA lkX4_53 (c_X4_isWithin l E x2 1 60) ⟨by decide, by decide, by decide, by decide⟩ rfl hl.1 rfl rfl (Nat.le_of_ble_eq_true rfl) dX4_kind_15 (fun r_4 _ H locs hr_4 hW => ?_)
    have hW : Wd E A s.heap (wcat [CO o vl vt vk vy kp, IA E (o 3) 7 F, HW E vl S Tl, HW E vt St Tt]) H locs := hW
    have hr_4 : bz (1 ≤ x2 ∧ x2 ≤ 60) r_4 := hr_4
    rcases hr_4 with ⟨rfl, b_5⟩ | ⟨rfl, b_5⟩
    · refine lv_if_ne (tgt := 27) hx hb dX4_kind_18 (by decide) (fun c => absurd c (by decide)) (fun _ => ?_)
      refine lv_aload_n hx hb dX4_kind_21 rfl (lv_at hl 0 rfl) ?_
      refine lv_iconst (v := 0) hx hb dX4_kind_22 (by decide) ?_
      refine r_callCi hC hD hW hA lkX4_57 (c_X4_finding l E o vl vt vk vy kp F 0 (-1000000001) (by decide) (by decide)) rfl rfl ⟨by decide, by decide, by decide, by decide⟩ [0, 1] rfl rfl rfl (fun _ => rfl) hl.1 rfl rfl (Nat.le_of_ble_eq_true rfl) dX4_kind_23 (fun r_6 _ H locs hr_6 hW => ?_)
      have hW : Wd E A s.heap (wcat [CO o vl vt vk vy kp, IA E (o 3) 7 (upd F 0 (F 0 + 1)), HW E vl S Tl, HW E vt St Tt]) H locs := hW
      have hr_6 : r_6 = (-1000000001) := hr_6
      subst hr_6
      exact r_iret hC hQ hD hW (St, Tt) (by rw [mKind, cif_f (fun z_ => b_5 z_.2)]; first | done | rfl) (by rw [mKind, cif_f (fun z_ => b_5 z_.2)]; first | done | rfl) rfl dX4_kind_26
    · have eb_5 := rng1 (k := 60) (by decide) b_5
      obtain ⟨n, hn, rfl⟩ := eb_5
      refine lv_if_ne (tgt := 27) hx hb dX4_kind_18 (by decide) (fun _ => ?_) (fun c => absurd c (by decide))
      refine lv_iconst (v := 0) hx hb dX4_kind_27 (by decide) ?_
      refine lv_istore_n (lv' := [(3, .int 0), (0, .ref (o 0)), (1, .int (nI j)), (2, .int (nI n))]) hx hb dX4_kind_28 rfl hl (by decide) rfl (fun ls hl => ?_)
      refine lv_iconst (v := (-1)) hx hb dX4_kind_29 (by decide) ?_
      refine lv_istore (lv' := [(4, .int (-1)), (3, .int 0), (0, .ref (o 0)), (1, .int (nI j)), (2, .int (nI n))]) hx hb dX4_kind_30 hl (by decide) rfl (fun ls hl => ?_)
      refine lv_iconst (v := 0) hx hb dX4_kind_32 (by decide) ?_
      refine lv_istore (lv' := [(5, .int 0), (4, .int (-1)), (3, .int 0), (0, .ref (o 0)), (1, .int (nI j)), (2, .int (nI n))]) hx hb dX4_kind_33 hl (by decide) rfl (fun ls hl => ?_)
      have L35 : ∀ (n_ : Nat) (k : Nat) (S1 : HS) (T1 : HS) (H : Heap) (locs : List Loc) (ls : Array Slot), 6 - k < n_ → k ≤ 6 → Wd E A s.heap (wcat [CO o vl vt vk vy kp, IA E (o 3) 7 F, HW E vl S Tl, HW E vt S1 T1]) H locs → lv_has ls 7 [(0, .ref (o 0)), (1, .int (nI j)), (2, .int (nI n)), (3, .int (nI (bx (vKind S P G j n) k))), (4, .int (mst (vKind S P G j n) k)), (5, .int (nI k))] → W p l e R s m args below meth c H locs 0 0 Q (F0 m 35 ls []) := by
        intro n_
        induction n_ with
        | zero => intro k S1 T1 H locs ls hm; exact absurd hm (Nat.not_lt_zero _)
        | succ n_ ih =>
          intro k S1 T1 H locs ls hm hk_ hW hl
          refine lv_iload hx hb dX4_kind_35 (lv_at hl 5 rfl) ?_
          refine lv_bipush (v := 6) hx hb dX4_kind_37 (by decide) ?_
          refine lv_icmp_ge (tgt := 106) hx hb dX4_kind_39 (by decide) (fun c_7 => ?_) (fun c_7 => ?_)
          · have c_7 : 6 ≤ k := (nI_leI (a := 6) (b := k) (by omega) (by omega)).mp c_7
            refine lv_iload_n hx hb dX4_kind_106 rfl (lv_at hl 3 rfl) ?_
            exact r_iret hC hQ hD hW (S1, T1) (by rw [mKind, cif_t ⟨b_2, b_5⟩, ix_nI (n := j) (by omega), ix_nI (n := n) (by omega), show 6 = k by omega]; first | done | rfl) (by rw [mKind, cif_t ⟨b_2, b_5⟩, ix_nI (n := j) (by omega), ix_nI (n := n) (by omega), show 6 = k by omega]; first | done | rfl) rfl dX4_kind_107
          · have c_7 : ¬ 6 ≤ k := fun z_ => c_7 ((nI_leI (a := 6) (b := k) (by omega) (by omega)).mpr z_)
            refine lv_aload_n hx hb dX4_kind_42 rfl (lv_at hl 0 rfl) ?_
            refine r_callCv hC hD hW hA lkX4_159 (c_X4_startTrial l E o vl vt vk vy kp S Tl S1 T1) rfl rfl ⟨by decide, by decide, by decide, by decide⟩ [0, 2, 3] rfl rfl rfl (fun _ => rfl) hl.1 rfl rfl (Nat.le_of_ble_eq_true rfl) dX4_kind_43 (fun _ H locs hr_8 hW => ?_)
            have hW : Wd E A s.heap (wcat [CO o vl vt vk vy kp, IA E (o 3) 7 F, HW E vl S Tl, HW E vt S T1]) H locs := hW
            refine lv_aload_n hx hb dX4_kind_46 rfl (lv_at hl 0 rfl) ?_
            refine r_get hC hW flX4_16 0 rfl rfl dX4_kind_47 ?_
            refine r_get hC hW flX4_94 13 rfl rfl dX4_kind_50 ?_
            refine lv_iload_n hx hb dX4_kind_53 rfl (lv_at hl 1 rfl) ?_
            refine lv_iload hx hb dX4_kind_54 (lv_at hl 5 rfl) ?_
            refine r_iast (ws' := (wcat [CO o vl vt vk vy kp, IA E (o 3) 7 F, HW E vl S Tl, HW E vt (st S 1 j (nI k)) T1])) hC hD hW 14 rfl j rfl (by omega) (by decide) rfl rfl dX4_kind_56 (fun H locs hW => ?_)
            refine lv_aload_n hx hb dX4_kind_57 rfl (lv_at hl 0 rfl) ?_
            refine r_get hC hW flX4_16 0 rfl rfl dX4_kind_58 ?_
            refine lv_iload_n hx hb dX4_kind_61 rfl (lv_at hl 2 rfl) ?_
            refine r_callCv hC hD hW hA lkX4_155 (c_X0_goWeeks l E vt (st S 1 j (nI k)) T1 P G (HV_1 1 j (nI k) hV (by decide) (by decide)) n (by omega)) rfl rfl ⟨by decide, by decide, by decide, by decide⟩ [3] rfl rfl rfl (fun _ => rfl) hl.1 rfl rfl (Nat.le_of_ble_eq_true rfl) dX4_kind_62 (fun u_10 H locs hr_9 hW => ?_)
            have hW : Wd E A s.heap (wcat [CO o vl vt vk vy kp, IA E (o 3) 7 F, HW E vl S Tl, HW E vt (wks (st S 1 j (nI k)) P G n) u_10]) H locs := hW
            refine lv_aload_n hx hb dX4_kind_65 rfl (lv_at hl 0 rfl) ?_
            refine r_get hC hW flX4_16 0 rfl rfl dX4_kind_66 ?_
            refine r_callCi hC hD hW hA lkX4_71 (c_X0_setOfRight l E vt (wks (st S 1 j (nI k)) P G n) u_10 G (HV_wks (HV_1 1 j (nI k) hV (by decide) (by decide)) n).g (HV_wks (HV_1 1 j (nI k) hV (by decide) (by decide)) n).g10) rfl rfl ⟨by decide, by decide, by decide, by decide⟩ [3] rfl rfl rfl (fun _ => rfl) hl.1 rfl rfl (Nat.le_of_ble_eq_true rfl) dX4_kind_69 (fun r_11 _ H locs hr_11 hW => ?_)
            have hW : Wd E A s.heap (wcat [CO o vl vt vk vy kp, IA E (o 3) 7 F, HW E vl S Tl, HW E vt (wks (st S 1 j (nI k)) P G n) u_10]) H locs := hW
            have hr_11 : r_11 = (nI (mset (rgt (wks (st S 1 j (nI k)) P G n)) G)) := hr_11
            subst hr_11
            refine lv_aload_n hx hb dX4_kind_72 rfl (lv_at hl 0 rfl) ?_
            refine r_get hC hW flX4_16 0 rfl rfl dX4_kind_73 ?_
            refine lv_iload_n hx hb dX4_kind_76 rfl (lv_at hl 1 rfl) ?_
            refine r_callCi hC hD hW hA lkX4_68 (c_X0_setHeldBy l E vt (wks (st S 1 j (nI k)) P G n) u_10 G (HV_wks (HV_1 1 j (nI k) hV (by decide) (by decide)) n).g (HV_wks (HV_1 1 j (nI k) hV (by decide) (by decide)) n).g10 (nI j)) rfl rfl ⟨by decide, by decide, by decide, by decide⟩ [3] rfl rfl rfl (fun _ => rfl) hl.1 rfl rfl (Nat.le_of_ble_eq_true rfl) dX4_kind_77 (fun r_12 _ H locs hr_12 hW => ?_)
            have hW : Wd E A s.heap (wcat [CO o vl vt vk vy kp, IA E (o 3) 7 F, HW E vl S Tl, HW E vt (wks (st S 1 j (nI k)) P G n) u_10]) H locs := hW
            have hr_12 : r_12 = (nI (mset (wth (wks (st S 1 j (nI k)) P G n) (nI j)) G)) := hr_12
            subst hr_12
            refine n_iand (v := (nI (mset (own1 (wks (st S 1 j (nI k)) P G n) j) G))) hx hb dX4_kind_80 ((nI_and _ _).trans (congrArg nI ((mset_and _ _ _).trans (own_cong _ _ _)))) ?_
            refine r_callSi hC hD hW hA lkX4_168 (c_J6_bitCount_0f7a4 l E (mset (own1 (wks (st S 1 j (nI k)) P G n) j) G) (mset_lt10 _ hG1)) ⟨by decide, by decide, by decide, by decide⟩ rfl hl.1 rfl rfl (Nat.le_of_ble_eq_true rfl) dX4_kind_81 (fun r_13 _ H locs hr_13 hW => ?_)
            have hW : Wd E A s.heap (wcat [CO o vl vt vk vy kp, IA E (o 3) 7 F, HW E vl S Tl, HW E vt (wks (st S 1 j (nI k)) P G n) u_10]) H locs := hW
            have hr_13 : r_13 = (nI (pcN (mset (own1 (wks (st S 1 j (nI k)) P G n) j) G))) := hr_13
            subst hr_13
            refine n_top (congrArg nI (pcN_mset _ hG1)) ?_
            refine lv_istore (lv' := [(6, .int (vKind S P G j n k)), (0, .ref (o 0)), (1, .int (nI j)), (2, .int (nI n)), (3, .int (nI (bx (vKind S P G j n) k))), (4, .int (mst (vKind S P G j n) k)), (5, .int (nI k))]) hx hb dX4_kind_84 hl (by decide) rfl (fun ls hl => ?_)
            refine lv_iload hx hb dX4_kind_86 (lv_at hl 0 rfl) ?_
            refine lv_iload hx hb dX4_kind_88 (lv_at hl 5 rfl) ?_
            refine lv_icmp_le (tgt := 100) hx hb dX4_kind_90 (by decide) (fun c_14 => ?_) (fun c_14 => ?_)
            · refine lv_iinc (v := (nI (k + 1))) (lv' := [(5, .int (nI (k + 1))), (6, .int (vKind S P G j n k)), (0, .ref (o 0)), (1, .int (nI j)), (2, .int (nI n)), (3, .int (nI (bx (vKind S P G j n) k))), (4, .int (mst (vKind S P G j n) k))]) (k := 6) hx hb dX4_kind_100 hl rfl (nI_inc k 1) (by decide) rfl (fun ls hl => ?_)
              refine lv_goto (tgt := 35) hx hb dX4_kind_103 (by decide) ?_
              exact ih (k + 1) (wks (st S 1 j (nI k)) P G n) u_10 _ _ _ (by omega) (by omega) hW (by rw [(mst_f (vKind_pos S P G j n k hG1) (Int32.not_lt.mpr c_14)).1, (mst_f (vKind_pos S P G j n k hG1) (Int32.not_lt.mpr c_14)).2.1]; exact lv_sub hl [2, 3, 4, 5, 6, 0] rfl)
            · refine lv_iload hx hb dX4_kind_93 (lv_at hl 0 rfl) ?_
              refine lv_istore (lv' := [(4, .int (vKind S P G j n k)), (6, .int (vKind S P G j n k)), (0, .ref (o 0)), (1, .int (nI j)), (2, .int (nI n)), (3, .int (nI (bx (vKind S P G j n) k))), (5, .int (nI k))]) hx hb dX4_kind_95 hl (by decide) rfl (fun ls hl => ?_)
              refine lv_iload hx hb dX4_kind_97 (lv_at hl 6 rfl) ?_
              refine lv_istore_n (lv' := [(3, .int (nI k)), (4, .int (vKind S P G j n k)), (6, .int (vKind S P G j n k)), (0, .ref (o 0)), (1, .int (nI j)), (2, .int (nI n)), (5, .int (nI k))]) hx hb dX4_kind_99 rfl hl (by decide) rfl (fun ls hl => ?_)
              refine lv_iinc (v := (nI (k + 1))) (lv' := [(5, .int (nI (k + 1))), (3, .int (nI k)), (4, .int (vKind S P G j n k)), (6, .int (vKind S P G j n k)), (0, .ref (o 0)), (1, .int (nI j)), (2, .int (nI n))]) (k := 6) hx hb dX4_kind_100 hl rfl (nI_inc k 1) (by decide) rfl (fun ls hl => ?_)
              refine lv_goto (tgt := 35) hx hb dX4_kind_103 (by decide) ?_
              exact ih (k + 1) (wks (st S 1 j (nI k)) P G n) u_10 _ _ _ (by omega) (by omega) hW (by rw [(mst_t (Int32.not_le.mp c_14)).1, (mst_t (Int32.not_le.mp c_14)).2]; exact lv_sub hl [4, 5, 6, 1, 2, 0] rfl)
      exact L35 (6 - 0 + 1) 0 St Tt _ _ _ (Nat.lt_succ_self _) (by omega) hW (lv_sub hl [3, 4, 5, 2, 1, 0] rfl)
set_option maxHeartbeats 4000000 in
set_option maxRecDepth 100000 in
theorem c_X4_teach (l : Launch) (E : Ev) (o : Nat → Nat) (vl : Nat → Nat) (vt : Nat → Nat) (vk : Nat → Nat) (vy : Nat → Nat) (kp : Int32) (S : HS) (Tl : HS) (F : FT) (P : Nat) (G : Nat) (hV : HV S P G) (St : HS) (Tt : HS) (x1 : Int32) : MI l E yX4_teach cX4_teach 6 .int 4 89 0 0 [.ref (o 0), .int x1] (wcat [CO o vl vt vk vy kp, IA E (o 3) 7 F, HW E vl S Tl, HW E vt St Tt]) (fun (r : Int32) (u : (HS × HS)) => r = (mTeach S F P G x1).1) (fun (u : (HS × HS)) => (wcat [CO o vl vt vk vy kp, IA E (o 3) 7 ((mTeach S F P G x1).2), HW E vl S Tl, HW E vt u.1 u.2])) := by
  refine MI_intro RX4 (by decide) rfl (Nat.le_of_ble_eq_true rfl) ?_
  intro p e R s m args below meth c A Q hQ hC hD hW hA ls hl
  have hx := hC.1
  have hb := hC.2.1
  have hW : Wd E A s.heap (wcat [CO o vl vt vk vy kp, IA E (o 3) 7 F, HW E vl S Tl, HW E vt St Tt]) s.heap [] := hW
  have hD : Dj A [o 0, o 3, vl 0, vl 1, vl 2, vl 3, vl 4, vl 5, vl 6, vl 7, vl 8, vl 9, vl 10, vt 0, vt 1, vt 2, vt 3, vt 4, vt 5, vt 6, vt 7, vt 8, vt 9, vt 10] := hD
  have hl : lv_has ls 6 [(0, .ref (o 0)), (1, .int x1)] := hl
  have hP := hV.p
  have hP1 := hV.p6
  have hG := hV.g
  have hG1 := hV.g10
  refine lv_iload_n hx hb dX4_teach_0 rfl (lv_at hl 1 rfl) ?_
  refine lv_iconst (v := 1) hx hb dX4_teach_1 (by decide) ?_
  refine lv_bipush (v := 60) hx hb dX4_teach_2 (by decide) ?_
  refine r_callSi hC hD hW hA lkX4_53 (c_X4_isWithin l E x1 1 60) ⟨by decide, by decide, by decide, by decide⟩ rfl hl.1 rfl rfl (Nat.le_of_ble_eq_true rfl) dX4_teach_4 (fun r_1 _ H locs hr_1 hW => ?_)
  have hW : Wd E A s.heap (wcat [CO o vl vt vk vy kp, IA E (o 3) 7 F, HW E vl S Tl, HW E vt St Tt]) H locs := hW
  have hr_1 : bz (1 ≤ x1 ∧ x1 ≤ 60) r_1 := hr_1
  rcases hr_1 with ⟨rfl, b_2⟩ | ⟨rfl, b_2⟩
  · refine lv_if_ne (tgt := 16) hx hb dX4_teach_7 (by decide) (fun c => absurd c (by decide)) (fun _ => ?_)
    refine lv_aload_n hx hb dX4_teach_10 rfl (lv_at hl 0 rfl) ?_
    refine lv_iconst (v := 0) hx hb dX4_teach_11 (by decide) ?_
    refine r_callCi hC hD hW hA lkX4_57 (c_X4_finding l E o vl vt vk vy kp F 0 (-1000000001) (by decide) (by decide)) rfl rfl ⟨by decide, by decide, by decide, by decide⟩ [0, 1] rfl rfl rfl (fun _ => rfl) hl.1 rfl rfl (Nat.le_of_ble_eq_true rfl) dX4_teach_12 (fun r_3 _ H locs hr_3 hW => ?_)
    have hW : Wd E A s.heap (wcat [CO o vl vt vk vy kp, IA E (o 3) 7 (upd F 0 (F 0 + 1)), HW E vl S Tl, HW E vt St Tt]) H locs := hW
    have hr_3 : r_3 = (-1000000001) := hr_3
    subst hr_3
    exact r_iret hC hQ hD hW (St, Tt) (by rw [mTeach, cif_f b_2]; first | done | rfl) (by rw [mTeach, cif_f b_2]; first | done | rfl) rfl dX4_teach_15
  · have eb_2 := rng1 (k := 60) (by decide) b_2
    obtain ⟨n, hn, rfl⟩ := eb_2
    refine lv_if_ne (tgt := 16) hx hb dX4_teach_7 (by decide) (fun _ => ?_) (fun c => absurd c (by decide))
    refine lv_aload_n hx hb dX4_teach_16 rfl (lv_at hl 0 rfl) ?_
    refine r_get hC hW flX4_10 0 rfl rfl dX4_teach_17 ?_
    refine r_get hC hW flX4_85 2 rfl rfl dX4_teach_20 ?_
    refine n_top hV.p ?_
    refine lv_if_ne (tgt := 32) hx hb dX4_teach_23 (by decide) (fun c_4 => ?_) (fun c_4 => ?_)
    · have c_4 : ¬ P = 0 := fun z_ => c_4 ((nI_eq (a := P) (b := 0) (by omega) (by omega)).mpr z_)
      refine lv_iconst (v := 0) hx hb dX4_teach_32 (by decide) ?_
      refine lv_istore_n (lv' := [(2, .int 0), (0, .ref (o 0)), (1, .int (nI n))]) hx hb dX4_teach_33 rfl hl (by decide) rfl (fun ls hl => ?_)
      refine lv_iconst (v := (-1)) hx hb dX4_teach_34 (by decide) ?_
      refine lv_istore_n (lv' := [(3, .int (-1)), (2, .int 0), (0, .ref (o 0)), (1, .int (nI n))]) hx hb dX4_teach_35 rfl hl (by decide) rfl (fun ls hl => ?_)
      refine lv_iconst (v := 0) hx hb dX4_teach_36 (by decide) ?_
      refine lv_istore (lv' := [(4, .int 0), (3, .int (-1)), (2, .int 0), (0, .ref (o 0)), (1, .int (nI n))]) hx hb dX4_teach_37 hl (by decide) rfl (fun ls hl => ?_)
      have L39 : ∀ (n_ : Nat) (k : Nat) (S1 : HS) (T1 : HS) (H : Heap) (locs : List Loc) (ls : Array Slot), P - k < n_ → k ≤ P → Wd E A s.heap (wcat [CO o vl vt vk vy kp, IA E (o 3) 7 F, HW E vl S Tl, HW E vt S1 T1]) H locs → lv_has ls 6 [(0, .ref (o 0)), (1, .int (nI n)), (2, .int (nI (bx (vTeach S P G n) k))), (3, .int (mst (vTeach S P G n) k)), (4, .int (nI k))] → W p l e R s m args below meth c H locs 0 0 Q (F0 m 39 ls []) := by
        intro n_
        induction n_ with
        | zero => intro k S1 T1 H locs ls hm; exact absurd hm (Nat.not_lt_zero _)
        | succ n_ ih =>
          intro k S1 T1 H locs ls hm hk_ hW hl
          refine lv_iload hx hb dX4_teach_39 (lv_at hl 4 rfl) ?_
          refine lv_aload_n hx hb dX4_teach_41 rfl (lv_at hl 0 rfl) ?_
          refine r_get hC hW flX4_10 0 rfl rfl dX4_teach_42 ?_
          refine r_get hC hW flX4_85 2 rfl rfl dX4_teach_45 ?_
          refine n_top hV.p ?_
          refine lv_icmp_ge (tgt := 104) hx hb dX4_teach_48 (by decide) (fun c_5 => ?_) (fun c_5 => ?_)
          · have c_5 : P ≤ k := (nI_leI (a := P) (b := k) (by omega) (by omega)).mp c_5
            refine lv_iload_n hx hb dX4_teach_104 rfl (lv_at hl 2 rfl) ?_
            exact r_iret hC hQ hD hW (S1, T1) (by rw [mTeach, cif_t b_2, if_neg c_4, ix_nI (n := n) (by omega), show P = k by omega]; first | done | rfl) (by rw [mTeach, cif_t b_2, if_neg c_4, ix_nI (n := n) (by omega), show P = k by omega]; first | done | rfl) rfl dX4_teach_105
          · have c_5 : ¬ P ≤ k := fun z_ => c_5 ((nI_leI (a := P) (b := k) (by omega) (by omega)).mpr z_)
            refine lv_aload_n hx hb dX4_teach_51 rfl (lv_at hl 0 rfl) ?_
            refine r_callCv hC hD hW hA lkX4_159 (c_X4_startTrial l E o vl vt vk vy kp S Tl S1 T1) rfl rfl ⟨by decide, by decide, by decide, by decide⟩ [0, 2, 3] rfl rfl rfl (fun _ => rfl) hl.1 rfl rfl (Nat.le_of_ble_eq_true rfl) dX4_teach_52 (fun _ H locs hr_6 hW => ?_)
            have hW : Wd E A s.heap (wcat [CO o vl vt vk vy kp, IA E (o 3) 7 F, HW E vl S Tl, HW E vt S T1]) H locs := hW
            refine lv_aload_n hx hb dX4_teach_55 rfl (lv_at hl 0 rfl) ?_
            refine r_get hC hW flX4_16 0 rfl rfl dX4_teach_56 ?_
            refine r_get hC hW flX4_94 13 rfl rfl dX4_teach_59 ?_
            refine lv_iload hx hb dX4_teach_62 (lv_at hl 4 rfl) ?_
            refine lv_iconst (v := 1) hx hb dX4_teach_64 (by decide) ?_
            refine r_iast (ws' := (wcat [CO o vl vt vk vy kp, IA E (o 3) 7 F, HW E vl S Tl, HW E vt (st S 1 k 1) T1])) hC hD hW 14 rfl k rfl (by omega) (by decide) rfl rfl dX4_teach_65 (fun H locs hW => ?_)
            refine lv_aload_n hx hb dX4_teach_66 rfl (lv_at hl 0 rfl) ?_
            refine r_get hC hW flX4_16 0 rfl rfl dX4_teach_67 ?_
            refine lv_iload_n hx hb dX4_teach_70 rfl (lv_at hl 1 rfl) ?_
            refine r_callCv hC hD hW hA lkX4_155 (c_X0_goWeeks l E vt (st S 1 k 1) T1 P G (HV_1 1 k 1 hV (by decide) (by decide)) n (by omega)) rfl rfl ⟨by decide, by decide, by decide, by decide⟩ [3] rfl rfl rfl (fun _ => rfl) hl.1 rfl rfl (Nat.le_of_ble_eq_true rfl) dX4_teach_71 (fun u_8 H locs hr_7 hW => ?_)
            have hW : Wd E A s.heap (wcat [CO o vl vt vk vy kp, IA E (o 3) 7 F, HW E vl S Tl, HW E vt (wks (st S 1 k 1) P G n) u_8]) H locs := hW
            refine lv_aload_n hx hb dX4_teach_74 rfl (lv_at hl 0 rfl) ?_
            refine r_get hC hW flX4_16 0 rfl rfl dX4_teach_75 ?_
            refine r_callCi hC hD hW hA lkX4_71 (c_X0_setOfRight l E vt (wks (st S 1 k 1) P G n) u_8 G (HV_wks (HV_1 1 k 1 hV (by decide) (by decide)) n).g (HV_wks (HV_1 1 k 1 hV (by decide) (by decide)) n).g10) rfl rfl ⟨by decide, by decide, by decide, by decide⟩ [3] rfl rfl rfl (fun _ => rfl) hl.1 rfl rfl (Nat.le_of_ble_eq_true rfl) dX4_teach_78 (fun r_9 _ H locs hr_9 hW => ?_)
            have hW : Wd E A s.heap (wcat [CO o vl vt vk vy kp, IA E (o 3) 7 F, HW E vl S Tl, HW E vt (wks (st S 1 k 1) P G n) u_8]) H locs := hW
            have hr_9 : r_9 = (nI (mset (rgt (wks (st S 1 k 1) P G n)) G)) := hr_9
            subst hr_9
            refine r_callSi hC hD hW hA lkX4_168 (c_J6_bitCount_0f7a4 l E (mset (rgt (wks (st S 1 k 1) P G n)) G) (mset_lt10 _ hG1)) ⟨by decide, by decide, by decide, by decide⟩ rfl hl.1 rfl rfl (Nat.le_of_ble_eq_true rfl) dX4_teach_81 (fun r_10 _ H locs hr_10 hW => ?_)
            have hW : Wd E A s.heap (wcat [CO o vl vt vk vy kp, IA E (o 3) 7 F, HW E vl S Tl, HW E vt (wks (st S 1 k 1) P G n) u_8]) H locs := hW
            have hr_10 : r_10 = (nI (pcN (mset (rgt (wks (st S 1 k 1) P G n)) G))) := hr_10
            subst hr_10
            refine n_top (congrArg nI (pcN_mset _ hG1)) ?_
            refine lv_istore (lv' := [(5, .int (vTeach S P G n k)), (0, .ref (o 0)), (1, .int (nI n)), (2, .int (nI (bx (vTeach S P G n) k))), (3, .int (mst (vTeach S P G n) k)), (4, .int (nI k))]) hx hb dX4_teach_84 hl (by decide) rfl (fun ls hl => ?_)
            refine lv_iload hx hb dX4_teach_86 (lv_at hl 0 rfl) ?_
            refine lv_iload_n hx hb dX4_teach_88 rfl (lv_at hl 4 rfl) ?_
            refine lv_icmp_le (tgt := 98) hx hb dX4_teach_89 (by decide) (fun c_11 => ?_) (fun c_11 => ?_)
            · refine lv_iinc (v := (nI (k + 1))) (lv' := [(4, .int (nI (k + 1))), (5, .int (vTeach S P G n k)), (0, .ref (o 0)), (1, .int (nI n)), (2, .int (nI (bx (vTeach S P G n) k))), (3, .int (mst (vTeach S P G n) k))]) (k := 5) hx hb dX4_teach_98 hl rfl (nI_inc k 1) (by decide) rfl (fun ls hl => ?_)
              refine lv_goto (tgt := 39) hx hb dX4_teach_101 (by decide) ?_
              exact ih (k + 1) (wks (st S 1 k 1) P G n) u_8 _ _ _ (by omega) (by omega) hW (by rw [(mst_f (vTeach_pos S P G n k hG1) (Int32.not_lt.mpr c_11)).1, (mst_f (vTeach_pos S P G n k hG1) (Int32.not_lt.mpr c_11)).2.1]; exact lv_sub hl [2, 3, 4, 5, 0] rfl)
            · refine lv_iload hx hb dX4_teach_92 (lv_at hl 0 rfl) ?_
              refine lv_istore_n (lv' := [(3, .int (vTeach S P G n k)), (5, .int (vTeach S P G n k)), (0, .ref (o 0)), (1, .int (nI n)), (2, .int (nI (bx (vTeach S P G n) k))), (4, .int (nI k))]) hx hb dX4_teach_94 rfl hl (by decide) rfl (fun ls hl => ?_)
              refine lv_iload hx hb dX4_teach_95 (lv_at hl 5 rfl) ?_
              refine lv_istore_n (lv' := [(2, .int (nI k)), (3, .int (vTeach S P G n k)), (5, .int (vTeach S P G n k)), (0, .ref (o 0)), (1, .int (nI n)), (4, .int (nI k))]) hx hb dX4_teach_97 rfl hl (by decide) rfl (fun ls hl => ?_)
              refine lv_iinc (v := (nI (k + 1))) (lv' := [(4, .int (nI (k + 1))), (2, .int (nI k)), (3, .int (vTeach S P G n k)), (5, .int (vTeach S P G n k)), (0, .ref (o 0)), (1, .int (nI n))]) (k := 5) hx hb dX4_teach_98 hl rfl (nI_inc k 1) (by decide) rfl (fun ls hl => ?_)
              refine lv_goto (tgt := 39) hx hb dX4_teach_101 (by decide) ?_
              exact ih (k + 1) (wks (st S 1 k 1) P G n) u_8 _ _ _ (by omega) (by omega) hW (by rw [(mst_t (Int32.not_le.mp c_11)).1, (mst_t (Int32.not_le.mp c_11)).2]; exact lv_sub hl [4, 5, 1, 2, 0] rfl)
      exact L39 (P - 0 + 1) 0 St Tt _ _ _ (Nat.lt_succ_self _) (by omega) hW (lv_sub hl [3, 4, 2, 1, 0] rfl)
    · have c_4 : P = 0 := (nI_eq (a := P) (b := 0) (by omega) (by omega)).mp c_4
      refine lv_aload_n hx hb dX4_teach_26 rfl (lv_at hl 0 rfl) ?_
      refine lv_iconst (v := 3) hx hb dX4_teach_27 (by decide) ?_
      refine r_callCi hC hD hW hA lkX4_57 (c_X4_finding l E o vl vt vk vy kp F 3 (-1000000004) (by decide) (by decide)) rfl rfl ⟨by decide, by decide, by decide, by decide⟩ [0, 1] rfl rfl rfl (fun _ => rfl) hl.1 rfl rfl (Nat.le_of_ble_eq_true rfl) dX4_teach_28 (fun r_12 _ H locs hr_12 hW => ?_)
      have hW : Wd E A s.heap (wcat [CO o vl vt vk vy kp, IA E (o 3) 7 (upd F 3 (F 3 + 1)), HW E vl S Tl, HW E vt St Tt]) H locs := hW
      have hr_12 : r_12 = (-1000000004) := hr_12
      subst hr_12
      exact r_iret hC hQ hD hW (St, Tt) (by rw [mTeach, cif_t b_2, if_pos c_4]; first | done | rfl) (by rw [mTeach, cif_t b_2, if_pos c_4]; first | done | rfl) rfl dX4_teach_31
set_option maxHeartbeats 4000000 in
set_option maxRecDepth 100000 in
theorem c_X4_warmest (l : Launch) (E : Ev) (o : Nat → Nat) (vl : Nat → Nat) (vt : Nat → Nat) (vk : Nat → Nat) (vy : Nat → Nat) (kp : Int32) (S : HS) (Tl : HS) (F : FT) (P : Nat) (G : Nat) (hV : HV S P G) (St : HS) (Tt : HS) (x1 : Int32) (x2 : Int32) : MI l E yX4_warmest cX4_warmest 4 .int 4 89 0 0 [.ref (o 0), .int x1, .int x2] (wcat [CO o vl vt vk vy kp, IA E (o 3) 7 F, HW E vl S Tl, HW E vt St Tt]) (fun (r : Int32) (u : (HS × HS)) => r = (mWarm S F P G x1 x2).1) (fun (u : (HS × HS)) => (wcat [CO o vl vt vk vy kp, IA E (o 3) 7 ((mWarm S F P G x1 x2).2), HW E vl S Tl, HW E vt u.1 u.2])) := by
  refine MI_intro RX4 (by decide) rfl (Nat.le_of_ble_eq_true rfl) ?_
  intro p e R s m args below meth c A Q hQ hC hD hW hA ls hl
  have hx := hC.1
  have hb := hC.2.1
  have hW : Wd E A s.heap (wcat [CO o vl vt vk vy kp, IA E (o 3) 7 F, HW E vl S Tl, HW E vt St Tt]) s.heap [] := hW
  have hD : Dj A [o 0, o 3, vl 0, vl 1, vl 2, vl 3, vl 4, vl 5, vl 6, vl 7, vl 8, vl 9, vl 10, vt 0, vt 1, vt 2, vt 3, vt 4, vt 5, vt 6, vt 7, vt 8, vt 9, vt 10] := hD
  have hl : lv_has ls 4 [(0, .ref (o 0)), (1, .int x1), (2, .int x2)] := hl
  have hP := hV.p
  have hP1 := hV.p6
  have hG := hV.g
  have hG1 := hV.g10
  refine lv_aload_n hx hb dX4_warmest_0 rfl (lv_at hl 0 rfl) ?_
  refine r_get hC hW flX4_10 0 rfl rfl dX4_warmest_1 ?_
  refine lv_iload_n hx hb dX4_warmest_4 rfl (lv_at hl 1 rfl) ?_
  refine r_callCi hC hD hW hA lkX4_116 (c_X0_hasGarment l E vl S Tl G hV.g hV.g10 x1) rfl rfl ⟨by decide, by decide, by decide, by decide⟩ [2] rfl rfl rfl (fun _ => rfl) hl.1 rfl rfl (Nat.le_of_ble_eq_true rfl) dX4_warmest_5 (fun r_1 _ H locs hr_1 hW => ?_)
  have hW : Wd E A s.heap (wcat [CO o vl vt vk vy kp, IA E (o 3) 7 F, HW E vl S Tl, HW E vt St Tt]) H locs := hW
  have hr_1 : bz (∃ j, j < G ∧ x1 = nI j) r_1 := hr_1
  rcases hr_1 with ⟨rfl, b_2⟩ | ⟨rfl, b_2⟩
  · refine lv_if_eq (tgt := 21) hx hb dX4_warmest_8 (by decide) (fun _ => ?_) (fun c => absurd c (by decide))
    refine lv_aload_n hx hb dX4_warmest_21 rfl (lv_at hl 0 rfl) ?_
    refine lv_iconst (v := 0) hx hb dX4_warmest_22 (by decide) ?_
    refine r_callCi hC hD hW hA lkX4_57 (c_X4_finding l E o vl vt vk vy kp F 0 (-1000000001) (by decide) (by decide)) rfl rfl ⟨by decide, by decide, by decide, by decide⟩ [0, 1] rfl rfl rfl (fun _ => rfl) hl.1 rfl rfl (Nat.le_of_ble_eq_true rfl) dX4_warmest_23 (fun r_3 _ H locs hr_3 hW => ?_)
    have hW : Wd E A s.heap (wcat [CO o vl vt vk vy kp, IA E (o 3) 7 (upd F 0 (F 0 + 1)), HW E vl S Tl, HW E vt St Tt]) H locs := hW
    have hr_3 : r_3 = (-1000000001) := hr_3
    subst hr_3
    exact r_iret hC hQ hD hW (St, Tt) (by rw [mWarm, cif_f (fun z_ => b_2 z_.1)]; first | done | rfl) (by rw [mWarm, cif_f (fun z_ => b_2 z_.1)]; first | done | rfl) rfl dX4_warmest_26
  · have eb_2 := b_2
    obtain ⟨g, hg, rfl⟩ := eb_2
    refine lv_if_eq (tgt := 21) hx hb dX4_warmest_8 (by decide) (fun c => absurd c (by decide)) (fun _ => ?_)
    refine lv_iload_n hx hb dX4_warmest_11 rfl (lv_at hl 2 rfl) ?_
    refine lv_iconst (v := 1) hx hb dX4_warmest_12 (by decide) ?_
    refine lv_bipush (v := 40) hx hb dX4_warmest_13 (by decide) ?_
    refine r_callSi hC hD hW hA lkX4_53 (c_X4_isWithin l E x2 1 40) ⟨by decide, by decide, by decide, by decide⟩ rfl hl.1 rfl rfl (Nat.le_of_ble_eq_true rfl) dX4_warmest_15 (fun r_4 _ H locs hr_4 hW => ?_)
    have hW : Wd E A s.heap (wcat [CO o vl vt vk vy kp, IA E (o 3) 7 F, HW E vl S Tl, HW E vt St Tt]) H locs := hW
    have hr_4 : bz (1 ≤ x2 ∧ x2 ≤ 40) r_4 := hr_4
    rcases hr_4 with ⟨rfl, b_5⟩ | ⟨rfl, b_5⟩
    · refine lv_if_ne (tgt := 27) hx hb dX4_warmest_18 (by decide) (fun c => absurd c (by decide)) (fun _ => ?_)
      refine lv_aload_n hx hb dX4_warmest_21 rfl (lv_at hl 0 rfl) ?_
      refine lv_iconst (v := 0) hx hb dX4_warmest_22 (by decide) ?_
      refine r_callCi hC hD hW hA lkX4_57 (c_X4_finding l E o vl vt vk vy kp F 0 (-1000000001) (by decide) (by decide)) rfl rfl ⟨by decide, by decide, by decide, by decide⟩ [0, 1] rfl rfl rfl (fun _ => rfl) hl.1 rfl rfl (Nat.le_of_ble_eq_true rfl) dX4_warmest_23 (fun r_6 _ H locs hr_6 hW => ?_)
      have hW : Wd E A s.heap (wcat [CO o vl vt vk vy kp, IA E (o 3) 7 (upd F 0 (F 0 + 1)), HW E vl S Tl, HW E vt St Tt]) H locs := hW
      have hr_6 : r_6 = (-1000000001) := hr_6
      subst hr_6
      exact r_iret hC hQ hD hW (St, Tt) (by rw [mWarm, cif_f (fun z_ => b_5 z_.2)]; first | done | rfl) (by rw [mWarm, cif_f (fun z_ => b_5 z_.2)]; first | done | rfl) rfl dX4_warmest_26
    · have eb_5 := rng1 (k := 40) (by decide) b_5
      obtain ⟨n, hn, rfl⟩ := eb_5
      refine lv_if_ne (tgt := 27) hx hb dX4_warmest_18 (by decide) (fun _ => ?_) (fun c => absurd c (by decide))
      refine lv_bipush (v := 90) hx hb dX4_warmest_27 (by decide) ?_
      refine lv_istore_n (lv' := [(3, .int 90), (0, .ref (o 0)), (1, .int (nI g)), (2, .int (nI n))]) hx hb dX4_warmest_29 rfl hl (by decide) rfl (fun ls hl => ?_)
      have L30 : ∀ (n_ : Nat) (k : Nat) (S1 : HS) (T1 : HS) (H : Heap) (locs : List Loc) (ls : Array Slot), 71 - k < n_ → k ≤ 71 → (∀ q_, q_ < k → cWarm S P G g n q_ = false) → Wd E A s.heap (wcat [CO o vl vt vk vy kp, IA E (o 3) 7 F, HW E vl S Tl, HW E vt S1 T1]) H locs → lv_has ls 4 [(0, .ref (o 0)), (1, .int (nI g)), (2, .int (nI n)), (3, .int (nI (90 - k)))] → W p l e R s m args below meth c H locs 0 0 Q (F0 m 30 ls []) := by
        intro n_
        induction n_ with
        | zero => intro k S1 T1 H locs ls hm; exact absurd hm (Nat.not_lt_zero _)
        | succ n_ ih =>
          intro k S1 T1 H locs ls hm hk_ hno hW hl
          refine lv_iload_n hx hb dX4_warmest_30 rfl (lv_at hl 3 rfl) ?_
          refine lv_bipush (v := 20) hx hb dX4_warmest_31 (by decide) ?_
          refine lv_icmp_lt (tgt := 75) hx hb dX4_warmest_33 (by decide) (fun c_7 => ?_) (fun c_7 => ?_)
          · have c_7 : 90 - k < 20 := (nI_ltI (a := 90 - k) (b := 20) (by omega) (by omega)).mp c_7
            refine lv_aload_n hx hb dX4_warmest_75 rfl (lv_at hl 0 rfl) ?_
            refine lv_iconst (v := 3) hx hb dX4_warmest_76 (by decide) ?_
            refine r_callCi hC hD hW hA lkX4_57 (c_X4_finding l E o vl vt vk vy kp F 3 (-1000000004) (by decide) (by decide)) rfl rfl ⟨by decide, by decide, by decide, by decide⟩ [0, 1] rfl rfl rfl (fun _ => rfl) hl.1 rfl rfl (Nat.le_of_ble_eq_true rfl) dX4_warmest_77 (fun r_8 _ H locs hr_8 hW => ?_)
            have hW : Wd E A s.heap (wcat [CO o vl vt vk vy kp, IA E (o 3) 7 (upd F 3 (F 3 + 1)), HW E vl S Tl, HW E vt S1 T1]) H locs := hW
            have hr_8 : r_8 = (-1000000004) := hr_8
            subst hr_8
            exact r_iret hC hQ hD hW (S1, T1) (by rw [mWarm, cif_t ⟨b_2, b_5⟩, ix_nI (n := g) (by omega), ix_nI (n := n) (by omega), fs1_none (fun q hq => hno q (by omega)), if_neg (by decide)]; first | done | rfl) (by rw [mWarm, cif_t ⟨b_2, b_5⟩, ix_nI (n := g) (by omega), ix_nI (n := n) (by omega), fs1_none (fun q hq => hno q (by omega)), if_neg (by decide)]; first | done | rfl) rfl dX4_warmest_80
          · have c_7 : ¬ 90 - k < 20 := fun z_ => c_7 ((nI_ltI (a := 90 - k) (b := 20) (by omega) (by omega)).mpr z_)
            refine lv_aload_n hx hb dX4_warmest_36 rfl (lv_at hl 0 rfl) ?_
            refine r_callCv hC hD hW hA lkX4_159 (c_X4_startTrial l E o vl vt vk vy kp S Tl S1 T1) rfl rfl ⟨by decide, by decide, by decide, by decide⟩ [0, 2, 3] rfl rfl rfl (fun _ => rfl) hl.1 rfl rfl (Nat.le_of_ble_eq_true rfl) dX4_warmest_37 (fun _ H locs hr_9 hW => ?_)
            have hW : Wd E A s.heap (wcat [CO o vl vt vk vy kp, IA E (o 3) 7 F, HW E vl S Tl, HW E vt S T1]) H locs := hW
            refine lv_aload_n hx hb dX4_warmest_40 rfl (lv_at hl 0 rfl) ?_
            refine r_get hC hW flX4_16 0 rfl rfl dX4_warmest_41 ?_
            refine lv_iload_n hx hb dX4_warmest_44 rfl (lv_at hl 3 rfl) ?_
            refine r_put (ws' := (wcat [CO o vl vt vk vy kp, IA E (o 3) 7 F, HW E vl S Tl, HW E vt (st S 0 1 (nI (90 - k))) T1])) hC hD hW fpX4_61 13 rfl rfl rfl (Nat.le_of_ble_eq_true rfl) rfl rfl dX4_warmest_45 (fun H locs hW => ?_)
            refine lv_aload_n hx hb dX4_warmest_48 rfl (lv_at hl 0 rfl) ?_
            refine r_get hC hW flX4_16 0 rfl rfl dX4_warmest_49 ?_
            refine lv_iload_n hx hb dX4_warmest_52 rfl (lv_at hl 2 rfl) ?_
            refine r_callCv hC hD hW hA lkX4_155 (c_X0_goWeeks l E vt (st S 0 1 (nI (90 - k))) T1 P G (HV_01 hV (by omega) (by omega)) n (by omega)) rfl rfl ⟨by decide, by decide, by decide, by decide⟩ [3] rfl rfl rfl (fun _ => rfl) hl.1 rfl rfl (Nat.le_of_ble_eq_true rfl) dX4_warmest_53 (fun u_11 H locs hr_10 hW => ?_)
            have hW : Wd E A s.heap (wcat [CO o vl vt vk vy kp, IA E (o 3) 7 F, HW E vl S Tl, HW E vt (wks (st S 0 1 (nI (90 - k))) P G n) u_11]) H locs := hW
            refine lv_aload_n hx hb dX4_warmest_56 rfl (lv_at hl 0 rfl) ?_
            refine r_get hC hW flX4_16 0 rfl rfl dX4_warmest_57 ?_
            refine lv_iload_n hx hb dX4_warmest_60 rfl (lv_at hl 1 rfl) ?_
            refine r_callCi hC hD hW hA lkX4_162 (c_X0_isRight l E vt (wks (st S 0 1 (nI (90 - k))) P G n) u_11 g (by omega)) rfl rfl ⟨by decide, by decide, by decide, by decide⟩ [3] rfl rfl rfl (fun _ => rfl) hl.1 rfl rfl (Nat.le_of_ble_eq_true rfl) dX4_warmest_61 (fun r_12 _ H locs hr_12 hW => ?_)
            have hW : Wd E A s.heap (wcat [CO o vl vt vk vy kp, IA E (o 3) 7 F, HW E vl S Tl, HW E vt (wks (st S 0 1 (nI (90 - k))) P G n) u_11]) H locs := hW
            have hr_12 : bz ((wks (st S 0 1 (nI (90 - k))) P G n) 8 g = (wks (st S 0 1 (nI (90 - k))) P G n) 5 g) r_12 := hr_12
            rcases hr_12 with ⟨rfl, b_13⟩ | ⟨rfl, b_13⟩
            · refine lv_if_eq (tgt := 69) hx hb dX4_warmest_64 (by decide) (fun _ => ?_) (fun c => absurd c (by decide))
              refine lv_iinc (v := (nI (90 - (k + 1)))) (lv' := [(3, .int (nI (90 - (k + 1)))), (0, .ref (o 0)), (1, .int (nI g)), (2, .int (nI n))]) (k := 3) hx hb dX4_warmest_69 hl rfl ((nI_dec _).trans ((nI_1sub (by omega)).trans (congrArg nI (by omega)))) (by decide) rfl (fun ls hl => ?_)
              refine lv_goto (tgt := 30) hx hb dX4_warmest_72 (by decide) ?_
              exact ih (k + 1) (wks (st S 0 1 (nI (90 - k))) P G n) u_11 _ _ _ (by omega) (by omega) (lt_s hno (decide_eq_false b_13)) hW (lv_sub hl [1, 2, 3, 0] rfl)
            · refine lv_if_eq (tgt := 69) hx hb dX4_warmest_64 (by decide) (fun c => absurd c (by decide)) (fun _ => ?_)
              refine lv_iload_n hx hb dX4_warmest_67 rfl (lv_at hl 3 rfl) ?_
              exact r_iret hC hQ hD hW ((wks (st S 0 1 (nI (90 - k))) P G n), u_11) (by rw [mWarm, cif_t ⟨b_2, b_5⟩, ix_nI (n := g) (by omega), ix_nI (n := n) (by omega), fs1_hit (show cWarm S P G g n k = true from decide_eq_true b_13) hno (show k < 71 by omega), if_pos (show k < 71 by omega)]; first | done | rfl) (by rw [mWarm, cif_t ⟨b_2, b_5⟩, ix_nI (n := g) (by omega), ix_nI (n := n) (by omega), fs1_hit (show cWarm S P G g n k = true from decide_eq_true b_13) hno (show k < 71 by omega), if_pos (show k < 71 by omega)]; first | done | rfl) rfl dX4_warmest_68
      exact L30 (71 - 0 + 1) 0 St Tt _ _ _ (Nat.lt_succ_self _) (by omega) lt_0 hW (lv_sub hl [1, 2, 3, 0] rfl)
set_option maxHeartbeats 4000000 in
set_option maxRecDepth 100000 in
theorem c_X4_plain (l : Launch) (E : Ev) (o : Nat → Nat) (vl : Nat → Nat) (vt : Nat → Nat) (vk : Nat → Nat) (vy : Nat → Nat) (kp : Int32) (S : HS) (Tl : HS) (F : FT) (P : Nat) (G : Nat) (hV : HV S P G) (St : HS) (Tt : HS) (x1 : Int32) (x2 : Int32) : MI l E yX4_plain cX4_plain 4 .int 4 89 0 0 [.ref (o 0), .int x1, .int x2] (wcat [CO o vl vt vk vy kp, IA E (o 3) 7 F, HW E vl S Tl, HW E vt St Tt]) (fun (r : Int32) (u : (HS × HS)) => r = (mPlain S F P G x1 x2).1) (fun (u : (HS × HS)) => (wcat [CO o vl vt vk vy kp, IA E (o 3) 7 ((mPlain S F P G x1 x2).2), HW E vl S Tl, HW E vt u.1 u.2])) := by
  refine MI_intro RX4 (by decide) rfl (Nat.le_of_ble_eq_true rfl) ?_
  intro p e R s m args below meth c A Q hQ hC hD hW hA ls hl
  have hx := hC.1
  have hb := hC.2.1
  have hW : Wd E A s.heap (wcat [CO o vl vt vk vy kp, IA E (o 3) 7 F, HW E vl S Tl, HW E vt St Tt]) s.heap [] := hW
  have hD : Dj A [o 0, o 3, vl 0, vl 1, vl 2, vl 3, vl 4, vl 5, vl 6, vl 7, vl 8, vl 9, vl 10, vt 0, vt 1, vt 2, vt 3, vt 4, vt 5, vt 6, vt 7, vt 8, vt 9, vt 10] := hD
  have hl : lv_has ls 4 [(0, .ref (o 0)), (1, .int x1), (2, .int x2)] := hl
  have hP := hV.p
  have hP1 := hV.p6
  have hG := hV.g
  have hG1 := hV.g10
  refine lv_aload_n hx hb dX4_plain_0 rfl (lv_at hl 0 rfl) ?_
  refine r_get hC hW flX4_10 0 rfl rfl dX4_plain_1 ?_
  refine lv_iload_n hx hb dX4_plain_4 rfl (lv_at hl 1 rfl) ?_
  refine r_callCi hC hD hW hA lkX4_116 (c_X0_hasGarment l E vl S Tl G hV.g hV.g10 x1) rfl rfl ⟨by decide, by decide, by decide, by decide⟩ [2] rfl rfl rfl (fun _ => rfl) hl.1 rfl rfl (Nat.le_of_ble_eq_true rfl) dX4_plain_5 (fun r_1 _ H locs hr_1 hW => ?_)
  have hW : Wd E A s.heap (wcat [CO o vl vt vk vy kp, IA E (o 3) 7 F, HW E vl S Tl, HW E vt St Tt]) H locs := hW
  have hr_1 : bz (∃ j, j < G ∧ x1 = nI j) r_1 := hr_1
  rcases hr_1 with ⟨rfl, b_2⟩ | ⟨rfl, b_2⟩
  · refine lv_if_eq (tgt := 21) hx hb dX4_plain_8 (by decide) (fun _ => ?_) (fun c => absurd c (by decide))
    refine lv_aload_n hx hb dX4_plain_21 rfl (lv_at hl 0 rfl) ?_
    refine lv_iconst (v := 0) hx hb dX4_plain_22 (by decide) ?_
    refine r_callCi hC hD hW hA lkX4_57 (c_X4_finding l E o vl vt vk vy kp F 0 (-1000000001) (by decide) (by decide)) rfl rfl ⟨by decide, by decide, by decide, by decide⟩ [0, 1] rfl rfl rfl (fun _ => rfl) hl.1 rfl rfl (Nat.le_of_ble_eq_true rfl) dX4_plain_23 (fun r_3 _ H locs hr_3 hW => ?_)
    have hW : Wd E A s.heap (wcat [CO o vl vt vk vy kp, IA E (o 3) 7 (upd F 0 (F 0 + 1)), HW E vl S Tl, HW E vt St Tt]) H locs := hW
    have hr_3 : r_3 = (-1000000001) := hr_3
    subst hr_3
    exact r_iret hC hQ hD hW (St, Tt) (by rw [mPlain, cif_f (fun z_ => b_2 z_.1)]; first | done | rfl) (by rw [mPlain, cif_f (fun z_ => b_2 z_.1)]; first | done | rfl) rfl dX4_plain_26
  · have eb_2 := b_2
    obtain ⟨g, hg, rfl⟩ := eb_2
    refine lv_if_eq (tgt := 21) hx hb dX4_plain_8 (by decide) (fun c => absurd c (by decide)) (fun _ => ?_)
    refine lv_iload_n hx hb dX4_plain_11 rfl (lv_at hl 2 rfl) ?_
    refine lv_iconst (v := 1) hx hb dX4_plain_12 (by decide) ?_
    refine lv_bipush (v := 60) hx hb dX4_plain_13 (by decide) ?_
    refine r_callSi hC hD hW hA lkX4_53 (c_X4_isWithin l E x2 1 60) ⟨by decide, by decide, by decide, by decide⟩ rfl hl.1 rfl rfl (Nat.le_of_ble_eq_true rfl) dX4_plain_15 (fun r_4 _ H locs hr_4 hW => ?_)
    have hW : Wd E A s.heap (wcat [CO o vl vt vk vy kp, IA E (o 3) 7 F, HW E vl S Tl, HW E vt St Tt]) H locs := hW
    have hr_4 : bz (1 ≤ x2 ∧ x2 ≤ 60) r_4 := hr_4
    rcases hr_4 with ⟨rfl, b_5⟩ | ⟨rfl, b_5⟩
    · refine lv_if_ne (tgt := 27) hx hb dX4_plain_18 (by decide) (fun c => absurd c (by decide)) (fun _ => ?_)
      refine lv_aload_n hx hb dX4_plain_21 rfl (lv_at hl 0 rfl) ?_
      refine lv_iconst (v := 0) hx hb dX4_plain_22 (by decide) ?_
      refine r_callCi hC hD hW hA lkX4_57 (c_X4_finding l E o vl vt vk vy kp F 0 (-1000000001) (by decide) (by decide)) rfl rfl ⟨by decide, by decide, by decide, by decide⟩ [0, 1] rfl rfl rfl (fun _ => rfl) hl.1 rfl rfl (Nat.le_of_ble_eq_true rfl) dX4_plain_23 (fun r_6 _ H locs hr_6 hW => ?_)
      have hW : Wd E A s.heap (wcat [CO o vl vt vk vy kp, IA E (o 3) 7 (upd F 0 (F 0 + 1)), HW E vl S Tl, HW E vt St Tt]) H locs := hW
      have hr_6 : r_6 = (-1000000001) := hr_6
      subst hr_6
      exact r_iret hC hQ hD hW (St, Tt) (by rw [mPlain, cif_f (fun z_ => b_5 z_.2)]; first | done | rfl) (by rw [mPlain, cif_f (fun z_ => b_5 z_.2)]; first | done | rfl) rfl dX4_plain_26
    · have eb_5 := rng1 (k := 60) (by decide) b_5
      obtain ⟨n, hn, rfl⟩ := eb_5
      refine lv_if_ne (tgt := 27) hx hb dX4_plain_18 (by decide) (fun _ => ?_) (fun c => absurd c (by decide))
      refine lv_iconst (v := 0) hx hb dX4_plain_27 (by decide) ?_
      refine lv_istore_n (lv' := [(3, .int 0), (0, .ref (o 0)), (1, .int (nI g)), (2, .int (nI n))]) hx hb dX4_plain_28 rfl hl (by decide) rfl (fun ls hl => ?_)
      have L29 : ∀ (n_ : Nat) (k : Nat) (S1 : HS) (T1 : HS) (H : Heap) (locs : List Loc) (ls : Array Slot), 100 - k < n_ → k ≤ 100 → (∀ q_, q_ < k → cPlain S P G g n q_ = false) → Wd E A s.heap (wcat [CO o vl vt vk vy kp, IA E (o 3) 7 F, HW E vl S Tl, HW E vt S1 T1]) H locs → lv_has ls 4 [(0, .ref (o 0)), (1, .int (nI g)), (2, .int (nI n)), (3, .int (nI k))] → W p l e R s m args below meth c H locs 0 0 Q (F0 m 29 ls []) := by
        intro n_
        induction n_ with
        | zero => intro k S1 T1 H locs ls hm; exact absurd hm (Nat.not_lt_zero _)
        | succ n_ ih =>
          intro k S1 T1 H locs ls hm hk_ hno hW hl
          refine lv_iload_n hx hb dX4_plain_29 rfl (lv_at hl 3 rfl) ?_
          refine lv_bipush (v := 99) hx hb dX4_plain_30 (by decide) ?_
          refine lv_icmp_gt (tgt := 76) hx hb dX4_plain_32 (by decide) (fun c_7 => ?_) (fun c_7 => ?_)
          · have c_7 : 99 < k := (nI_ltI (a := 99) (b := k) (by omega) (by omega)).mp c_7
            refine lv_aload_n hx hb dX4_plain_76 rfl (lv_at hl 0 rfl) ?_
            refine lv_iconst (v := 3) hx hb dX4_plain_77 (by decide) ?_
            refine r_callCi hC hD hW hA lkX4_57 (c_X4_finding l E o vl vt vk vy kp F 3 (-1000000004) (by decide) (by decide)) rfl rfl ⟨by decide, by decide, by decide, by decide⟩ [0, 1] rfl rfl rfl (fun _ => rfl) hl.1 rfl rfl (Nat.le_of_ble_eq_true rfl) dX4_plain_78 (fun r_8 _ H locs hr_8 hW => ?_)
            have hW : Wd E A s.heap (wcat [CO o vl vt vk vy kp, IA E (o 3) 7 (upd F 3 (F 3 + 1)), HW E vl S Tl, HW E vt S1 T1]) H locs := hW
            have hr_8 : r_8 = (-1000000004) := hr_8
            subst hr_8
            exact r_iret hC hQ hD hW (S1, T1) (by rw [mPlain, cif_t ⟨b_2, b_5⟩, ix_nI (n := g) (by omega), ix_nI (n := n) (by omega), fs1_none (fun q hq => hno q (by omega)), if_neg (by decide)]; first | done | rfl) (by rw [mPlain, cif_t ⟨b_2, b_5⟩, ix_nI (n := g) (by omega), ix_nI (n := n) (by omega), fs1_none (fun q hq => hno q (by omega)), if_neg (by decide)]; first | done | rfl) rfl dX4_plain_81
          · have c_7 : ¬ 99 < k := fun z_ => c_7 ((nI_ltI (a := 99) (b := k) (by omega) (by omega)).mpr z_)
            refine lv_aload_n hx hb dX4_plain_35 rfl (lv_at hl 0 rfl) ?_
            refine r_callCv hC hD hW hA lkX4_159 (c_X4_startTrial l E o vl vt vk vy kp S Tl S1 T1) rfl rfl ⟨by decide, by decide, by decide, by decide⟩ [0, 2, 3] rfl rfl rfl (fun _ => rfl) hl.1 rfl rfl (Nat.le_of_ble_eq_true rfl) dX4_plain_36 (fun _ H locs hr_9 hW => ?_)
            have hW : Wd E A s.heap (wcat [CO o vl vt vk vy kp, IA E (o 3) 7 F, HW E vl S Tl, HW E vt S T1]) H locs := hW
            refine lv_aload_n hx hb dX4_plain_39 rfl (lv_at hl 0 rfl) ?_
            refine r_get hC hW flX4_16 0 rfl rfl dX4_plain_40 ?_
            refine r_get hC hW flX4_142 13 rfl rfl dX4_plain_43 ?_
            refine lv_iload_n hx hb dX4_plain_46 rfl (lv_at hl 1 rfl) ?_
            refine lv_iload_n hx hb dX4_plain_47 rfl (lv_at hl 3 rfl) ?_
            refine r_iast (ws' := (wcat [CO o vl vt vk vy kp, IA E (o 3) 7 F, HW E vl S Tl, HW E vt (st S 7 g (nI k)) T1])) hC hD hW 20 rfl g rfl (by omega) (by decide) rfl rfl dX4_plain_48 (fun H locs hW => ?_)
            refine lv_aload_n hx hb dX4_plain_49 rfl (lv_at hl 0 rfl) ?_
            refine r_get hC hW flX4_16 0 rfl rfl dX4_plain_50 ?_
            refine lv_iload_n hx hb dX4_plain_53 rfl (lv_at hl 2 rfl) ?_
            refine r_callCv hC hD hW hA lkX4_155 (c_X0_goWeeks l E vt (st S 7 g (nI k)) T1 P G (HV_7 hV (by omega)) n (by omega)) rfl rfl ⟨by decide, by decide, by decide, by decide⟩ [3] rfl rfl rfl (fun _ => rfl) hl.1 rfl rfl (Nat.le_of_ble_eq_true rfl) dX4_plain_54 (fun u_11 H locs hr_10 hW => ?_)
            have hW : Wd E A s.heap (wcat [CO o vl vt vk vy kp, IA E (o 3) 7 F, HW E vl S Tl, HW E vt (wks (st S 7 g (nI k)) P G n) u_11]) H locs := hW
            refine lv_aload_n hx hb dX4_plain_57 rfl (lv_at hl 0 rfl) ?_
            refine r_get hC hW flX4_16 0 rfl rfl dX4_plain_58 ?_
            refine lv_iload_n hx hb dX4_plain_61 rfl (lv_at hl 1 rfl) ?_
            refine r_callCi hC hD hW hA lkX4_162 (c_X0_isRight l E vt (wks (st S 7 g (nI k)) P G n) u_11 g (by omega)) rfl rfl ⟨by decide, by decide, by decide, by decide⟩ [3] rfl rfl rfl (fun _ => rfl) hl.1 rfl rfl (Nat.le_of_ble_eq_true rfl) dX4_plain_62 (fun r_12 _ H locs hr_12 hW => ?_)
            have hW : Wd E A s.heap (wcat [CO o vl vt vk vy kp, IA E (o 3) 7 F, HW E vl S Tl, HW E vt (wks (st S 7 g (nI k)) P G n) u_11]) H locs := hW
            have hr_12 : bz ((wks (st S 7 g (nI k)) P G n) 8 g = (wks (st S 7 g (nI k)) P G n) 5 g) r_12 := hr_12
            rcases hr_12 with ⟨rfl, b_13⟩ | ⟨rfl, b_13⟩
            · refine lv_if_eq (tgt := 70) hx hb dX4_plain_65 (by decide) (fun _ => ?_) (fun c => absurd c (by decide))
              refine lv_iinc (v := (nI (k + 1))) (lv' := [(3, .int (nI (k + 1))), (0, .ref (o 0)), (1, .int (nI g)), (2, .int (nI n))]) (k := 3) hx hb dX4_plain_70 hl rfl (nI_inc k 1) (by decide) rfl (fun ls hl => ?_)
              refine lv_goto (tgt := 29) hx hb dX4_plain_73 (by decide) ?_
              exact ih (k + 1) (wks (st S 7 g (nI k)) P G n) u_11 _ _ _ (by omega) (by omega) (lt_s hno (decide_eq_false b_13)) hW (lv_sub hl [1, 2, 3, 0] rfl)
            · refine lv_if_eq (tgt := 70) hx hb dX4_plain_65 (by decide) (fun c => absurd c (by decide)) (fun _ => ?_)
              refine lv_iload_n hx hb dX4_plain_68 rfl (lv_at hl 3 rfl) ?_
              exact r_iret hC hQ hD hW ((wks (st S 7 g (nI k)) P G n), u_11) (by rw [mPlain, cif_t ⟨b_2, b_5⟩, ix_nI (n := g) (by omega), ix_nI (n := n) (by omega), fs1_hit (show cPlain S P G g n k = true from decide_eq_true b_13) hno (show k < 100 by omega), if_pos (show k < 100 by omega)]; first | done | rfl) (by rw [mPlain, cif_t ⟨b_2, b_5⟩, ix_nI (n := g) (by omega), ix_nI (n := n) (by omega), fs1_hit (show cPlain S P G g n k = true from decide_eq_true b_13) hno (show k < 100 by omega), if_pos (show k < 100 by omega)]; first | done | rfl) rfl dX4_plain_69
      exact L29 (100 - 0 + 1) 0 St Tt _ _ _ (Nat.lt_succ_self _) (by omega) lt_0 hW (lv_sub hl [1, 2, 3, 0] rfl)
set_option maxHeartbeats 4000000 in
set_option maxRecDepth 100000 in
theorem c_X4_best (l : Launch) (E : Ev) (o : Nat → Nat) (vl : Nat → Nat) (vt : Nat → Nat) (vk : Nat → Nat) (vy : Nat → Nat) (kp : Int32) (S : HS) (Tl : HS) (F : FT) (P : Nat) (G : Nat) (hV : HV S P G) (St : HS) (Tt : HS) (x1 : Int32) : MI l E yX4_best cX4_best 4 .int 4 89 0 0 [.ref (o 0), .int x1] (wcat [CO o vl vt vk vy kp, IA E (o 3) 7 F, HW E vl S Tl, HW E vt St Tt]) (fun (r : Int32) (u : (HS × HS)) => r = (mBest S F P G x1).1) (fun (u : (HS × HS)) => (wcat [CO o vl vt vk vy kp, IA E (o 3) 7 ((mBest S F P G x1).2), HW E vl S Tl, HW E vt u.1 u.2])) := by
  refine MI_intro RX4 (by decide) rfl (Nat.le_of_ble_eq_true rfl) ?_
  intro p e R s m args below meth c A Q hQ hC hD hW hA ls hl
  have hx := hC.1
  have hb := hC.2.1
  have hW : Wd E A s.heap (wcat [CO o vl vt vk vy kp, IA E (o 3) 7 F, HW E vl S Tl, HW E vt St Tt]) s.heap [] := hW
  have hD : Dj A [o 0, o 3, vl 0, vl 1, vl 2, vl 3, vl 4, vl 5, vl 6, vl 7, vl 8, vl 9, vl 10, vt 0, vt 1, vt 2, vt 3, vt 4, vt 5, vt 6, vt 7, vt 8, vt 9, vt 10] := hD
  have hl : lv_has ls 4 [(0, .ref (o 0)), (1, .int x1)] := hl
  have hP := hV.p
  have hP1 := hV.p6
  have hG := hV.g
  have hG1 := hV.g10
  refine lv_iload_n hx hb dX4_best_0 rfl (lv_at hl 1 rfl) ?_
  refine lv_iconst (v := 0) hx hb dX4_best_1 (by decide) ?_
  refine lv_bipush (v := 100) hx hb dX4_best_2 (by decide) ?_
  refine r_callSi hC hD hW hA lkX4_53 (c_X4_isWithin l E x1 0 100) ⟨by decide, by decide, by decide, by decide⟩ rfl hl.1 rfl rfl (Nat.le_of_ble_eq_true rfl) dX4_best_4 (fun r_1 _ H locs hr_1 hW => ?_)
  have hW : Wd E A s.heap (wcat [CO o vl vt vk vy kp, IA E (o 3) 7 F, HW E vl S Tl, HW E vt St Tt]) H locs := hW
  have hr_1 : bz (0 ≤ x1 ∧ x1 ≤ 100) r_1 := hr_1
  rcases hr_1 with ⟨rfl, b_2⟩ | ⟨rfl, b_2⟩
  · refine lv_if_ne (tgt := 16) hx hb dX4_best_7 (by decide) (fun c => absurd c (by decide)) (fun _ => ?_)
    refine lv_aload_n hx hb dX4_best_10 rfl (lv_at hl 0 rfl) ?_
    refine lv_iconst (v := 0) hx hb dX4_best_11 (by decide) ?_
    refine r_callCi hC hD hW hA lkX4_57 (c_X4_finding l E o vl vt vk vy kp F 0 (-1000000001) (by decide) (by decide)) rfl rfl ⟨by decide, by decide, by decide, by decide⟩ [0, 1] rfl rfl rfl (fun _ => rfl) hl.1 rfl rfl (Nat.le_of_ble_eq_true rfl) dX4_best_12 (fun r_3 _ H locs hr_3 hW => ?_)
    have hW : Wd E A s.heap (wcat [CO o vl vt vk vy kp, IA E (o 3) 7 (upd F 0 (F 0 + 1)), HW E vl S Tl, HW E vt St Tt]) H locs := hW
    have hr_3 : r_3 = (-1000000001) := hr_3
    subst hr_3
    exact r_iret hC hQ hD hW (St, Tt) (by rw [mBest, cif_f b_2]; first | done | rfl) (by rw [mBest, cif_f b_2]; first | done | rfl) rfl dX4_best_15
  · have eb_2 := rng (k := 100) (by decide) b_2
    obtain ⟨n, hn, rfl⟩ := eb_2
    refine lv_if_ne (tgt := 16) hx hb dX4_best_7 (by decide) (fun _ => ?_) (fun c => absurd c (by decide))
    refine lv_aload_n hx hb dX4_best_16 rfl (lv_at hl 0 rfl) ?_
    refine r_get hC hW flX4_10 0 rfl rfl dX4_best_17 ?_
    refine r_get hC hW flX4_85 2 rfl rfl dX4_best_20 ?_
    refine n_top hV.p ?_
    refine lv_if_ne (tgt := 32) hx hb dX4_best_23 (by decide) (fun c_4 => ?_) (fun c_4 => ?_)
    · have c_4 : ¬ P = 0 := fun z_ => c_4 ((nI_eq (a := P) (b := 0) (by omega) (by omega)).mpr z_)
      refine lv_aload_n hx hb dX4_best_32 rfl (lv_at hl 0 rfl) ?_
      refine r_callCv hC hD hW hA lkX4_159 (c_X4_startTrial l E o vl vt vk vy kp S Tl St Tt) rfl rfl ⟨by decide, by decide, by decide, by decide⟩ [0, 2, 3] rfl rfl rfl (fun _ => rfl) hl.1 rfl rfl (Nat.le_of_ble_eq_true rfl) dX4_best_33 (fun _ H locs hr_5 hW => ?_)
      have hW : Wd E A s.heap (wcat [CO o vl vt vk vy kp, IA E (o 3) 7 F, HW E vl S Tl, HW E vt S Tt]) H locs := hW
      refine lv_aload_n hx hb dX4_best_36 rfl (lv_at hl 0 rfl) ?_
      refine r_get hC hW flX4_16 0 rfl rfl dX4_best_37 ?_
      refine lv_iload_n hx hb dX4_best_40 rfl (lv_at hl 1 rfl) ?_
      refine r_callCv hC hD hW hA lkX4_155 (c_X0_goWeeks l E vt S Tt P G hV n (by omega)) rfl rfl ⟨by decide, by decide, by decide, by decide⟩ [3] rfl rfl rfl (fun _ => rfl) hl.1 rfl rfl (Nat.le_of_ble_eq_true rfl) dX4_best_41 (fun u_7 H locs hr_6 hW => ?_)
      have hW : Wd E A s.heap (wcat [CO o vl vt vk vy kp, IA E (o 3) 7 F, HW E vl S Tl, HW E vt (wks S P G n) u_7]) H locs := hW
      refine lv_iconst (v := 0) hx hb dX4_best_44 (by decide) ?_
      refine lv_istore_n (lv' := [(2, .int 0), (0, .ref (o 0)), (1, .int (nI n))]) hx hb dX4_best_45 rfl hl (by decide) rfl (fun ls hl => ?_)
      refine lv_iconst (v := 1) hx hb dX4_best_46 (by decide) ?_
      refine lv_istore_n (lv' := [(3, .int 1), (2, .int 0), (0, .ref (o 0)), (1, .int (nI n))]) hx hb dX4_best_47 rfl hl (by decide) rfl (fun ls hl => ?_)
      have L48 : ∀ (n_ : Nat) (k : Nat) (T1 : HS) (H : Heap) (locs : List Loc) (ls : Array Slot), P - k < n_ → k ≤ P → 1 ≤ k → bx (wks S P G n 3) k < k → Wd E A s.heap (wcat [CO o vl vt vk vy kp, IA E (o 3) 7 F, HW E vl S Tl, HW E vt (wks S P G n) T1]) H locs → lv_has ls 4 [(0, .ref (o 0)), (1, .int (nI n)), (2, .int (nI (bx (wks S P G n 3) k))), (3, .int (nI k))] → W p l e R s m args below meth c H locs 0 0 Q (F0 m 48 ls []) := by
        intro n_
        induction n_ with
        | zero => intro k T1 H locs ls hm; exact absurd hm (Nat.not_lt_zero _)
        | succ n_ ih =>
          intro k T1 H locs ls hm hk_ hk1 hbl hW hl
          refine lv_iload_n hx hb dX4_best_48 rfl (lv_at hl 3 rfl) ?_
          refine lv_aload_n hx hb dX4_best_49 rfl (lv_at hl 0 rfl) ?_
          refine r_get hC hW flX4_16 0 rfl rfl dX4_best_50 ?_
          refine r_get hC hW flX4_85 13 rfl rfl dX4_best_53 ?_
          refine n_top (HV_wks hV n).p ?_
          refine lv_icmp_ge (tgt := 88) hx hb dX4_best_56 (by decide) (fun c_8 => ?_) (fun c_8 => ?_)
          · have c_8 : P ≤ k := (nI_leI (a := P) (b := k) (by omega) (by omega)).mp c_8
            refine lv_iload_n hx hb dX4_best_88 rfl (lv_at hl 2 rfl) ?_
            exact r_iret hC hQ hD hW (wks S P G n, T1) (by rw [mBest, cif_t b_2, if_neg c_4, ix_nI (n := n) (by omega), show P = k by omega]; first | done | rfl) (by rw [mBest, cif_t b_2, if_neg c_4, ix_nI (n := n) (by omega), show P = k by omega]; first | done | rfl) rfl dX4_best_89
          · have c_8 : ¬ P ≤ k := fun z_ => c_8 ((nI_leI (a := P) (b := k) (by omega) (by omega)).mpr z_)
            refine lv_aload_n hx hb dX4_best_59 rfl (lv_at hl 0 rfl) ?_
            refine r_get hC hW flX4_16 0 rfl rfl dX4_best_60 ?_
            refine r_get hC hW flX4_100 13 rfl rfl dX4_best_63 ?_
            refine lv_iload_n hx hb dX4_best_66 rfl (lv_at hl 3 rfl) ?_
            refine r_iald hC hW 16 rfl k rfl (by omega) (by decide) dX4_best_67 ?_
            refine lv_aload_n hx hb dX4_best_68 rfl (lv_at hl 0 rfl) ?_
            refine r_get hC hW flX4_16 0 rfl rfl dX4_best_69 ?_
            refine r_get hC hW flX4_100 13 rfl rfl dX4_best_72 ?_
            refine lv_iload_n hx hb dX4_best_75 rfl (lv_at hl 2 rfl) ?_
            refine r_iald hC hW 16 rfl (bx (wks S P G n 3) k) rfl (by omega) (by decide) dX4_best_76 ?_
            refine lv_icmp_le (tgt := 82) hx hb dX4_best_77 (by decide) (fun c_9 => ?_) (fun c_9 => ?_)
            · refine lv_iinc (v := (nI (k + 1))) (lv' := [(3, .int (nI (k + 1))), (0, .ref (o 0)), (1, .int (nI n)), (2, .int (nI (bx (wks S P G n 3) k)))]) (k := 3) hx hb dX4_best_82 hl rfl (nI_inc k 1) (by decide) rfl (fun ls hl => ?_)
              refine lv_goto (tgt := 48) hx hb dX4_best_85 (by decide) ?_
              exact ih (k + 1) T1 _ _ _ (by omega) (by omega) (by omega) (bx_lt _ _ (by omega)) hW (by rw [bx_f (show k ≠ 0 by omega) (Int32.not_lt.mpr c_9)]; exact lv_sub hl [1, 2, 3, 0] rfl)
            · refine lv_iload_n hx hb dX4_best_80 rfl (lv_at hl 3 rfl) ?_
              refine lv_istore_n (lv' := [(2, .int (nI k)), (0, .ref (o 0)), (1, .int (nI n)), (3, .int (nI k))]) hx hb dX4_best_81 rfl hl (by decide) rfl (fun ls hl => ?_)
              refine lv_iinc (v := (nI (k + 1))) (lv' := [(3, .int (nI (k + 1))), (2, .int (nI k)), (0, .ref (o 0)), (1, .int (nI n))]) (k := 3) hx hb dX4_best_82 hl rfl (nI_inc k 1) (by decide) rfl (fun ls hl => ?_)
              refine lv_goto (tgt := 48) hx hb dX4_best_85 (by decide) ?_
              exact ih (k + 1) T1 _ _ _ (by omega) (by omega) (by omega) (bx_lt _ _ (by omega)) hW (by rw [bx_t (Int32.not_le.mp c_9)]; exact lv_sub hl [2, 3, 1, 0] rfl)
      exact L48 (P - 1 + 1) 1 u_7 _ _ _ (Nat.lt_succ_self _) (by omega) (by omega) (bx_lt _ 1 (by decide)) hW (lv_sub hl [2, 3, 1, 0] rfl)
    · have c_4 : P = 0 := (nI_eq (a := P) (b := 0) (by omega) (by omega)).mp c_4
      refine lv_aload_n hx hb dX4_best_26 rfl (lv_at hl 0 rfl) ?_
      refine lv_iconst (v := 3) hx hb dX4_best_27 (by decide) ?_
      refine r_callCi hC hD hW hA lkX4_57 (c_X4_finding l E o vl vt vk vy kp F 3 (-1000000004) (by decide) (by decide)) rfl rfl ⟨by decide, by decide, by decide, by decide⟩ [0, 1] rfl rfl rfl (fun _ => rfl) hl.1 rfl rfl (Nat.le_of_ble_eq_true rfl) dX4_best_28 (fun r_10 _ H locs hr_10 hW => ?_)
      have hW : Wd E A s.heap (wcat [CO o vl vt vk vy kp, IA E (o 3) 7 (upd F 3 (F 3 + 1)), HW E vl S Tl, HW E vt St Tt]) H locs := hW
      have hr_10 : r_10 = (-1000000004) := hr_10
      subst hr_10
      exact r_iret hC hQ hD hW (St, Tt) (by rw [mBest, cif_t b_2, if_pos c_4]; first | done | rfl) (by rw [mBest, cif_t b_2, if_pos c_4]; first | done | rfl) rfl dX4_best_31
