set_option maxHeartbeats 4000000 in
set_option maxRecDepth 100000 in
theorem c_X5_image (l : Launch) (E : Ev) (b : Nat → Nat) (z : Nat → Int32) (w : Int64) (S : HS) (f10 : Nat → Int32) : MI l E yX5_image cX5_image 1 .int 1 23 0 0 [.ref (b 0)] (wcat [MJ b z w, IA E (b 1) 68 (enc S), IA E (b 10) 68 f10]) (fun (r : Int32) (_ : Unit) => r = 1) (fun (_ : Unit) => (wcat [MJ b (upd z 6 1) w, IA E (b 1) 68 (enc S), IA E (b 10) 68 (enc S)])) := by
  refine MI_intro RX5 (by decide) rfl (Nat.le_of_ble_eq_true rfl) ?_
  intro p e R s m args below meth c A Q hQ hC hD hW hA ls hl
  have hx := hC.1
  have hb := hC.2.1
  have hW : Wd E A s.heap (wcat [MJ b z w, IA E (b 1) 68 (enc S), IA E (b 10) 68 f10]) s.heap [] := hW
  have hD : Dj A [b 0, b 1, b 10] := hD
  have hl : lv_has ls 1 [(0, .ref (b 0))] := hl
  refine lv_aload_n hx hb dX5_image_0 rfl (lv_at hl 0 rfl) ?_
  refine lv_iconst (v := 1) hx hb dX5_image_1 (by decide) ?_
  refine lv_aload_n hx hb dX5_image_2 rfl (lv_at hl 0 rfl) ?_
  refine r_get hC hW flX5_38 0 rfl rfl dX5_image_3 ?_
  refine r_callVv hC hD hW hA lkX5_153 (c_X5_moveAll_k l E (b 0) (b 1) (MF b z w) rfl (enc S) (b 10) f10) rfl ⟨by decide, by decide, by decide, by decide⟩ [0, 1, 2] rfl rfl rfl (fun _ => rfl) hl.1 rfl rfl (Nat.le_of_ble_eq_true rfl) dX5_image_6 (fun _ H locs hr_1 hW => ?_)
  have hW : Wd E A s.heap (wcat [MJ b z w, IA E (b 1) 68 (enc S), IA E (b 10) 68 (enc S)]) H locs := hW
  refine lv_aload_n hx hb dX5_image_9 rfl (lv_at hl 0 rfl) ?_
  refine lv_iconst (v := 1) hx hb dX5_image_10 (by decide) ?_
  refine r_put (ws' := (wcat [MJ b (upd z 6 1) w, IA E (b 1) 68 (enc S), IA E (b 10) 68 (enc S)])) hC hD hW fpX5_282 0 rfl rfl rfl (Nat.le_of_ble_eq_true rfl) rfl rfl dX5_image_11 (fun H locs hW => ?_)
  refine lv_iconst (v := 1) hx hb dX5_image_14 (by decide) ?_
  exact r_iret hC hQ hD hW () rfl rfl rfl dX5_image_15
set_option maxHeartbeats 4000000 in
set_option maxRecDepth 100000 in
theorem c_X5_undo (l : Launch) (E : Ev) (b : Nat → Nat) (z : Nat → Int32) (w : Int64) (S : HS) (F : FT) (K : HS) : MI l E yX5_undo cX5_undo 1 .int 1 23 0 0 [.ref (b 0)] (wcat [MJ b z w, IA E (b 1) 68 (enc S), IA E (b 2) 7 F, IA E (b 10) 68 (enc K)]) (fun (r : Int32) (_ : Unit) => r = (mUndo S K F (z 6)).1) (fun (_ : Unit) => (wcat [MJ b z w, IA E (b 1) 68 (enc ((mUndo S K F (z 6)).2.1)), IA E (b 2) 7 ((mUndo S K F (z 6)).2.2), IA E (b 10) 68 (enc K)])) := by
  refine MI_intro RX5 (by decide) rfl (Nat.le_of_ble_eq_true rfl) ?_
  intro p e R s m args below meth c A Q hQ hC hD hW hA ls hl
  have hx := hC.1
  have hb := hC.2.1
  have hW : Wd E A s.heap (wcat [MJ b z w, IA E (b 1) 68 (enc S), IA E (b 2) 7 F, IA E (b 10) 68 (enc K)]) s.heap [] := hW
  have hD : Dj A [b 0, b 1, b 2, b 10] := hD
  have hl : lv_has ls 1 [(0, .ref (b 0))] := hl
  refine lv_aload_n hx hb dX5_undo_0 rfl (lv_at hl 0 rfl) ?_
  refine r_get hC hW flX5_282 0 rfl rfl dX5_undo_1 ?_
  refine lv_if_ne (tgt := 14) hx hb dX5_undo_4 (by decide) (fun c_1 => ?_) (fun c_1 => ?_)
  · refine lv_aload_n hx hb dX5_undo_14 rfl (lv_at hl 0 rfl) ?_
    refine lv_iconst (v := 0) hx hb dX5_undo_15 (by decide) ?_
    refine lv_aload_n hx hb dX5_undo_16 rfl (lv_at hl 0 rfl) ?_
    refine r_get hC hW flX5_38 0 rfl rfl dX5_undo_17 ?_
    refine r_callVv hC hD hW hA lkX5_153 (c_X5_moveAll_r l E (b 0) (b 1) (MF b z w) rfl (enc S) (b 10) (enc K)) rfl ⟨by decide, by decide, by decide, by decide⟩ [0, 1, 3] rfl rfl rfl (fun _ => rfl) hl.1 rfl rfl (Nat.le_of_ble_eq_true rfl) dX5_undo_20 (fun _ H locs hr_2 hW => ?_)
    have hW : Wd E A s.heap (wcat [MJ b z w, IA E (b 1) 68 (enc K), IA E (b 2) 7 F, IA E (b 10) 68 (enc K)]) H locs := hW
    refine lv_aload_n hx hb dX5_undo_23 rfl (lv_at hl 0 rfl) ?_
    refine r_get hC hW flX5_7 0 rfl rfl dX5_undo_24 ?_
    refine lv_iconst (v := 2) hx hb dX5_undo_27 (by decide) ?_
    refine r_iald hC hW 1 rfl 2 rfl (by omega) (by decide) dX5_undo_28 ?_
    refine n_top (enc_0 K (by decide)) ?_
    exact r_iret hC hQ hD hW () (by rw [mUndo, if_neg c_1]; first | done | rfl) (by rw [mUndo, if_neg c_1]; first | done | rfl) rfl dX5_undo_29
  · refine lv_aload_n hx hb dX5_undo_7 rfl (lv_at hl 0 rfl) ?_
    refine r_ldc hC ctX5_160 dX5_undo_8 ?_
    refine r_callVi hC hD hW hA lkX5_73 (c_X5_finds l E (b 0) (MF b z w) (b 2) rfl F (-1000000004) 3 (by decide) (by decide)) rfl ⟨by decide, by decide, by decide, by decide⟩ [0, 2] rfl rfl rfl (fun _ => rfl) hl.1 rfl rfl (Nat.le_of_ble_eq_true rfl) dX5_undo_10 (fun r_3 _ H locs hr_3 hW => ?_)
    have hW : Wd E A s.heap (wcat [MJ b z w, IA E (b 1) 68 (enc S), IA E (b 2) 7 (upd F 3 (F 3 + 1)), IA E (b 10) 68 (enc K)]) H locs := hW
    have hr_3 : r_3 = (-1000000004) := hr_3
    subst hr_3
    exact r_iret hC hQ hD hW () (by rw [mUndo, if_pos c_1]; first | done | rfl) (by rw [mUndo, if_pos c_1]; first | done | rfl) rfl dX5_undo_13
set_option maxHeartbeats 4000000 in
set_option maxRecDepth 100000 in
theorem c_X5_tear (l : Launch) (E : Ev) (b : Nat → Nat) (z : Nat → Int32) (w : Int64) (hz6 : z 6 = 0 ∨ z 6 = 1) : MI l E yX5_tear cX5_tear 2 .int 0 0 0 0 [.ref (b 0)] (wcat [MJ b z w]) (fun (r : Int32) (_ : Unit) => r = z 6) (fun (_ : Unit) => (wcat [MJ b (upd z 6 0) w])) := by
  refine MI_intro RX5 (by decide) rfl (Nat.le_of_ble_eq_true rfl) ?_
  intro p e R s m args below meth c A Q hQ hC hD hW hA ls hl
  have hx := hC.1
  have hb := hC.2.1
  have hW : Wd E A s.heap (wcat [MJ b z w]) s.heap [] := hW
  have hD : Dj A [b 0] := hD
  have hl : lv_has ls 2 [(0, .ref (b 0))] := hl
  refine lv_aload_n hx hb dX5_tear_0 rfl (lv_at hl 0 rfl) ?_
  refine r_get hC hW flX5_282 0 rfl rfl dX5_tear_1 ?_
  refine lv_if_eq (tgt := 11) hx hb dX5_tear_4 (by decide) (fun c_1 => ?_) (fun c_1 => ?_)
  · refine lv_iconst (v := 0) hx hb dX5_tear_11 (by decide) ?_
    refine lv_istore_n (lv' := [(1, .int 0), (0, .ref (b 0))]) hx hb dX5_tear_12 rfl hl (by decide) rfl (fun ls hl => ?_)
    refine lv_aload_n hx hb dX5_tear_13 rfl (lv_at hl 1 rfl) ?_
    refine lv_iconst (v := 0) hx hb dX5_tear_14 (by decide) ?_
    refine r_put (ws' := (wcat [MJ b (upd z 6 0) w])) hC hD hW fpX5_282 0 rfl rfl rfl (Nat.le_of_ble_eq_true rfl) rfl rfl dX5_tear_15 (fun H locs hW => ?_)
    refine lv_iload_n hx hb dX5_tear_18 rfl (lv_at hl 0 rfl) ?_
    exact r_iret hC hQ hD hW () c_1.symm rfl rfl dX5_tear_19
  · refine lv_iconst (v := 1) hx hb dX5_tear_7 (by decide) ?_
    refine lv_goto (tgt := 12) hx hb dX5_tear_8 (by decide) ?_
    refine lv_istore_n (lv' := [(1, .int 1), (0, .ref (b 0))]) hx hb dX5_tear_12 rfl hl (by decide) rfl (fun ls hl => ?_)
    refine lv_aload_n hx hb dX5_tear_13 rfl (lv_at hl 1 rfl) ?_
    refine lv_iconst (v := 0) hx hb dX5_tear_14 (by decide) ?_
    refine r_put (ws' := (wcat [MJ b (upd z 6 0) w])) hC hD hW fpX5_282 0 rfl rfl rfl (Nat.le_of_ble_eq_true rfl) rfl rfl dX5_tear_15 (fun H locs hW => ?_)
    refine lv_iload_n hx hb dX5_tear_18 rfl (lv_at hl 0 rfl) ?_
    exact r_iret hC hQ hD hW () (hz6.resolve_left c_1).symm rfl rfl dX5_tear_19
set_option maxHeartbeats 4000000 in
set_option maxRecDepth 100000 in
theorem c_X5_count (l : Launch) (E : Ev) (b : Nat → Nat) (z : Nat → Int32) (w : Int64) (S : HS) (F : FT) (P : Nat) (G : Nat) (hV : HV S P G) (tl : Nat) (htl : z 0 = nI tl) (ht1 : tl ≤ 120) (x1 : Int32) : MI l E yX5_count cX5_count 2 .int 2 44 0 0 [.ref (b 0), .int x1] (wcat [MJ b z w, IA E (b 1) 68 (enc S), IA E (b 2) 7 F]) (fun (r : Int32) (_ : Unit) => r = (mCount S F G tl x1).1) (fun (_ : Unit) => (wcat [MJ b z w, IA E (b 1) 68 (enc S), IA E (b 2) 7 ((mCount S F G tl x1).2)])) := by
  refine MI_intro RX5 (by decide) rfl (Nat.le_of_ble_eq_true rfl) ?_
  intro p e R s m args below meth c A Q hQ hC hD hW hA ls hl
  have hx := hC.1
  have hb := hC.2.1
  have hW : Wd E A s.heap (wcat [MJ b z w, IA E (b 1) 68 (enc S), IA E (b 2) 7 F]) s.heap [] := hW
  have hD : Dj A [b 0, b 1, b 2] := hD
  have hl : lv_has ls 2 [(0, .ref (b 0)), (1, .int x1)] := hl
  have hP := hV.p
  have hP1 := hV.p6
  have hG := hV.g
  have hG1 := hV.g10
  refine lv_iload_n hx hb dX5_count_0 rfl (lv_at hl 1 rfl) ?_
  by_cases k_1 : x1 = 0
  · refine lv_tableIn (off := 31) (tgt := 32) hx hb dX5_count_1 (by rw [k_1]; decide) (by rw [k_1]; decide) (by rw [k_1]; rfl) (by decide) ?_
    refine lv_aload_n hx hb dX5_count_32 rfl (lv_at hl 0 rfl) ?_
    refine r_get hC hW flX5_7 0 rfl rfl dX5_count_33 ?_
    refine lv_iconst (v := 2) hx hb dX5_count_36 (by decide) ?_
    refine r_iald hC hW 1 rfl 2 rfl (by omega) (by decide) dX5_count_37 ?_
    refine n_top (enc_0 S (by decide)) ?_
    refine n_top hV.p ?_
    exact r_iret hC hQ hD hW () (by rw [mCount, if_pos k_1, hP]; first | done | rfl) (by rw [mCount, if_pos k_1, hP]; first | done | rfl) rfl dX5_count_38
  by_cases k_2 : x1 = 1
  · refine lv_tableIn (off := 38) (tgt := 39) hx hb dX5_count_1 (by rw [k_2]; decide) (by rw [k_2]; decide) (by rw [k_2]; rfl) (by decide) ?_
    refine lv_aload_n hx hb dX5_count_39 rfl (lv_at hl 0 rfl) ?_
    refine r_get hC hW flX5_7 0 rfl rfl dX5_count_40 ?_
    refine lv_iconst (v := 3) hx hb dX5_count_43 (by decide) ?_
    refine r_iald hC hW 1 rfl 3 rfl (by omega) (by decide) dX5_count_44 ?_
    refine n_top (enc_0 S (by decide)) ?_
    refine n_top hV.g ?_
    exact r_iret hC hQ hD hW () (by rw [mCount, if_neg (by rw [k_2]; decide), if_pos k_2, hG]; first | done | rfl) (by rw [mCount, if_neg (by rw [k_2]; decide), if_pos k_2, hG]; first | done | rfl) rfl dX5_count_45
  by_cases k_3 : x1 = 2
  · refine lv_tableIn (off := 45) (tgt := 46) hx hb dX5_count_1 (by rw [k_3]; decide) (by rw [k_3]; decide) (by rw [k_3]; rfl) (by decide) ?_
    refine lv_aload_n hx hb dX5_count_46 rfl (lv_at hl 0 rfl) ?_
    refine r_get hC hW flX5_167 0 rfl rfl dX5_count_47 ?_
    refine n_top htl ?_
    exact r_iret hC hQ hD hW () (by rw [mCount, if_neg (by rw [k_3]; decide), if_neg (by rw [k_3]; decide), if_pos k_3]; first | done | rfl) (by rw [mCount, if_neg (by rw [k_3]; decide), if_neg (by rw [k_3]; decide), if_pos k_3]; first | done | rfl) rfl dX5_count_50
  by_cases k_4 : x1 = 3
  · refine lv_tableIn (off := 50) (tgt := 51) hx hb dX5_count_1 (by rw [k_4]; decide) (by rw [k_4]; decide) (by rw [k_4]; rfl) (by decide) ?_
    refine lv_aload_n hx hb dX5_count_51 rfl (lv_at hl 0 rfl) ?_
    refine r_callVi hC hD hW hA lkX5_285 (c_X5_names l E (b 0) (b 1) (MF b z w) rfl S G hV.g hV.g10) rfl ⟨by decide, by decide, by decide, by decide⟩ [0, 1] rfl rfl rfl (fun _ => rfl) hl.1 rfl rfl (Nat.le_of_ble_eq_true rfl) dX5_count_52 (fun r_5 _ H locs hr_5 hW => ?_)
    have hW : Wd E A s.heap (wcat [MJ b z w, IA E (b 1) 68 (enc S), IA E (b 2) 7 F]) H locs := hW
    have hr_5 : r_5 = (smI (S 7) G) := hr_5
    subst hr_5
    exact r_iret hC hQ hD hW () (by rw [mCount, if_neg (by rw [k_4]; decide), if_neg (by rw [k_4]; decide), if_neg (by rw [k_4]; decide), if_pos k_4]; first | done | rfl) (by rw [mCount, if_neg (by rw [k_4]; decide), if_neg (by rw [k_4]; decide), if_neg (by rw [k_4]; decide), if_pos k_4]; first | done | rfl) rfl dX5_count_55
  have sw_1 : (x1 : Int32).toInt < 0 ∨ 3 < (x1 : Int32).toInt := by
    have := sw_ne (k := 0) (z := 0) (by decide) k_1
    have := sw_ne (k := 1) (z := 1) (by decide) k_2
    have := sw_ne (k := 2) (z := 2) (by decide) k_3
    have := sw_ne (k := 3) (z := 3) (by decide) k_4
    omega
  refine lv_tableOut (tgt := 56) hx hb dX5_count_1 sw_1 (by decide) ?_
  refine lv_aload_n hx hb dX5_count_56 rfl (lv_at hl 0 rfl) ?_
  refine r_ldc hC ctX5_44 dX5_count_57 ?_
  refine r_callVi hC hD hW hA lkX5_73 (c_X5_finds l E (b 0) (MF b z w) (b 2) rfl F (-1000000001) 0 (by decide) (by decide)) rfl ⟨by decide, by decide, by decide, by decide⟩ [0, 2] rfl rfl rfl (fun _ => rfl) hl.1 rfl rfl (Nat.le_of_ble_eq_true rfl) dX5_count_59 (fun r_6 _ H locs hr_6 hW => ?_)
  have hW : Wd E A s.heap (wcat [MJ b z w, IA E (b 1) 68 (enc S), IA E (b 2) 7 (upd F 0 (F 0 + 1))]) H locs := hW
  have hr_6 : r_6 = (-1000000001) := hr_6
  subst hr_6
  exact r_iret hC hQ hD hW () (by rw [mCount, if_neg k_1, if_neg k_2, if_neg k_3, if_neg k_4]; first | done | rfl) (by rw [mCount, if_neg k_1, if_neg k_2, if_neg k_3, if_neg k_4]; first | done | rfl) rfl dX5_count_62
set_option maxHeartbeats 4000000 in
set_option maxRecDepth 100000 in
theorem c_X5_status (l : Launch) (E : Ev) (b : Nat → Nat) (z : Nat → Int32) (w : Int64) (F : FT) (x1 : Int32) : MI l E yX5_status cX5_status 4 .int 1 22 0 0 [.ref (b 0), .int x1] (wcat [MJ b z w, IA E (b 2) 7 F]) (fun (r : Int32) (_ : Unit) => r = (mStatus F x1).1) (fun (_ : Unit) => (wcat [MJ b z w, IA E (b 2) 7 ((mStatus F x1).2)])) := by
  refine MI_intro RX5 (by decide) rfl (Nat.le_of_ble_eq_true rfl) ?_
  intro p e R s m args below meth c A Q hQ hC hD hW hA ls hl
  have hx := hC.1
  have hb := hC.2.1
  have hW : Wd E A s.heap (wcat [MJ b z w, IA E (b 2) 7 F]) s.heap [] := hW
  have hD : Dj A [b 0, b 2] := hD
  have hl : lv_has ls 4 [(0, .ref (b 0)), (1, .int x1)] := hl
  refine lv_iload_n hx hb dX5_status_0 rfl (lv_at hl 1 rfl) ?_
  refine lv_iconst (v := (-1)) hx hb dX5_status_1 (by decide) ?_
  refine lv_bipush (v := 6) hx hb dX5_status_2 (by decide) ?_
  refine r_callSi hC hD hW hA lkX5_45 (c_X5_in l E x1 (-1) 6) ⟨by decide, by decide, by decide, by decide⟩ rfl hl.1 rfl rfl (Nat.le_of_ble_eq_true rfl) dX5_status_4 (fun r_1 _ H locs hr_1 hW => ?_)
  have hW : Wd E A s.heap (wcat [MJ b z w, IA E (b 2) 7 F]) H locs := hW
  have hr_1 : bz ((-1) ≤ x1 ∧ x1 ≤ 6) r_1 := hr_1
  rcases hr_1 with ⟨rfl, b_2⟩ | ⟨rfl, b_2⟩
  · refine lv_if_ne (tgt := 17) hx hb dX5_status_7 (by decide) (fun c => absurd c (by decide)) (fun _ => ?_)
    refine lv_aload_n hx hb dX5_status_10 rfl (lv_at hl 0 rfl) ?_
    refine r_ldc hC ctX5_44 dX5_status_11 ?_
    refine r_callVi hC hD hW hA lkX5_73 (c_X5_finds l E (b 0) (MF b z w) (b 2) rfl F (-1000000001) 0 (by decide) (by decide)) rfl ⟨by decide, by decide, by decide, by decide⟩ [0, 1] rfl rfl rfl (fun _ => rfl) hl.1 rfl rfl (Nat.le_of_ble_eq_true rfl) dX5_status_13 (fun r_3 _ H locs hr_3 hW => ?_)
    have hW : Wd E A s.heap (wcat [MJ b z w, IA E (b 2) 7 (upd F 0 (F 0 + 1))]) H locs := hW
    have hr_3 : r_3 = (-1000000001) := hr_3
    subst hr_3
    exact r_iret hC hQ hD hW () (by rw [mStatus, cif_f b_2]; first | done | rfl) (by rw [mStatus, cif_f b_2]; first | done | rfl) rfl dX5_status_16
  · refine lv_if_ne (tgt := 17) hx hb dX5_status_7 (by decide) (fun _ => ?_) (fun c => absurd c (by decide))
    refine lv_iconst (v := 0) hx hb dX5_status_17 (by decide) ?_
    refine lv_istore_n (lv' := [(2, .int 0), (0, .ref (b 0)), (1, .int x1)]) hx hb dX5_status_18 rfl hl (by decide) rfl (fun ls hl => ?_)
    refine lv_iconst (v := 0) hx hb dX5_status_19 (by decide) ?_
    refine lv_istore_n (lv' := [(3, .int 0), (2, .int 0), (0, .ref (b 0)), (1, .int x1)]) hx hb dX5_status_20 rfl hl (by decide) rfl (fun ls hl => ?_)
    have L21 : ∀ (n_ : Nat) (k : Nat) (H : Heap) (locs : List Loc) (ls : Array Slot), 7 - k < n_ → k ≤ 7 → Wd E A s.heap (wcat [MJ b z w, IA E (b 2) 7 F]) H locs → lv_has ls 4 [(0, .ref (b 0)), (1, .int x1), (2, .int (smI F k)), (3, .int (nI k))] → W p l e R s m args below meth c H locs 0 0 Q (F0 m 21 ls []) := by
      intro n_
      induction n_ with
      | zero => intro k H locs ls hm; exact absurd hm (Nat.not_lt_zero _)
      | succ n_ ih =>
        intro k H locs ls hm hk hW hl
        refine lv_iload_n hx hb dX5_status_21 rfl (lv_at hl 3 rfl) ?_
        refine lv_bipush (v := 7) hx hb dX5_status_22 (by decide) ?_
        refine lv_icmp_ge (tgt := 42) hx hb dX5_status_24 (by decide) (fun c_4 => ?_) (fun c_4 => ?_)
        · have c_4 : 7 ≤ k := (nI_leI (a := 7) (b := k) (by omega) (by omega)).mp c_4
          refine lv_iload_n hx hb dX5_status_42 rfl (lv_at hl 1 rfl) ?_
          refine lv_if_ge (tgt := 50) hx hb dX5_status_43 (by decide) (fun c_5 => ?_) (fun c_5 => ?_)
          · obtain ⟨q2, hq2a, hq2⟩ := rng (k := 6) (by decide) ⟨c_5, b_2.2⟩
            have hq2 : nI q2 = x1 := hq2.symm
            refine lv_aload_n hx hb dX5_status_50 rfl (lv_at hl 0 rfl) ?_
            refine r_get hC hW flX5_13 0 rfl rfl dX5_status_51 ?_
            refine lv_iload_n hx hb dX5_status_54 rfl (lv_at hl 1 rfl) ?_
            refine lv_if_ge (tgt := 62) hx hb dX5_status_55 (by decide) (fun c_6 => ?_) (fun c_6 => absurd c_6 (fun z => z c_5))
            refine lv_iload_n hx hb dX5_status_62 rfl (lv_at hl 1 rfl) ?_
            refine r_iald hC hW 1 rfl q2 hq2.symm (by omega) (by decide) dX5_status_63 ?_
            exact r_iret hC hQ hD hW () (by rw [mStatus, cif_t b_2, if_neg (Int32.not_lt.mpr c_5), ← hq2, ix_nI (n := q2) (by omega)]; first | done | rfl) (by rw [mStatus, cif_t b_2, if_neg (Int32.not_lt.mpr c_5), ← hq2, ix_nI (n := q2) (by omega)]; first | done | rfl) rfl dX5_status_64
          · refine lv_iload_n hx hb dX5_status_46 rfl (lv_at hl 2 rfl) ?_
            refine lv_goto (tgt := 64) hx hb dX5_status_47 (by decide) ?_
            exact r_iret hC hQ hD hW () (by rw [mStatus, cif_t b_2, if_pos (Int32.not_le.mp c_5), show 7 = k by omega]; first | done | rfl) (by rw [mStatus, cif_t b_2, if_pos (Int32.not_le.mp c_5), show 7 = k by omega]; first | done | rfl) rfl dX5_status_64
        · have c_4 : ¬ 7 ≤ k := fun z_ => c_4 ((nI_leI (a := 7) (b := k) (by omega) (by omega)).mpr z_)
          refine lv_iload_n hx hb dX5_status_27 rfl (lv_at hl 2 rfl) ?_
          refine lv_aload_n hx hb dX5_status_28 rfl (lv_at hl 0 rfl) ?_
          refine r_get hC hW flX5_13 0 rfl rfl dX5_status_29 ?_
          refine lv_iload_n hx hb dX5_status_32 rfl (lv_at hl 3 rfl) ?_
          refine r_iald hC hW 1 rfl k rfl (by omega) (by decide) dX5_status_33 ?_
          refine n_iadd (v := ((smI F k) + (F k))) hx hb dX5_status_34 rfl ?_
          refine lv_istore_n (lv' := [(2, .int ((smI F k) + (F k))), (0, .ref (b 0)), (1, .int x1), (3, .int (nI k))]) hx hb dX5_status_35 rfl hl (by decide) rfl (fun ls hl => ?_)
          refine lv_iinc (v := (nI (k + 1))) (lv' := [(3, .int (nI (k + 1))), (2, .int ((smI F k) + (F k))), (0, .ref (b 0)), (1, .int x1)]) (k := 3) hx hb dX5_status_36 hl rfl (nI_inc k 1) (by decide) rfl (fun ls hl => ?_)
          refine lv_goto (tgt := 21) hx hb dX5_status_39 (by decide) ?_
          exact ih (k + 1) _ _ _ (by omega) (by omega) hW (lv_sub hl [2, 3, 1, 0] rfl)
    exact L21 (7 - 0 + 1) 0 _ _ _ (Nat.lt_succ_self _) (by omega) hW (lv_sub hl [2, 3, 1, 0] rfl)
set_option maxHeartbeats 4000000 in
set_option maxRecDepth 100000 in
theorem c_X5_wipe (l : Launch) (E : Ev) (b : Nat → Nat) (z : Nat → Int32) (w : Int64) : MI l E yX5_wipe cX5_wipe 2 .int 0 0 0 0 [.ref (b 0)] (wcat [MJ b z w]) (fun (r : Int32) (_ : Unit) => r = z 0) (fun (_ : Unit) => (wcat [MJ b (upd z 0 0) w])) := by
  refine MI_intro RX5 (by decide) rfl (Nat.le_of_ble_eq_true rfl) ?_
  intro p e R s m args below meth c A Q hQ hC hD hW hA ls hl
  have hx := hC.1
  have hb := hC.2.1
  have hW : Wd E A s.heap (wcat [MJ b z w]) s.heap [] := hW
  have hD : Dj A [b 0] := hD
  have hl : lv_has ls 2 [(0, .ref (b 0))] := hl
  refine lv_aload_n hx hb dX5_wipe_0 rfl (lv_at hl 0 rfl) ?_
  refine r_get hC hW flX5_167 0 rfl rfl dX5_wipe_1 ?_
  refine lv_istore_n (lv' := [(1, .int (z 0)), (0, .ref (b 0))]) hx hb dX5_wipe_4 rfl hl (by decide) rfl (fun ls hl => ?_)
  refine lv_aload_n hx hb dX5_wipe_5 rfl (lv_at hl 1 rfl) ?_
  refine lv_iconst (v := 0) hx hb dX5_wipe_6 (by decide) ?_
  refine r_put (ws' := (wcat [MJ b (upd z 0 0) w])) hC hD hW fpX5_167 0 rfl rfl rfl (Nat.le_of_ble_eq_true rfl) rfl rfl dX5_wipe_7 (fun H locs hW => ?_)
  refine lv_iload_n hx hb dX5_wipe_10 rfl (lv_at hl 0 rfl) ?_
  exact r_iret hC hQ hD hW () rfl rfl rfl dX5_wipe_11
set_option maxHeartbeats 4000000 in
set_option maxRecDepth 100000 in
theorem c_X5_feed (l : Launch) (E : Ev) (b : Nat → Nat) (z : Nat → Int32) (w : Int64) (F : FT) (tp : Nat → Int32) (tl : Nat) (htl : z 0 = nI tl) (ht1 : tl ≤ 120) (x1 : Int32) (x2 : Int32) : MI l E yX5_feed cX5_feed 4 .int 1 22 0 0 [.ref (b 0), .int x1, .int x2] (wcat [MJ b z w, IA E (b 2) 7 F, IA E (b 5) 120 tp]) (fun (r : Int32) (_ : Unit) => r = (mFeed F tp tl x1 x2).1) (fun (_ : Unit) => (wcat [MJ b (upd z 0 (nI (mFeed F tp tl x1 x2).2.2.2)) w, IA E (b 2) 7 ((mFeed F tp tl x1 x2).2.1), IA E (b 5) 120 ((mFeed F tp tl x1 x2).2.2.1)])) := by
  refine MI_intro RX5 (by decide) rfl (Nat.le_of_ble_eq_true rfl) ?_
  intro p e R s m args below meth c A Q hQ hC hD hW hA ls hl
  have hx := hC.1
  have hb := hC.2.1
  have hW : Wd E A s.heap (wcat [MJ b z w, IA E (b 2) 7 F, IA E (b 5) 120 tp]) s.heap [] := hW
  have hD : Dj A [b 0, b 2, b 5] := hD
  have hl : lv_has ls 4 [(0, .ref (b 0)), (1, .int x1), (2, .int x2)] := hl
  refine lv_iload_n hx hb dX5_feed_0 rfl (lv_at hl 2 rfl) ?_
  refine lv_iconst (v := 1) hx hb dX5_feed_1 (by decide) ?_
  refine lv_iconst (v := 4) hx hb dX5_feed_2 (by decide) ?_
  refine r_callSi hC hD hW hA lkX5_45 (c_X5_in l E x2 1 4) ⟨by decide, by decide, by decide, by decide⟩ rfl hl.1 rfl rfl (Nat.le_of_ble_eq_true rfl) dX5_feed_3 (fun r_1 _ H locs hr_1 hW => ?_)
  have hW : Wd E A s.heap (wcat [MJ b z w, IA E (b 2) 7 F, IA E (b 5) 120 tp]) H locs := hW
  have hr_1 : bz (1 ≤ x2 ∧ x2 ≤ 4) r_1 := hr_1
  rcases hr_1 with ⟨rfl, b_2⟩ | ⟨rfl, b_2⟩
  · refine lv_if_ne (tgt := 16) hx hb dX5_feed_6 (by decide) (fun c => absurd c (by decide)) (fun _ => ?_)
    refine lv_aload_n hx hb dX5_feed_9 rfl (lv_at hl 0 rfl) ?_
    refine r_ldc hC ctX5_44 dX5_feed_10 ?_
    refine r_callVi hC hD hW hA lkX5_73 (c_X5_finds l E (b 0) (MF b z w) (b 2) rfl F (-1000000001) 0 (by decide) (by decide)) rfl ⟨by decide, by decide, by decide, by decide⟩ [0, 1] rfl rfl rfl (fun _ => rfl) hl.1 rfl rfl (Nat.le_of_ble_eq_true rfl) dX5_feed_12 (fun r_3 _ H locs hr_3 hW => ?_)
    have hW : Wd E A s.heap (wcat [MJ b z w, IA E (b 2) 7 (upd F 0 (F 0 + 1)), IA E (b 5) 120 tp]) H locs := hW
    have hr_3 : r_3 = (-1000000001) := hr_3
    subst hr_3
    exact r_iret hC hQ hD hW () (by rw [mFeed, cif_f b_2]; first | done | rfl) (by rw [mFeed, cif_f b_2, ← htl, upd_same]; first | done | rfl) rfl dX5_feed_15
  · have eb_2 := rng1 (k := 4) (by decide) b_2
    obtain ⟨n, hn, rfl⟩ := eb_2
    refine lv_if_ne (tgt := 16) hx hb dX5_feed_6 (by decide) (fun _ => ?_) (fun c => absurd c (by decide))
    refine lv_aload_n hx hb dX5_feed_16 rfl (lv_at hl 0 rfl) ?_
    refine r_get hC hW flX5_167 0 rfl rfl dX5_feed_17 ?_
    refine n_top htl ?_
    refine lv_iload_n hx hb dX5_feed_20 rfl (lv_at hl 2 rfl) ?_
    refine n_iadd (v := (nI (tl + n))) hx hb dX5_feed_21 (nI_add tl n) ?_
    refine lv_bipush (v := 120) hx hb dX5_feed_22 (by decide) ?_
    refine lv_icmp_le (tgt := 34) hx hb dX5_feed_24 (by decide) (fun c_4 => ?_) (fun c_4 => ?_)
    · have c_4 : tl + n ≤ 120 := (nI_leI (a := tl + n) (b := 120) (by omega) (by omega)).mp c_4
      refine lv_iload_n hx hb dX5_feed_34 rfl (lv_at hl 2 rfl) ?_
      refine lv_iconst (v := 1) hx hb dX5_feed_35 (by decide) ?_
      refine n_isub (v := (nI n - 1)) hx hb dX5_feed_36 rfl ?_
      refine lv_istore_n (lv' := [(3, .int (nI n - 1)), (0, .ref (b 0)), (1, .int x1), (2, .int (nI n))]) hx hb dX5_feed_37 rfl hl (by decide) rfl (fun ls hl => ?_)
      have L38 : ∀ (n_ : Nat) (q : Nat) (t1 : Nat) (p1 : (Nat → Int32)) (H : Heap) (locs : List Loc) (ls : Array Slot), q < n_ → q ≤ n → t1 + q = tl + n → fdT x1 q p1 t1 = fdT x1 n tp tl → Wd E A s.heap (wcat [MJ b (upd z 0 (nI t1)) w, IA E (b 2) 7 F, IA E (b 5) 120 p1]) H locs → lv_has ls 4 [(0, .ref (b 0)), (1, .int x1), (2, .int (nI n)), (3, .int (nI q - 1))] → W p l e R s m args below meth c H locs 0 0 Q (F0 m 38 ls []) := by
        intro n_
        induction n_ with
        | zero => intro q t1 p1 H locs ls hm; exact absurd hm (Nat.not_lt_zero _)
        | succ n_ ih =>
          intro q t1 p1 H locs ls hm hq ht hf hW hl
          rcases q with _ | q
          · have hl : lv_has ls 4 [(0, .ref (b 0)), (1, .int x1), (2, .int (nI n)), (3, .int (-1))] := hl
            refine lv_iload_n hx hb dX5_feed_38 rfl (lv_at hl 3 rfl) ?_
            refine lv_if_lt (tgt := 77) hx hb dX5_feed_39 (by decide) (fun _ => ?_) (fun c => absurd c (by decide))
            refine lv_aload_n hx hb dX5_feed_77 rfl (lv_at hl 0 rfl) ?_
            refine r_get hC hW flX5_167 0 rfl rfl dX5_feed_78 ?_
            refine n_top (upd_at _ _ _) ?_
            exact r_iret hC hQ hD hW () (by rw [mFeed, cif_t b_2, ix_nI (n := n) (by omega), if_neg (show ¬ 120 < tl + n by omega), show t1 = tl + n by omega]; first | done | rfl) (by rw [mFeed, cif_t b_2, ix_nI (n := n) (by omega), if_neg (show ¬ 120 < tl + n by omega), ← hf, ← ht]; first | done | rfl) rfl dX5_feed_81
          · rw [show nI (q + 1) - 1 = nI q from nI_pred q] at hl
            refine lv_iload_n hx hb dX5_feed_38 rfl (lv_at hl 3 rfl) ?_
            refine lv_if_lt (tgt := 77) hx hb dX5_feed_39 (by decide) (fun c_5 => absurd c_5 (nI_pos (by omega))) (fun c_5 => ?_)
            have c_5 : ¬ q < 0 := fun z_ => c_5 ((nI_ltI (a := q) (b := 0) (by omega) (by omega)).mpr z_)
            refine lv_aload_n hx hb dX5_feed_42 rfl (lv_at hl 0 rfl) ?_
            refine r_get hC hW flX5_22 0 rfl rfl dX5_feed_43 ?_
            refine lv_aload_n hx hb dX5_feed_46 rfl (lv_at hl 0 rfl) ?_
            refine r_get hC hW flX5_167 0 rfl rfl dX5_feed_47 ?_
            refine n_top (upd_at _ _ _) ?_
            refine lv_iload_n hx hb dX5_feed_50 rfl (lv_at hl 1 rfl) ?_
            refine lv_bipush (v := 8) hx hb dX5_feed_51 (by decide) ?_
            refine lv_iload_n hx hb dX5_feed_53 rfl (lv_at hl 3 rfl) ?_
            refine n_imul (v := (nI (8 * q))) hx hb dX5_feed_54 (pk_mul 8 q) ?_
            refine n_ishr (v := (x1 >>> ((nI (8 * q)) &&& 31))) hx hb dX5_feed_55 rfl ?_
            refine lv_sipush (v := 255) hx hb dX5_feed_56 (by decide) ?_
            refine n_iand (v := (fby x1 q)) hx hb dX5_feed_59 rfl ?_
            refine r_iast (ws' := (wcat [MJ b (upd z 0 (nI t1)) w, IA E (b 2) 7 F, IA E (b 5) 120 (upd p1 t1 (fby x1 q))])) hC hD hW 2 rfl t1 rfl (by omega) (by decide) rfl rfl dX5_feed_60 (fun H locs hW => ?_)
            refine lv_aload_n hx hb dX5_feed_61 rfl (lv_at hl 0 rfl) ?_
            refine lv_dup hx hb dX5_feed_62 rfl ?_
            refine r_get hC hW flX5_167 0 rfl rfl dX5_feed_63 ?_
            refine n_top (upd_at _ _ _) ?_
            refine lv_iconst (v := 1) hx hb dX5_feed_66 (by decide) ?_
            refine n_iadd (v := (nI (t1 + 1))) hx hb dX5_feed_67 (nI_add t1 1) ?_
            refine r_put (ws' := (wcat [MJ b (upd (upd z 0 (nI t1)) 0 (nI (t1 + 1))) w, IA E (b 2) 7 F, IA E (b 5) 120 (upd p1 t1 (fby x1 q))])) hC hD hW fpX5_167 0 rfl rfl rfl (Nat.le_of_ble_eq_true rfl) rfl rfl dX5_feed_68 (fun H locs hW => ?_)
            refine lv_iinc (v := (nI q - 1)) (lv' := [(3, .int (nI q - 1)), (0, .ref (b 0)), (1, .int x1), (2, .int (nI n))]) (k := 3) hx hb dX5_feed_71 hl rfl (nI_dec q) (by decide) rfl (fun ls hl => ?_)
            refine lv_goto (tgt := 38) hx hb dX5_feed_74 (by decide) ?_
            exact ih q (t1 + 1) (upd p1 t1 (fby x1 q)) _ _ _ (by omega) (by omega) (by omega) hf (by have e := hW; rw [upd_upd] at e; exact e) (lv_sub hl [1, 2, 3, 0] rfl)
      exact L38 (n + 1) n tl tp _ _ _ (Nat.lt_succ_self _) (by omega) (by omega) rfl (by have e := hW; rw [show z = upd z 0 (nI tl) from (upd_self htl).symm] at e; exact e) (lv_sub hl [1, 2, 3, 0] rfl)
    · have c_4 : ¬ tl + n ≤ 120 := fun z_ => c_4 ((nI_leI (a := tl + n) (b := 120) (by omega) (by omega)).mpr z_)
      refine lv_aload_n hx hb dX5_feed_27 rfl (lv_at hl 0 rfl) ?_
      refine r_ldc hC ctX5_93 dX5_feed_28 ?_
      refine r_callVi hC hD hW hA lkX5_73 (c_X5_finds l E (b 0) (MF b z w) (b 2) rfl F (-1000000002) 1 (by decide) (by decide)) rfl ⟨by decide, by decide, by decide, by decide⟩ [0, 1] rfl rfl rfl (fun _ => rfl) hl.1 rfl rfl (Nat.le_of_ble_eq_true rfl) dX5_feed_30 (fun r_6 _ H locs hr_6 hW => ?_)
      have hW : Wd E A s.heap (wcat [MJ b z w, IA E (b 2) 7 (upd F 1 (F 1 + 1)), IA E (b 5) 120 tp]) H locs := hW
      have hr_6 : r_6 = (-1000000002) := hr_6
      subst hr_6
      exact r_iret hC hQ hD hW () (by rw [mFeed, cif_t b_2, ix_nI (n := n) (by omega), if_pos (show 120 < tl + n by omega)]; first | done | rfl) (by rw [mFeed, cif_t b_2, ix_nI (n := n) (by omega), if_pos (show 120 < tl + n by omega), ← htl, upd_same]; first | done | rfl) rfl dX5_feed_33
set_option maxHeartbeats 4000000 in
set_option maxRecDepth 100000 in
theorem c_X5_isSheet (l : Launch) (E : Ev) (x : Int32) : MI l E yX5_isSheet cX5_isSheet 1 .boolean 1 22 0 0 [.int x] [] (fun (r : Int32) (_ : Unit) => bz (isN 4 x) r) (fun (_ : Unit) => []) := by
  refine MI_intro RX5 (by decide) rfl (Nat.le_of_ble_eq_true rfl) ?_
  intro p e R s m args below meth c A Q hQ hC hD hW hA ls hl
  have hx := hC.1
  have hb := hC.2.1
  have hW : Wd E A s.heap [] s.heap [] := hW
  have hl : lv_has ls 1 [(0, .int x)] := hl
  refine lv_iload_n hx hb dX5_isSheet_0 rfl (lv_at hl 0 rfl) ?_
  refine lv_iconst (v := 0) hx hb dX5_isSheet_1 (by decide) ?_
  refine lv_iconst (v := 3) hx hb dX5_isSheet_2 (by decide) ?_
  refine r_callSi hC hD hW hA lkX5_45 (c_X5_in l E x 0 3) ⟨by decide, by decide, by decide, by decide⟩ rfl hl.1 rfl rfl (Nat.le_of_ble_eq_true rfl) dX5_isSheet_3 (fun r_1 _ H locs hr_1 hW => ?_)
  have hr_1 : bz (0 ≤ x ∧ x ≤ 3) r_1 := hr_1
  exact r_zret hC hQ hD hW (bz_01 hr_1) () (bz_iff in3 hr_1) rfl rfl dX5_isSheet_6
set_option maxHeartbeats 4000000 in
set_option maxRecDepth 100000 in
theorem c_X5_narrow (l : Launch) (E : Ev) (x : Int32) (v : Int64) : ML l E yX5_narrow cX5_narrow 3 .long 0 0 0 0 [.int x, .long v] [] (fun (r : Int64) (_ : Unit) => r = nar x v) (fun (_ : Unit) => []) := by
  refine ML_intro RX5 (by decide) rfl (Nat.le_of_ble_eq_true rfl) ?_
  intro p e R s m args below meth c A Q hQ hC hD hW hA ls hl
  have hx := hC.1
  have hb := hC.2.1
  have hW : Wd E A s.heap [] s.heap [] := hW
  have hl : lv_has ls 3 [(0, .int x), (1, .long v)] := hl
  refine lv_iload_n hx hb dX5_narrow_0 rfl (lv_at hl 0 rfl) ?_
  refine lv_bipush (v := 8) hx hb dX5_narrow_1 (by decide) ?_
  refine lv_icmp_ne (tgt := 16) hx hb dX5_narrow_3 (by decide) (fun c_1 => ?_) (fun c_1 => ?_)
  · refine lv_iload_n hx hb dX5_narrow_16 rfl (lv_at hl 0 rfl) ?_
    refine lv_bipush (v := 16) hx hb dX5_narrow_17 (by decide) ?_
    refine lv_icmp_ne (tgt := 32) hx hb dX5_narrow_19 (by decide) (fun c_2 => ?_) (fun c_2 => ?_)
    · refine lv_lload_n hx hb dX5_narrow_32 rfl (lv_at hl 1 rfl) ?_
      exact r_lret hC hQ hD hW () (by rw [nar, if_neg c_1, if_neg c_2]) rfl rfl dX5_narrow_33
    · refine lv_lload_n hx hb dX5_narrow_22 rfl (lv_at hl 1 rfl) ?_
      refine lv_bipush (v := 48) hx hb dX5_narrow_23 (by decide) ?_
      refine lv_lshl (v := (v <<< ((48 : Int32).toInt64 &&& 63))) hx hb dX5_narrow_25 rfl ?_
      refine lv_bipush (v := 48) hx hb dX5_narrow_26 (by decide) ?_
      refine lv_lshr (v := ((v <<< ((48 : Int32).toInt64 &&& 63)) >>> ((48 : Int32).toInt64 &&& 63))) hx hb dX5_narrow_28 rfl ?_
      refine lv_goto (tgt := 33) hx hb dX5_narrow_29 (by decide) ?_
      exact r_lret hC hQ hD hW () (by rw [nar, if_neg c_1, if_pos c_2]) rfl rfl dX5_narrow_33
  · refine lv_lload_n hx hb dX5_narrow_6 rfl (lv_at hl 1 rfl) ?_
    refine lv_bipush (v := 56) hx hb dX5_narrow_7 (by decide) ?_
    refine lv_lshl (v := (v <<< ((56 : Int32).toInt64 &&& 63))) hx hb dX5_narrow_9 rfl ?_
    refine lv_bipush (v := 56) hx hb dX5_narrow_10 (by decide) ?_
    refine lv_lshr (v := ((v <<< ((56 : Int32).toInt64 &&& 63)) >>> ((56 : Int32).toInt64 &&& 63))) hx hb dX5_narrow_12 rfl ?_
    refine lv_goto (tgt := 33) hx hb dX5_narrow_13 (by decide) ?_
    exact r_lret hC hQ hD hW () (by rw [nar, if_pos c_1]) rfl rfl dX5_narrow_33
set_option maxHeartbeats 4000000 in
set_option maxRecDepth 100000 in
theorem c_X5_sheet (l : Launch) (E : Ev) (b : Nat → Nat) (z : Nat → Int32) (w : Int64) (F : FT) (B : FT) (Z : Nat → Nat) (N : NT) (hZ : ∀ q, q < 4 → Z q ≤ 40) (x1 : Int32) (x2 : Int32) (x3 : Int32) : MI l E yX5_sheet cX5_sheet 5 .int 2 42 0 0 [.ref (b 0), .int x1, .int x2, .int x3] (wcat [MJ b z w, IA E (b 2) 7 F, IA E (b 6) 4 B, IA E (b 7) 4 (szA Z), LA E (b 8) 160 (en4 N)]) (fun (r : Int32) (_ : Unit) => r = (mSheet F B Z N x1 x2 x3).1) (fun (_ : Unit) => (wcat [MJ b z w, IA E (b 2) 7 ((mSheet F B Z N x1 x2 x3).2.1), IA E (b 6) 4 ((mSheet F B Z N x1 x2 x3).2.2.1), IA E (b 7) 4 (szA ((mSheet F B Z N x1 x2 x3).2.2.2.1)), LA E (b 8) 160 (en4 ((mSheet F B Z N x1 x2 x3).2.2.2.2))])) := by
  refine MI_intro RX5 (by decide) rfl (Nat.le_of_ble_eq_true rfl) ?_
  intro p e R s m args below meth c A Q hQ hC hD hW hA ls hl
  have hx := hC.1
  have hb := hC.2.1
  have hW : Wd E A s.heap (wcat [MJ b z w, IA E (b 2) 7 F, IA E (b 6) 4 B, IA E (b 7) 4 (szA Z), LA E (b 8) 160 (en4 N)]) s.heap [] := hW
  have hD : Dj A [b 0, b 2, b 6, b 7, b 8] := hD
  have hl : lv_has ls 5 [(0, .ref (b 0)), (1, .int x1), (2, .int x2), (3, .int x3)] := hl
  refine lv_iload_n hx hb dX5_sheet_0 rfl (lv_at hl 1 rfl) ?_
  refine r_callSi hC hD hW hA lkX5_263 (c_X5_isSheet l E x1) ⟨by decide, by decide, by decide, by decide⟩ rfl hl.1 rfl rfl (Nat.le_of_ble_eq_true rfl) dX5_sheet_1 (fun r_1 _ H locs hr_1 hW => ?_)
  have hW : Wd E A s.heap (wcat [MJ b z w, IA E (b 2) 7 F, IA E (b 6) 4 B, IA E (b 7) 4 (szA Z), LA E (b 8) 160 (en4 N)]) H locs := hW
  have hr_1 : bz (isN 4 x1) r_1 := hr_1
  rcases hr_1 with ⟨rfl, b_2⟩ | ⟨rfl, b_2⟩
  · refine lv_if_eq (tgt := 29) hx hb dX5_sheet_4 (by decide) (fun _ => ?_) (fun c => absurd c (by decide))
    refine lv_aload_n hx hb dX5_sheet_29 rfl (lv_at hl 0 rfl) ?_
    refine r_ldc hC ctX5_44 dX5_sheet_30 ?_
    refine r_callVi hC hD hW hA lkX5_73 (c_X5_finds l E (b 0) (MF b z w) (b 2) rfl F (-1000000001) 0 (by decide) (by decide)) rfl ⟨by decide, by decide, by decide, by decide⟩ [0, 1] rfl rfl rfl (fun _ => rfl) hl.1 rfl rfl (Nat.le_of_ble_eq_true rfl) dX5_sheet_32 (fun r_3 _ H locs hr_3 hW => ?_)
    have hW : Wd E A s.heap (wcat [MJ b z w, IA E (b 2) 7 (upd F 0 (F 0 + 1)), IA E (b 6) 4 B, IA E (b 7) 4 (szA Z), LA E (b 8) 160 (en4 N)]) H locs := hW
    have hr_3 : r_3 = (-1000000001) := hr_3
    subst hr_3
    exact r_iret hC hQ hD hW () (by rw [mSheet, cif_f (fun z_ => b_2 z_.1)]; first | done | rfl) (by rw [mSheet, cif_f (fun z_ => b_2 z_.1)]; first | done | rfl) rfl dX5_sheet_35
  · have eb_2 := b_2
    obtain ⟨j, hj, rfl⟩ := eb_2
    refine lv_if_eq (tgt := 29) hx hb dX5_sheet_4 (by decide) (fun c => absurd c (by decide)) (fun _ => ?_)
    refine lv_iload_n hx hb dX5_sheet_7 rfl (lv_at hl 2 rfl) ?_
    refine lv_if_eq (tgt := 36) hx hb dX5_sheet_8 (by decide) (fun c_4 => ?_) (fun c_4 => ?_)
    · refine lv_iload_n hx hb dX5_sheet_36 rfl (lv_at hl 3 rfl) ?_
      refine lv_if_ge (tgt := 48) hx hb dX5_sheet_37 (by decide) (fun c_5 => ?_) (fun c_5 => ?_)
      · refine lv_iload_n hx hb dX5_sheet_48 rfl (lv_at hl 3 rfl) ?_
        refine lv_bipush (v := 40) hx hb dX5_sheet_49 (by decide) ?_
        refine lv_icmp_le (tgt := 61) hx hb dX5_sheet_51 (by decide) (fun c_6 => ?_) (fun c_6 => ?_)
        · obtain ⟨n, hn, rfl⟩ := rng (k := 40) (by decide) ⟨c_5, c_6⟩
          refine lv_aload_n hx hb dX5_sheet_61 rfl (lv_at hl 0 rfl) ?_
          refine r_get hC hW flX5_25 0 rfl rfl dX5_sheet_62 ?_
          refine lv_iload_n hx hb dX5_sheet_65 rfl (lv_at hl 1 rfl) ?_
          refine lv_iload_n hx hb dX5_sheet_66 rfl (lv_at hl 2 rfl) ?_
          refine r_iast (ws' := (wcat [MJ b z w, IA E (b 2) 7 F, IA E (b 6) 4 (upd B j x2), IA E (b 7) 4 (szA Z), LA E (b 8) 160 (en4 N)])) hC hD hW 2 rfl j rfl (by omega) (by decide) rfl rfl dX5_sheet_67 (fun H locs hW => ?_)
          refine lv_aload_n hx hb dX5_sheet_68 rfl (lv_at hl 0 rfl) ?_
          refine r_get hC hW flX5_28 0 rfl rfl dX5_sheet_69 ?_
          refine lv_iload_n hx hb dX5_sheet_72 rfl (lv_at hl 1 rfl) ?_
          refine lv_iload_n hx hb dX5_sheet_73 rfl (lv_at hl 2 rfl) ?_
          refine lv_if_ne (tgt := 81) hx hb dX5_sheet_74 (by decide) (fun c_7 => ?_) (fun c_7 => ?_)
          · refine lv_iload_n hx hb dX5_sheet_81 rfl (lv_at hl 3 rfl) ?_
            refine r_iast (ws' := (wcat [MJ b z w, IA E (b 2) 7 F, IA E (b 6) 4 (upd B j x2), IA E (b 7) 4 (szA (va_up Z j n)), LA E (b 8) 160 (en4 N)])) hC hD hW 3 rfl j rfl (by omega) (by decide) rfl (by rw [show upd (szA Z) j (nI n) = szA (va_up Z j n) from szA_put Z j n]; rfl) dX5_sheet_82 (fun H locs hW => ?_)
            refine lv_iconst (v := 0) hx hb dX5_sheet_83 (by decide) ?_
            refine lv_istore (lv' := [(4, .int 0), (0, .ref (b 0)), (1, .int (nI j)), (2, .int x2), (3, .int (nI n))]) hx hb dX5_sheet_84 hl (by decide) rfl (fun ls hl => ?_)
            have L86 : ∀ (n_ : Nat) (k : Nat) (H : Heap) (locs : List Loc) (ls : Array Slot), 40 - k < n_ → k ≤ 40 → Wd E A s.heap (wcat [MJ b z w, IA E (b 2) 7 F, IA E (b 6) 4 (upd B j x2), IA E (b 7) 4 (szA (va_up Z j n)), LA E (b 8) 160 (en4 (va_up N j (fil (fun _ => 0) (N j) k)))]) H locs → lv_has ls 5 [(0, .ref (b 0)), (1, .int (nI j)), (2, .int x2), (4, .int (nI k))] → W p l e R s m args below meth c H locs 0 0 Q (F0 m 86 ls []) := by
              intro n_
              induction n_ with
              | zero => intro k H locs ls hm; exact absurd hm (Nat.not_lt_zero _)
              | succ n_ ih =>
                intro k H locs ls hm hk hW hl
                refine lv_iload hx hb dX5_sheet_86 (lv_at hl 3 rfl) ?_
                refine lv_bipush (v := 40) hx hb dX5_sheet_88 (by decide) ?_
                refine lv_icmp_ge (tgt := 112) hx hb dX5_sheet_90 (by decide) (fun c_8 => ?_) (fun c_8 => ?_)
                · have c_8 : 40 ≤ k := (nI_leI (a := 40) (b := k) (by omega) (by omega)).mp c_8
                  refine lv_aload_n hx hb dX5_sheet_112 rfl (lv_at hl 0 rfl) ?_
                  refine r_get hC hW flX5_28 0 rfl rfl dX5_sheet_113 ?_
                  refine lv_iload_n hx hb dX5_sheet_116 rfl (lv_at hl 1 rfl) ?_
                  refine r_iald hC hW 3 rfl j rfl (by omega) (by decide) dX5_sheet_117 ?_
                  refine n_top (congrArg nI (up_at Z j _)) ?_
                  exact r_iret hC hQ hD hW () (by rw [mSheet, cif_t ⟨b_2, Or.inl c_4⟩, if_neg (nI_pos (by omega)), if_neg (show ¬ 40 < nI n from Int32.not_lt.mpr (nI_le (b := 40) (by omega) (by decide))), ix_nI (n := n) (by omega), if_neg c_7]; first | done | rfl) (by rw [mSheet, cif_t ⟨b_2, Or.inl c_4⟩, if_neg (nI_pos (by omega)), if_neg (show ¬ 40 < nI n from Int32.not_lt.mpr (nI_le (b := 40) (by omega) (by decide))), ix_nI (n := n) (by omega), ix_nI (n := j) (by omega), if_neg c_7, show en4 (va_up N j (fil (fun _ => 0) (N j) k)) = en4 (va_up N j (fun _ => 0)) from en4_cong N j (fun q hq => if_pos (by omega))]; first | done | rfl) rfl dX5_sheet_118
                · have c_8 : ¬ 40 ≤ k := fun z_ => c_8 ((nI_leI (a := 40) (b := k) (by omega) (by omega)).mpr z_)
                  refine lv_aload_n hx hb dX5_sheet_93 rfl (lv_at hl 0 rfl) ?_
                  refine r_get hC hW flX5_31 0 rfl rfl dX5_sheet_94 ?_
                  refine lv_bipush (v := 40) hx hb dX5_sheet_97 (by decide) ?_
                  refine lv_iload_n hx hb dX5_sheet_99 rfl (lv_at hl 1 rfl) ?_
                  refine n_imul (v := (nI (40 * j))) hx hb dX5_sheet_100 (pk_mul 40 j) ?_
                  refine lv_iload hx hb dX5_sheet_101 (lv_at hl 3 rfl) ?_
                  refine n_iadd (v := (nI (40 * j + k))) hx hb dX5_sheet_103 (nI_add (40 * j) k) ?_
                  refine lv_lconst (v := 0) hx hb dX5_sheet_104 (by decide) ?_
                  refine r_last (ws' := (wcat [MJ b z w, IA E (b 2) 7 F, IA E (b 6) 4 (upd B j x2), IA E (b 7) 4 (szA (va_up Z j n)), LA E (b 8) 160 (en4 (va_up N j (fil (fun _ => 0) (N j) (k + 1))))])) hC hD hW 4 rfl (40 * j + k) rfl (by omega) (by decide) rfl (by rw [en4_put _ (by omega), up_at, show vp_updL (fil (fun _ => 0) (N j) k) k 0 = fil (fun _ => 0) (N j) (k + 1) from fil_putL (fun _ => 0) (N j) k, upup]; rfl) dX5_sheet_105 (fun H locs hW => ?_)
                  refine lv_iinc (v := (nI (k + 1))) (lv' := [(4, .int (nI (k + 1))), (0, .ref (b 0)), (1, .int (nI j)), (2, .int x2)]) (k := 3) hx hb dX5_sheet_106 hl rfl (nI_inc k 1) (by decide) rfl (fun ls hl => ?_)
                  refine lv_goto (tgt := 86) hx hb dX5_sheet_109 (by decide) ?_
                  exact ih (k + 1) _ _ _ (by omega) (by omega) hW (lv_sub hl [1, 2, 3, 0] rfl)
            exact L86 (40 - 0 + 1) 0 _ _ _ (Nat.lt_succ_self _) (by omega) (by have e := hW; rw [show N = va_up N j (fil (fun _ => 0) (N j) 0) from (up_self (by funext q; exact (fil_at _ _ (Nat.zero_le q)).symm)).symm] at e; exact e) (lv_sub hl [1, 2, 3, 0] rfl)
          · refine lv_iconst (v := 0) hx hb dX5_sheet_77 (by decide) ?_
            refine lv_goto (tgt := 82) hx hb dX5_sheet_78 (by decide) ?_
            refine r_iast (ws' := (wcat [MJ b z w, IA E (b 2) 7 F, IA E (b 6) 4 (upd B j x2), IA E (b 7) 4 (szA (va_up Z j 0)), LA E (b 8) 160 (en4 N)])) hC hD hW 3 rfl j rfl (by omega) (by decide) rfl (by rw [show upd (szA Z) j 0 = szA (va_up Z j 0) from szA_put Z j 0]; rfl) dX5_sheet_82 (fun H locs hW => ?_)
            refine lv_iconst (v := 0) hx hb dX5_sheet_83 (by decide) ?_
            refine lv_istore (lv' := [(4, .int 0), (0, .ref (b 0)), (1, .int (nI j)), (2, .int x2), (3, .int (nI n))]) hx hb dX5_sheet_84 hl (by decide) rfl (fun ls hl => ?_)
            have L86 : ∀ (n_ : Nat) (k : Nat) (H : Heap) (locs : List Loc) (ls : Array Slot), 40 - k < n_ → k ≤ 40 → Wd E A s.heap (wcat [MJ b z w, IA E (b 2) 7 F, IA E (b 6) 4 (upd B j x2), IA E (b 7) 4 (szA (va_up Z j 0)), LA E (b 8) 160 (en4 (va_up N j (fil (fun _ => 0) (N j) k)))]) H locs → lv_has ls 5 [(0, .ref (b 0)), (1, .int (nI j)), (2, .int x2), (4, .int (nI k))] → W p l e R s m args below meth c H locs 0 0 Q (F0 m 86 ls []) := by
              intro n_
              induction n_ with
              | zero => intro k H locs ls hm; exact absurd hm (Nat.not_lt_zero _)
              | succ n_ ih =>
                intro k H locs ls hm hk hW hl
                refine lv_iload hx hb dX5_sheet_86 (lv_at hl 3 rfl) ?_
                refine lv_bipush (v := 40) hx hb dX5_sheet_88 (by decide) ?_
                refine lv_icmp_ge (tgt := 112) hx hb dX5_sheet_90 (by decide) (fun c_9 => ?_) (fun c_9 => ?_)
                · have c_9 : 40 ≤ k := (nI_leI (a := 40) (b := k) (by omega) (by omega)).mp c_9
                  refine lv_aload_n hx hb dX5_sheet_112 rfl (lv_at hl 0 rfl) ?_
                  refine r_get hC hW flX5_28 0 rfl rfl dX5_sheet_113 ?_
                  refine lv_iload_n hx hb dX5_sheet_116 rfl (lv_at hl 1 rfl) ?_
                  refine r_iald hC hW 3 rfl j rfl (by omega) (by decide) dX5_sheet_117 ?_
                  refine n_top (congrArg nI (up_at Z j _)) ?_
                  exact r_iret hC hQ hD hW () (by rw [mSheet, cif_t ⟨b_2, Or.inl c_4⟩, if_neg (nI_pos (by omega)), if_neg (show ¬ 40 < nI n from Int32.not_lt.mpr (nI_le (b := 40) (by omega) (by decide))), ix_nI (n := n) (by omega), if_pos c_7]; first | done | rfl) (by rw [mSheet, cif_t ⟨b_2, Or.inl c_4⟩, if_neg (nI_pos (by omega)), if_neg (show ¬ 40 < nI n from Int32.not_lt.mpr (nI_le (b := 40) (by omega) (by decide))), ix_nI (n := n) (by omega), ix_nI (n := j) (by omega), if_pos c_7, show en4 (va_up N j (fil (fun _ => 0) (N j) k)) = en4 (va_up N j (fun _ => 0)) from en4_cong N j (fun q hq => if_pos (by omega))]; first | done | rfl) rfl dX5_sheet_118
                · have c_9 : ¬ 40 ≤ k := fun z_ => c_9 ((nI_leI (a := 40) (b := k) (by omega) (by omega)).mpr z_)
                  refine lv_aload_n hx hb dX5_sheet_93 rfl (lv_at hl 0 rfl) ?_
                  refine r_get hC hW flX5_31 0 rfl rfl dX5_sheet_94 ?_
                  refine lv_bipush (v := 40) hx hb dX5_sheet_97 (by decide) ?_
                  refine lv_iload_n hx hb dX5_sheet_99 rfl (lv_at hl 1 rfl) ?_
                  refine n_imul (v := (nI (40 * j))) hx hb dX5_sheet_100 (pk_mul 40 j) ?_
                  refine lv_iload hx hb dX5_sheet_101 (lv_at hl 3 rfl) ?_
                  refine n_iadd (v := (nI (40 * j + k))) hx hb dX5_sheet_103 (nI_add (40 * j) k) ?_
                  refine lv_lconst (v := 0) hx hb dX5_sheet_104 (by decide) ?_
                  refine r_last (ws' := (wcat [MJ b z w, IA E (b 2) 7 F, IA E (b 6) 4 (upd B j x2), IA E (b 7) 4 (szA (va_up Z j 0)), LA E (b 8) 160 (en4 (va_up N j (fil (fun _ => 0) (N j) (k + 1))))])) hC hD hW 4 rfl (40 * j + k) rfl (by omega) (by decide) rfl (by rw [en4_put _ (by omega), up_at, show vp_updL (fil (fun _ => 0) (N j) k) k 0 = fil (fun _ => 0) (N j) (k + 1) from fil_putL (fun _ => 0) (N j) k, upup]; rfl) dX5_sheet_105 (fun H locs hW => ?_)
                  refine lv_iinc (v := (nI (k + 1))) (lv' := [(4, .int (nI (k + 1))), (0, .ref (b 0)), (1, .int (nI j)), (2, .int x2)]) (k := 3) hx hb dX5_sheet_106 hl rfl (nI_inc k 1) (by decide) rfl (fun ls hl => ?_)
                  refine lv_goto (tgt := 86) hx hb dX5_sheet_109 (by decide) ?_
                  exact ih (k + 1) _ _ _ (by omega) (by omega) hW (lv_sub hl [1, 2, 3, 0] rfl)
            exact L86 (40 - 0 + 1) 0 _ _ _ (Nat.lt_succ_self _) (by omega) (by have e := hW; rw [show N = va_up N j (fil (fun _ => 0) (N j) 0) from (up_self (by funext q; exact (fil_at _ _ (Nat.zero_le q)).symm)).symm] at e; exact e) (lv_sub hl [1, 2, 3, 0] rfl)
        · refine lv_aload_n hx hb dX5_sheet_54 rfl (lv_at hl 0 rfl) ?_
          refine r_ldc hC ctX5_44 dX5_sheet_55 ?_
          refine r_callVi hC hD hW hA lkX5_73 (c_X5_finds l E (b 0) (MF b z w) (b 2) rfl F (-1000000001) 0 (by decide) (by decide)) rfl ⟨by decide, by decide, by decide, by decide⟩ [0, 1] rfl rfl rfl (fun _ => rfl) hl.1 rfl rfl (Nat.le_of_ble_eq_true rfl) dX5_sheet_57 (fun r_10 _ H locs hr_10 hW => ?_)
          have hW : Wd E A s.heap (wcat [MJ b z w, IA E (b 2) 7 (upd F 0 (F 0 + 1)), IA E (b 6) 4 B, IA E (b 7) 4 (szA Z), LA E (b 8) 160 (en4 N)]) H locs := hW
          have hr_10 : r_10 = (-1000000001) := hr_10
          subst hr_10
          exact r_iret hC hQ hD hW () (by rw [mSheet, cif_t ⟨b_2, Or.inl c_4⟩, if_neg (Int32.not_lt.mpr c_5), if_pos (Int32.not_le.mp c_6)]; first | done | rfl) (by rw [mSheet, cif_t ⟨b_2, Or.inl c_4⟩, if_neg (Int32.not_lt.mpr c_5), if_pos (Int32.not_le.mp c_6)]; first | done | rfl) rfl dX5_sheet_60
      · refine lv_aload_n hx hb dX5_sheet_40 rfl (lv_at hl 0 rfl) ?_
        refine r_ldcw hC ctX5_266 dX5_sheet_41 ?_
        refine r_callVi hC hD hW hA lkX5_73 (c_X5_finds l E (b 0) (MF b z w) (b 2) rfl F (-1000000007) 6 (by decide) (by decide)) rfl ⟨by decide, by decide, by decide, by decide⟩ [0, 1] rfl rfl rfl (fun _ => rfl) hl.1 rfl rfl (Nat.le_of_ble_eq_true rfl) dX5_sheet_44 (fun r_11 _ H locs hr_11 hW => ?_)
        have hW : Wd E A s.heap (wcat [MJ b z w, IA E (b 2) 7 (upd F 6 (F 6 + 1)), IA E (b 6) 4 B, IA E (b 7) 4 (szA Z), LA E (b 8) 160 (en4 N)]) H locs := hW
        have hr_11 : r_11 = (-1000000007) := hr_11
        subst hr_11
        exact r_iret hC hQ hD hW () (by rw [mSheet, cif_t ⟨b_2, Or.inl c_4⟩, if_pos (Int32.not_le.mp c_5)]; first | done | rfl) (by rw [mSheet, cif_t ⟨b_2, Or.inl c_4⟩, if_pos (Int32.not_le.mp c_5)]; first | done | rfl) rfl dX5_sheet_47
    · refine lv_iload_n hx hb dX5_sheet_11 rfl (lv_at hl 2 rfl) ?_
      refine lv_bipush (v := 8) hx hb dX5_sheet_12 (by decide) ?_
      refine lv_icmp_eq (tgt := 36) hx hb dX5_sheet_14 (by decide) (fun c_12 => ?_) (fun c_12 => ?_)
      · refine lv_iload_n hx hb dX5_sheet_36 rfl (lv_at hl 3 rfl) ?_
        refine lv_if_ge (tgt := 48) hx hb dX5_sheet_37 (by decide) (fun c_13 => ?_) (fun c_13 => ?_)
        · refine lv_iload_n hx hb dX5_sheet_48 rfl (lv_at hl 3 rfl) ?_
          refine lv_bipush (v := 40) hx hb dX5_sheet_49 (by decide) ?_
          refine lv_icmp_le (tgt := 61) hx hb dX5_sheet_51 (by decide) (fun c_14 => ?_) (fun c_14 => ?_)
          · obtain ⟨n, hn, rfl⟩ := rng (k := 40) (by decide) ⟨c_13, c_14⟩
            refine lv_aload_n hx hb dX5_sheet_61 rfl (lv_at hl 0 rfl) ?_
            refine r_get hC hW flX5_25 0 rfl rfl dX5_sheet_62 ?_
            refine lv_iload_n hx hb dX5_sheet_65 rfl (lv_at hl 1 rfl) ?_
            refine lv_iload_n hx hb dX5_sheet_66 rfl (lv_at hl 2 rfl) ?_
            refine r_iast (ws' := (wcat [MJ b z w, IA E (b 2) 7 F, IA E (b 6) 4 (upd B j x2), IA E (b 7) 4 (szA Z), LA E (b 8) 160 (en4 N)])) hC hD hW 2 rfl j rfl (by omega) (by decide) rfl rfl dX5_sheet_67 (fun H locs hW => ?_)
            refine lv_aload_n hx hb dX5_sheet_68 rfl (lv_at hl 0 rfl) ?_
            refine r_get hC hW flX5_28 0 rfl rfl dX5_sheet_69 ?_
            refine lv_iload_n hx hb dX5_sheet_72 rfl (lv_at hl 1 rfl) ?_
            refine lv_iload_n hx hb dX5_sheet_73 rfl (lv_at hl 2 rfl) ?_
            refine lv_if_ne (tgt := 81) hx hb dX5_sheet_74 (by decide) (fun c_15 => ?_) (fun c_15 => ?_)
            · refine lv_iload_n hx hb dX5_sheet_81 rfl (lv_at hl 3 rfl) ?_
              refine r_iast (ws' := (wcat [MJ b z w, IA E (b 2) 7 F, IA E (b 6) 4 (upd B j x2), IA E (b 7) 4 (szA (va_up Z j n)), LA E (b 8) 160 (en4 N)])) hC hD hW 3 rfl j rfl (by omega) (by decide) rfl (by rw [show upd (szA Z) j (nI n) = szA (va_up Z j n) from szA_put Z j n]; rfl) dX5_sheet_82 (fun H locs hW => ?_)
              refine lv_iconst (v := 0) hx hb dX5_sheet_83 (by decide) ?_
              refine lv_istore (lv' := [(4, .int 0), (0, .ref (b 0)), (1, .int (nI j)), (2, .int x2), (3, .int (nI n))]) hx hb dX5_sheet_84 hl (by decide) rfl (fun ls hl => ?_)
              have L86 : ∀ (n_ : Nat) (k : Nat) (H : Heap) (locs : List Loc) (ls : Array Slot), 40 - k < n_ → k ≤ 40 → Wd E A s.heap (wcat [MJ b z w, IA E (b 2) 7 F, IA E (b 6) 4 (upd B j x2), IA E (b 7) 4 (szA (va_up Z j n)), LA E (b 8) 160 (en4 (va_up N j (fil (fun _ => 0) (N j) k)))]) H locs → lv_has ls 5 [(0, .ref (b 0)), (1, .int (nI j)), (2, .int x2), (4, .int (nI k))] → W p l e R s m args below meth c H locs 0 0 Q (F0 m 86 ls []) := by
                intro n_
                induction n_ with
                | zero => intro k H locs ls hm; exact absurd hm (Nat.not_lt_zero _)
                | succ n_ ih =>
                  intro k H locs ls hm hk hW hl
                  refine lv_iload hx hb dX5_sheet_86 (lv_at hl 3 rfl) ?_
                  refine lv_bipush (v := 40) hx hb dX5_sheet_88 (by decide) ?_
                  refine lv_icmp_ge (tgt := 112) hx hb dX5_sheet_90 (by decide) (fun c_16 => ?_) (fun c_16 => ?_)
                  · have c_16 : 40 ≤ k := (nI_leI (a := 40) (b := k) (by omega) (by omega)).mp c_16
                    refine lv_aload_n hx hb dX5_sheet_112 rfl (lv_at hl 0 rfl) ?_
                    refine r_get hC hW flX5_28 0 rfl rfl dX5_sheet_113 ?_
                    refine lv_iload_n hx hb dX5_sheet_116 rfl (lv_at hl 1 rfl) ?_
                    refine r_iald hC hW 3 rfl j rfl (by omega) (by decide) dX5_sheet_117 ?_
                    refine n_top (congrArg nI (up_at Z j _)) ?_
                    exact r_iret hC hQ hD hW () (by rw [mSheet, cif_t ⟨b_2, Or.inr (Or.inl c_12)⟩, if_neg (nI_pos (by omega)), if_neg (show ¬ 40 < nI n from Int32.not_lt.mpr (nI_le (b := 40) (by omega) (by decide))), ix_nI (n := n) (by omega), if_neg c_15]; first | done | rfl) (by rw [mSheet, cif_t ⟨b_2, Or.inr (Or.inl c_12)⟩, if_neg (nI_pos (by omega)), if_neg (show ¬ 40 < nI n from Int32.not_lt.mpr (nI_le (b := 40) (by omega) (by decide))), ix_nI (n := n) (by omega), ix_nI (n := j) (by omega), if_neg c_15, show en4 (va_up N j (fil (fun _ => 0) (N j) k)) = en4 (va_up N j (fun _ => 0)) from en4_cong N j (fun q hq => if_pos (by omega))]; first | done | rfl) rfl dX5_sheet_118
                  · have c_16 : ¬ 40 ≤ k := fun z_ => c_16 ((nI_leI (a := 40) (b := k) (by omega) (by omega)).mpr z_)
                    refine lv_aload_n hx hb dX5_sheet_93 rfl (lv_at hl 0 rfl) ?_
                    refine r_get hC hW flX5_31 0 rfl rfl dX5_sheet_94 ?_
                    refine lv_bipush (v := 40) hx hb dX5_sheet_97 (by decide) ?_
                    refine lv_iload_n hx hb dX5_sheet_99 rfl (lv_at hl 1 rfl) ?_
                    refine n_imul (v := (nI (40 * j))) hx hb dX5_sheet_100 (pk_mul 40 j) ?_
                    refine lv_iload hx hb dX5_sheet_101 (lv_at hl 3 rfl) ?_
                    refine n_iadd (v := (nI (40 * j + k))) hx hb dX5_sheet_103 (nI_add (40 * j) k) ?_
                    refine lv_lconst (v := 0) hx hb dX5_sheet_104 (by decide) ?_
                    refine r_last (ws' := (wcat [MJ b z w, IA E (b 2) 7 F, IA E (b 6) 4 (upd B j x2), IA E (b 7) 4 (szA (va_up Z j n)), LA E (b 8) 160 (en4 (va_up N j (fil (fun _ => 0) (N j) (k + 1))))])) hC hD hW 4 rfl (40 * j + k) rfl (by omega) (by decide) rfl (by rw [en4_put _ (by omega), up_at, show vp_updL (fil (fun _ => 0) (N j) k) k 0 = fil (fun _ => 0) (N j) (k + 1) from fil_putL (fun _ => 0) (N j) k, upup]; rfl) dX5_sheet_105 (fun H locs hW => ?_)
                    refine lv_iinc (v := (nI (k + 1))) (lv' := [(4, .int (nI (k + 1))), (0, .ref (b 0)), (1, .int (nI j)), (2, .int x2)]) (k := 3) hx hb dX5_sheet_106 hl rfl (nI_inc k 1) (by decide) rfl (fun ls hl => ?_)
                    refine lv_goto (tgt := 86) hx hb dX5_sheet_109 (by decide) ?_
                    exact ih (k + 1) _ _ _ (by omega) (by omega) hW (lv_sub hl [1, 2, 3, 0] rfl)
              exact L86 (40 - 0 + 1) 0 _ _ _ (Nat.lt_succ_self _) (by omega) (by have e := hW; rw [show N = va_up N j (fil (fun _ => 0) (N j) 0) from (up_self (by funext q; exact (fil_at _ _ (Nat.zero_le q)).symm)).symm] at e; exact e) (lv_sub hl [1, 2, 3, 0] rfl)
            · refine lv_iconst (v := 0) hx hb dX5_sheet_77 (by decide) ?_
              refine lv_goto (tgt := 82) hx hb dX5_sheet_78 (by decide) ?_
              refine r_iast (ws' := (wcat [MJ b z w, IA E (b 2) 7 F, IA E (b 6) 4 (upd B j x2), IA E (b 7) 4 (szA (va_up Z j 0)), LA E (b 8) 160 (en4 N)])) hC hD hW 3 rfl j rfl (by omega) (by decide) rfl (by rw [show upd (szA Z) j 0 = szA (va_up Z j 0) from szA_put Z j 0]; rfl) dX5_sheet_82 (fun H locs hW => ?_)
              refine lv_iconst (v := 0) hx hb dX5_sheet_83 (by decide) ?_
              refine lv_istore (lv' := [(4, .int 0), (0, .ref (b 0)), (1, .int (nI j)), (2, .int x2), (3, .int (nI n))]) hx hb dX5_sheet_84 hl (by decide) rfl (fun ls hl => ?_)
              have L86 : ∀ (n_ : Nat) (k : Nat) (H : Heap) (locs : List Loc) (ls : Array Slot), 40 - k < n_ → k ≤ 40 → Wd E A s.heap (wcat [MJ b z w, IA E (b 2) 7 F, IA E (b 6) 4 (upd B j x2), IA E (b 7) 4 (szA (va_up Z j 0)), LA E (b 8) 160 (en4 (va_up N j (fil (fun _ => 0) (N j) k)))]) H locs → lv_has ls 5 [(0, .ref (b 0)), (1, .int (nI j)), (2, .int x2), (4, .int (nI k))] → W p l e R s m args below meth c H locs 0 0 Q (F0 m 86 ls []) := by
                intro n_
                induction n_ with
                | zero => intro k H locs ls hm; exact absurd hm (Nat.not_lt_zero _)
                | succ n_ ih =>
                  intro k H locs ls hm hk hW hl
                  refine lv_iload hx hb dX5_sheet_86 (lv_at hl 3 rfl) ?_
                  refine lv_bipush (v := 40) hx hb dX5_sheet_88 (by decide) ?_
                  refine lv_icmp_ge (tgt := 112) hx hb dX5_sheet_90 (by decide) (fun c_17 => ?_) (fun c_17 => ?_)
                  · have c_17 : 40 ≤ k := (nI_leI (a := 40) (b := k) (by omega) (by omega)).mp c_17
                    refine lv_aload_n hx hb dX5_sheet_112 rfl (lv_at hl 0 rfl) ?_
                    refine r_get hC hW flX5_28 0 rfl rfl dX5_sheet_113 ?_
                    refine lv_iload_n hx hb dX5_sheet_116 rfl (lv_at hl 1 rfl) ?_
                    refine r_iald hC hW 3 rfl j rfl (by omega) (by decide) dX5_sheet_117 ?_
                    refine n_top (congrArg nI (up_at Z j _)) ?_
                    exact r_iret hC hQ hD hW () (by rw [mSheet, cif_t ⟨b_2, Or.inr (Or.inl c_12)⟩, if_neg (nI_pos (by omega)), if_neg (show ¬ 40 < nI n from Int32.not_lt.mpr (nI_le (b := 40) (by omega) (by decide))), ix_nI (n := n) (by omega), if_pos c_15]; first | done | rfl) (by rw [mSheet, cif_t ⟨b_2, Or.inr (Or.inl c_12)⟩, if_neg (nI_pos (by omega)), if_neg (show ¬ 40 < nI n from Int32.not_lt.mpr (nI_le (b := 40) (by omega) (by decide))), ix_nI (n := n) (by omega), ix_nI (n := j) (by omega), if_pos c_15, show en4 (va_up N j (fil (fun _ => 0) (N j) k)) = en4 (va_up N j (fun _ => 0)) from en4_cong N j (fun q hq => if_pos (by omega))]; first | done | rfl) rfl dX5_sheet_118
                  · have c_17 : ¬ 40 ≤ k := fun z_ => c_17 ((nI_leI (a := 40) (b := k) (by omega) (by omega)).mpr z_)
                    refine lv_aload_n hx hb dX5_sheet_93 rfl (lv_at hl 0 rfl) ?_
                    refine r_get hC hW flX5_31 0 rfl rfl dX5_sheet_94 ?_
                    refine lv_bipush (v := 40) hx hb dX5_sheet_97 (by decide) ?_
                    refine lv_iload_n hx hb dX5_sheet_99 rfl (lv_at hl 1 rfl) ?_
                    refine n_imul (v := (nI (40 * j))) hx hb dX5_sheet_100 (pk_mul 40 j) ?_
                    refine lv_iload hx hb dX5_sheet_101 (lv_at hl 3 rfl) ?_
                    refine n_iadd (v := (nI (40 * j + k))) hx hb dX5_sheet_103 (nI_add (40 * j) k) ?_
                    refine lv_lconst (v := 0) hx hb dX5_sheet_104 (by decide) ?_
                    refine r_last (ws' := (wcat [MJ b z w, IA E (b 2) 7 F, IA E (b 6) 4 (upd B j x2), IA E (b 7) 4 (szA (va_up Z j 0)), LA E (b 8) 160 (en4 (va_up N j (fil (fun _ => 0) (N j) (k + 1))))])) hC hD hW 4 rfl (40 * j + k) rfl (by omega) (by decide) rfl (by rw [en4_put _ (by omega), up_at, show vp_updL (fil (fun _ => 0) (N j) k) k 0 = fil (fun _ => 0) (N j) (k + 1) from fil_putL (fun _ => 0) (N j) k, upup]; rfl) dX5_sheet_105 (fun H locs hW => ?_)
                    refine lv_iinc (v := (nI (k + 1))) (lv' := [(4, .int (nI (k + 1))), (0, .ref (b 0)), (1, .int (nI j)), (2, .int x2)]) (k := 3) hx hb dX5_sheet_106 hl rfl (nI_inc k 1) (by decide) rfl (fun ls hl => ?_)
                    refine lv_goto (tgt := 86) hx hb dX5_sheet_109 (by decide) ?_
                    exact ih (k + 1) _ _ _ (by omega) (by omega) hW (lv_sub hl [1, 2, 3, 0] rfl)
              exact L86 (40 - 0 + 1) 0 _ _ _ (Nat.lt_succ_self _) (by omega) (by have e := hW; rw [show N = va_up N j (fil (fun _ => 0) (N j) 0) from (up_self (by funext q; exact (fil_at _ _ (Nat.zero_le q)).symm)).symm] at e; exact e) (lv_sub hl [1, 2, 3, 0] rfl)
          · refine lv_aload_n hx hb dX5_sheet_54 rfl (lv_at hl 0 rfl) ?_
            refine r_ldc hC ctX5_44 dX5_sheet_55 ?_
            refine r_callVi hC hD hW hA lkX5_73 (c_X5_finds l E (b 0) (MF b z w) (b 2) rfl F (-1000000001) 0 (by decide) (by decide)) rfl ⟨by decide, by decide, by decide, by decide⟩ [0, 1] rfl rfl rfl (fun _ => rfl) hl.1 rfl rfl (Nat.le_of_ble_eq_true rfl) dX5_sheet_57 (fun r_18 _ H locs hr_18 hW => ?_)
            have hW : Wd E A s.heap (wcat [MJ b z w, IA E (b 2) 7 (upd F 0 (F 0 + 1)), IA E (b 6) 4 B, IA E (b 7) 4 (szA Z), LA E (b 8) 160 (en4 N)]) H locs := hW
            have hr_18 : r_18 = (-1000000001) := hr_18
            subst hr_18
            exact r_iret hC hQ hD hW () (by rw [mSheet, cif_t ⟨b_2, Or.inr (Or.inl c_12)⟩, if_neg (Int32.not_lt.mpr c_13), if_pos (Int32.not_le.mp c_14)]; first | done | rfl) (by rw [mSheet, cif_t ⟨b_2, Or.inr (Or.inl c_12)⟩, if_neg (Int32.not_lt.mpr c_13), if_pos (Int32.not_le.mp c_14)]; first | done | rfl) rfl dX5_sheet_60
        · refine lv_aload_n hx hb dX5_sheet_40 rfl (lv_at hl 0 rfl) ?_
          refine r_ldcw hC ctX5_266 dX5_sheet_41 ?_
          refine r_callVi hC hD hW hA lkX5_73 (c_X5_finds l E (b 0) (MF b z w) (b 2) rfl F (-1000000007) 6 (by decide) (by decide)) rfl ⟨by decide, by decide, by decide, by decide⟩ [0, 1] rfl rfl rfl (fun _ => rfl) hl.1 rfl rfl (Nat.le_of_ble_eq_true rfl) dX5_sheet_44 (fun r_19 _ H locs hr_19 hW => ?_)
          have hW : Wd E A s.heap (wcat [MJ b z w, IA E (b 2) 7 (upd F 6 (F 6 + 1)), IA E (b 6) 4 B, IA E (b 7) 4 (szA Z), LA E (b 8) 160 (en4 N)]) H locs := hW
          have hr_19 : r_19 = (-1000000007) := hr_19
          subst hr_19
          exact r_iret hC hQ hD hW () (by rw [mSheet, cif_t ⟨b_2, Or.inr (Or.inl c_12)⟩, if_pos (Int32.not_le.mp c_13)]; first | done | rfl) (by rw [mSheet, cif_t ⟨b_2, Or.inr (Or.inl c_12)⟩, if_pos (Int32.not_le.mp c_13)]; first | done | rfl) rfl dX5_sheet_47
      · refine lv_iload_n hx hb dX5_sheet_17 rfl (lv_at hl 2 rfl) ?_
        refine lv_bipush (v := 16) hx hb dX5_sheet_18 (by decide) ?_
        refine lv_icmp_eq (tgt := 36) hx hb dX5_sheet_20 (by decide) (fun c_20 => ?_) (fun c_20 => ?_)
        · refine lv_iload_n hx hb dX5_sheet_36 rfl (lv_at hl 3 rfl) ?_
          refine lv_if_ge (tgt := 48) hx hb dX5_sheet_37 (by decide) (fun c_21 => ?_) (fun c_21 => ?_)
          · refine lv_iload_n hx hb dX5_sheet_48 rfl (lv_at hl 3 rfl) ?_
            refine lv_bipush (v := 40) hx hb dX5_sheet_49 (by decide) ?_
            refine lv_icmp_le (tgt := 61) hx hb dX5_sheet_51 (by decide) (fun c_22 => ?_) (fun c_22 => ?_)
            · obtain ⟨n, hn, rfl⟩ := rng (k := 40) (by decide) ⟨c_21, c_22⟩
              refine lv_aload_n hx hb dX5_sheet_61 rfl (lv_at hl 0 rfl) ?_
              refine r_get hC hW flX5_25 0 rfl rfl dX5_sheet_62 ?_
              refine lv_iload_n hx hb dX5_sheet_65 rfl (lv_at hl 1 rfl) ?_
              refine lv_iload_n hx hb dX5_sheet_66 rfl (lv_at hl 2 rfl) ?_
              refine r_iast (ws' := (wcat [MJ b z w, IA E (b 2) 7 F, IA E (b 6) 4 (upd B j x2), IA E (b 7) 4 (szA Z), LA E (b 8) 160 (en4 N)])) hC hD hW 2 rfl j rfl (by omega) (by decide) rfl rfl dX5_sheet_67 (fun H locs hW => ?_)
              refine lv_aload_n hx hb dX5_sheet_68 rfl (lv_at hl 0 rfl) ?_
              refine r_get hC hW flX5_28 0 rfl rfl dX5_sheet_69 ?_
              refine lv_iload_n hx hb dX5_sheet_72 rfl (lv_at hl 1 rfl) ?_
              refine lv_iload_n hx hb dX5_sheet_73 rfl (lv_at hl 2 rfl) ?_
              refine lv_if_ne (tgt := 81) hx hb dX5_sheet_74 (by decide) (fun c_23 => ?_) (fun c_23 => ?_)
              · refine lv_iload_n hx hb dX5_sheet_81 rfl (lv_at hl 3 rfl) ?_
                refine r_iast (ws' := (wcat [MJ b z w, IA E (b 2) 7 F, IA E (b 6) 4 (upd B j x2), IA E (b 7) 4 (szA (va_up Z j n)), LA E (b 8) 160 (en4 N)])) hC hD hW 3 rfl j rfl (by omega) (by decide) rfl (by rw [show upd (szA Z) j (nI n) = szA (va_up Z j n) from szA_put Z j n]; rfl) dX5_sheet_82 (fun H locs hW => ?_)
                refine lv_iconst (v := 0) hx hb dX5_sheet_83 (by decide) ?_
                refine lv_istore (lv' := [(4, .int 0), (0, .ref (b 0)), (1, .int (nI j)), (2, .int x2), (3, .int (nI n))]) hx hb dX5_sheet_84 hl (by decide) rfl (fun ls hl => ?_)
                have L86 : ∀ (n_ : Nat) (k : Nat) (H : Heap) (locs : List Loc) (ls : Array Slot), 40 - k < n_ → k ≤ 40 → Wd E A s.heap (wcat [MJ b z w, IA E (b 2) 7 F, IA E (b 6) 4 (upd B j x2), IA E (b 7) 4 (szA (va_up Z j n)), LA E (b 8) 160 (en4 (va_up N j (fil (fun _ => 0) (N j) k)))]) H locs → lv_has ls 5 [(0, .ref (b 0)), (1, .int (nI j)), (2, .int x2), (4, .int (nI k))] → W p l e R s m args below meth c H locs 0 0 Q (F0 m 86 ls []) := by
                  intro n_
                  induction n_ with
                  | zero => intro k H locs ls hm; exact absurd hm (Nat.not_lt_zero _)
                  | succ n_ ih =>
                    intro k H locs ls hm hk hW hl
                    refine lv_iload hx hb dX5_sheet_86 (lv_at hl 3 rfl) ?_
                    refine lv_bipush (v := 40) hx hb dX5_sheet_88 (by decide) ?_
                    refine lv_icmp_ge (tgt := 112) hx hb dX5_sheet_90 (by decide) (fun c_24 => ?_) (fun c_24 => ?_)
                    · have c_24 : 40 ≤ k := (nI_leI (a := 40) (b := k) (by omega) (by omega)).mp c_24
                      refine lv_aload_n hx hb dX5_sheet_112 rfl (lv_at hl 0 rfl) ?_
                      refine r_get hC hW flX5_28 0 rfl rfl dX5_sheet_113 ?_
                      refine lv_iload_n hx hb dX5_sheet_116 rfl (lv_at hl 1 rfl) ?_
                      refine r_iald hC hW 3 rfl j rfl (by omega) (by decide) dX5_sheet_117 ?_
                      refine n_top (congrArg nI (up_at Z j _)) ?_
                      exact r_iret hC hQ hD hW () (by rw [mSheet, cif_t ⟨b_2, Or.inr (Or.inr (Or.inl c_20))⟩, if_neg (nI_pos (by omega)), if_neg (show ¬ 40 < nI n from Int32.not_lt.mpr (nI_le (b := 40) (by omega) (by decide))), ix_nI (n := n) (by omega), if_neg c_23]; first | done | rfl) (by rw [mSheet, cif_t ⟨b_2, Or.inr (Or.inr (Or.inl c_20))⟩, if_neg (nI_pos (by omega)), if_neg (show ¬ 40 < nI n from Int32.not_lt.mpr (nI_le (b := 40) (by omega) (by decide))), ix_nI (n := n) (by omega), ix_nI (n := j) (by omega), if_neg c_23, show en4 (va_up N j (fil (fun _ => 0) (N j) k)) = en4 (va_up N j (fun _ => 0)) from en4_cong N j (fun q hq => if_pos (by omega))]; first | done | rfl) rfl dX5_sheet_118
                    · have c_24 : ¬ 40 ≤ k := fun z_ => c_24 ((nI_leI (a := 40) (b := k) (by omega) (by omega)).mpr z_)
                      refine lv_aload_n hx hb dX5_sheet_93 rfl (lv_at hl 0 rfl) ?_
                      refine r_get hC hW flX5_31 0 rfl rfl dX5_sheet_94 ?_
                      refine lv_bipush (v := 40) hx hb dX5_sheet_97 (by decide) ?_
                      refine lv_iload_n hx hb dX5_sheet_99 rfl (lv_at hl 1 rfl) ?_
                      refine n_imul (v := (nI (40 * j))) hx hb dX5_sheet_100 (pk_mul 40 j) ?_
                      refine lv_iload hx hb dX5_sheet_101 (lv_at hl 3 rfl) ?_
                      refine n_iadd (v := (nI (40 * j + k))) hx hb dX5_sheet_103 (nI_add (40 * j) k) ?_
                      refine lv_lconst (v := 0) hx hb dX5_sheet_104 (by decide) ?_
                      refine r_last (ws' := (wcat [MJ b z w, IA E (b 2) 7 F, IA E (b 6) 4 (upd B j x2), IA E (b 7) 4 (szA (va_up Z j n)), LA E (b 8) 160 (en4 (va_up N j (fil (fun _ => 0) (N j) (k + 1))))])) hC hD hW 4 rfl (40 * j + k) rfl (by omega) (by decide) rfl (by rw [en4_put _ (by omega), up_at, show vp_updL (fil (fun _ => 0) (N j) k) k 0 = fil (fun _ => 0) (N j) (k + 1) from fil_putL (fun _ => 0) (N j) k, upup]; rfl) dX5_sheet_105 (fun H locs hW => ?_)
                      refine lv_iinc (v := (nI (k + 1))) (lv' := [(4, .int (nI (k + 1))), (0, .ref (b 0)), (1, .int (nI j)), (2, .int x2)]) (k := 3) hx hb dX5_sheet_106 hl rfl (nI_inc k 1) (by decide) rfl (fun ls hl => ?_)
                      refine lv_goto (tgt := 86) hx hb dX5_sheet_109 (by decide) ?_
                      exact ih (k + 1) _ _ _ (by omega) (by omega) hW (lv_sub hl [1, 2, 3, 0] rfl)
                exact L86 (40 - 0 + 1) 0 _ _ _ (Nat.lt_succ_self _) (by omega) (by have e := hW; rw [show N = va_up N j (fil (fun _ => 0) (N j) 0) from (up_self (by funext q; exact (fil_at _ _ (Nat.zero_le q)).symm)).symm] at e; exact e) (lv_sub hl [1, 2, 3, 0] rfl)
              · refine lv_iconst (v := 0) hx hb dX5_sheet_77 (by decide) ?_
                refine lv_goto (tgt := 82) hx hb dX5_sheet_78 (by decide) ?_
                refine r_iast (ws' := (wcat [MJ b z w, IA E (b 2) 7 F, IA E (b 6) 4 (upd B j x2), IA E (b 7) 4 (szA (va_up Z j 0)), LA E (b 8) 160 (en4 N)])) hC hD hW 3 rfl j rfl (by omega) (by decide) rfl (by rw [show upd (szA Z) j 0 = szA (va_up Z j 0) from szA_put Z j 0]; rfl) dX5_sheet_82 (fun H locs hW => ?_)
                refine lv_iconst (v := 0) hx hb dX5_sheet_83 (by decide) ?_
                refine lv_istore (lv' := [(4, .int 0), (0, .ref (b 0)), (1, .int (nI j)), (2, .int x2), (3, .int (nI n))]) hx hb dX5_sheet_84 hl (by decide) rfl (fun ls hl => ?_)
                have L86 : ∀ (n_ : Nat) (k : Nat) (H : Heap) (locs : List Loc) (ls : Array Slot), 40 - k < n_ → k ≤ 40 → Wd E A s.heap (wcat [MJ b z w, IA E (b 2) 7 F, IA E (b 6) 4 (upd B j x2), IA E (b 7) 4 (szA (va_up Z j 0)), LA E (b 8) 160 (en4 (va_up N j (fil (fun _ => 0) (N j) k)))]) H locs → lv_has ls 5 [(0, .ref (b 0)), (1, .int (nI j)), (2, .int x2), (4, .int (nI k))] → W p l e R s m args below meth c H locs 0 0 Q (F0 m 86 ls []) := by
                  intro n_
                  induction n_ with
                  | zero => intro k H locs ls hm; exact absurd hm (Nat.not_lt_zero _)
                  | succ n_ ih =>
                    intro k H locs ls hm hk hW hl
                    refine lv_iload hx hb dX5_sheet_86 (lv_at hl 3 rfl) ?_
                    refine lv_bipush (v := 40) hx hb dX5_sheet_88 (by decide) ?_
                    refine lv_icmp_ge (tgt := 112) hx hb dX5_sheet_90 (by decide) (fun c_25 => ?_) (fun c_25 => ?_)
                    · have c_25 : 40 ≤ k := (nI_leI (a := 40) (b := k) (by omega) (by omega)).mp c_25
                      refine lv_aload_n hx hb dX5_sheet_112 rfl (lv_at hl 0 rfl) ?_
                      refine r_get hC hW flX5_28 0 rfl rfl dX5_sheet_113 ?_
                      refine lv_iload_n hx hb dX5_sheet_116 rfl (lv_at hl 1 rfl) ?_
                      refine r_iald hC hW 3 rfl j rfl (by omega) (by decide) dX5_sheet_117 ?_
                      refine n_top (congrArg nI (up_at Z j _)) ?_
                      exact r_iret hC hQ hD hW () (by rw [mSheet, cif_t ⟨b_2, Or.inr (Or.inr (Or.inl c_20))⟩, if_neg (nI_pos (by omega)), if_neg (show ¬ 40 < nI n from Int32.not_lt.mpr (nI_le (b := 40) (by omega) (by decide))), ix_nI (n := n) (by omega), if_pos c_23]; first | done | rfl) (by rw [mSheet, cif_t ⟨b_2, Or.inr (Or.inr (Or.inl c_20))⟩, if_neg (nI_pos (by omega)), if_neg (show ¬ 40 < nI n from Int32.not_lt.mpr (nI_le (b := 40) (by omega) (by decide))), ix_nI (n := n) (by omega), ix_nI (n := j) (by omega), if_pos c_23, show en4 (va_up N j (fil (fun _ => 0) (N j) k)) = en4 (va_up N j (fun _ => 0)) from en4_cong N j (fun q hq => if_pos (by omega))]; first | done | rfl) rfl dX5_sheet_118
                    · have c_25 : ¬ 40 ≤ k := fun z_ => c_25 ((nI_leI (a := 40) (b := k) (by omega) (by omega)).mpr z_)
                      refine lv_aload_n hx hb dX5_sheet_93 rfl (lv_at hl 0 rfl) ?_
                      refine r_get hC hW flX5_31 0 rfl rfl dX5_sheet_94 ?_
                      refine lv_bipush (v := 40) hx hb dX5_sheet_97 (by decide) ?_
                      refine lv_iload_n hx hb dX5_sheet_99 rfl (lv_at hl 1 rfl) ?_
                      refine n_imul (v := (nI (40 * j))) hx hb dX5_sheet_100 (pk_mul 40 j) ?_
                      refine lv_iload hx hb dX5_sheet_101 (lv_at hl 3 rfl) ?_
                      refine n_iadd (v := (nI (40 * j + k))) hx hb dX5_sheet_103 (nI_add (40 * j) k) ?_
                      refine lv_lconst (v := 0) hx hb dX5_sheet_104 (by decide) ?_
                      refine r_last (ws' := (wcat [MJ b z w, IA E (b 2) 7 F, IA E (b 6) 4 (upd B j x2), IA E (b 7) 4 (szA (va_up Z j 0)), LA E (b 8) 160 (en4 (va_up N j (fil (fun _ => 0) (N j) (k + 1))))])) hC hD hW 4 rfl (40 * j + k) rfl (by omega) (by decide) rfl (by rw [en4_put _ (by omega), up_at, show vp_updL (fil (fun _ => 0) (N j) k) k 0 = fil (fun _ => 0) (N j) (k + 1) from fil_putL (fun _ => 0) (N j) k, upup]; rfl) dX5_sheet_105 (fun H locs hW => ?_)
                      refine lv_iinc (v := (nI (k + 1))) (lv' := [(4, .int (nI (k + 1))), (0, .ref (b 0)), (1, .int (nI j)), (2, .int x2)]) (k := 3) hx hb dX5_sheet_106 hl rfl (nI_inc k 1) (by decide) rfl (fun ls hl => ?_)
                      refine lv_goto (tgt := 86) hx hb dX5_sheet_109 (by decide) ?_
                      exact ih (k + 1) _ _ _ (by omega) (by omega) hW (lv_sub hl [1, 2, 3, 0] rfl)
                exact L86 (40 - 0 + 1) 0 _ _ _ (Nat.lt_succ_self _) (by omega) (by have e := hW; rw [show N = va_up N j (fil (fun _ => 0) (N j) 0) from (up_self (by funext q; exact (fil_at _ _ (Nat.zero_le q)).symm)).symm] at e; exact e) (lv_sub hl [1, 2, 3, 0] rfl)
            · refine lv_aload_n hx hb dX5_sheet_54 rfl (lv_at hl 0 rfl) ?_
              refine r_ldc hC ctX5_44 dX5_sheet_55 ?_
              refine r_callVi hC hD hW hA lkX5_73 (c_X5_finds l E (b 0) (MF b z w) (b 2) rfl F (-1000000001) 0 (by decide) (by decide)) rfl ⟨by decide, by decide, by decide, by decide⟩ [0, 1] rfl rfl rfl (fun _ => rfl) hl.1 rfl rfl (Nat.le_of_ble_eq_true rfl) dX5_sheet_57 (fun r_26 _ H locs hr_26 hW => ?_)
              have hW : Wd E A s.heap (wcat [MJ b z w, IA E (b 2) 7 (upd F 0 (F 0 + 1)), IA E (b 6) 4 B, IA E (b 7) 4 (szA Z), LA E (b 8) 160 (en4 N)]) H locs := hW
              have hr_26 : r_26 = (-1000000001) := hr_26
              subst hr_26
              exact r_iret hC hQ hD hW () (by rw [mSheet, cif_t ⟨b_2, Or.inr (Or.inr (Or.inl c_20))⟩, if_neg (Int32.not_lt.mpr c_21), if_pos (Int32.not_le.mp c_22)]; first | done | rfl) (by rw [mSheet, cif_t ⟨b_2, Or.inr (Or.inr (Or.inl c_20))⟩, if_neg (Int32.not_lt.mpr c_21), if_pos (Int32.not_le.mp c_22)]; first | done | rfl) rfl dX5_sheet_60
          · refine lv_aload_n hx hb dX5_sheet_40 rfl (lv_at hl 0 rfl) ?_
            refine r_ldcw hC ctX5_266 dX5_sheet_41 ?_
            refine r_callVi hC hD hW hA lkX5_73 (c_X5_finds l E (b 0) (MF b z w) (b 2) rfl F (-1000000007) 6 (by decide) (by decide)) rfl ⟨by decide, by decide, by decide, by decide⟩ [0, 1] rfl rfl rfl (fun _ => rfl) hl.1 rfl rfl (Nat.le_of_ble_eq_true rfl) dX5_sheet_44 (fun r_27 _ H locs hr_27 hW => ?_)
            have hW : Wd E A s.heap (wcat [MJ b z w, IA E (b 2) 7 (upd F 6 (F 6 + 1)), IA E (b 6) 4 B, IA E (b 7) 4 (szA Z), LA E (b 8) 160 (en4 N)]) H locs := hW
            have hr_27 : r_27 = (-1000000007) := hr_27
            subst hr_27
            exact r_iret hC hQ hD hW () (by rw [mSheet, cif_t ⟨b_2, Or.inr (Or.inr (Or.inl c_20))⟩, if_pos (Int32.not_le.mp c_21)]; first | done | rfl) (by rw [mSheet, cif_t ⟨b_2, Or.inr (Or.inr (Or.inl c_20))⟩, if_pos (Int32.not_le.mp c_21)]; first | done | rfl) rfl dX5_sheet_47
        · refine lv_iload_n hx hb dX5_sheet_23 rfl (lv_at hl 2 rfl) ?_
          refine lv_bipush (v := 64) hx hb dX5_sheet_24 (by decide) ?_
          refine lv_icmp_eq (tgt := 36) hx hb dX5_sheet_26 (by decide) (fun c_28 => ?_) (fun c_28 => ?_)
          · refine lv_iload_n hx hb dX5_sheet_36 rfl (lv_at hl 3 rfl) ?_
            refine lv_if_ge (tgt := 48) hx hb dX5_sheet_37 (by decide) (fun c_29 => ?_) (fun c_29 => ?_)
            · refine lv_iload_n hx hb dX5_sheet_48 rfl (lv_at hl 3 rfl) ?_
              refine lv_bipush (v := 40) hx hb dX5_sheet_49 (by decide) ?_
              refine lv_icmp_le (tgt := 61) hx hb dX5_sheet_51 (by decide) (fun c_30 => ?_) (fun c_30 => ?_)
              · obtain ⟨n, hn, rfl⟩ := rng (k := 40) (by decide) ⟨c_29, c_30⟩
                refine lv_aload_n hx hb dX5_sheet_61 rfl (lv_at hl 0 rfl) ?_
                refine r_get hC hW flX5_25 0 rfl rfl dX5_sheet_62 ?_
                refine lv_iload_n hx hb dX5_sheet_65 rfl (lv_at hl 1 rfl) ?_
                refine lv_iload_n hx hb dX5_sheet_66 rfl (lv_at hl 2 rfl) ?_
                refine r_iast (ws' := (wcat [MJ b z w, IA E (b 2) 7 F, IA E (b 6) 4 (upd B j x2), IA E (b 7) 4 (szA Z), LA E (b 8) 160 (en4 N)])) hC hD hW 2 rfl j rfl (by omega) (by decide) rfl rfl dX5_sheet_67 (fun H locs hW => ?_)
                refine lv_aload_n hx hb dX5_sheet_68 rfl (lv_at hl 0 rfl) ?_
                refine r_get hC hW flX5_28 0 rfl rfl dX5_sheet_69 ?_
                refine lv_iload_n hx hb dX5_sheet_72 rfl (lv_at hl 1 rfl) ?_
                refine lv_iload_n hx hb dX5_sheet_73 rfl (lv_at hl 2 rfl) ?_
                refine lv_if_ne (tgt := 81) hx hb dX5_sheet_74 (by decide) (fun c_31 => ?_) (fun c_31 => ?_)
                · refine lv_iload_n hx hb dX5_sheet_81 rfl (lv_at hl 3 rfl) ?_
                  refine r_iast (ws' := (wcat [MJ b z w, IA E (b 2) 7 F, IA E (b 6) 4 (upd B j x2), IA E (b 7) 4 (szA (va_up Z j n)), LA E (b 8) 160 (en4 N)])) hC hD hW 3 rfl j rfl (by omega) (by decide) rfl (by rw [show upd (szA Z) j (nI n) = szA (va_up Z j n) from szA_put Z j n]; rfl) dX5_sheet_82 (fun H locs hW => ?_)
                  refine lv_iconst (v := 0) hx hb dX5_sheet_83 (by decide) ?_
                  refine lv_istore (lv' := [(4, .int 0), (0, .ref (b 0)), (1, .int (nI j)), (2, .int x2), (3, .int (nI n))]) hx hb dX5_sheet_84 hl (by decide) rfl (fun ls hl => ?_)
                  have L86 : ∀ (n_ : Nat) (k : Nat) (H : Heap) (locs : List Loc) (ls : Array Slot), 40 - k < n_ → k ≤ 40 → Wd E A s.heap (wcat [MJ b z w, IA E (b 2) 7 F, IA E (b 6) 4 (upd B j x2), IA E (b 7) 4 (szA (va_up Z j n)), LA E (b 8) 160 (en4 (va_up N j (fil (fun _ => 0) (N j) k)))]) H locs → lv_has ls 5 [(0, .ref (b 0)), (1, .int (nI j)), (2, .int x2), (4, .int (nI k))] → W p l e R s m args below meth c H locs 0 0 Q (F0 m 86 ls []) := by
                    intro n_
                    induction n_ with
                    | zero => intro k H locs ls hm; exact absurd hm (Nat.not_lt_zero _)
                    | succ n_ ih =>
                      intro k H locs ls hm hk hW hl
                      refine lv_iload hx hb dX5_sheet_86 (lv_at hl 3 rfl) ?_
                      refine lv_bipush (v := 40) hx hb dX5_sheet_88 (by decide) ?_
                      refine lv_icmp_ge (tgt := 112) hx hb dX5_sheet_90 (by decide) (fun c_32 => ?_) (fun c_32 => ?_)
                      · have c_32 : 40 ≤ k := (nI_leI (a := 40) (b := k) (by omega) (by omega)).mp c_32
                        refine lv_aload_n hx hb dX5_sheet_112 rfl (lv_at hl 0 rfl) ?_
                        refine r_get hC hW flX5_28 0 rfl rfl dX5_sheet_113 ?_
                        refine lv_iload_n hx hb dX5_sheet_116 rfl (lv_at hl 1 rfl) ?_
                        refine r_iald hC hW 3 rfl j rfl (by omega) (by decide) dX5_sheet_117 ?_
                        refine n_top (congrArg nI (up_at Z j _)) ?_
                        exact r_iret hC hQ hD hW () (by rw [mSheet, cif_t ⟨b_2, Or.inr (Or.inr (Or.inr c_28))⟩, if_neg (nI_pos (by omega)), if_neg (show ¬ 40 < nI n from Int32.not_lt.mpr (nI_le (b := 40) (by omega) (by decide))), ix_nI (n := n) (by omega), if_neg c_31]; first | done | rfl) (by rw [mSheet, cif_t ⟨b_2, Or.inr (Or.inr (Or.inr c_28))⟩, if_neg (nI_pos (by omega)), if_neg (show ¬ 40 < nI n from Int32.not_lt.mpr (nI_le (b := 40) (by omega) (by decide))), ix_nI (n := n) (by omega), ix_nI (n := j) (by omega), if_neg c_31, show en4 (va_up N j (fil (fun _ => 0) (N j) k)) = en4 (va_up N j (fun _ => 0)) from en4_cong N j (fun q hq => if_pos (by omega))]; first | done | rfl) rfl dX5_sheet_118
                      · have c_32 : ¬ 40 ≤ k := fun z_ => c_32 ((nI_leI (a := 40) (b := k) (by omega) (by omega)).mpr z_)
                        refine lv_aload_n hx hb dX5_sheet_93 rfl (lv_at hl 0 rfl) ?_
                        refine r_get hC hW flX5_31 0 rfl rfl dX5_sheet_94 ?_
                        refine lv_bipush (v := 40) hx hb dX5_sheet_97 (by decide) ?_
                        refine lv_iload_n hx hb dX5_sheet_99 rfl (lv_at hl 1 rfl) ?_
                        refine n_imul (v := (nI (40 * j))) hx hb dX5_sheet_100 (pk_mul 40 j) ?_
                        refine lv_iload hx hb dX5_sheet_101 (lv_at hl 3 rfl) ?_
                        refine n_iadd (v := (nI (40 * j + k))) hx hb dX5_sheet_103 (nI_add (40 * j) k) ?_
                        refine lv_lconst (v := 0) hx hb dX5_sheet_104 (by decide) ?_
                        refine r_last (ws' := (wcat [MJ b z w, IA E (b 2) 7 F, IA E (b 6) 4 (upd B j x2), IA E (b 7) 4 (szA (va_up Z j n)), LA E (b 8) 160 (en4 (va_up N j (fil (fun _ => 0) (N j) (k + 1))))])) hC hD hW 4 rfl (40 * j + k) rfl (by omega) (by decide) rfl (by rw [en4_put _ (by omega), up_at, show vp_updL (fil (fun _ => 0) (N j) k) k 0 = fil (fun _ => 0) (N j) (k + 1) from fil_putL (fun _ => 0) (N j) k, upup]; rfl) dX5_sheet_105 (fun H locs hW => ?_)
                        refine lv_iinc (v := (nI (k + 1))) (lv' := [(4, .int (nI (k + 1))), (0, .ref (b 0)), (1, .int (nI j)), (2, .int x2)]) (k := 3) hx hb dX5_sheet_106 hl rfl (nI_inc k 1) (by decide) rfl (fun ls hl => ?_)
                        refine lv_goto (tgt := 86) hx hb dX5_sheet_109 (by decide) ?_
                        exact ih (k + 1) _ _ _ (by omega) (by omega) hW (lv_sub hl [1, 2, 3, 0] rfl)
                  exact L86 (40 - 0 + 1) 0 _ _ _ (Nat.lt_succ_self _) (by omega) (by have e := hW; rw [show N = va_up N j (fil (fun _ => 0) (N j) 0) from (up_self (by funext q; exact (fil_at _ _ (Nat.zero_le q)).symm)).symm] at e; exact e) (lv_sub hl [1, 2, 3, 0] rfl)
                · refine lv_iconst (v := 0) hx hb dX5_sheet_77 (by decide) ?_
                  refine lv_goto (tgt := 82) hx hb dX5_sheet_78 (by decide) ?_
                  refine r_iast (ws' := (wcat [MJ b z w, IA E (b 2) 7 F, IA E (b 6) 4 (upd B j x2), IA E (b 7) 4 (szA (va_up Z j 0)), LA E (b 8) 160 (en4 N)])) hC hD hW 3 rfl j rfl (by omega) (by decide) rfl (by rw [show upd (szA Z) j 0 = szA (va_up Z j 0) from szA_put Z j 0]; rfl) dX5_sheet_82 (fun H locs hW => ?_)
                  refine lv_iconst (v := 0) hx hb dX5_sheet_83 (by decide) ?_
                  refine lv_istore (lv' := [(4, .int 0), (0, .ref (b 0)), (1, .int (nI j)), (2, .int x2), (3, .int (nI n))]) hx hb dX5_sheet_84 hl (by decide) rfl (fun ls hl => ?_)
                  have L86 : ∀ (n_ : Nat) (k : Nat) (H : Heap) (locs : List Loc) (ls : Array Slot), 40 - k < n_ → k ≤ 40 → Wd E A s.heap (wcat [MJ b z w, IA E (b 2) 7 F, IA E (b 6) 4 (upd B j x2), IA E (b 7) 4 (szA (va_up Z j 0)), LA E (b 8) 160 (en4 (va_up N j (fil (fun _ => 0) (N j) k)))]) H locs → lv_has ls 5 [(0, .ref (b 0)), (1, .int (nI j)), (2, .int x2), (4, .int (nI k))] → W p l e R s m args below meth c H locs 0 0 Q (F0 m 86 ls []) := by
                    intro n_
                    induction n_ with
                    | zero => intro k H locs ls hm; exact absurd hm (Nat.not_lt_zero _)
                    | succ n_ ih =>
                      intro k H locs ls hm hk hW hl
                      refine lv_iload hx hb dX5_sheet_86 (lv_at hl 3 rfl) ?_
                      refine lv_bipush (v := 40) hx hb dX5_sheet_88 (by decide) ?_
                      refine lv_icmp_ge (tgt := 112) hx hb dX5_sheet_90 (by decide) (fun c_33 => ?_) (fun c_33 => ?_)
                      · have c_33 : 40 ≤ k := (nI_leI (a := 40) (b := k) (by omega) (by omega)).mp c_33
                        refine lv_aload_n hx hb dX5_sheet_112 rfl (lv_at hl 0 rfl) ?_
                        refine r_get hC hW flX5_28 0 rfl rfl dX5_sheet_113 ?_
                        refine lv_iload_n hx hb dX5_sheet_116 rfl (lv_at hl 1 rfl) ?_
                        refine r_iald hC hW 3 rfl j rfl (by omega) (by decide) dX5_sheet_117 ?_
                        refine n_top (congrArg nI (up_at Z j _)) ?_
                        exact r_iret hC hQ hD hW () (by rw [mSheet, cif_t ⟨b_2, Or.inr (Or.inr (Or.inr c_28))⟩, if_neg (nI_pos (by omega)), if_neg (show ¬ 40 < nI n from Int32.not_lt.mpr (nI_le (b := 40) (by omega) (by decide))), ix_nI (n := n) (by omega), if_pos c_31]; first | done | rfl) (by rw [mSheet, cif_t ⟨b_2, Or.inr (Or.inr (Or.inr c_28))⟩, if_neg (nI_pos (by omega)), if_neg (show ¬ 40 < nI n from Int32.not_lt.mpr (nI_le (b := 40) (by omega) (by decide))), ix_nI (n := n) (by omega), ix_nI (n := j) (by omega), if_pos c_31, show en4 (va_up N j (fil (fun _ => 0) (N j) k)) = en4 (va_up N j (fun _ => 0)) from en4_cong N j (fun q hq => if_pos (by omega))]; first | done | rfl) rfl dX5_sheet_118
                      · have c_33 : ¬ 40 ≤ k := fun z_ => c_33 ((nI_leI (a := 40) (b := k) (by omega) (by omega)).mpr z_)
                        refine lv_aload_n hx hb dX5_sheet_93 rfl (lv_at hl 0 rfl) ?_
                        refine r_get hC hW flX5_31 0 rfl rfl dX5_sheet_94 ?_
                        refine lv_bipush (v := 40) hx hb dX5_sheet_97 (by decide) ?_
                        refine lv_iload_n hx hb dX5_sheet_99 rfl (lv_at hl 1 rfl) ?_
                        refine n_imul (v := (nI (40 * j))) hx hb dX5_sheet_100 (pk_mul 40 j) ?_
                        refine lv_iload hx hb dX5_sheet_101 (lv_at hl 3 rfl) ?_
                        refine n_iadd (v := (nI (40 * j + k))) hx hb dX5_sheet_103 (nI_add (40 * j) k) ?_
                        refine lv_lconst (v := 0) hx hb dX5_sheet_104 (by decide) ?_
                        refine r_last (ws' := (wcat [MJ b z w, IA E (b 2) 7 F, IA E (b 6) 4 (upd B j x2), IA E (b 7) 4 (szA (va_up Z j 0)), LA E (b 8) 160 (en4 (va_up N j (fil (fun _ => 0) (N j) (k + 1))))])) hC hD hW 4 rfl (40 * j + k) rfl (by omega) (by decide) rfl (by rw [en4_put _ (by omega), up_at, show vp_updL (fil (fun _ => 0) (N j) k) k 0 = fil (fun _ => 0) (N j) (k + 1) from fil_putL (fun _ => 0) (N j) k, upup]; rfl) dX5_sheet_105 (fun H locs hW => ?_)
                        refine lv_iinc (v := (nI (k + 1))) (lv' := [(4, .int (nI (k + 1))), (0, .ref (b 0)), (1, .int (nI j)), (2, .int x2)]) (k := 3) hx hb dX5_sheet_106 hl rfl (nI_inc k 1) (by decide) rfl (fun ls hl => ?_)
                        refine lv_goto (tgt := 86) hx hb dX5_sheet_109 (by decide) ?_
                        exact ih (k + 1) _ _ _ (by omega) (by omega) hW (lv_sub hl [1, 2, 3, 0] rfl)
                  exact L86 (40 - 0 + 1) 0 _ _ _ (Nat.lt_succ_self _) (by omega) (by have e := hW; rw [show N = va_up N j (fil (fun _ => 0) (N j) 0) from (up_self (by funext q; exact (fil_at _ _ (Nat.zero_le q)).symm)).symm] at e; exact e) (lv_sub hl [1, 2, 3, 0] rfl)
              · refine lv_aload_n hx hb dX5_sheet_54 rfl (lv_at hl 0 rfl) ?_
                refine r_ldc hC ctX5_44 dX5_sheet_55 ?_
                refine r_callVi hC hD hW hA lkX5_73 (c_X5_finds l E (b 0) (MF b z w) (b 2) rfl F (-1000000001) 0 (by decide) (by decide)) rfl ⟨by decide, by decide, by decide, by decide⟩ [0, 1] rfl rfl rfl (fun _ => rfl) hl.1 rfl rfl (Nat.le_of_ble_eq_true rfl) dX5_sheet_57 (fun r_34 _ H locs hr_34 hW => ?_)
                have hW : Wd E A s.heap (wcat [MJ b z w, IA E (b 2) 7 (upd F 0 (F 0 + 1)), IA E (b 6) 4 B, IA E (b 7) 4 (szA Z), LA E (b 8) 160 (en4 N)]) H locs := hW
                have hr_34 : r_34 = (-1000000001) := hr_34
                subst hr_34
                exact r_iret hC hQ hD hW () (by rw [mSheet, cif_t ⟨b_2, Or.inr (Or.inr (Or.inr c_28))⟩, if_neg (Int32.not_lt.mpr c_29), if_pos (Int32.not_le.mp c_30)]; first | done | rfl) (by rw [mSheet, cif_t ⟨b_2, Or.inr (Or.inr (Or.inr c_28))⟩, if_neg (Int32.not_lt.mpr c_29), if_pos (Int32.not_le.mp c_30)]; first | done | rfl) rfl dX5_sheet_60
            · refine lv_aload_n hx hb dX5_sheet_40 rfl (lv_at hl 0 rfl) ?_
              refine r_ldcw hC ctX5_266 dX5_sheet_41 ?_
              refine r_callVi hC hD hW hA lkX5_73 (c_X5_finds l E (b 0) (MF b z w) (b 2) rfl F (-1000000007) 6 (by decide) (by decide)) rfl ⟨by decide, by decide, by decide, by decide⟩ [0, 1] rfl rfl rfl (fun _ => rfl) hl.1 rfl rfl (Nat.le_of_ble_eq_true rfl) dX5_sheet_44 (fun r_35 _ H locs hr_35 hW => ?_)
              have hW : Wd E A s.heap (wcat [MJ b z w, IA E (b 2) 7 (upd F 6 (F 6 + 1)), IA E (b 6) 4 B, IA E (b 7) 4 (szA Z), LA E (b 8) 160 (en4 N)]) H locs := hW
              have hr_35 : r_35 = (-1000000007) := hr_35
              subst hr_35
              exact r_iret hC hQ hD hW () (by rw [mSheet, cif_t ⟨b_2, Or.inr (Or.inr (Or.inr c_28))⟩, if_pos (Int32.not_le.mp c_29)]; first | done | rfl) (by rw [mSheet, cif_t ⟨b_2, Or.inr (Or.inr (Or.inr c_28))⟩, if_pos (Int32.not_le.mp c_29)]; first | done | rfl) rfl dX5_sheet_47
          · refine lv_aload_n hx hb dX5_sheet_29 rfl (lv_at hl 0 rfl) ?_
            refine r_ldc hC ctX5_44 dX5_sheet_30 ?_
            refine r_callVi hC hD hW hA lkX5_73 (c_X5_finds l E (b 0) (MF b z w) (b 2) rfl F (-1000000001) 0 (by decide) (by decide)) rfl ⟨by decide, by decide, by decide, by decide⟩ [0, 1] rfl rfl rfl (fun _ => rfl) hl.1 rfl rfl (Nat.le_of_ble_eq_true rfl) dX5_sheet_32 (fun r_36 _ H locs hr_36 hW => ?_)
            have hW : Wd E A s.heap (wcat [MJ b z w, IA E (b 2) 7 (upd F 0 (F 0 + 1)), IA E (b 6) 4 B, IA E (b 7) 4 (szA Z), LA E (b 8) 160 (en4 N)]) H locs := hW
            have hr_36 : r_36 = (-1000000001) := hr_36
            subst hr_36
            exact r_iret hC hQ hD hW () (by rw [mSheet, cif_f (fun z_ => z_.2.elim c_4 (fun z_ => z_.elim c_12 (fun z_ => z_.elim c_20 c_28)))]; first | done | rfl) (by rw [mSheet, cif_f (fun z_ => z_.2.elim c_4 (fun z_ => z_.elim c_12 (fun z_ => z_.elim c_20 c_28)))]; first | done | rfl) rfl dX5_sheet_35
set_option maxHeartbeats 4000000 in
set_option maxRecDepth 100000 in
theorem c_X5_write (l : Launch) (E : Ev) (b : Nat → Nat) (z : Nat → Int32) (w : Int64) (F : FT) (B : FT) (Z : Nat → Nat) (N : NT) (hZ : ∀ q, q < 4 → Z q ≤ 40) (x1 : Int32) (x2 : Int32) (v : Int64) : ML l E yX5_write cX5_write 7 .long 2 42 0 0 [.ref (b 0), .int x1, .int x2, .long v] (wcat [MJ b z w, IA E (b 2) 7 F, IA E (b 6) 4 B, IA E (b 7) 4 (szA Z), LA E (b 8) 160 (en4 N)]) (fun (r : Int64) (_ : Unit) => r = (mWrite F B Z N x1 x2 v).1) (fun (_ : Unit) => (wcat [MJ b z w, IA E (b 2) 7 ((mWrite F B Z N x1 x2 v).2.1), IA E (b 6) 4 B, IA E (b 7) 4 (szA Z), LA E (b 8) 160 (en4 ((mWrite F B Z N x1 x2 v).2.2))])) := by
  refine ML_intro RX5 (by decide) rfl (Nat.le_of_ble_eq_true rfl) ?_
  intro p e R s m args below meth c A Q hQ hC hD hW hA ls hl
  have hx := hC.1
  have hb := hC.2.1
  have hW : Wd E A s.heap (wcat [MJ b z w, IA E (b 2) 7 F, IA E (b 6) 4 B, IA E (b 7) 4 (szA Z), LA E (b 8) 160 (en4 N)]) s.heap [] := hW
  have hD : Dj A [b 0, b 2, b 6, b 7, b 8] := hD
  have hl : lv_has ls 7 [(0, .ref (b 0)), (1, .int x1), (2, .int x2), (3, .long v)] := hl
  refine lv_iload_n hx hb dX5_write_0 rfl (lv_at hl 1 rfl) ?_
  refine r_callSi hC hD hW hA lkX5_263 (c_X5_isSheet l E x1) ⟨by decide, by decide, by decide, by decide⟩ rfl hl.1 rfl rfl (Nat.le_of_ble_eq_true rfl) dX5_write_1 (fun r_1 _ H locs hr_1 hW => ?_)
  have hW : Wd E A s.heap (wcat [MJ b z w, IA E (b 2) 7 F, IA E (b 6) 4 B, IA E (b 7) 4 (szA Z), LA E (b 8) 160 (en4 N)]) H locs := hW
  have hr_1 : bz (isN 4 x1) r_1 := hr_1
  rcases hr_1 with ⟨rfl, b_2⟩ | ⟨rfl, b_2⟩
  · refine lv_if_ne (tgt := 15) hx hb dX5_write_4 (by decide) (fun c => absurd c (by decide)) (fun _ => ?_)
    refine lv_aload_n hx hb dX5_write_7 rfl (lv_at hl 0 rfl) ?_
    refine r_ldc hC ctX5_44 dX5_write_8 ?_
    refine r_callVi hC hD hW hA lkX5_73 (c_X5_finds l E (b 0) (MF b z w) (b 2) rfl F (-1000000001) 0 (by decide) (by decide)) rfl ⟨by decide, by decide, by decide, by decide⟩ [0, 1] rfl rfl rfl (fun _ => rfl) hl.1 rfl rfl (Nat.le_of_ble_eq_true rfl) dX5_write_10 (fun r_3 _ H locs hr_3 hW => ?_)
    have hW : Wd E A s.heap (wcat [MJ b z w, IA E (b 2) 7 (upd F 0 (F 0 + 1)), IA E (b 6) 4 B, IA E (b 7) 4 (szA Z), LA E (b 8) 160 (en4 N)]) H locs := hW
    have hr_3 : r_3 = (-1000000001) := hr_3
    subst hr_3
    refine lv_i2l (v := (((-1000000001) : Int32).toInt64)) hx hb dX5_write_13 rfl ?_
    exact r_lret hC hQ hD hW () (by rw [mWrite, cif_f b_2]; first | done | rfl) (by rw [mWrite, cif_f b_2]; first | done | rfl) rfl dX5_write_14
  · have eb_2 := b_2
    obtain ⟨j, hj, rfl⟩ := eb_2
    refine lv_if_ne (tgt := 15) hx hb dX5_write_4 (by decide) (fun _ => ?_) (fun c => absurd c (by decide))
    have hZj := hZ j (by omega)
    refine lv_aload_n hx hb dX5_write_15 rfl (lv_at hl 0 rfl) ?_
    refine r_get hC hW flX5_25 0 rfl rfl dX5_write_16 ?_
    refine lv_iload_n hx hb dX5_write_19 rfl (lv_at hl 1 rfl) ?_
    refine r_iald hC hW 2 rfl j rfl (by omega) (by decide) dX5_write_20 ?_
    refine lv_if_ne (tgt := 33) hx hb dX5_write_21 (by decide) (fun c_4 => ?_) (fun c_4 => ?_)
    · refine lv_iload_n hx hb dX5_write_33 rfl (lv_at hl 2 rfl) ?_
      refine lv_iconst (v := 0) hx hb dX5_write_34 (by decide) ?_
      refine lv_aload_n hx hb dX5_write_35 rfl (lv_at hl 0 rfl) ?_
      refine r_get hC hW flX5_28 0 rfl rfl dX5_write_36 ?_
      refine lv_iload_n hx hb dX5_write_39 rfl (lv_at hl 1 rfl) ?_
      refine r_iald hC hW 3 rfl j rfl (by omega) (by decide) dX5_write_40 ?_
      refine n_top (show szA Z j = nI (Z j) from rfl) ?_
      refine lv_iconst (v := 1) hx hb dX5_write_41 (by decide) ?_
      refine n_isub (v := ((nI (Z j)) - 1)) hx hb dX5_write_42 rfl ?_
      refine r_callSi hC hD hW hA lkX5_45 (c_X5_in l E x2 0 ((nI (Z j)) - 1)) ⟨by decide, by decide, by decide, by decide⟩ rfl hl.1 rfl rfl (Nat.le_of_ble_eq_true rfl) dX5_write_43 (fun r_5 _ H locs hr_5 hW => ?_)
      have hW : Wd E A s.heap (wcat [MJ b z w, IA E (b 2) 7 F, IA E (b 6) 4 B, IA E (b 7) 4 (szA Z), LA E (b 8) 160 (en4 N)]) H locs := hW
      have hr_5 : bz (0 ≤ x2 ∧ x2 ≤ ((nI (Z j)) - 1)) r_5 := hr_5
      rcases hr_5 with ⟨rfl, b_6⟩ | ⟨rfl, b_6⟩
      · refine lv_if_ne (tgt := 57) hx hb dX5_write_46 (by decide) (fun c => absurd c (by decide)) (fun _ => ?_)
        refine lv_aload_n hx hb dX5_write_49 rfl (lv_at hl 0 rfl) ?_
        refine r_ldc hC ctX5_44 dX5_write_50 ?_
        refine r_callVi hC hD hW hA lkX5_73 (c_X5_finds l E (b 0) (MF b z w) (b 2) rfl F (-1000000001) 0 (by decide) (by decide)) rfl ⟨by decide, by decide, by decide, by decide⟩ [0, 1] rfl rfl rfl (fun _ => rfl) hl.1 rfl rfl (Nat.le_of_ble_eq_true rfl) dX5_write_52 (fun r_7 _ H locs hr_7 hW => ?_)
        have hW : Wd E A s.heap (wcat [MJ b z w, IA E (b 2) 7 (upd F 0 (F 0 + 1)), IA E (b 6) 4 B, IA E (b 7) 4 (szA Z), LA E (b 8) 160 (en4 N)]) H locs := hW
        have hr_7 : r_7 = (-1000000001) := hr_7
        subst hr_7
        refine lv_i2l (v := (((-1000000001) : Int32).toInt64)) hx hb dX5_write_55 rfl ?_
        exact r_lret hC hQ hD hW () (by rw [mWrite, cif_t b_2, ix_nI (n := j) (by omega), if_neg c_4, cif_f (fun z_ => b_6 ((in_iff (by omega)).mpr z_))]; first | done | rfl) (by rw [mWrite, cif_t b_2, ix_nI (n := j) (by omega), if_neg c_4, cif_f (fun z_ => b_6 ((in_iff (by omega)).mpr z_))]; first | done | rfl) rfl dX5_write_56
      · have eb_6 := (in_iff (by omega)).mp b_6
        obtain ⟨i, hi, rfl⟩ := eb_6
        refine lv_if_ne (tgt := 57) hx hb dX5_write_46 (by decide) (fun _ => ?_) (fun c => absurd c (by decide))
        refine lv_aload_n hx hb dX5_write_57 rfl (lv_at hl 0 rfl) ?_
        refine r_get hC hW flX5_31 0 rfl rfl dX5_write_58 ?_
        refine lv_bipush (v := 40) hx hb dX5_write_61 (by decide) ?_
        refine lv_iload_n hx hb dX5_write_63 rfl (lv_at hl 1 rfl) ?_
        refine n_imul (v := (nI (40 * j))) hx hb dX5_write_64 (pk_mul 40 j) ?_
        refine lv_iload_n hx hb dX5_write_65 rfl (lv_at hl 2 rfl) ?_
        refine n_iadd (v := (nI (40 * j + i))) hx hb dX5_write_66 (nI_add (40 * j) i) ?_
        refine r_lald hC hW 4 rfl (40 * j + i) rfl (by omega) (by decide) dX5_write_67 ?_
        refine n_topl (en4_at N (s := j) (k := i) (by omega)) ?_
        refine lv_lstore (lv' := [(5, .long (N j i)), (0, .ref (b 0)), (1, .int (nI j)), (2, .int (nI i)), (3, .long v)]) hx hb dX5_write_68 hl (by decide) rfl (fun ls hl => ?_)
        refine lv_aload_n hx hb dX5_write_70 rfl (lv_at hl 1 rfl) ?_
        refine r_get hC hW flX5_31 0 rfl rfl dX5_write_71 ?_
        refine lv_bipush (v := 40) hx hb dX5_write_74 (by decide) ?_
        refine lv_iload_n hx hb dX5_write_76 rfl (lv_at hl 2 rfl) ?_
        refine n_imul (v := (nI (40 * j))) hx hb dX5_write_77 (pk_mul 40 j) ?_
        refine lv_iload_n hx hb dX5_write_78 rfl (lv_at hl 3 rfl) ?_
        refine n_iadd (v := (nI (40 * j + i))) hx hb dX5_write_79 (nI_add (40 * j) i) ?_
        refine lv_aload_n hx hb dX5_write_80 rfl (lv_at hl 1 rfl) ?_
        refine r_get hC hW flX5_25 0 rfl rfl dX5_write_81 ?_
        refine lv_iload_n hx hb dX5_write_84 rfl (lv_at hl 2 rfl) ?_
        refine r_iald hC hW 2 rfl j rfl (by omega) (by decide) dX5_write_85 ?_
        refine lv_lload_n hx hb dX5_write_86 rfl (lv_at hl 4 rfl) ?_
        refine r_callSl hC hD hW hA lkX5_268 (c_X5_narrow l E (B j) v) ⟨by decide, by decide, by decide, by decide⟩ rfl hl.1 rfl rfl (Nat.le_of_ble_eq_true rfl) dX5_write_87 (fun r_8 _ H locs hr_8 hW => ?_)
        have hW : Wd E A s.heap (wcat [MJ b z w, IA E (b 2) 7 F, IA E (b 6) 4 B, IA E (b 7) 4 (szA Z), LA E (b 8) 160 (en4 N)]) H locs := hW
        have hr_8 : r_8 = (nar (B j) v) := hr_8
        subst hr_8
        refine r_last (ws' := (wcat [MJ b z w, IA E (b 2) 7 F, IA E (b 6) 4 B, IA E (b 7) 4 (szA Z), LA E (b 8) 160 (en4 (va_up N j (vp_updL (N j) i (nar (B j) v))))])) hC hD hW 4 rfl (40 * j + i) rfl (by omega) (by decide) rfl (by rw [en4_put _ (by omega)]; rfl) dX5_write_90 (fun H locs hW => ?_)
        refine lv_lload hx hb dX5_write_91 (lv_at hl 0 rfl) ?_
        exact r_lret hC hQ hD hW () (by rw [mWrite, cif_t b_2, ix_nI (n := j) (by omega), if_neg c_4, cif_t ((in_iff (by omega)).mp b_6), ix_nI (n := i) (by omega)]; first | done | rfl) (by rw [mWrite, cif_t b_2, ix_nI (n := j) (by omega), if_neg c_4, cif_t ((in_iff (by omega)).mp b_6), ix_nI (n := i) (by omega)]; first | done | rfl) rfl dX5_write_93
    · refine lv_aload_n hx hb dX5_write_24 rfl (lv_at hl 0 rfl) ?_
      refine r_ldcw hC ctX5_267 dX5_write_25 ?_
      refine r_callVi hC hD hW hA lkX5_73 (c_X5_finds l E (b 0) (MF b z w) (b 2) rfl F (-1000000006) 5 (by decide) (by decide)) rfl ⟨by decide, by decide, by decide, by decide⟩ [0, 1] rfl rfl rfl (fun _ => rfl) hl.1 rfl rfl (Nat.le_of_ble_eq_true rfl) dX5_write_28 (fun r_9 _ H locs hr_9 hW => ?_)
      have hW : Wd E A s.heap (wcat [MJ b z w, IA E (b 2) 7 (upd F 5 (F 5 + 1)), IA E (b 6) 4 B, IA E (b 7) 4 (szA Z), LA E (b 8) 160 (en4 N)]) H locs := hW
      have hr_9 : r_9 = (-1000000006) := hr_9
      subst hr_9
      refine lv_i2l (v := (((-1000000006) : Int32).toInt64)) hx hb dX5_write_31 rfl ?_
      exact r_lret hC hQ hD hW () (by rw [mWrite, cif_t b_2, ix_nI (n := j) (by omega), if_pos c_4]; first | done | rfl) (by rw [mWrite, cif_t b_2, ix_nI (n := j) (by omega), if_pos c_4]; first | done | rfl) rfl dX5_write_32
