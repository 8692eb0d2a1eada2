set_option maxHeartbeats 4000000 in
set_option maxRecDepth 100000 in
theorem c_X1_takeHeat (l : Launch) (E : Ev) (xo : Nat) (vt : Nat → Nat) (it : Int32) (vy : Nat → Nat) (y : Nat → Int32) (tp : Nat → Int32) (tl : Nat) (ht1 : tl ≤ 120) (hB : tBY tp tl) (bb : Nat) (hbb : bb ≤ tl) (hY : YT tp tl bb y) (S : HS) (Tt : HS) (P : Nat) (G : Nat) (hV : HV S P G) : MI l E yX1_takeHeat cX1_takeHeat 1 .boolean 3 66 0 0 [.ref xo] (wcat [[(xo, .inr (1, [.ref (vy 0), .ref (vt 0), .int it]))], TPW E vy y tp, HW E vt S Tt]) (fun (r : Int32) (u : ((Nat → Int32) × HS)) => IC tp tl (pHeat tp tl S P G bb) u.1 u.2 r) (fun (u : ((Nat → Int32) × HS)) => (wcat [[(xo, .inr (1, [.ref (vy 0), .ref (vt 0), .int it]))], TPW E vy u.1 tp, HW E vt u.2 Tt])) := by
  refine MI_intro RX1 (by decide) rfl (Nat.le_of_ble_eq_true rfl) ?_
  intro p e R s m args below meth c A Q hQ hC hD hW hA ls hl
  have hx := hC.1
  have hb := hC.2.1
  have hW : Wd E A s.heap (wcat [[(xo, .inr (1, [.ref (vy 0), .ref (vt 0), .int it]))], TPW E vy y tp, HW E vt S Tt]) s.heap [] := hW
  have hD : Dj A [xo, vy 0, vy 1, vt 0, vt 1, vt 2, vt 3, vt 4, vt 5, vt 6, vt 7, vt 8, vt 9, vt 10] := hD
  have hl : lv_has ls 1 [(0, .ref xo)] := hl
  have hP := hV.p
  have hP1 := hV.p6
  have hG := hV.g
  have hG1 := hV.g10
  refine lv_aload_n hx hb dX1_takeHeat_0 rfl (lv_at hl 0 rfl) ?_
  refine lv_bipush (v := 20) hx hb dX1_takeHeat_1 (by decide) ?_
  refine lv_bipush (v := 90) hx hb dX1_takeHeat_3 (by decide) ?_
  refine r_callCi hC hD hW hA lkX1_80 (c_X1_takeNumber l E xo vt it vy y tp tl ht1 hB bb hbb hY 20 90 (by decide)) rfl rfl ⟨by decide, by decide, by decide, by decide⟩ [0, 1] rfl rfl rfl (fun _ => rfl) hl.1 rfl rfl (Nat.le_of_ble_eq_true rfl) dX1_takeHeat_5 (fun r_1 u_2 H locs hr_1 hW => ?_)
  have hW : Wd E A s.heap (wcat [[(xo, .inr (1, [.ref (vy 0), .ref (vt 0), .int it]))], TPW E vy u_2 tp, HW E vt S Tt]) H locs := hW
  obtain ⟨hr_1, xr_1⟩ := hr_1
  have hr_1 : bz (tNm tp tl (tNx tp tl bb) 20 90) r_1 := hr_1
  rcases hr_1 with ⟨rfl, b_3⟩ | ⟨rfl, b_3⟩
  · refine lv_if_ne (tgt := 13) hx hb dX1_takeHeat_8 (by decide) (fun c => absurd c (by decide)) (fun _ => ?_)
    refine lv_iconst (v := 0) hx hb dX1_takeHeat_11 (by decide) ?_
    exact r_zret hC hQ hD hW (by decide) (u_2, S) (by rw [pHeat, cif_f b_3]; exact ⟨rfl, xr_1⟩) rfl rfl dX1_takeHeat_12
  · refine lv_if_ne (tgt := 13) hx hb dX1_takeHeat_8 (by decide) (fun _ => ?_) (fun c => absurd c (by decide))
    refine lv_aload_n hx hb dX1_takeHeat_13 rfl (lv_at hl 0 rfl) ?_
    refine r_get hC hW flX1_15 0 rfl rfl dX1_takeHeat_14 ?_
    refine lv_aload_n hx hb dX1_takeHeat_17 rfl (lv_at hl 0 rfl) ?_
    refine r_get hC hW flX1_9 0 rfl rfl dX1_takeHeat_18 ?_
    refine r_get hC hW flX1_88 1 rfl rfl dX1_takeHeat_21 ?_
    refine n_top (xr_1.2.2.2.2.trans (congrArg nI (tNc_eq b_3 (by decide)))) ?_
    refine r_put (ws' := (wcat [[(xo, .inr (1, [.ref (vy 0), .ref (vt 0), .int it]))], TPW E vy u_2 tp, HW E vt (st S 0 1 (nI (tNr tp tl (tNx tp tl bb)))) Tt])) hC hD hW fpX1_108 3 rfl rfl rfl (Nat.le_of_ble_eq_true rfl) rfl rfl dX1_takeHeat_24 (fun H locs hW => ?_)
    refine lv_aload_n hx hb dX1_takeHeat_27 rfl (lv_at hl 0 rfl) ?_
    refine r_get hC hW flX1_9 0 rfl rfl dX1_takeHeat_28 ?_
    refine r_callCv hC hD hW hA lkX1_31 (c_X3_step l E vy u_2 tp tl ht1 hB xr_1.1 (tEn tp tl (tNx tp tl bb)) (tEn_le (tNx_le hbb)) xr_1.2.2.2.1) rfl rfl ⟨by decide, by decide, by decide, by decide⟩ [1] rfl rfl rfl (fun _ => rfl) hl.1 rfl rfl (Nat.le_of_ble_eq_true rfl) dX1_takeHeat_31 (fun u_5 H locs hr_4 hW => ?_)
    have hW : Wd E A s.heap (wcat [[(xo, .inr (1, [.ref (vy 0), .ref (vt 0), .int it]))], TPW E vy u_5 tp, HW E vt (st S 0 1 (nI (tNr tp tl (tNx tp tl bb)))) Tt]) H locs := hW
    have xr_4 := hr_4
    refine lv_iconst (v := 1) hx hb dX1_takeHeat_34 (by decide) ?_
    exact r_zret hC hQ hD hW (by decide) (u_5, st S 0 1 (nI (tNr tp tl (tNx tp tl bb)))) (by rw [pHeat, cif_t b_3]; exact ⟨rfl, xr_4, rfl⟩) rfl rfl dX1_takeHeat_35
set_option maxHeartbeats 4000000 in
set_option maxRecDepth 100000 in
theorem c_X1_takeDeath (l : Launch) (E : Ev) (xo : Nat) (vt : Nat → Nat) (it : Int32) (vy : Nat → Nat) (y : Nat → Int32) (tp : Nat → Int32) (tl : Nat) (ht1 : tl ≤ 120) (hB : tBY tp tl) (bb : Nat) (hbb : bb ≤ tl) (hY : YT tp tl bb y) (S : HS) (Tt : HS) (P : Nat) (G : Nat) (hV : HV S P G) : MI l E yX1_takeDeath cX1_takeDeath 1 .boolean 3 66 0 0 [.ref xo] (wcat [[(xo, .inr (1, [.ref (vy 0), .ref (vt 0), .int it]))], TPW E vy y tp, HW E vt S Tt]) (fun (r : Int32) (u : ((Nat → Int32) × HS)) => IC tp tl (pDeath tp tl S P G bb) u.1 u.2 r) (fun (u : ((Nat → Int32) × HS)) => (wcat [[(xo, .inr (1, [.ref (vy 0), .ref (vt 0), .int it]))], TPW E vy u.1 tp, HW E vt u.2 Tt])) := by
  refine MI_intro RX1 (by decide) rfl (Nat.le_of_ble_eq_true rfl) ?_
  intro p e R s m args below meth c A Q hQ hC hD hW hA ls hl
  have hx := hC.1
  have hb := hC.2.1
  have hW : Wd E A s.heap (wcat [[(xo, .inr (1, [.ref (vy 0), .ref (vt 0), .int it]))], TPW E vy y tp, HW E vt S Tt]) s.heap [] := hW
  have hD : Dj A [xo, vy 0, vy 1, vt 0, vt 1, vt 2, vt 3, vt 4, vt 5, vt 6, vt 7, vt 8, vt 9, vt 10] := hD
  have hl : lv_has ls 1 [(0, .ref xo)] := hl
  have hP := hV.p
  have hP1 := hV.p6
  have hG := hV.g
  have hG1 := hV.g10
  have hp9 := pm999 hP1
  refine lv_aload_n hx hb dX1_takeDeath_0 rfl (lv_at hl 0 rfl) ?_
  refine lv_iconst (v := 0) hx hb dX1_takeDeath_1 (by decide) ?_
  refine lv_aload_n hx hb dX1_takeDeath_2 rfl (lv_at hl 0 rfl) ?_
  refine r_get hC hW flX1_15 0 rfl rfl dX1_takeDeath_3 ?_
  refine r_get hC hW flX1_69 3 rfl rfl dX1_takeDeath_6 ?_
  refine n_top hV.p ?_
  refine lv_iconst (v := 1) hx hb dX1_takeDeath_9 (by decide) ?_
  refine n_isub (v := (nI P - 1)) hx hb dX1_takeDeath_10 rfl ?_
  refine r_callCi hC hD hW hA lkX1_80 (c_X1_takeNumber l E xo vt it vy y tp tl ht1 hB bb hbb hY 0 (nI P - 1) hp9) rfl rfl ⟨by decide, by decide, by decide, by decide⟩ [0, 1] rfl rfl rfl (fun _ => rfl) hl.1 rfl rfl (Nat.le_of_ble_eq_true rfl) dX1_takeDeath_11 (fun r_1 u_2 H locs hr_1 hW => ?_)
  have hW : Wd E A s.heap (wcat [[(xo, .inr (1, [.ref (vy 0), .ref (vt 0), .int it]))], TPW E vy u_2 tp, HW E vt S Tt]) H locs := hW
  obtain ⟨hr_1, xr_1⟩ := hr_1
  have hr_1 : bz (tNm tp tl (tNx tp tl bb) 0 (nI P - 1)) r_1 := hr_1
  rcases hr_1 with ⟨rfl, b_3⟩ | ⟨rfl, b_3⟩
  · refine lv_if_ne (tgt := 19) hx hb dX1_takeDeath_14 (by decide) (fun c => absurd c (by decide)) (fun _ => ?_)
    refine lv_iconst (v := 0) hx hb dX1_takeDeath_17 (by decide) ?_
    exact r_zret hC hQ hD hW (by decide) (u_2, S) (by rw [pDeath, cif_f b_3]; exact ⟨rfl, xr_1⟩) rfl rfl dX1_takeDeath_18
  · refine lv_if_ne (tgt := 19) hx hb dX1_takeDeath_14 (by decide) (fun _ => ?_) (fun c => absurd c (by decide))
    have hlt := tNm_lt b_3 hP1
    refine lv_aload_n hx hb dX1_takeDeath_19 rfl (lv_at hl 0 rfl) ?_
    refine r_get hC hW flX1_15 0 rfl rfl dX1_takeDeath_20 ?_
    refine r_get hC hW flX1_111 3 rfl rfl dX1_takeDeath_23 ?_
    refine lv_aload_n hx hb dX1_takeDeath_26 rfl (lv_at hl 0 rfl) ?_
    refine r_get hC hW flX1_9 0 rfl rfl dX1_takeDeath_27 ?_
    refine r_get hC hW flX1_88 1 rfl rfl dX1_takeDeath_30 ?_
    refine n_top (xr_1.2.2.2.2.trans (congrArg nI (tNc_eq b_3 hp9))) ?_
    refine lv_iconst (v := 1) hx hb dX1_takeDeath_33 (by decide) ?_
    refine r_iast (ws' := (wcat [[(xo, .inr (1, [.ref (vy 0), .ref (vt 0), .int it]))], TPW E vy u_2 tp, HW E vt (st S 4 (tNr tp tl (tNx tp tl bb)) 1) Tt])) hC hD hW 7 rfl (tNr tp tl (tNx tp tl bb)) rfl (by omega) (by decide) rfl rfl dX1_takeDeath_34 (fun H locs hW => ?_)
    refine lv_aload_n hx hb dX1_takeDeath_35 rfl (lv_at hl 0 rfl) ?_
    refine r_get hC hW flX1_9 0 rfl rfl dX1_takeDeath_36 ?_
    refine r_callCv hC hD hW hA lkX1_31 (c_X3_step l E vy u_2 tp tl ht1 hB xr_1.1 (tEn tp tl (tNx tp tl bb)) (tEn_le (tNx_le hbb)) xr_1.2.2.2.1) rfl rfl ⟨by decide, by decide, by decide, by decide⟩ [1] rfl rfl rfl (fun _ => rfl) hl.1 rfl rfl (Nat.le_of_ble_eq_true rfl) dX1_takeDeath_39 (fun u_5 H locs hr_4 hW => ?_)
    have hW : Wd E A s.heap (wcat [[(xo, .inr (1, [.ref (vy 0), .ref (vt 0), .int it]))], TPW E vy u_5 tp, HW E vt (st S 4 (tNr tp tl (tNx tp tl bb)) 1) Tt]) H locs := hW
    have xr_4 := hr_4
    refine lv_iconst (v := 1) hx hb dX1_takeDeath_42 (by decide) ?_
    exact r_zret hC hQ hD hW (by decide) (u_5, st S 4 (tNr tp tl (tNx tp tl bb)) 1) (by rw [pDeath, cif_t b_3]; exact ⟨rfl, xr_4, rfl⟩) rfl rfl dX1_takeDeath_43
set_option maxHeartbeats 4000000 in
set_option maxRecDepth 100000 in
theorem c_X1_takePerson (l : Launch) (E : Ev) (ad : Nat → Nat) (av : Nat → Nat) (xo : Nat) (vt : Nat → Nat) (it : Int32) (vy : Nat → Nat) (y : Nat → Int32) (tp : Nat → Int32) (tl : Nat) (ht1 : tl ≤ 120) (hB : tBY tp tl) (bb : Nat) (hbb : bb ≤ tl) (hY : YT tp tl bb y) (S : HS) (Tt : HS) (P : Nat) (G : Nat) (hV : HV S P G) (x1 : Int32) : MIs l E ad av yX1_takePerson cX1_takePerson 3 .boolean 5 107 [.ref xo, .int x1] (wcat [[(xo, .inr (1, [.ref (vy 0), .ref (vt 0), .int it]))], TPW E vy y tp, HW E vt S Tt]) (fun (r : Int32) (u : ((Nat → Int32) × HS)) => IC tp tl (pPerson tp tl S P G x1 bb) u.1 u.2 r) (fun (u : ((Nat → Int32) × HS)) => (wcat [[(xo, .inr (1, [.ref (vy 0), .ref (vt 0), .int it]))], TPW E vy u.1 tp, HW E vt u.2 Tt])) := by
  refine MIs_intro RX1 (by decide) rfl (Nat.le_of_ble_eq_true rfl) ?_
  intro p e R s m args below meth c A Q hQ hC hD hW hA hSX ls hl
  have hx := hC.1
  have hb := hC.2.1
  have hW : Wd E A s.heap (wcat [[(xo, .inr (1, [.ref (vy 0), .ref (vt 0), .int it]))], TPW E vy y tp, HW E vt S Tt]) s.heap [] := hW
  have hD : Dj A [xo, vy 0, vy 1, vt 0, vt 1, vt 2, vt 3, vt 4, vt 5, vt 6, vt 7, vt 8, vt 9, vt 10] := hD
  have hl : lv_has ls 3 [(0, .ref xo), (1, .int x1)] := hl
  have hP := hV.p
  have hP1 := hV.p6
  have hG := hV.g
  have hG1 := hV.g10
  refine lv_aload_n hx hb dX1_takePerson_0 rfl (lv_at hl 0 rfl) ?_
  refine r_get hC hW flX1_15 0 rfl rfl dX1_takePerson_1 ?_
  refine r_get hC hW flX1_69 3 rfl rfl dX1_takePerson_4 ?_
  refine n_top hV.p ?_
  refine lv_bipush (v := 6) hx hb dX1_takePerson_7 (by decide) ?_
  refine lv_icmp_lt (tgt := 14) hx hb dX1_takePerson_9 (by decide) (fun c_1 => ?_) (fun c_1 => ?_)
  · have c_1 : P < 6 := (nI_ltI (a := P) (b := 6) (by omega) (by omega)).mp c_1
    refine lv_aload_n hx hb dX1_takePerson_14 rfl (lv_at hl 0 rfl) ?_
    refine r_get hC hW flX1_15 0 rfl rfl dX1_takePerson_15 ?_
    refine lv_iload_n hx hb dX1_takePerson_18 rfl (lv_at hl 1 rfl) ?_
    refine r_callCi hC hD hW hA lkX1_74 (c_X0_addPerson l E vt S Tt P hP (by omega) x1) rfl rfl ⟨by decide, by decide, by decide, by decide⟩ [2] rfl rfl rfl (fun _ => rfl) hl.1 rfl rfl (Nat.le_of_ble_eq_true rfl) dX1_takePerson_19 (fun r_2 _ H locs hr_2 hW => ?_)
    have hW : Wd E A s.heap (wcat [[(xo, .inr (1, [.ref (vy 0), .ref (vt 0), .int it]))], TPW E vy y tp, HW E vt (addP S P x1 (nI (P % 3))) Tt]) H locs := hW
    have hr_2 : r_2 = (nI P) := hr_2
    subst hr_2
    refine lv_istore_n (lv' := [(2, .int (nI P)), (0, .ref xo), (1, .int x1)]) hx hb dX1_takePerson_22 rfl hl (by decide) rfl (fun ls hl => ?_)
    refine lv_aload_n hx hb dX1_takePerson_23 rfl (lv_at hl 1 rfl) ?_
    refine r_get hC hW flX1_9 0 rfl rfl dX1_takePerson_24 ?_
    refine r_callCv hC hD hW hA lkX1_31 (c_X3_step l E vy y tp tl ht1 hB hY.1 (tEn tp tl bb) (tEn_le hbb) hY.2.2.2.1) rfl rfl ⟨by decide, by decide, by decide, by decide⟩ [1] rfl rfl rfl (fun _ => rfl) hl.1 rfl rfl (Nat.le_of_ble_eq_true rfl) dX1_takePerson_27 (fun u_4 H locs hr_3 hW => ?_)
    have hW : Wd E A s.heap (wcat [[(xo, .inr (1, [.ref (vy 0), .ref (vt 0), .int it]))], TPW E vy u_4 tp, HW E vt (addP S P x1 (nI (P % 3))) Tt]) H locs := hW
    have xr_3 := hr_3
    refine lv_aload_n hx hb dX1_takePerson_30 rfl (lv_at hl 1 rfl) ?_
    refine r_get hC hW flX1_9 0 rfl rfl dX1_takePerson_31 ?_
    refine r_ldcS (i := 11) hC hSX (by decide) rfl rfl dX1_takePerson_34 ?_
    refine r_callCis hC hD hW hA hSX lkX1_57 (c_X3_isAtWord l E ad av vy u_4 tp tl ht1 hB (tNx tp tl bb) (tNx_le hbb) xr_3 11 (by decide) wdBand wl11) rfl rfl ⟨by decide, by decide, by decide, by decide⟩ [1] rfl rfl rfl (fun _ => rfl) hl.1 rfl rfl (Nat.le_of_ble_eq_true rfl) dX1_takePerson_36 (fun r_5 _ H locs hr_5 hW => ?_)
    have hW : Wd E A s.heap (wcat [[(xo, .inr (1, [.ref (vy 0), .ref (vt 0), .int it]))], TPW E vy u_4 tp, HW E vt (addP S P x1 (nI (P % 3))) Tt]) H locs := hW
    have hr_5 : bz (tIW tp tl (tNx tp tl bb) wdBand) r_5 := hr_5
    rcases hr_5 with ⟨rfl, b_6⟩ | ⟨rfl, b_6⟩
    · refine lv_if_eq (tgt := 76) hx hb dX1_takePerson_39 (by decide) (fun _ => ?_) (fun c => absurd c (by decide))
      refine lv_iconst (v := 1) hx hb dX1_takePerson_76 (by decide) ?_
      exact r_zret hC hQ hD hW (by decide) (u_4, addP S P x1 (nI (P % 3))) (by rw [pPerson, if_pos (show P < 6 by omega), cif_f b_6]; exact ⟨rfl, xr_3, rfl⟩) rfl rfl dX1_takePerson_77
    · refine lv_if_eq (tgt := 76) hx hb dX1_takePerson_39 (by decide) (fun c => absurd c (by decide)) (fun _ => ?_)
      refine lv_aload_n hx hb dX1_takePerson_42 rfl (lv_at hl 1 rfl) ?_
      refine lv_iconst (v := 0) hx hb dX1_takePerson_43 (by decide) ?_
      refine lv_iconst (v := 2) hx hb dX1_takePerson_44 (by decide) ?_
      refine r_callCi hC hD hW hA lkX1_80 (c_X1_takeNumber l E xo vt it vy u_4 tp tl ht1 hB (tNx tp tl bb) (tNx_le hbb) xr_3 0 2 (by decide)) rfl rfl ⟨by decide, by decide, by decide, by decide⟩ [0, 1] rfl rfl rfl (fun _ => rfl) hl.1 rfl rfl (Nat.le_of_ble_eq_true rfl) dX1_takePerson_45 (fun r_7 u_8 H locs hr_7 hW => ?_)
      have hW : Wd E A s.heap (wcat [[(xo, .inr (1, [.ref (vy 0), .ref (vt 0), .int it]))], TPW E vy u_8 tp, HW E vt (addP S P x1 (nI (P % 3))) Tt]) H locs := hW
      obtain ⟨hr_7, xr_7⟩ := hr_7
      have hr_7 : bz (tNm tp tl (tNx tp tl (tNx tp tl bb)) 0 2) r_7 := hr_7
      rcases hr_7 with ⟨rfl, b_9⟩ | ⟨rfl, b_9⟩
      · refine lv_if_ne (tgt := 53) hx hb dX1_takePerson_48 (by decide) (fun c => absurd c (by decide)) (fun _ => ?_)
        refine lv_iconst (v := 0) hx hb dX1_takePerson_51 (by decide) ?_
        exact r_zret hC hQ hD hW (by decide) (u_8, addP S P x1 (nI (P % 3))) (by rw [pPerson, if_pos (show P < 6 by omega), cif_t b_6, cif_f b_9]; exact ⟨rfl, xr_7⟩) rfl rfl dX1_takePerson_52
      · refine lv_if_ne (tgt := 53) hx hb dX1_takePerson_48 (by decide) (fun _ => ?_) (fun c => absurd c (by decide))
        refine lv_aload_n hx hb dX1_takePerson_53 rfl (lv_at hl 1 rfl) ?_
        refine r_get hC hW flX1_15 0 rfl rfl dX1_takePerson_54 ?_
        refine r_get hC hW flX1_84 3 rfl rfl dX1_takePerson_57 ?_
        refine lv_iload_n hx hb dX1_takePerson_60 rfl (lv_at hl 0 rfl) ?_
        refine lv_aload_n hx hb dX1_takePerson_61 rfl (lv_at hl 1 rfl) ?_
        refine r_get hC hW flX1_9 0 rfl rfl dX1_takePerson_62 ?_
        refine r_get hC hW flX1_88 1 rfl rfl dX1_takePerson_65 ?_
        refine n_top (xr_7.2.2.2.2.trans (congrArg nI (tNc_eq b_9 (by decide)))) ?_
        refine r_iast (ws' := (wcat [[(xo, .inr (1, [.ref (vy 0), .ref (vt 0), .int it]))], TPW E vy u_8 tp, HW E vt (st (addP S P x1 (nI (P % 3))) 2 P (nI (tNr tp tl (tNx tp tl (tNx tp tl bb))))) Tt])) hC hD hW 5 rfl P rfl (by omega) (by decide) rfl rfl dX1_takePerson_68 (fun H locs hW => ?_)
        rw [addP_band] at hW
        have hW : Wd E A s.heap (wcat [[(xo, .inr (1, [.ref (vy 0), .ref (vt 0), .int it]))], TPW E vy u_8 tp, HW E vt (addP S P x1 (nI (tNr tp tl (tNx tp tl (tNx tp tl bb))))) Tt]) H locs := hW
        refine lv_aload_n hx hb dX1_takePerson_69 rfl (lv_at hl 1 rfl) ?_
        refine r_get hC hW flX1_9 0 rfl rfl dX1_takePerson_70 ?_
        refine r_callCv hC hD hW hA lkX1_31 (c_X3_step l E vy u_8 tp tl ht1 hB xr_7.1 (tEn tp tl (tNx tp tl (tNx tp tl bb))) (tEn_le (tNx_le (tNx_le hbb))) xr_7.2.2.2.1) rfl rfl ⟨by decide, by decide, by decide, by decide⟩ [1] rfl rfl rfl (fun _ => rfl) hl.1 rfl rfl (Nat.le_of_ble_eq_true rfl) dX1_takePerson_73 (fun u_11 H locs hr_10 hW => ?_)
        have hW : Wd E A s.heap (wcat [[(xo, .inr (1, [.ref (vy 0), .ref (vt 0), .int it]))], TPW E vy u_11 tp, HW E vt (addP S P x1 (nI (tNr tp tl (tNx tp tl (tNx tp tl bb))))) Tt]) H locs := hW
        have xr_10 := hr_10
        refine lv_iconst (v := 1) hx hb dX1_takePerson_76 (by decide) ?_
        exact r_zret hC hQ hD hW (by decide) (u_11, addP S P x1 (nI (tNr tp tl (tNx tp tl (tNx tp tl bb))))) (by rw [pPerson, if_pos (show P < 6 by omega), cif_t b_6, cif_t b_9]; exact ⟨rfl, xr_10, rfl⟩) rfl rfl dX1_takePerson_77
  · have c_1 : ¬ P < 6 := fun z_ => c_1 ((nI_ltI (a := P) (b := 6) (by omega) (by omega)).mpr z_)
    refine lv_iconst (v := 0) hx hb dX1_takePerson_12 (by decide) ?_
    exact r_zret hC hQ hD hW (by decide) (y, S) (by rw [pPerson, if_neg (show ¬ P < 6 by omega)]; exact ⟨rfl, hY⟩) rfl rfl dX1_takePerson_13
set_option maxHeartbeats 4000000 in
set_option maxRecDepth 100000 in
theorem c_X1_takeGarment (l : Launch) (E : Ev) (ad : Nat → Nat) (av : Nat → Nat) (xo : Nat) (vt : Nat → Nat) (it : Int32) (vy : Nat → Nat) (y : Nat → Int32) (tp : Nat → Int32) (tl : Nat) (ht1 : tl ≤ 120) (hB : tBY tp tl) (bb : Nat) (hbb : bb ≤ tl) (hY : YT tp tl bb y) (S : HS) (Tt : HS) (P : Nat) (G : Nat) (hV : HV S P G) (x1 : Int32) : MIs l E ad av yX1_takeGarment cX1_takeGarment 3 .boolean 5 107 [.ref xo, .int x1] (wcat [[(xo, .inr (1, [.ref (vy 0), .ref (vt 0), .int it]))], TPW E vy y tp, HW E vt S Tt]) (fun (r : Int32) (u : ((Nat → Int32) × HS)) => IC tp tl (pGarment tp tl S P G x1 bb) u.1 u.2 r) (fun (u : ((Nat → Int32) × HS)) => (wcat [[(xo, .inr (1, [.ref (vy 0), .ref (vt 0), .int it]))], TPW E vy u.1 tp, HW E vt u.2 Tt])) := by
  refine MIs_intro RX1 (by decide) rfl (Nat.le_of_ble_eq_true rfl) ?_
  intro p e R s m args below meth c A Q hQ hC hD hW hA hSX ls hl
  have hx := hC.1
  have hb := hC.2.1
  have hW : Wd E A s.heap (wcat [[(xo, .inr (1, [.ref (vy 0), .ref (vt 0), .int it]))], TPW E vy y tp, HW E vt S Tt]) s.heap [] := hW
  have hD : Dj A [xo, vy 0, vy 1, vt 0, vt 1, vt 2, vt 3, vt 4, vt 5, vt 6, vt 7, vt 8, vt 9, vt 10] := hD
  have hl : lv_has ls 3 [(0, .ref xo), (1, .int x1)] := hl
  have hP := hV.p
  have hP1 := hV.p6
  have hG := hV.g
  have hG1 := hV.g10
  have hp9 := pm999 hP1
  refine lv_aload_n hx hb dX1_takeGarment_0 rfl (lv_at hl 0 rfl) ?_
  refine r_get hC hW flX1_15 0 rfl rfl dX1_takeGarment_1 ?_
  refine r_get hC hW flX1_91 3 rfl rfl dX1_takeGarment_4 ?_
  refine n_top hV.g ?_
  refine lv_bipush (v := 10) hx hb dX1_takeGarment_7 (by decide) ?_
  refine lv_icmp_ge (tgt := 29) hx hb dX1_takeGarment_9 (by decide) (fun c_1 => ?_) (fun c_1 => ?_)
  · have c_1 : 10 ≤ G := (nI_leI (a := 10) (b := G) (by omega) (by omega)).mp c_1
    refine lv_iconst (v := 0) hx hb dX1_takeGarment_29 (by decide) ?_
    exact r_zret hC hQ hD hW (by decide) (y, S) (by rw [pGarment, if_neg (show ¬ G < 10 by omega)]; exact ⟨rfl, hY⟩) rfl rfl dX1_takeGarment_30
  · have c_1 : ¬ 10 ≤ G := fun z_ => c_1 ((nI_leI (a := 10) (b := G) (by omega) (by omega)).mpr z_)
    refine lv_aload_n hx hb dX1_takeGarment_12 rfl (lv_at hl 0 rfl) ?_
    refine lv_iconst (v := 0) hx hb dX1_takeGarment_13 (by decide) ?_
    refine lv_aload_n hx hb dX1_takeGarment_14 rfl (lv_at hl 0 rfl) ?_
    refine r_get hC hW flX1_15 0 rfl rfl dX1_takeGarment_15 ?_
    refine r_get hC hW flX1_69 3 rfl rfl dX1_takeGarment_18 ?_
    refine n_top hV.p ?_
    refine lv_iconst (v := 1) hx hb dX1_takeGarment_21 (by decide) ?_
    refine n_isub (v := (nI P - 1)) hx hb dX1_takeGarment_22 rfl ?_
    refine r_callCi hC hD hW hA lkX1_80 (c_X1_takeNumber l E xo vt it vy y tp tl ht1 hB bb hbb hY 0 (nI P - 1) hp9) rfl rfl ⟨by decide, by decide, by decide, by decide⟩ [0, 1] rfl rfl rfl (fun _ => rfl) hl.1 rfl rfl (Nat.le_of_ble_eq_true rfl) dX1_takeGarment_23 (fun r_2 u_3 H locs hr_2 hW => ?_)
    have hW : Wd E A s.heap (wcat [[(xo, .inr (1, [.ref (vy 0), .ref (vt 0), .int it]))], TPW E vy u_3 tp, HW E vt S Tt]) H locs := hW
    obtain ⟨hr_2, xr_2⟩ := hr_2
    have hr_2 : bz (tNm tp tl (tNx tp tl bb) 0 (nI P - 1)) r_2 := hr_2
    rcases hr_2 with ⟨rfl, b_4⟩ | ⟨rfl, b_4⟩
    · refine lv_if_ne (tgt := 31) hx hb dX1_takeGarment_26 (by decide) (fun c => absurd c (by decide)) (fun _ => ?_)
      refine lv_iconst (v := 0) hx hb dX1_takeGarment_29 (by decide) ?_
      exact r_zret hC hQ hD hW (by decide) (u_3, S) (by rw [pGarment, if_pos (show G < 10 by omega), cif_f b_4]; exact ⟨rfl, xr_2⟩) rfl rfl dX1_takeGarment_30
    · refine lv_if_ne (tgt := 31) hx hb dX1_takeGarment_26 (by decide) (fun _ => ?_) (fun c => absurd c (by decide))
      obtain ⟨o9, ho9⟩ : ∃ o_ : Int32, o_ = nI (tNr tp tl (tNx tp tl bb)) := ⟨_, rfl⟩
      refine lv_aload_n hx hb dX1_takeGarment_31 rfl (lv_at hl 0 rfl) ?_
      refine r_get hC hW flX1_15 0 rfl rfl dX1_takeGarment_32 ?_
      refine lv_aload_n hx hb dX1_takeGarment_35 rfl (lv_at hl 0 rfl) ?_
      refine r_get hC hW flX1_9 0 rfl rfl dX1_takeGarment_36 ?_
      refine r_get hC hW flX1_88 1 rfl rfl dX1_takeGarment_39 ?_
      refine n_top ((xr_2.2.2.2.2.trans (congrArg nI (tNc_eq b_4 hp9))).trans ho9.symm) ?_
      refine lv_iload_n hx hb dX1_takeGarment_42 rfl (lv_at hl 1 rfl) ?_
      refine r_callCi hC hD hW hA lkX1_94 (c_X0_addGarment l E vt S Tt G hG (by omega) o9 x1) rfl rfl ⟨by decide, by decide, by decide, by decide⟩ [2] rfl rfl rfl (fun _ => rfl) hl.1 rfl rfl (Nat.le_of_ble_eq_true rfl) dX1_takeGarment_43 (fun r_5 _ H locs hr_5 hW => ?_)
      have hW : Wd E A s.heap (wcat [[(xo, .inr (1, [.ref (vy 0), .ref (vt 0), .int it]))], TPW E vy u_3 tp, HW E vt (addG S G o9 x1 99 o9) Tt]) H locs := hW
      have hr_5 : r_5 = (nI G) := hr_5
      subst hr_5
      refine lv_istore_n (lv' := [(2, .int (nI G)), (0, .ref xo), (1, .int x1)]) hx hb dX1_takeGarment_46 rfl hl (by decide) rfl (fun ls hl => ?_)
      refine lv_aload_n hx hb dX1_takeGarment_47 rfl (lv_at hl 1 rfl) ?_
      refine r_get hC hW flX1_9 0 rfl rfl dX1_takeGarment_48 ?_
      refine r_callCv hC hD hW hA lkX1_31 (c_X3_step l E vy u_3 tp tl ht1 hB xr_2.1 (tEn tp tl (tNx tp tl bb)) (tEn_le (tNx_le hbb)) xr_2.2.2.2.1) rfl rfl ⟨by decide, by decide, by decide, by decide⟩ [1] rfl rfl rfl (fun _ => rfl) hl.1 rfl rfl (Nat.le_of_ble_eq_true rfl) dX1_takeGarment_51 (fun u_7 H locs hr_6 hW => ?_)
      have hW : Wd E A s.heap (wcat [[(xo, .inr (1, [.ref (vy 0), .ref (vt 0), .int it]))], TPW E vy u_7 tp, HW E vt (addG S G o9 x1 99 o9) Tt]) H locs := hW
      have xr_6 := hr_6
      refine lv_aload_n hx hb dX1_takeGarment_54 rfl (lv_at hl 1 rfl) ?_
      refine r_get hC hW flX1_9 0 rfl rfl dX1_takeGarment_55 ?_
      refine r_ldcS (i := 12) hC hSX (by decide) rfl rfl dX1_takeGarment_58 ?_
      refine r_callCis hC hD hW hA hSX lkX1_57 (c_X3_isAtWord l E ad av vy u_7 tp tl ht1 hB (tNx tp tl (tNx tp tl bb)) (tNx_le (tNx_le hbb)) xr_6 12 (by decide) wdName wl12) rfl rfl ⟨by decide, by decide, by decide, by decide⟩ [1] rfl rfl rfl (fun _ => rfl) hl.1 rfl rfl (Nat.le_of_ble_eq_true rfl) dX1_takeGarment_60 (fun r_8 _ H locs hr_8 hW => ?_)
      have hW : Wd E A s.heap (wcat [[(xo, .inr (1, [.ref (vy 0), .ref (vt 0), .int it]))], TPW E vy u_7 tp, HW E vt (addG S G o9 x1 99 o9) Tt]) H locs := hW
      have hr_8 : bz (tIW tp tl (tNx tp tl (tNx tp tl bb)) wdName) r_8 := hr_8
      rcases hr_8 with ⟨rfl, b_9⟩ | ⟨rfl, b_9⟩
      · refine lv_if_eq (tgt := 101) hx hb dX1_takeGarment_63 (by decide) (fun _ => ?_) (fun c => absurd c (by decide))
        refine lv_aload_n hx hb dX1_takeGarment_101 rfl (lv_at hl 1 rfl) ?_
        refine r_get hC hW flX1_9 0 rfl rfl dX1_takeGarment_102 ?_
        refine r_ldcS (i := 13) hC hSX (by decide) rfl rfl dX1_takeGarment_105 ?_
        refine r_callCis hC hD hW hA hSX lkX1_57 (c_X3_isAtWord l E ad av vy u_7 tp tl ht1 hB (tNx tp tl (tNx tp tl bb)) (tNx_le (tNx_le hbb)) xr_6 13 (by decide) wdHeap wl13) rfl rfl ⟨by decide, by decide, by decide, by decide⟩ [1] rfl rfl rfl (fun _ => rfl) hl.1 rfl rfl (Nat.le_of_ble_eq_true rfl) dX1_takeGarment_107 (fun r_10 _ H locs hr_10 hW => ?_)
        have hW : Wd E A s.heap (wcat [[(xo, .inr (1, [.ref (vy 0), .ref (vt 0), .int it]))], TPW E vy u_7 tp, HW E vt (addG S G o9 x1 99 o9) Tt]) H locs := hW
        have hr_10 : bz (tIW tp tl (tNx tp tl (tNx tp tl bb)) wdHeap) r_10 := hr_10
        rcases hr_10 with ⟨rfl, b_11⟩ | ⟨rfl, b_11⟩
        · refine lv_if_eq (tgt := 130) hx hb dX1_takeGarment_110 (by decide) (fun _ => ?_) (fun c => absurd c (by decide))
          refine lv_iconst (v := 1) hx hb dX1_takeGarment_130 (by decide) ?_
          exact r_zret hC hQ hD hW (by decide) (u_7, addG S G o9 x1 99 o9) (by rw [pGarment, if_pos (show G < 10 by omega), cif_t b_4, pName, ← ho9, cif_f b_9, pHeap, cif_f b_11]; exact ⟨rfl, xr_6, rfl⟩) rfl rfl dX1_takeGarment_131
        · refine lv_if_eq (tgt := 130) hx hb dX1_takeGarment_110 (by decide) (fun c => absurd c (by decide)) (fun _ => ?_)
          refine lv_aload_n hx hb dX1_takeGarment_113 rfl (lv_at hl 1 rfl) ?_
          refine r_get hC hW flX1_15 0 rfl rfl dX1_takeGarment_114 ?_
          refine r_get hC hW flX1_105 3 rfl rfl dX1_takeGarment_117 ?_
          refine lv_iload_n hx hb dX1_takeGarment_120 rfl (lv_at hl 0 rfl) ?_
          refine lv_iconst (v := (-1)) hx hb dX1_takeGarment_121 (by decide) ?_
          refine r_iast (ws' := (wcat [[(xo, .inr (1, [.ref (vy 0), .ref (vt 0), .int it]))], TPW E vy u_7 tp, HW E vt (st (addG S G o9 x1 99 o9) 8 G (-1)) Tt])) hC hD hW 11 rfl G rfl (by omega) (by decide) rfl rfl dX1_takeGarment_122 (fun H locs hW => ?_)
          rw [addG_hold] at hW
          have hW : Wd E A s.heap (wcat [[(xo, .inr (1, [.ref (vy 0), .ref (vt 0), .int it]))], TPW E vy u_7 tp, HW E vt (addG S G o9 x1 99 (-1)) Tt]) H locs := hW
          refine lv_aload_n hx hb dX1_takeGarment_123 rfl (lv_at hl 1 rfl) ?_
          refine r_get hC hW flX1_9 0 rfl rfl dX1_takeGarment_124 ?_
          refine r_callCv hC hD hW hA lkX1_31 (c_X3_step l E vy u_7 tp tl ht1 hB xr_6.1 (tEn tp tl (tNx tp tl (tNx tp tl bb))) (tEn_le (tNx_le (tNx_le hbb))) xr_6.2.2.2.1) rfl rfl ⟨by decide, by decide, by decide, by decide⟩ [1] rfl rfl rfl (fun _ => rfl) hl.1 rfl rfl (Nat.le_of_ble_eq_true rfl) dX1_takeGarment_127 (fun u_13 H locs hr_12 hW => ?_)
          have hW : Wd E A s.heap (wcat [[(xo, .inr (1, [.ref (vy 0), .ref (vt 0), .int it]))], TPW E vy u_13 tp, HW E vt (addG S G o9 x1 99 (-1)) Tt]) H locs := hW
          have xr_12 := hr_12
          refine lv_iconst (v := 1) hx hb dX1_takeGarment_130 (by decide) ?_
          exact r_zret hC hQ hD hW (by decide) (u_13, addG S G o9 x1 99 (-1)) (by rw [pGarment, if_pos (show G < 10 by omega), cif_t b_4, pName, ← ho9, cif_f b_9, pHeap, cif_t b_11]; exact ⟨rfl, xr_12, rfl⟩) rfl rfl dX1_takeGarment_131
      · refine lv_if_eq (tgt := 101) hx hb dX1_takeGarment_63 (by decide) (fun c => absurd c (by decide)) (fun _ => ?_)
        refine lv_aload_n hx hb dX1_takeGarment_66 rfl (lv_at hl 1 rfl) ?_
        refine lv_iconst (v := 0) hx hb dX1_takeGarment_67 (by decide) ?_
        refine lv_bipush (v := 99) hx hb dX1_takeGarment_68 (by decide) ?_
        refine r_callCi hC hD hW hA lkX1_80 (c_X1_takeNumber l E xo vt it vy u_7 tp tl ht1 hB (tNx tp tl (tNx tp tl bb)) (tNx_le (tNx_le hbb)) xr_6 0 99 (by decide)) rfl rfl ⟨by decide, by decide, by decide, by decide⟩ [0, 1] rfl rfl rfl (fun _ => rfl) hl.1 rfl rfl (Nat.le_of_ble_eq_true rfl) dX1_takeGarment_70 (fun r_14 u_15 H locs hr_14 hW => ?_)
        have hW : Wd E A s.heap (wcat [[(xo, .inr (1, [.ref (vy 0), .ref (vt 0), .int it]))], TPW E vy u_15 tp, HW E vt (addG S G o9 x1 99 o9) Tt]) H locs := hW
        obtain ⟨hr_14, xr_14⟩ := hr_14
        have hr_14 : bz (tNm tp tl (tNx tp tl (tNx tp tl (tNx tp tl bb))) 0 99) r_14 := hr_14
        rcases hr_14 with ⟨rfl, b_16⟩ | ⟨rfl, b_16⟩
        · refine lv_if_ne (tgt := 78) hx hb dX1_takeGarment_73 (by decide) (fun c => absurd c (by decide)) (fun _ => ?_)
          refine lv_iconst (v := 0) hx hb dX1_takeGarment_76 (by decide) ?_
          exact r_zret hC hQ hD hW (by decide) (u_15, addG S G o9 x1 99 o9) (by rw [pGarment, if_pos (show G < 10 by omega), cif_t b_4, pName, ← ho9, cif_t b_9, cif_f b_16]; exact ⟨rfl, xr_14⟩) rfl rfl dX1_takeGarment_77
        · refine lv_if_ne (tgt := 78) hx hb dX1_takeGarment_73 (by decide) (fun _ => ?_) (fun c => absurd c (by decide))
          obtain ⟨n9, hn9⟩ : ∃ o_ : Int32, o_ = nI (tNr tp tl (tNx tp tl (tNx tp tl (tNx tp tl bb)))) := ⟨_, rfl⟩
          refine lv_aload_n hx hb dX1_takeGarment_78 rfl (lv_at hl 1 rfl) ?_
          refine r_get hC hW flX1_15 0 rfl rfl dX1_takeGarment_79 ?_
          refine r_get hC hW flX1_100 3 rfl rfl dX1_takeGarment_82 ?_
          refine lv_iload_n hx hb dX1_takeGarment_85 rfl (lv_at hl 0 rfl) ?_
          refine lv_aload_n hx hb dX1_takeGarment_86 rfl (lv_at hl 1 rfl) ?_
          refine r_get hC hW flX1_9 0 rfl rfl dX1_takeGarment_87 ?_
          refine r_get hC hW flX1_88 1 rfl rfl dX1_takeGarment_90 ?_
          refine n_top ((xr_14.2.2.2.2.trans (congrArg nI (tNc_eq b_16 (by decide)))).trans hn9.symm) ?_
          refine r_iast (ws' := (wcat [[(xo, .inr (1, [.ref (vy 0), .ref (vt 0), .int it]))], TPW E vy u_15 tp, HW E vt (st (addG S G o9 x1 99 o9) 7 G n9) Tt])) hC hD hW 10 rfl G rfl (by omega) (by decide) rfl rfl dX1_takeGarment_93 (fun H locs hW => ?_)
          rw [addG_name] at hW
          have hW : Wd E A s.heap (wcat [[(xo, .inr (1, [.ref (vy 0), .ref (vt 0), .int it]))], TPW E vy u_15 tp, HW E vt (addG S G o9 x1 n9 o9) Tt]) H locs := hW
          refine lv_aload_n hx hb dX1_takeGarment_94 rfl (lv_at hl 1 rfl) ?_
          refine r_get hC hW flX1_9 0 rfl rfl dX1_takeGarment_95 ?_
          refine r_callCv hC hD hW hA lkX1_31 (c_X3_step l E vy u_15 tp tl ht1 hB xr_14.1 (tEn tp tl (tNx tp tl (tNx tp tl (tNx tp tl bb)))) (tEn_le (tNx_le (tNx_le (tNx_le hbb)))) xr_14.2.2.2.1) rfl rfl ⟨by decide, by decide, by decide, by decide⟩ [1] rfl rfl rfl (fun _ => rfl) hl.1 rfl rfl (Nat.le_of_ble_eq_true rfl) dX1_takeGarment_98 (fun u_18 H locs hr_17 hW => ?_)
          have hW : Wd E A s.heap (wcat [[(xo, .inr (1, [.ref (vy 0), .ref (vt 0), .int it]))], TPW E vy u_18 tp, HW E vt (addG S G o9 x1 n9 o9) Tt]) H locs := hW
          have xr_17 := hr_17
          refine lv_aload_n hx hb dX1_takeGarment_101 rfl (lv_at hl 1 rfl) ?_
          refine r_get hC hW flX1_9 0 rfl rfl dX1_takeGarment_102 ?_
          refine r_ldcS (i := 13) hC hSX (by decide) rfl rfl dX1_takeGarment_105 ?_
          refine r_callCis hC hD hW hA hSX lkX1_57 (c_X3_isAtWord l E ad av vy u_18 tp tl ht1 hB (tNx tp tl (tNx tp tl (tNx tp tl (tNx tp tl bb)))) (tNx_le (tNx_le (tNx_le (tNx_le hbb)))) xr_17 13 (by decide) wdHeap wl13) rfl rfl ⟨by decide, by decide, by decide, by decide⟩ [1] rfl rfl rfl (fun _ => rfl) hl.1 rfl rfl (Nat.le_of_ble_eq_true rfl) dX1_takeGarment_107 (fun r_19 _ H locs hr_19 hW => ?_)
          have hW : Wd E A s.heap (wcat [[(xo, .inr (1, [.ref (vy 0), .ref (vt 0), .int it]))], TPW E vy u_18 tp, HW E vt (addG S G o9 x1 n9 o9) Tt]) H locs := hW
          have hr_19 : bz (tIW tp tl (tNx tp tl (tNx tp tl (tNx tp tl (tNx tp tl bb)))) wdHeap) r_19 := hr_19
          rcases hr_19 with ⟨rfl, b_20⟩ | ⟨rfl, b_20⟩
          · refine lv_if_eq (tgt := 130) hx hb dX1_takeGarment_110 (by decide) (fun _ => ?_) (fun c => absurd c (by decide))
            refine lv_iconst (v := 1) hx hb dX1_takeGarment_130 (by decide) ?_
            exact r_zret hC hQ hD hW (by decide) (u_18, addG S G o9 x1 n9 o9) (by rw [pGarment, if_pos (show G < 10 by omega), cif_t b_4, pName, ← ho9, cif_t b_9, cif_t b_16, ← hn9, pHeap, cif_f b_20]; exact ⟨rfl, xr_17, rfl⟩) rfl rfl dX1_takeGarment_131
          · refine lv_if_eq (tgt := 130) hx hb dX1_takeGarment_110 (by decide) (fun c => absurd c (by decide)) (fun _ => ?_)
            refine lv_aload_n hx hb dX1_takeGarment_113 rfl (lv_at hl 1 rfl) ?_
            refine r_get hC hW flX1_15 0 rfl rfl dX1_takeGarment_114 ?_
            refine r_get hC hW flX1_105 3 rfl rfl dX1_takeGarment_117 ?_
            refine lv_iload_n hx hb dX1_takeGarment_120 rfl (lv_at hl 0 rfl) ?_
            refine lv_iconst (v := (-1)) hx hb dX1_takeGarment_121 (by decide) ?_
            refine r_iast (ws' := (wcat [[(xo, .inr (1, [.ref (vy 0), .ref (vt 0), .int it]))], TPW E vy u_18 tp, HW E vt (st (addG S G o9 x1 n9 o9) 8 G (-1)) Tt])) hC hD hW 11 rfl G rfl (by omega) (by decide) rfl rfl dX1_takeGarment_122 (fun H locs hW => ?_)
            rw [addG_hold] at hW
            have hW : Wd E A s.heap (wcat [[(xo, .inr (1, [.ref (vy 0), .ref (vt 0), .int it]))], TPW E vy u_18 tp, HW E vt (addG S G o9 x1 n9 (-1)) Tt]) H locs := hW
            refine lv_aload_n hx hb dX1_takeGarment_123 rfl (lv_at hl 1 rfl) ?_
            refine r_get hC hW flX1_9 0 rfl rfl dX1_takeGarment_124 ?_
            refine r_callCv hC hD hW hA lkX1_31 (c_X3_step l E vy u_18 tp tl ht1 hB xr_17.1 (tEn tp tl (tNx tp tl (tNx tp tl (tNx tp tl (tNx tp tl bb))))) (tEn_le (tNx_le (tNx_le (tNx_le (tNx_le hbb))))) xr_17.2.2.2.1) rfl rfl ⟨by decide, by decide, by decide, by decide⟩ [1] rfl rfl rfl (fun _ => rfl) hl.1 rfl rfl (Nat.le_of_ble_eq_true rfl) dX1_takeGarment_127 (fun u_22 H locs hr_21 hW => ?_)
            have hW : Wd E A s.heap (wcat [[(xo, .inr (1, [.ref (vy 0), .ref (vt 0), .int it]))], TPW E vy u_22 tp, HW E vt (addG S G o9 x1 n9 (-1)) Tt]) H locs := hW
            have xr_21 := hr_21
            refine lv_iconst (v := 1) hx hb dX1_takeGarment_130 (by decide) ?_
            exact r_zret hC hQ hD hW (by decide) (u_22, addG S G o9 x1 n9 (-1)) (by rw [pGarment, if_pos (show G < 10 by omega), cif_t b_4, pName, ← ho9, cif_t b_9, cif_t b_16, ← hn9, pHeap, cif_t b_20]; exact ⟨rfl, xr_21, rfl⟩) rfl rfl dX1_takeGarment_131
