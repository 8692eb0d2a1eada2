set_option maxHeartbeats 4000000 in
set_option maxRecDepth 100000 in
theorem c_X5_wantOne (l : Launch) (E : Ev) (b : Nat → Nat) (z : Nat → Int32) (w : Int64) (tp : Nat → Int32) (tl : Nat) (ht1 : tl ≤ 120) (hB : tBY tp tl) (bb : Nat) (hbb : bb ≤ tl) (hZ : ZT tp tl bb z w) (S : HS) (P : Nat) (G : Nat) (hV : HV S P G) (x1 : Int32) : MV l E yX5_wantOne cX5_wantOne 3 5 111 0 0 [.ref (b 0), .int x1] (wcat [MJ b z w, IA E (b 5) 120 tp, IA E (b 1) 68 (enc S)]) (fun (u : (((Nat → Int32) × Int64) × HS)) => IR tp tl (pPerson tp tl S P G x1 bb) u.1.1 u.1.2 u.2 ∧ u.1.1 6 = z 6) (fun (u : (((Nat → Int32) × Int64) × HS)) => (wcat [MJ b u.1.1 u.1.2, IA E (b 5) 120 tp, IA E (b 1) 68 (enc u.2)])) := by
  refine MV_intro RX5 (by decide) rfl (Nat.le_of_ble_eq_true rfl) ?_
  intro p e R s m args below meth c A Q hQ hC hnm hD hW hA ls hl
  have hx := hC.1
  have hb := hC.2.1
  have hW : Wd E A s.heap (wcat [MJ b z w, IA E (b 5) 120 tp, IA E (b 1) 68 (enc S)]) s.heap [] := hW
  have hD : Dj A [b 0, b 5, b 1] := hD
  have hl : lv_has ls 3 [(0, .ref (b 0)), (1, .int x1)] := hl
  have hP := hV.p
  have hP1 := hV.p6
  have hG := hV.g
  have hG1 := hV.g10
  refine lv_aload_n hx hb dX5_wantOne_0 rfl (lv_at hl 0 rfl) ?_
  refine lv_aload_n hx hb dX5_wantOne_1 rfl (lv_at hl 0 rfl) ?_
  refine r_get hC hW flX5_7 0 rfl rfl dX5_wantOne_2 ?_
  refine lv_iconst (v := 2) hx hb dX5_wantOne_5 (by decide) ?_
  refine r_iald hC hW 2 rfl 2 rfl (by omega) (by decide) dX5_wantOne_6 ?_
  refine n_top (enc_0 S (by decide)) ?_
  refine n_top hV.p ?_
  refine lv_bipush (v := 6) hx hb dX5_wantOne_7 (by decide) ?_
  refine lv_icmp_ge (tgt := 16) hx hb dX5_wantOne_9 (by decide) (fun c_1 => ?_) (fun c_1 => ?_)
  · have c_1 : 6 ≤ P := (nI_leI (a := 6) (b := P) (by omega) (by omega)).mp c_1
    refine lv_iconst (v := 0) hx hb dX5_wantOne_16 (by decide) ?_
    refine r_put (ws' := (wcat [MJ b (upd z 5 0) w, IA E (b 5) 120 tp, IA E (b 1) 68 (enc S)])) hC hD hW fpX5_224 0 rfl rfl rfl (Nat.le_of_ble_eq_true rfl) rfl rfl dX5_wantOne_17 (fun H locs hW => ?_)
    refine lv_aload_n hx hb dX5_wantOne_20 rfl (lv_at hl 0 rfl) ?_
    refine r_get hC hW flX5_224 0 rfl rfl dX5_wantOne_21 ?_
    refine n_top (show (upd z 5 0) 5 = 0 from rfl) ?_
    refine lv_if_ne (tgt := 28) hx hb dX5_wantOne_24 (by decide) (fun c => absurd c (by decide)) (fun _ => ?_)
    exact r_vret hC hQ hD hW ((upd z 5 0, w), S) ⟨by rw [pPerson, if_neg (show ¬ P < 6 by omega)]; exact ⟨(show (upd z 5 0) 5 = 0 from rfl), hZ⟩, rfl⟩ rfl rfl dX5_wantOne_27
  · have c_1 : ¬ 6 ≤ P := fun z_ => c_1 ((nI_leI (a := 6) (b := P) (by omega) (by omega)).mpr z_)
    refine lv_iconst (v := 1) hx hb dX5_wantOne_12 (by decide) ?_
    refine lv_goto (tgt := 17) hx hb dX5_wantOne_13 (by decide) ?_
    refine r_put (ws' := (wcat [MJ b (upd z 5 1) w, IA E (b 5) 120 tp, IA E (b 1) 68 (enc S)])) hC hD hW fpX5_224 0 rfl rfl rfl (Nat.le_of_ble_eq_true rfl) rfl rfl dX5_wantOne_17 (fun H locs hW => ?_)
    refine lv_aload_n hx hb dX5_wantOne_20 rfl (lv_at hl 0 rfl) ?_
    refine r_get hC hW flX5_224 0 rfl rfl dX5_wantOne_21 ?_
    refine n_top (show (upd z 5 1) 5 = 1 from rfl) ?_
    refine lv_if_ne (tgt := 28) hx hb dX5_wantOne_24 (by decide) (fun _ => ?_) (fun c => absurd c (by decide))
    refine lv_aload_n hx hb dX5_wantOne_28 rfl (lv_at hl 0 rfl) ?_
    refine r_callCv hC hD hW hA lkX5_228 (c_X5_advance l E b (upd z 5 1) w tp tl ht1 hB hZ.1 (tEn tp tl bb) (tEn_le hbb) hZ.2.2.2.1) rfl rfl ⟨by decide, by decide, by decide, by decide⟩ [0, 1] rfl rfl rfl (fun _ => rfl) hl.1 rfl rfl (Nat.le_of_ble_eq_true rfl) dX5_wantOne_29 (fun u_3 H locs hr_2 hW => ?_)
    have hW : Wd E A s.heap (wcat [MJ b u_3.1 u_3.2, IA E (b 5) 120 tp, IA E (b 1) 68 (enc S)]) H locs := hW
    have xr_2 := hr_2
    refine lv_aload_n hx hb dX5_wantOne_32 rfl (lv_at hl 0 rfl) ?_
    refine r_ldc2 hC clX5_234 dX5_wantOne_33 ?_
    refine lv_iconst (v := 0) hx hb dX5_wantOne_36 (by decide) ?_
    refine lv_iconst (v := 2) hx hb dX5_wantOne_37 (by decide) ?_
    refine lv_aload_n hx hb dX5_wantOne_38 rfl (lv_at hl 0 rfl) ?_
    refine r_get hC hW flX5_7 0 rfl rfl dX5_wantOne_39 ?_
    refine lv_iconst (v := 2) hx hb dX5_wantOne_42 (by decide) ?_
    refine r_iald hC hW 2 rfl 2 rfl (by omega) (by decide) dX5_wantOne_43 ?_
    refine n_top (enc_0 S (by decide)) ?_
    refine n_top hV.p ?_
    refine lv_iconst (v := 3) hx hb dX5_wantOne_44 (by decide) ?_
    refine n_irem (v := (nI (P % 3))) hx hb dX5_wantOne_45 (by decide) (pk_rem (a := P) (d := 3) (by omega) (by decide) (by decide)) ?_
    by_cases hI : tIW tp tl (tNx tp tl bb) wdBand
    · by_cases hN : tNm tp tl (tNx tp tl (tNx tp tl bb)) 0 2
      · refine r_callCi hC hD hW hA lkX5_236 (c_X5_mayWant_y l E b u_3.1 u_3.2 tp tl ht1 hB (tNx tp tl bb) (tNx_le hbb) xr_2.1 wdBand okBand 40477 (by decide +kernel) 0 2 (nI (P % 3)) (show u_3.1 5 = 1 from (xr_2.2.1.trans (show (upd z 5 1) 5 = 1 from rfl))) hI hN) rfl rfl ⟨by decide, by decide, by decide, by decide⟩ [0, 1] rfl rfl rfl (fun _ => rfl) hl.1 rfl rfl (Nat.le_of_ble_eq_true rfl) dX5_wantOne_46 (fun r_4 u_5 H locs hr_4 hW => ?_)
        have hW : Wd E A s.heap (wcat [MJ b u_5.1 u_5.2, IA E (b 5) 120 tp, IA E (b 1) 68 (enc S)]) H locs := hW
        obtain ⟨hr_4, xr_4⟩ := hr_4
        have hr_4 : r_4 = (nI (tNr tp tl (tNx tp tl (tNx tp tl bb)))) := hr_4
        subst hr_4
        refine lv_istore_n (lv' := [(2, .int (nI (tNr tp tl (tNx tp tl (tNx tp tl bb))))), (0, .ref (b 0)), (1, .int x1)]) hx hb dX5_wantOne_49 rfl hl (by decide) rfl (fun ls hl => ?_)
        refine lv_aload_n hx hb dX5_wantOne_50 rfl (lv_at hl 1 rfl) ?_
        refine r_get hC hW flX5_224 0 rfl rfl dX5_wantOne_51 ?_
        refine n_top xr_4.2.1 ?_
        refine lv_if_eq (tgt := 63) hx hb dX5_wantOne_54 (by decide) (fun c => absurd c (by decide)) (fun _ => ?_)
        refine lv_aload_n hx hb dX5_wantOne_57 rfl (lv_at hl 1 rfl) ?_
        refine lv_iload_n hx hb dX5_wantOne_58 rfl (lv_at hl 2 rfl) ?_
        refine lv_iload_n hx hb dX5_wantOne_59 rfl (lv_at hl 0 rfl) ?_
        refine r_callVv hC hD hW hA lkX5_94 (c_X5_adds l E (b 0) (b 1) (MF b u_5.1 u_5.2) rfl S P hP (by omega) x1 (nI (tNr tp tl (tNx tp tl (tNx tp tl bb))))) rfl ⟨by decide, by decide, by decide, by decide⟩ [0, 2] rfl rfl rfl (fun _ => rfl) hl.1 rfl rfl (Nat.le_of_ble_eq_true rfl) dX5_wantOne_60 (fun _ H locs hr_6 hW => ?_)
        have hW : Wd E A s.heap (wcat [MJ b u_5.1 u_5.2, IA E (b 5) 120 tp, IA E (b 1) 68 (enc (addP S P x1 (nI (tNr tp tl (tNx tp tl (tNx tp tl bb))))))]) H locs := hW
        exact r_vret hC hQ hD hW ((u_5.1, u_5.2), (addP S P x1 (nI (tNr tp tl (tNx tp tl (tNx tp tl bb)))))) ⟨by rw [pPerson, if_pos (show P < 6 by omega), cif_t hI, cif_t hN]; exact ⟨(show u_5.1 5 = 1 from xr_4.2.1), xr_4.1, rfl⟩, (xr_4.2.2.trans (xr_2.2.2.trans rfl))⟩ rfl rfl dX5_wantOne_63
      · refine r_callCi hC hD hW hA lkX5_236 (c_X5_mayWant_n l E b u_3.1 u_3.2 tp tl ht1 hB (tNx tp tl bb) (tNx_le hbb) xr_2.1 wdBand okBand 40477 (by decide +kernel) 0 2 (nI (P % 3)) (show u_3.1 5 = 1 from (xr_2.2.1.trans (show (upd z 5 1) 5 = 1 from rfl))) hI hN) rfl rfl ⟨by decide, by decide, by decide, by decide⟩ [0, 1] rfl rfl rfl (fun _ => rfl) hl.1 rfl rfl (Nat.le_of_ble_eq_true rfl) dX5_wantOne_46 (fun r_7 u_8 H locs hr_7 hW => ?_)
        have hW : Wd E A s.heap (wcat [MJ b u_8.1 u_8.2, IA E (b 5) 120 tp, IA E (b 1) 68 (enc S)]) H locs := hW
        obtain ⟨hr_7, xr_7⟩ := hr_7
        have hr_7 : True := hr_7
        refine lv_istore_n (lv' := [(2, .int r_7), (0, .ref (b 0)), (1, .int x1)]) hx hb dX5_wantOne_49 rfl hl (by decide) rfl (fun ls hl => ?_)
        refine lv_aload_n hx hb dX5_wantOne_50 rfl (lv_at hl 1 rfl) ?_
        refine r_get hC hW flX5_224 0 rfl rfl dX5_wantOne_51 ?_
        refine n_top xr_7.2.1 ?_
        refine lv_if_eq (tgt := 63) hx hb dX5_wantOne_54 (by decide) (fun _ => ?_) (fun c => absurd c (by decide))
        exact r_vret hC hQ hD hW ((u_8.1, u_8.2), S) ⟨by rw [pPerson, if_pos (show P < 6 by omega), cif_t hI, cif_f hN]; exact ⟨(show u_8.1 5 = 0 from xr_7.2.1), xr_7.1⟩, (xr_7.2.2.trans (xr_2.2.2.trans rfl))⟩ rfl rfl dX5_wantOne_63
    · refine r_callCi hC hD hW hA lkX5_236 (c_X5_mayWant_w l E b u_3.1 u_3.2 tp tl ht1 hB (tNx tp tl bb) (tNx_le hbb) xr_2.1 wdBand okBand 40477 (by decide +kernel) 0 2 (nI (P % 3)) (show u_3.1 5 = 1 from (xr_2.2.1.trans (show (upd z 5 1) 5 = 1 from rfl))) hI) rfl rfl ⟨by decide, by decide, by decide, by decide⟩ [0, 1] rfl rfl rfl (fun _ => rfl) hl.1 rfl rfl (Nat.le_of_ble_eq_true rfl) dX5_wantOne_46 (fun r_9 _ H locs hr_9 hW => ?_)
      have hW : Wd E A s.heap (wcat [MJ b u_3.1 u_3.2, IA E (b 5) 120 tp, IA E (b 1) 68 (enc S)]) H locs := hW
      have hr_9 : r_9 = (nI (P % 3)) := hr_9
      subst hr_9
      refine lv_istore_n (lv' := [(2, .int (nI (P % 3))), (0, .ref (b 0)), (1, .int x1)]) hx hb dX5_wantOne_49 rfl hl (by decide) rfl (fun ls hl => ?_)
      refine lv_aload_n hx hb dX5_wantOne_50 rfl (lv_at hl 1 rfl) ?_
      refine r_get hC hW flX5_224 0 rfl rfl dX5_wantOne_51 ?_
      refine n_top (xr_2.2.1.trans (show (upd z 5 1) 5 = 1 from rfl)) ?_
      refine lv_if_eq (tgt := 63) hx hb dX5_wantOne_54 (by decide) (fun c => absurd c (by decide)) (fun _ => ?_)
      refine lv_aload_n hx hb dX5_wantOne_57 rfl (lv_at hl 1 rfl) ?_
      refine lv_iload_n hx hb dX5_wantOne_58 rfl (lv_at hl 2 rfl) ?_
      refine lv_iload_n hx hb dX5_wantOne_59 rfl (lv_at hl 0 rfl) ?_
      refine r_callVv hC hD hW hA lkX5_94 (c_X5_adds l E (b 0) (b 1) (MF b u_3.1 u_3.2) rfl S P hP (by omega) x1 (nI (P % 3))) rfl ⟨by decide, by decide, by decide, by decide⟩ [0, 2] rfl rfl rfl (fun _ => rfl) hl.1 rfl rfl (Nat.le_of_ble_eq_true rfl) dX5_wantOne_60 (fun _ H locs hr_10 hW => ?_)
      have hW : Wd E A s.heap (wcat [MJ b u_3.1 u_3.2, IA E (b 5) 120 tp, IA E (b 1) 68 (enc (addP S P x1 (nI (P % 3))))]) H locs := hW
      exact r_vret hC hQ hD hW ((u_3.1, u_3.2), (addP S P x1 (nI (P % 3)))) ⟨by rw [pPerson, if_pos (show P < 6 by omega), cif_f hI]; exact ⟨(show u_3.1 5 = 1 from (xr_2.2.1.trans (show (upd z 5 1) 5 = 1 from rfl))), xr_2.1, rfl⟩, (xr_2.2.2.trans rfl)⟩ rfl rfl dX5_wantOne_63
set_option maxHeartbeats 4000000 in
set_option maxRecDepth 100000 in
theorem c_X5_wantGarment (l : Launch) (E : Ev) (b : Nat → Nat) (z : Nat → Int32) (w : Int64) (tp : Nat → Int32) (tl : Nat) (ht1 : tl ≤ 120) (hB : tBY tp tl) (bb : Nat) (hbb : bb ≤ tl) (hZ : ZT tp tl bb z w) (S : HS) (P : Nat) (G : Nat) (hV : HV S P G) (x1 : Int32) : MV l E yX5_wantGarment cX5_wantGarment 5 5 111 0 0 [.ref (b 0), .int x1] (wcat [MJ b z w, IA E (b 5) 120 tp, IA E (b 1) 68 (enc S)]) (fun (u : (((Nat → Int32) × Int64) × HS)) => IR tp tl (pGarment tp tl S P G x1 bb) u.1.1 u.1.2 u.2 ∧ u.1.1 6 = z 6) (fun (u : (((Nat → Int32) × Int64) × HS)) => (wcat [MJ b u.1.1 u.1.2, IA E (b 5) 120 tp, IA E (b 1) 68 (enc u.2)])) := by
  refine MV_intro RX5 (by decide) rfl (Nat.le_of_ble_eq_true rfl) ?_
  intro p e R s m args below meth c A Q hQ hC hnm hD hW hA ls hl
  have hx := hC.1
  have hb := hC.2.1
  have hW : Wd E A s.heap (wcat [MJ b z w, IA E (b 5) 120 tp, IA E (b 1) 68 (enc S)]) s.heap [] := hW
  have hD : Dj A [b 0, b 5, b 1] := hD
  have hl : lv_has ls 5 [(0, .ref (b 0)), (1, .int x1)] := hl
  have hP := hV.p
  have hP1 := hV.p6
  have hG := hV.g
  have hG1 := hV.g10
  refine lv_aload_n hx hb dX5_wantGarment_0 rfl (lv_at hl 0 rfl) ?_
  refine lv_aload_n hx hb dX5_wantGarment_1 rfl (lv_at hl 0 rfl) ?_
  refine r_get hC hW flX5_7 0 rfl rfl dX5_wantGarment_2 ?_
  refine lv_iconst (v := 3) hx hb dX5_wantGarment_5 (by decide) ?_
  refine r_iald hC hW 2 rfl 3 rfl (by omega) (by decide) dX5_wantGarment_6 ?_
  refine n_top (enc_0 S (by decide)) ?_
  refine n_top hV.g ?_
  refine lv_bipush (v := 10) hx hb dX5_wantGarment_7 (by decide) ?_
  refine lv_icmp_ge (tgt := 16) hx hb dX5_wantGarment_9 (by decide) (fun c_1 => ?_) (fun c_1 => ?_)
  · have c_1 : 10 ≤ G := (nI_leI (a := 10) (b := G) (by omega) (by omega)).mp c_1
    refine lv_iconst (v := 0) hx hb dX5_wantGarment_16 (by decide) ?_
    refine r_put (ws' := (wcat [MJ b (upd z 5 0) w, IA E (b 5) 120 tp, IA E (b 1) 68 (enc S)])) hC hD hW fpX5_224 0 rfl rfl rfl (Nat.le_of_ble_eq_true rfl) rfl rfl dX5_wantGarment_17 (fun H locs hW => ?_)
    refine lv_aload_n hx hb dX5_wantGarment_20 rfl (lv_at hl 0 rfl) ?_
    refine r_get hC hW flX5_224 0 rfl rfl dX5_wantGarment_21 ?_
    refine n_top (show (upd z 5 0) 5 = 0 from rfl) ?_
    refine lv_if_ne (tgt := 28) hx hb dX5_wantGarment_24 (by decide) (fun c => absurd c (by decide)) (fun _ => ?_)
    exact r_vret hC hQ hD hW ((upd z 5 0, w), S) ⟨by rw [pGarment, if_neg (show ¬ G < 10 by omega)]; exact ⟨(show (upd z 5 0) 5 = 0 from rfl), hZ⟩, rfl⟩ rfl rfl dX5_wantGarment_27
  · have c_1 : ¬ 10 ≤ G := fun z_ => c_1 ((nI_leI (a := 10) (b := G) (by omega) (by omega)).mpr z_)
    refine lv_iconst (v := 1) hx hb dX5_wantGarment_12 (by decide) ?_
    refine lv_goto (tgt := 17) hx hb dX5_wantGarment_13 (by decide) ?_
    refine r_put (ws' := (wcat [MJ b (upd z 5 1) w, IA E (b 5) 120 tp, IA E (b 1) 68 (enc S)])) hC hD hW fpX5_224 0 rfl rfl rfl (Nat.le_of_ble_eq_true rfl) rfl rfl dX5_wantGarment_17 (fun H locs hW => ?_)
    refine lv_aload_n hx hb dX5_wantGarment_20 rfl (lv_at hl 0 rfl) ?_
    refine r_get hC hW flX5_224 0 rfl rfl dX5_wantGarment_21 ?_
    refine n_top (show (upd z 5 1) 5 = 1 from rfl) ?_
    refine lv_if_ne (tgt := 28) hx hb dX5_wantGarment_24 (by decide) (fun _ => ?_) (fun c => absurd c (by decide))
    refine lv_aload_n hx hb dX5_wantGarment_28 rfl (lv_at hl 0 rfl) ?_
    refine r_callCv hC hD hW hA lkX5_228 (c_X5_advance l E b (upd z 5 1) w tp tl ht1 hB hZ.1 (tEn tp tl bb) (tEn_le hbb) hZ.2.2.2.1) rfl rfl ⟨by decide, by decide, by decide, by decide⟩ [0, 1] rfl rfl rfl (fun _ => rfl) hl.1 rfl rfl (Nat.le_of_ble_eq_true rfl) dX5_wantGarment_29 (fun u_3 H locs hr_2 hW => ?_)
    have hW : Wd E A s.heap (wcat [MJ b u_3.1 u_3.2, IA E (b 5) 120 tp, IA E (b 1) 68 (enc S)]) H locs := hW
    have xr_2 := hr_2
    refine lv_aload_n hx hb dX5_wantGarment_32 rfl (lv_at hl 0 rfl) ?_
    refine lv_iconst (v := 0) hx hb dX5_wantGarment_33 (by decide) ?_
    refine lv_aload_n hx hb dX5_wantGarment_34 rfl (lv_at hl 0 rfl) ?_
    refine r_get hC hW flX5_7 0 rfl rfl dX5_wantGarment_35 ?_
    refine lv_iconst (v := 2) hx hb dX5_wantGarment_38 (by decide) ?_
    refine r_iald hC hW 2 rfl 2 rfl (by omega) (by decide) dX5_wantGarment_39 ?_
    refine n_top (enc_0 S (by decide)) ?_
    refine n_top hV.p ?_
    refine lv_iconst (v := 1) hx hb dX5_wantGarment_40 (by decide) ?_
    refine n_isub (v := (nI P - 1)) hx hb dX5_wantGarment_41 rfl ?_
    by_cases hN1 : tNm tp tl (tNx tp tl bb) 0 (nI P - 1)
    · refine r_callCi hC hD hW hA lkX5_231 (c_X5_wantNumber_y l E b u_3.1 u_3.2 tp tl ht1 hB (tNx tp tl bb) (tNx_le hbb) xr_2.1 (show u_3.1 5 = 1 from (xr_2.2.1.trans (show (upd z 5 1) 5 = 1 from rfl))) 0 (nI P - 1) hN1) rfl rfl ⟨by decide, by decide, by decide, by decide⟩ [0, 1] rfl rfl rfl (fun _ => rfl) hl.1 rfl rfl (Nat.le_of_ble_eq_true rfl) dX5_wantGarment_42 (fun r_4 u_5 H locs hr_4 hW => ?_)
      have hW : Wd E A s.heap (wcat [MJ b u_5.1 u_5.2, IA E (b 5) 120 tp, IA E (b 1) 68 (enc S)]) H locs := hW
      obtain ⟨hr_4, xr_4⟩ := hr_4
      have hr_4 : r_4 = (nI (tNr tp tl (tNx tp tl bb))) := hr_4
      subst hr_4
      refine lv_istore_n (lv' := [(2, .int (nI (tNr tp tl (tNx tp tl bb)))), (0, .ref (b 0)), (1, .int x1)]) hx hb dX5_wantGarment_45 rfl hl (by decide) rfl (fun ls hl => ?_)
      refine lv_aload_n hx hb dX5_wantGarment_46 rfl (lv_at hl 1 rfl) ?_
      refine r_ldc2 hC clX5_240 dX5_wantGarment_47 ?_
      refine lv_iconst (v := 0) hx hb dX5_wantGarment_50 (by decide) ?_
      refine lv_bipush (v := 99) hx hb dX5_wantGarment_51 (by decide) ?_
      refine lv_bipush (v := 99) hx hb dX5_wantGarment_53 (by decide) ?_
      by_cases hI2 : tIW tp tl (tNx tp tl (tNx tp tl bb)) wdName
      · by_cases hN2 : tNm tp tl (tNx tp tl (tNx tp tl (tNx tp tl bb))) 0 99
        · refine r_callCi hC hD hW hA lkX5_236 (c_X5_mayWant_y l E b u_5.1 u_5.2 tp tl ht1 hB (tNx tp tl (tNx tp tl bb)) (tNx_le (tNx_le hbb)) xr_4.1 wdName okName 276647 (by decide +kernel) 0 99 99 (show u_5.1 5 = 1 from xr_4.2.1) hI2 hN2) rfl rfl ⟨by decide, by decide, by decide, by decide⟩ [0, 1] rfl rfl rfl (fun _ => rfl) hl.1 rfl rfl (Nat.le_of_ble_eq_true rfl) dX5_wantGarment_55 (fun r_6 u_7 H locs hr_6 hW => ?_)
          have hW : Wd E A s.heap (wcat [MJ b u_7.1 u_7.2, IA E (b 5) 120 tp, IA E (b 1) 68 (enc S)]) H locs := hW
          obtain ⟨hr_6, xr_6⟩ := hr_6
          have hr_6 : r_6 = (nI (tNr tp tl (tNx tp tl (tNx tp tl (tNx tp tl bb))))) := hr_6
          subst hr_6
          refine lv_istore_n (lv' := [(3, .int (nI (tNr tp tl (tNx tp tl (tNx tp tl (tNx tp tl bb)))))), (2, .int (nI (tNr tp tl (tNx tp tl bb)))), (0, .ref (b 0)), (1, .int x1)]) hx hb dX5_wantGarment_58 rfl hl (by decide) rfl (fun ls hl => ?_)
          refine lv_aload_n hx hb dX5_wantGarment_59 rfl (lv_at hl 2 rfl) ?_
          refine r_get hC hW flX5_224 0 rfl rfl dX5_wantGarment_60 ?_
          refine n_top xr_6.2.1 ?_
          refine lv_if_eq (tgt := 80) hx hb dX5_wantGarment_63 (by decide) (fun c => absurd c (by decide)) (fun _ => ?_)
          refine lv_aload_n hx hb dX5_wantGarment_66 rfl (lv_at hl 2 rfl) ?_
          refine r_ldc2 hC clX5_242 dX5_wantGarment_67 ?_
          refine r_callCi hC hD hW hA lkX5_204 (c_X5_isWord l E b u_7.1 u_7.2 tp tl ht1 hB (tNx tp tl (tNx tp tl (tNx tp tl (tNx tp tl bb)))) (tNx_le (tNx_le (tNx_le (tNx_le hbb)))) xr_6.1 wdHeap okHeap 161152 (by decide +kernel)) rfl rfl ⟨by decide, by decide, by decide, by decide⟩ [0] rfl rfl rfl (fun _ => rfl) hl.1 rfl rfl (Nat.le_of_ble_eq_true rfl) dX5_wantGarment_70 (fun r_8 _ H locs hr_8 hW => ?_)
          have hW : Wd E A s.heap (wcat [MJ b u_7.1 u_7.2, IA E (b 5) 120 tp, IA E (b 1) 68 (enc S)]) H locs := hW
          have hr_8 : bz (tIW tp tl (tNx tp tl (tNx tp tl (tNx tp tl (tNx tp tl bb)))) wdHeap) r_8 := hr_8
          rcases hr_8 with ⟨rfl, b_9⟩ | ⟨rfl, b_9⟩
          · refine lv_if_eq (tgt := 80) hx hb dX5_wantGarment_73 (by decide) (fun _ => ?_) (fun c => absurd c (by decide))
            refine lv_iconst (v := 0) hx hb dX5_wantGarment_80 (by decide) ?_
            refine lv_istore (lv' := [(4, .int 0), (3, .int (nI (tNr tp tl (tNx tp tl (tNx tp tl (tNx tp tl bb)))))), (2, .int (nI (tNr tp tl (tNx tp tl bb)))), (0, .ref (b 0)), (1, .int x1)]) hx hb dX5_wantGarment_81 hl (by decide) rfl (fun ls hl => ?_)
            refine lv_iload hx hb dX5_wantGarment_83 (lv_at hl 0 rfl) ?_
            refine lv_if_eq (tgt := 92) hx hb dX5_wantGarment_85 (by decide) (fun _ => ?_) (fun c => absurd c (by decide))
            refine lv_aload_n hx hb dX5_wantGarment_92 rfl (lv_at hl 3 rfl) ?_
            refine r_get hC hW flX5_224 0 rfl rfl dX5_wantGarment_93 ?_
            refine n_top xr_6.2.1 ?_
            refine lv_if_eq (tgt := 116) hx hb dX5_wantGarment_96 (by decide) (fun c => absurd c (by decide)) (fun _ => ?_)
            refine lv_aload_n hx hb dX5_wantGarment_99 rfl (lv_at hl 3 rfl) ?_
            refine lv_iload_n hx hb dX5_wantGarment_100 rfl (lv_at hl 2 rfl) ?_
            refine lv_iload_n hx hb dX5_wantGarment_101 rfl (lv_at hl 4 rfl) ?_
            refine lv_iload_n hx hb dX5_wantGarment_102 rfl (lv_at hl 1 rfl) ?_
            refine lv_iload hx hb dX5_wantGarment_103 (lv_at hl 0 rfl) ?_
            refine lv_if_eq (tgt := 112) hx hb dX5_wantGarment_105 (by decide) (fun _ => ?_) (fun c => absurd c (by decide))
            refine lv_iload_n hx hb dX5_wantGarment_112 rfl (lv_at hl 2 rfl) ?_
            refine r_callVv hC hD hW hA lkX5_121 (c_X5_addsGarment l E (b 0) (b 1) (MF b u_7.1 u_7.2) rfl S G hG (by omega) (nI (tNr tp tl (tNx tp tl bb))) x1 (nI (tNr tp tl (tNx tp tl (tNx tp tl (tNx tp tl bb))))) (nI (tNr tp tl (tNx tp tl bb)))) rfl ⟨by decide, by decide, by decide, by decide⟩ [0, 2] rfl rfl rfl (fun _ => rfl) hl.1 rfl rfl (Nat.le_of_ble_eq_true rfl) dX5_wantGarment_113 (fun _ H locs hr_10 hW => ?_)
            have hW : Wd E A s.heap (wcat [MJ b u_7.1 u_7.2, IA E (b 5) 120 tp, IA E (b 1) 68 (enc (addG S G (nI (tNr tp tl (tNx tp tl bb))) x1 (nI (tNr tp tl (tNx tp tl (tNx tp tl (tNx tp tl bb))))) (nI (tNr tp tl (tNx tp tl bb)))))]) H locs := hW
            exact r_vret hC hQ hD hW ((u_7.1, u_7.2), (addG S G (nI (tNr tp tl (tNx tp tl bb))) x1 (nI (tNr tp tl (tNx tp tl (tNx tp tl (tNx tp tl bb))))) (nI (tNr tp tl (tNx tp tl bb))))) ⟨by rw [pGarment, if_pos (show G < 10 by omega), cif_t hN1, pName, cif_t hI2, cif_t hN2, pHeap, cif_f b_9]; exact ⟨(show u_7.1 5 = 1 from xr_6.2.1), xr_6.1, rfl⟩, (xr_6.2.2.trans (xr_4.2.2.trans (xr_2.2.2.trans rfl)))⟩ rfl rfl dX5_wantGarment_116
          · refine lv_if_eq (tgt := 80) hx hb dX5_wantGarment_73 (by decide) (fun c => absurd c (by decide)) (fun _ => ?_)
            refine lv_iconst (v := 1) hx hb dX5_wantGarment_76 (by decide) ?_
            refine lv_goto (tgt := 81) hx hb dX5_wantGarment_77 (by decide) ?_
            refine lv_istore (lv' := [(4, .int 1), (3, .int (nI (tNr tp tl (tNx tp tl (tNx tp tl (tNx tp tl bb)))))), (2, .int (nI (tNr tp tl (tNx tp tl bb)))), (0, .ref (b 0)), (1, .int x1)]) hx hb dX5_wantGarment_81 hl (by decide) rfl (fun ls hl => ?_)
            refine lv_iload hx hb dX5_wantGarment_83 (lv_at hl 0 rfl) ?_
            refine lv_if_eq (tgt := 92) hx hb dX5_wantGarment_85 (by decide) (fun c => absurd c (by decide)) (fun _ => ?_)
            refine lv_aload_n hx hb dX5_wantGarment_88 rfl (lv_at hl 3 rfl) ?_
            refine r_callCv hC hD hW hA lkX5_228 (c_X5_advance l E b u_7.1 u_7.2 tp tl ht1 hB xr_6.1.1 (tEn tp tl (tNx tp tl (tNx tp tl (tNx tp tl (tNx tp tl bb))))) (tEn_le (tNx_le (tNx_le (tNx_le (tNx_le hbb))))) xr_6.1.2.2.2.1) rfl rfl ⟨by decide, by decide, by decide, by decide⟩ [0, 1] rfl rfl rfl (fun _ => rfl) hl.1 rfl rfl (Nat.le_of_ble_eq_true rfl) dX5_wantGarment_89 (fun u_12 H locs hr_11 hW => ?_)
            have hW : Wd E A s.heap (wcat [MJ b u_12.1 u_12.2, IA E (b 5) 120 tp, IA E (b 1) 68 (enc S)]) H locs := hW
            have xr_11 := hr_11
            refine lv_aload_n hx hb dX5_wantGarment_92 rfl (lv_at hl 3 rfl) ?_
            refine r_get hC hW flX5_224 0 rfl rfl dX5_wantGarment_93 ?_
            refine n_top (xr_11.2.1.trans (show u_7.1 5 = 1 from xr_6.2.1)) ?_
            refine lv_if_eq (tgt := 116) hx hb dX5_wantGarment_96 (by decide) (fun c => absurd c (by decide)) (fun _ => ?_)
            refine lv_aload_n hx hb dX5_wantGarment_99 rfl (lv_at hl 3 rfl) ?_
            refine lv_iload_n hx hb dX5_wantGarment_100 rfl (lv_at hl 2 rfl) ?_
            refine lv_iload_n hx hb dX5_wantGarment_101 rfl (lv_at hl 4 rfl) ?_
            refine lv_iload_n hx hb dX5_wantGarment_102 rfl (lv_at hl 1 rfl) ?_
            refine lv_iload hx hb dX5_wantGarment_103 (lv_at hl 0 rfl) ?_
            refine lv_if_eq (tgt := 112) hx hb dX5_wantGarment_105 (by decide) (fun c => absurd c (by decide)) (fun _ => ?_)
            refine lv_iconst (v := (-1)) hx hb dX5_wantGarment_108 (by decide) ?_
            refine lv_goto (tgt := 113) hx hb dX5_wantGarment_109 (by decide) ?_
            refine r_callVv hC hD hW hA lkX5_121 (c_X5_addsGarment l E (b 0) (b 1) (MF b u_12.1 u_12.2) rfl S G hG (by omega) (nI (tNr tp tl (tNx tp tl bb))) x1 (nI (tNr tp tl (tNx tp tl (tNx tp tl (tNx tp tl bb))))) (-1)) rfl ⟨by decide, by decide, by decide, by decide⟩ [0, 2] rfl rfl rfl (fun _ => rfl) hl.1 rfl rfl (Nat.le_of_ble_eq_true rfl) dX5_wantGarment_113 (fun _ H locs hr_13 hW => ?_)
            have hW : Wd E A s.heap (wcat [MJ b u_12.1 u_12.2, IA E (b 5) 120 tp, IA E (b 1) 68 (enc (addG S G (nI (tNr tp tl (tNx tp tl bb))) x1 (nI (tNr tp tl (tNx tp tl (tNx tp tl (tNx tp tl bb))))) (-1)))]) H locs := hW
            exact r_vret hC hQ hD hW ((u_12.1, u_12.2), (addG S G (nI (tNr tp tl (tNx tp tl bb))) x1 (nI (tNr tp tl (tNx tp tl (tNx tp tl (tNx tp tl bb))))) (-1))) ⟨by rw [pGarment, if_pos (show G < 10 by omega), cif_t hN1, pName, cif_t hI2, cif_t hN2, pHeap, cif_t b_9]; exact ⟨(show u_12.1 5 = 1 from (xr_11.2.1.trans (show u_7.1 5 = 1 from xr_6.2.1))), xr_11.1, rfl⟩, (xr_11.2.2.trans (xr_6.2.2.trans (xr_4.2.2.trans (xr_2.2.2.trans rfl))))⟩ rfl rfl dX5_wantGarment_116
        · refine r_callCi hC hD hW hA lkX5_236 (c_X5_mayWant_n l E b u_5.1 u_5.2 tp tl ht1 hB (tNx tp tl (tNx tp tl bb)) (tNx_le (tNx_le hbb)) xr_4.1 wdName okName 276647 (by decide +kernel) 0 99 99 (show u_5.1 5 = 1 from xr_4.2.1) hI2 hN2) rfl rfl ⟨by decide, by decide, by decide, by decide⟩ [0, 1] rfl rfl rfl (fun _ => rfl) hl.1 rfl rfl (Nat.le_of_ble_eq_true rfl) dX5_wantGarment_55 (fun r_14 u_15 H locs hr_14 hW => ?_)
          have hW : Wd E A s.heap (wcat [MJ b u_15.1 u_15.2, IA E (b 5) 120 tp, IA E (b 1) 68 (enc S)]) H locs := hW
          obtain ⟨hr_14, xr_14⟩ := hr_14
          have hr_14 : True := hr_14
          refine lv_istore_n (lv' := [(3, .int r_14), (2, .int (nI (tNr tp tl (tNx tp tl bb)))), (0, .ref (b 0)), (1, .int x1)]) hx hb dX5_wantGarment_58 rfl hl (by decide) rfl (fun ls hl => ?_)
          refine lv_aload_n hx hb dX5_wantGarment_59 rfl (lv_at hl 2 rfl) ?_
          refine r_get hC hW flX5_224 0 rfl rfl dX5_wantGarment_60 ?_
          refine n_top xr_14.2.1 ?_
          refine lv_if_eq (tgt := 80) hx hb dX5_wantGarment_63 (by decide) (fun _ => ?_) (fun c => absurd c (by decide))
          refine lv_iconst (v := 0) hx hb dX5_wantGarment_80 (by decide) ?_
          refine lv_istore (lv' := [(4, .int 0), (3, .int r_14), (2, .int (nI (tNr tp tl (tNx tp tl bb)))), (0, .ref (b 0)), (1, .int x1)]) hx hb dX5_wantGarment_81 hl (by decide) rfl (fun ls hl => ?_)
          refine lv_iload hx hb dX5_wantGarment_83 (lv_at hl 0 rfl) ?_
          refine lv_if_eq (tgt := 92) hx hb dX5_wantGarment_85 (by decide) (fun _ => ?_) (fun c => absurd c (by decide))
          refine lv_aload_n hx hb dX5_wantGarment_92 rfl (lv_at hl 3 rfl) ?_
          refine r_get hC hW flX5_224 0 rfl rfl dX5_wantGarment_93 ?_
          refine n_top xr_14.2.1 ?_
          refine lv_if_eq (tgt := 116) hx hb dX5_wantGarment_96 (by decide) (fun _ => ?_) (fun c => absurd c (by decide))
          exact r_vret hC hQ hD hW ((u_15.1, u_15.2), S) ⟨by rw [pGarment, if_pos (show G < 10 by omega), cif_t hN1, pName, cif_t hI2, cif_f hN2]; exact ⟨(show u_15.1 5 = 0 from xr_14.2.1), xr_14.1⟩, (xr_14.2.2.trans (xr_4.2.2.trans (xr_2.2.2.trans rfl)))⟩ rfl rfl dX5_wantGarment_116
      · refine r_callCi hC hD hW hA lkX5_236 (c_X5_mayWant_w l E b u_5.1 u_5.2 tp tl ht1 hB (tNx tp tl (tNx tp tl bb)) (tNx_le (tNx_le hbb)) xr_4.1 wdName okName 276647 (by decide +kernel) 0 99 99 (show u_5.1 5 = 1 from xr_4.2.1) hI2) rfl rfl ⟨by decide, by decide, by decide, by decide⟩ [0, 1] rfl rfl rfl (fun _ => rfl) hl.1 rfl rfl (Nat.le_of_ble_eq_true rfl) dX5_wantGarment_55 (fun r_16 _ H locs hr_16 hW => ?_)
        have hW : Wd E A s.heap (wcat [MJ b u_5.1 u_5.2, IA E (b 5) 120 tp, IA E (b 1) 68 (enc S)]) H locs := hW
        have hr_16 : r_16 = 99 := hr_16
        subst hr_16
        refine lv_istore_n (lv' := [(3, .int 99), (2, .int (nI (tNr tp tl (tNx tp tl bb)))), (0, .ref (b 0)), (1, .int x1)]) hx hb dX5_wantGarment_58 rfl hl (by decide) rfl (fun ls hl => ?_)
        refine lv_aload_n hx hb dX5_wantGarment_59 rfl (lv_at hl 2 rfl) ?_
        refine r_get hC hW flX5_224 0 rfl rfl dX5_wantGarment_60 ?_
        refine n_top xr_4.2.1 ?_
        refine lv_if_eq (tgt := 80) hx hb dX5_wantGarment_63 (by decide) (fun c => absurd c (by decide)) (fun _ => ?_)
        refine lv_aload_n hx hb dX5_wantGarment_66 rfl (lv_at hl 2 rfl) ?_
        refine r_ldc2 hC clX5_242 dX5_wantGarment_67 ?_
        refine r_callCi hC hD hW hA lkX5_204 (c_X5_isWord l E b u_5.1 u_5.2 tp tl ht1 hB (tNx tp tl (tNx tp tl bb)) (tNx_le (tNx_le hbb)) xr_4.1 wdHeap okHeap 161152 (by decide +kernel)) rfl rfl ⟨by decide, by decide, by decide, by decide⟩ [0] rfl rfl rfl (fun _ => rfl) hl.1 rfl rfl (Nat.le_of_ble_eq_true rfl) dX5_wantGarment_70 (fun r_17 _ H locs hr_17 hW => ?_)
        have hW : Wd E A s.heap (wcat [MJ b u_5.1 u_5.2, IA E (b 5) 120 tp, IA E (b 1) 68 (enc S)]) H locs := hW
        have hr_17 : bz (tIW tp tl (tNx tp tl (tNx tp tl bb)) wdHeap) r_17 := hr_17
        rcases hr_17 with ⟨rfl, b_18⟩ | ⟨rfl, b_18⟩
        · refine lv_if_eq (tgt := 80) hx hb dX5_wantGarment_73 (by decide) (fun _ => ?_) (fun c => absurd c (by decide))
          refine lv_iconst (v := 0) hx hb dX5_wantGarment_80 (by decide) ?_
          refine lv_istore (lv' := [(4, .int 0), (3, .int 99), (2, .int (nI (tNr tp tl (tNx tp tl bb)))), (0, .ref (b 0)), (1, .int x1)]) hx hb dX5_wantGarment_81 hl (by decide) rfl (fun ls hl => ?_)
          refine lv_iload hx hb dX5_wantGarment_83 (lv_at hl 0 rfl) ?_
          refine lv_if_eq (tgt := 92) hx hb dX5_wantGarment_85 (by decide) (fun _ => ?_) (fun c => absurd c (by decide))
          refine lv_aload_n hx hb dX5_wantGarment_92 rfl (lv_at hl 3 rfl) ?_
          refine r_get hC hW flX5_224 0 rfl rfl dX5_wantGarment_93 ?_
          refine n_top xr_4.2.1 ?_
          refine lv_if_eq (tgt := 116) hx hb dX5_wantGarment_96 (by decide) (fun c => absurd c (by decide)) (fun _ => ?_)
          refine lv_aload_n hx hb dX5_wantGarment_99 rfl (lv_at hl 3 rfl) ?_
          refine lv_iload_n hx hb dX5_wantGarment_100 rfl (lv_at hl 2 rfl) ?_
          refine lv_iload_n hx hb dX5_wantGarment_101 rfl (lv_at hl 4 rfl) ?_
          refine lv_iload_n hx hb dX5_wantGarment_102 rfl (lv_at hl 1 rfl) ?_
          refine lv_iload hx hb dX5_wantGarment_103 (lv_at hl 0 rfl) ?_
          refine lv_if_eq (tgt := 112) hx hb dX5_wantGarment_105 (by decide) (fun _ => ?_) (fun c => absurd c (by decide))
          refine lv_iload_n hx hb dX5_wantGarment_112 rfl (lv_at hl 2 rfl) ?_
          refine r_callVv hC hD hW hA lkX5_121 (c_X5_addsGarment l E (b 0) (b 1) (MF b u_5.1 u_5.2) rfl S G hG (by omega) (nI (tNr tp tl (tNx tp tl bb))) x1 99 (nI (tNr tp tl (tNx tp tl bb)))) rfl ⟨by decide, by decide, by decide, by decide⟩ [0, 2] rfl rfl rfl (fun _ => rfl) hl.1 rfl rfl (Nat.le_of_ble_eq_true rfl) dX5_wantGarment_113 (fun _ H locs hr_19 hW => ?_)
          have hW : Wd E A s.heap (wcat [MJ b u_5.1 u_5.2, IA E (b 5) 120 tp, IA E (b 1) 68 (enc (addG S G (nI (tNr tp tl (tNx tp tl bb))) x1 99 (nI (tNr tp tl (tNx tp tl bb)))))]) H locs := hW
          exact r_vret hC hQ hD hW ((u_5.1, u_5.2), (addG S G (nI (tNr tp tl (tNx tp tl bb))) x1 99 (nI (tNr tp tl (tNx tp tl bb))))) ⟨by rw [pGarment, if_pos (show G < 10 by omega), cif_t hN1, pName, cif_f hI2, pHeap, cif_f b_18]; exact ⟨(show u_5.1 5 = 1 from xr_4.2.1), xr_4.1, rfl⟩, (xr_4.2.2.trans (xr_2.2.2.trans rfl))⟩ rfl rfl dX5_wantGarment_116
        · refine lv_if_eq (tgt := 80) hx hb dX5_wantGarment_73 (by decide) (fun c => absurd c (by decide)) (fun _ => ?_)
          refine lv_iconst (v := 1) hx hb dX5_wantGarment_76 (by decide) ?_
          refine lv_goto (tgt := 81) hx hb dX5_wantGarment_77 (by decide) ?_
          refine lv_istore (lv' := [(4, .int 1), (3, .int 99), (2, .int (nI (tNr tp tl (tNx tp tl bb)))), (0, .ref (b 0)), (1, .int x1)]) hx hb dX5_wantGarment_81 hl (by decide) rfl (fun ls hl => ?_)
          refine lv_iload hx hb dX5_wantGarment_83 (lv_at hl 0 rfl) ?_
          refine lv_if_eq (tgt := 92) hx hb dX5_wantGarment_85 (by decide) (fun c => absurd c (by decide)) (fun _ => ?_)
          refine lv_aload_n hx hb dX5_wantGarment_88 rfl (lv_at hl 3 rfl) ?_
          refine r_callCv hC hD hW hA lkX5_228 (c_X5_advance l E b u_5.1 u_5.2 tp tl ht1 hB xr_4.1.1 (tEn tp tl (tNx tp tl (tNx tp tl bb))) (tEn_le (tNx_le (tNx_le hbb))) xr_4.1.2.2.2.1) rfl rfl ⟨by decide, by decide, by decide, by decide⟩ [0, 1] rfl rfl rfl (fun _ => rfl) hl.1 rfl rfl (Nat.le_of_ble_eq_true rfl) dX5_wantGarment_89 (fun u_21 H locs hr_20 hW => ?_)
          have hW : Wd E A s.heap (wcat [MJ b u_21.1 u_21.2, IA E (b 5) 120 tp, IA E (b 1) 68 (enc S)]) H locs := hW
          have xr_20 := hr_20
          refine lv_aload_n hx hb dX5_wantGarment_92 rfl (lv_at hl 3 rfl) ?_
          refine r_get hC hW flX5_224 0 rfl rfl dX5_wantGarment_93 ?_
          refine n_top (xr_20.2.1.trans (show u_5.1 5 = 1 from xr_4.2.1)) ?_
          refine lv_if_eq (tgt := 116) hx hb dX5_wantGarment_96 (by decide) (fun c => absurd c (by decide)) (fun _ => ?_)
          refine lv_aload_n hx hb dX5_wantGarment_99 rfl (lv_at hl 3 rfl) ?_
          refine lv_iload_n hx hb dX5_wantGarment_100 rfl (lv_at hl 2 rfl) ?_
          refine lv_iload_n hx hb dX5_wantGarment_101 rfl (lv_at hl 4 rfl) ?_
          refine lv_iload_n hx hb dX5_wantGarment_102 rfl (lv_at hl 1 rfl) ?_
          refine lv_iload hx hb dX5_wantGarment_103 (lv_at hl 0 rfl) ?_
          refine lv_if_eq (tgt := 112) hx hb dX5_wantGarment_105 (by decide) (fun c => absurd c (by decide)) (fun _ => ?_)
          refine lv_iconst (v := (-1)) hx hb dX5_wantGarment_108 (by decide) ?_
          refine lv_goto (tgt := 113) hx hb dX5_wantGarment_109 (by decide) ?_
          refine r_callVv hC hD hW hA lkX5_121 (c_X5_addsGarment l E (b 0) (b 1) (MF b u_21.1 u_21.2) rfl S G hG (by omega) (nI (tNr tp tl (tNx tp tl bb))) x1 99 (-1)) rfl ⟨by decide, by decide, by decide, by decide⟩ [0, 2] rfl rfl rfl (fun _ => rfl) hl.1 rfl rfl (Nat.le_of_ble_eq_true rfl) dX5_wantGarment_113 (fun _ H locs hr_22 hW => ?_)
          have hW : Wd E A s.heap (wcat [MJ b u_21.1 u_21.2, IA E (b 5) 120 tp, IA E (b 1) 68 (enc (addG S G (nI (tNr tp tl (tNx tp tl bb))) x1 99 (-1)))]) H locs := hW
          exact r_vret hC hQ hD hW ((u_21.1, u_21.2), (addG S G (nI (tNr tp tl (tNx tp tl bb))) x1 99 (-1))) ⟨by rw [pGarment, if_pos (show G < 10 by omega), cif_t hN1, pName, cif_f hI2, pHeap, cif_t b_18]; exact ⟨(show u_21.1 5 = 1 from (xr_20.2.1.trans (show u_5.1 5 = 1 from xr_4.2.1))), xr_20.1, rfl⟩, (xr_20.2.2.trans (xr_4.2.2.trans (xr_2.2.2.trans rfl)))⟩ rfl rfl dX5_wantGarment_116
    · refine r_callCi hC hD hW hA lkX5_231 (c_X5_wantNumber_n l E b u_3.1 u_3.2 tp tl ht1 hB (tNx tp tl bb) (tNx_le hbb) xr_2.1 (show u_3.1 5 = 1 from (xr_2.2.1.trans (show (upd z 5 1) 5 = 1 from rfl))) 0 (nI P - 1) hN1) rfl rfl ⟨by decide, by decide, by decide, by decide⟩ [0, 1] rfl rfl rfl (fun _ => rfl) hl.1 rfl rfl (Nat.le_of_ble_eq_true rfl) dX5_wantGarment_42 (fun r_23 _ H locs hr_23 hW => ?_)
      have hW : Wd E A s.heap (wcat [MJ b (upd u_3.1 5 0) u_3.2, IA E (b 5) 120 tp, IA E (b 1) 68 (enc S)]) H locs := hW
      have hr_23 : True := hr_23
      refine lv_istore_n (lv' := [(2, .int r_23), (0, .ref (b 0)), (1, .int x1)]) hx hb dX5_wantGarment_45 rfl hl (by decide) rfl (fun ls hl => ?_)
      refine lv_aload_n hx hb dX5_wantGarment_46 rfl (lv_at hl 1 rfl) ?_
      refine r_ldc2 hC clX5_240 dX5_wantGarment_47 ?_
      refine lv_iconst (v := 0) hx hb dX5_wantGarment_50 (by decide) ?_
      refine lv_bipush (v := 99) hx hb dX5_wantGarment_51 (by decide) ?_
      refine lv_bipush (v := 99) hx hb dX5_wantGarment_53 (by decide) ?_
      refine r_callCi hC hD hW hA lkX5_236 (c_X5_mayWant_0 l E b (upd u_3.1 5 0) u_3.2 tp tl ht1 hB (tNx tp tl bb) (tNx_le hbb) xr_2.1 wdName okName 276647 (by decide +kernel) 0 99 99 (show (upd u_3.1 5 0) 5 = 0 from rfl)) rfl rfl ⟨by decide, by decide, by decide, by decide⟩ [0, 1] rfl rfl rfl (fun _ => rfl) hl.1 rfl rfl (Nat.le_of_ble_eq_true rfl) dX5_wantGarment_55 (fun r_24 _ H locs hr_24 hW => ?_)
      have hW : Wd E A s.heap (wcat [MJ b (upd u_3.1 5 0) u_3.2, IA E (b 5) 120 tp, IA E (b 1) 68 (enc S)]) H locs := hW
      have hr_24 : r_24 = 99 := hr_24
      subst hr_24
      refine lv_istore_n (lv' := [(3, .int 99), (2, .int r_23), (0, .ref (b 0)), (1, .int x1)]) hx hb dX5_wantGarment_58 rfl hl (by decide) rfl (fun ls hl => ?_)
      refine lv_aload_n hx hb dX5_wantGarment_59 rfl (lv_at hl 2 rfl) ?_
      refine r_get hC hW flX5_224 0 rfl rfl dX5_wantGarment_60 ?_
      refine n_top (show (upd u_3.1 5 0) 5 = 0 from rfl) ?_
      refine lv_if_eq (tgt := 80) hx hb dX5_wantGarment_63 (by decide) (fun _ => ?_) (fun c => absurd c (by decide))
      refine lv_iconst (v := 0) hx hb dX5_wantGarment_80 (by decide) ?_
      refine lv_istore (lv' := [(4, .int 0), (3, .int 99), (2, .int r_23), (0, .ref (b 0)), (1, .int x1)]) hx hb dX5_wantGarment_81 hl (by decide) rfl (fun ls hl => ?_)
      refine lv_iload hx hb dX5_wantGarment_83 (lv_at hl 0 rfl) ?_
      refine lv_if_eq (tgt := 92) hx hb dX5_wantGarment_85 (by decide) (fun _ => ?_) (fun c => absurd c (by decide))
      refine lv_aload_n hx hb dX5_wantGarment_92 rfl (lv_at hl 3 rfl) ?_
      refine r_get hC hW flX5_224 0 rfl rfl dX5_wantGarment_93 ?_
      refine n_top (show (upd u_3.1 5 0) 5 = 0 from rfl) ?_
      refine lv_if_eq (tgt := 116) hx hb dX5_wantGarment_96 (by decide) (fun _ => ?_) (fun c => absurd c (by decide))
      exact r_vret hC hQ hD hW (((upd u_3.1 5 0), u_3.2), S) ⟨by rw [pGarment, if_pos (show G < 10 by omega), cif_f hN1]; exact ⟨(show (upd u_3.1 5 0) 5 = 0 from rfl), xr_2.1⟩, (xr_2.2.2.trans rfl)⟩ rfl rfl dX5_wantGarment_116
set_option maxHeartbeats 4000000 in
set_option maxRecDepth 100000 in
theorem c_X5_wantItem (l : Launch) (E : Ev) (b : Nat → Nat) (z : Nat → Int32) (w : Int64) (tp : Nat → Int32) (tl : Nat) (ht1 : tl ≤ 120) (hB : tBY tp tl) (bb : Nat) (hbb : bb ≤ tl) (hZ : ZT tp tl bb z w) (S : HS) (P : Nat) (G : Nat) (hV : HV S P G) (hg5 : z 5 = 1) : MV l E yX5_wantItem cX5_wantItem 2 6 135 0 0 [.ref (b 0)] (wcat [MJ b z w, IA E (b 5) 120 tp, IA E (b 1) 68 (enc S)]) (fun (u : (((Nat → Int32) × Int64) × HS)) => IR tp tl (pItem tp tl S P G bb) u.1.1 u.1.2 u.2 ∧ u.1.1 6 = z 6) (fun (u : (((Nat → Int32) × Int64) × HS)) => (wcat [MJ b u.1.1 u.1.2, IA E (b 5) 120 tp, IA E (b 1) 68 (enc u.2)])) := by
  refine MV_intro RX5 (by decide) rfl (Nat.le_of_ble_eq_true rfl) ?_
  intro p e R s m args below meth c A Q hQ hC hnm hD hW hA ls hl
  have hx := hC.1
  have hb := hC.2.1
  have hW : Wd E A s.heap (wcat [MJ b z w, IA E (b 5) 120 tp, IA E (b 1) 68 (enc S)]) s.heap [] := hW
  have hD : Dj A [b 0, b 5, b 1] := hD
  have hl : lv_has ls 2 [(0, .ref (b 0))] := hl
  have hP := hV.p
  have hP1 := hV.p6
  have hG := hV.g
  have hG1 := hV.g10
  refine lv_aload_n hx hb dX5_wantItem_0 rfl (lv_at hl 0 rfl) ?_
  refine r_callCi hC hD hW hA lkX5_244 (c_X5_kindHere l E b z w tp tl ht1 hB bb hbb hZ) rfl rfl ⟨by decide, by decide, by decide, by decide⟩ [0] rfl rfl rfl (fun _ => rfl) hl.1 rfl rfl (Nat.le_of_ble_eq_true rfl) dX5_wantItem_1 (fun r_1 _ H locs hr_1 hW => ?_)
  have hW : Wd E A s.heap (wcat [MJ b z w, IA E (b 5) 120 tp, IA E (b 1) 68 (enc S)]) H locs := hW
  have hr_1 : r_1 = (tKi tp tl bb) := hr_1
  subst hr_1
  refine lv_if_lt (tgt := 18) hx hb dX5_wantItem_4 (by decide) (fun c_2 => ?_) (fun c_2 => ?_)
  · refine lv_aload_n hx hb dX5_wantItem_18 rfl (lv_at hl 0 rfl) ?_
    refine r_callCi hC hD hW hA lkX5_250 (c_X5_markHere l E b z w tp tl ht1 hB bb hbb hZ) rfl rfl ⟨by decide, by decide, by decide, by decide⟩ [0] rfl rfl rfl (fun _ => rfl) hl.1 rfl rfl (Nat.le_of_ble_eq_true rfl) dX5_wantItem_19 (fun r_3 _ H locs hr_3 hW => ?_)
    have hW : Wd E A s.heap (wcat [MJ b z w, IA E (b 5) 120 tp, IA E (b 1) 68 (enc S)]) H locs := hW
    have hr_3 : r_3 = (tMi tp tl bb) := hr_3
    subst hr_3
    refine lv_if_lt (tgt := 36) hx hb dX5_wantItem_22 (by decide) (fun c_4 => ?_) (fun c_4 => ?_)
    · refine lv_aload_n hx hb dX5_wantItem_36 rfl (lv_at hl 0 rfl) ?_
      refine r_ldc2 hC clX5_256 dX5_wantItem_37 ?_
      refine r_callCi hC hD hW hA lkX5_204 (c_X5_isWord l E b z w tp tl ht1 hB bb hbb hZ wdHeat okHeat 161156 (by decide +kernel)) rfl rfl ⟨by decide, by decide, by decide, by decide⟩ [0] rfl rfl rfl (fun _ => rfl) hl.1 rfl rfl (Nat.le_of_ble_eq_true rfl) dX5_wantItem_40 (fun r_5 _ H locs hr_5 hW => ?_)
      have hW : Wd E A s.heap (wcat [MJ b z w, IA E (b 5) 120 tp, IA E (b 1) 68 (enc S)]) H locs := hW
      have hr_5 : bz (tIW tp tl bb wdHeat) r_5 := hr_5
      rcases hr_5 with ⟨rfl, b_6⟩ | ⟨rfl, b_6⟩
      · refine lv_if_eq (tgt := 85) hx hb dX5_wantItem_43 (by decide) (fun _ => ?_) (fun c => absurd c (by decide))
        refine lv_aload_n hx hb dX5_wantItem_85 rfl (lv_at hl 0 rfl) ?_
        refine r_ldc2 hC clX5_258 dX5_wantItem_86 ?_
        refine r_callCi hC hD hW hA lkX5_204 (c_X5_isWord l E b z w tp tl ht1 hB bb hbb hZ wdDies okDies 85447 (by decide +kernel)) rfl rfl ⟨by decide, by decide, by decide, by decide⟩ [0] rfl rfl rfl (fun _ => rfl) hl.1 rfl rfl (Nat.le_of_ble_eq_true rfl) dX5_wantItem_89 (fun r_7 _ H locs hr_7 hW => ?_)
        have hW : Wd E A s.heap (wcat [MJ b z w, IA E (b 5) 120 tp, IA E (b 1) 68 (enc S)]) H locs := hW
        have hr_7 : bz (tIW tp tl bb wdDies) r_7 := hr_7
        rcases hr_7 with ⟨rfl, b_8⟩ | ⟨rfl, b_8⟩
        · refine lv_if_eq (tgt := 130) hx hb dX5_wantItem_92 (by decide) (fun _ => ?_) (fun c => absurd c (by decide))
          refine lv_aload_n hx hb dX5_wantItem_130 rfl (lv_at hl 0 rfl) ?_
          refine lv_iconst (v := 0) hx hb dX5_wantItem_131 (by decide) ?_
          refine r_put (ws' := (wcat [MJ b (upd z 5 0) w, IA E (b 5) 120 tp, IA E (b 1) 68 (enc S)])) hC hD hW fpX5_224 0 rfl rfl rfl (Nat.le_of_ble_eq_true rfl) rfl rfl dX5_wantItem_132 (fun H locs hW => ?_)
          exact r_vret hC hQ hD hW ((upd z 5 0, w), S) ⟨by rw [pItem, if_pos c_2, if_pos c_4, cif_f b_6, cif_f b_8]; exact ⟨(show (upd z 5 0) 5 = 0 from rfl), hZ⟩, rfl⟩ rfl rfl dX5_wantItem_135
        · refine lv_if_eq (tgt := 130) hx hb dX5_wantItem_92 (by decide) (fun c => absurd c (by decide)) (fun _ => ?_)
          refine lv_aload_n hx hb dX5_wantItem_95 rfl (lv_at hl 0 rfl) ?_
          refine r_callCv hC hD hW hA lkX5_228 (c_X5_advance l E b z w tp tl ht1 hB hZ.1 (tEn tp tl bb) (tEn_le hbb) hZ.2.2.2.1) rfl rfl ⟨by decide, by decide, by decide, by decide⟩ [0, 1] rfl rfl rfl (fun _ => rfl) hl.1 rfl rfl (Nat.le_of_ble_eq_true rfl) dX5_wantItem_96 (fun u_10 H locs hr_9 hW => ?_)
          have hW : Wd E A s.heap (wcat [MJ b u_10.1 u_10.2, IA E (b 5) 120 tp, IA E (b 1) 68 (enc S)]) H locs := hW
          have xr_9 := hr_9
          refine lv_aload_n hx hb dX5_wantItem_99 rfl (lv_at hl 0 rfl) ?_
          refine lv_iconst (v := 0) hx hb dX5_wantItem_100 (by decide) ?_
          refine lv_aload_n hx hb dX5_wantItem_101 rfl (lv_at hl 0 rfl) ?_
          refine r_get hC hW flX5_7 0 rfl rfl dX5_wantItem_102 ?_
          refine lv_iconst (v := 2) hx hb dX5_wantItem_105 (by decide) ?_
          refine r_iald hC hW 2 rfl 2 rfl (by omega) (by decide) dX5_wantItem_106 ?_
          refine n_top (enc_0 S (by decide)) ?_
          refine n_top hV.p ?_
          refine lv_iconst (v := 1) hx hb dX5_wantItem_107 (by decide) ?_
          refine n_isub (v := (nI P - 1)) hx hb dX5_wantItem_108 rfl ?_
          by_cases hN1 : tNm tp tl (tNx tp tl bb) 0 (nI P - 1)
          · refine r_callCi hC hD hW hA lkX5_231 (c_X5_wantNumber_y l E b u_10.1 u_10.2 tp tl ht1 hB (tNx tp tl bb) (tNx_le hbb) xr_9.1 (show u_10.1 5 = 1 from (xr_9.2.1.trans (show z 5 = 1 from hg5))) 0 (nI P - 1) hN1) rfl rfl ⟨by decide, by decide, by decide, by decide⟩ [0, 1] rfl rfl rfl (fun _ => rfl) hl.1 rfl rfl (Nat.le_of_ble_eq_true rfl) dX5_wantItem_109 (fun r_11 u_12 H locs hr_11 hW => ?_)
            have hW : Wd E A s.heap (wcat [MJ b u_12.1 u_12.2, IA E (b 5) 120 tp, IA E (b 1) 68 (enc S)]) H locs := hW
            obtain ⟨hr_11, xr_11⟩ := hr_11
            have hr_11 : r_11 = (nI (tNr tp tl (tNx tp tl bb))) := hr_11
            subst hr_11
            refine lv_istore_n (lv' := [(1, .int (nI (tNr tp tl (tNx tp tl bb)))), (0, .ref (b 0))]) hx hb dX5_wantItem_112 rfl hl (by decide) rfl (fun ls hl => ?_)
            refine lv_aload_n hx hb dX5_wantItem_113 rfl (lv_at hl 1 rfl) ?_
            refine r_get hC hW flX5_224 0 rfl rfl dX5_wantItem_114 ?_
            refine n_top xr_11.2.1 ?_
            refine lv_if_eq (tgt := 127) hx hb dX5_wantItem_117 (by decide) (fun c => absurd c (by decide)) (fun _ => ?_)
            refine lv_aload_n hx hb dX5_wantItem_120 rfl (lv_at hl 1 rfl) ?_
            refine lv_iload_n hx hb dX5_wantItem_121 rfl (lv_at hl 0 rfl) ?_
            refine lv_iconst (v := 3) hx hb dX5_wantItem_122 (by decide) ?_
            refine lv_iconst (v := 1) hx hb dX5_wantItem_123 (by decide) ?_
            refine r_callVv hC hD hW hA lkX5_86 (c_X5_puts l E (b 0) (b 1) (MF b u_12.1 u_12.2) rfl S (tNr tp tl (tNx tp tl bb)) 3 1 (Nat.lt_of_lt_of_le (tNm_lt hN1 hP1) hP1) (by decide)) rfl ⟨by decide, by decide, by decide, by decide⟩ [0, 2] rfl rfl rfl (fun _ => rfl) hl.1 rfl rfl (Nat.le_of_ble_eq_true rfl) dX5_wantItem_124 (fun _ H locs hr_13 hW => ?_)
            have hW : Wd E A s.heap (wcat [MJ b u_12.1 u_12.2, IA E (b 5) 120 tp, IA E (b 1) 68 (enc (st S 4 (tNr tp tl (tNx tp tl bb)) 1))]) H locs := hW
            refine lv_goto (tgt := 135) hx hb dX5_wantItem_127 (by decide) ?_
            exact r_vret hC hQ hD hW ((u_12.1, u_12.2), (st S 4 (tNr tp tl (tNx tp tl bb)) 1)) ⟨by rw [pItem, if_pos c_2, if_pos c_4, cif_f b_6, cif_t b_8, pDeath, cif_t hN1]; exact ⟨(show u_12.1 5 = 1 from xr_11.2.1), xr_11.1, rfl⟩, (xr_11.2.2.trans (xr_9.2.2.trans rfl))⟩ rfl rfl dX5_wantItem_135
          · refine r_callCi hC hD hW hA lkX5_231 (c_X5_wantNumber_n l E b u_10.1 u_10.2 tp tl ht1 hB (tNx tp tl bb) (tNx_le hbb) xr_9.1 (show u_10.1 5 = 1 from (xr_9.2.1.trans (show z 5 = 1 from hg5))) 0 (nI P - 1) hN1) rfl rfl ⟨by decide, by decide, by decide, by decide⟩ [0, 1] rfl rfl rfl (fun _ => rfl) hl.1 rfl rfl (Nat.le_of_ble_eq_true rfl) dX5_wantItem_109 (fun r_14 _ H locs hr_14 hW => ?_)
            have hW : Wd E A s.heap (wcat [MJ b (upd u_10.1 5 0) u_10.2, IA E (b 5) 120 tp, IA E (b 1) 68 (enc S)]) H locs := hW
            have hr_14 : True := hr_14
            refine lv_istore_n (lv' := [(1, .int r_14), (0, .ref (b 0))]) hx hb dX5_wantItem_112 rfl hl (by decide) rfl (fun ls hl => ?_)
            refine lv_aload_n hx hb dX5_wantItem_113 rfl (lv_at hl 1 rfl) ?_
            refine r_get hC hW flX5_224 0 rfl rfl dX5_wantItem_114 ?_
            refine n_top (show (upd u_10.1 5 0) 5 = 0 from rfl) ?_
            refine lv_if_eq (tgt := 127) hx hb dX5_wantItem_117 (by decide) (fun _ => ?_) (fun c => absurd c (by decide))
            refine lv_goto (tgt := 135) hx hb dX5_wantItem_127 (by decide) ?_
            exact r_vret hC hQ hD hW ((upd u_10.1 5 0, u_10.2), S) ⟨by rw [pItem, if_pos c_2, if_pos c_4, cif_f b_6, cif_t b_8, pDeath, cif_f hN1]; exact ⟨(show (upd u_10.1 5 0) 5 = 0 from rfl), xr_9.1⟩, (xr_9.2.2.trans rfl)⟩ rfl rfl dX5_wantItem_135
      · refine lv_if_eq (tgt := 85) hx hb dX5_wantItem_43 (by decide) (fun c => absurd c (by decide)) (fun _ => ?_)
        refine lv_aload_n hx hb dX5_wantItem_46 rfl (lv_at hl 0 rfl) ?_
        refine r_callCv hC hD hW hA lkX5_228 (c_X5_advance l E b z w tp tl ht1 hB hZ.1 (tEn tp tl bb) (tEn_le hbb) hZ.2.2.2.1) rfl rfl ⟨by decide, by decide, by decide, by decide⟩ [0, 1] rfl rfl rfl (fun _ => rfl) hl.1 rfl rfl (Nat.le_of_ble_eq_true rfl) dX5_wantItem_47 (fun u_16 H locs hr_15 hW => ?_)
        have hW : Wd E A s.heap (wcat [MJ b u_16.1 u_16.2, IA E (b 5) 120 tp, IA E (b 1) 68 (enc S)]) H locs := hW
        have xr_15 := hr_15
        refine lv_aload_n hx hb dX5_wantItem_50 rfl (lv_at hl 0 rfl) ?_
        refine lv_bipush (v := 20) hx hb dX5_wantItem_51 (by decide) ?_
        refine lv_bipush (v := 90) hx hb dX5_wantItem_53 (by decide) ?_
        by_cases hN1 : tNm tp tl (tNx tp tl bb) 20 90
        · refine r_callCi hC hD hW hA lkX5_231 (c_X5_wantNumber_y l E b u_16.1 u_16.2 tp tl ht1 hB (tNx tp tl bb) (tNx_le hbb) xr_15.1 (show u_16.1 5 = 1 from (xr_15.2.1.trans (show z 5 = 1 from hg5))) 20 90 hN1) rfl rfl ⟨by decide, by decide, by decide, by decide⟩ [0, 1] rfl rfl rfl (fun _ => rfl) hl.1 rfl rfl (Nat.le_of_ble_eq_true rfl) dX5_wantItem_55 (fun r_17 u_18 H locs hr_17 hW => ?_)
          have hW : Wd E A s.heap (wcat [MJ b u_18.1 u_18.2, IA E (b 5) 120 tp, IA E (b 1) 68 (enc S)]) H locs := hW
          obtain ⟨hr_17, xr_17⟩ := hr_17
          have hr_17 : r_17 = (nI (tNr tp tl (tNx tp tl bb))) := hr_17
          subst hr_17
          refine lv_istore_n (lv' := [(1, .int (nI (tNr tp tl (tNx tp tl bb)))), (0, .ref (b 0))]) hx hb dX5_wantItem_58 rfl hl (by decide) rfl (fun ls hl => ?_)
          refine lv_aload_n hx hb dX5_wantItem_59 rfl (lv_at hl 1 rfl) ?_
          refine r_get hC hW flX5_7 0 rfl rfl dX5_wantItem_60 ?_
          refine lv_iconst (v := 1) hx hb dX5_wantItem_63 (by decide) ?_
          refine lv_aload_n hx hb dX5_wantItem_64 rfl (lv_at hl 1 rfl) ?_
          refine r_get hC hW flX5_224 0 rfl rfl dX5_wantItem_65 ?_
          refine n_top xr_17.2.1 ?_
          refine lv_if_eq (tgt := 75) hx hb dX5_wantItem_68 (by decide) (fun c => absurd c (by decide)) (fun _ => ?_)
          refine lv_iload_n hx hb dX5_wantItem_71 rfl (lv_at hl 0 rfl) ?_
          refine lv_goto (tgt := 81) hx hb dX5_wantItem_72 (by decide) ?_
          refine r_iast (ws' := (wcat [MJ b u_18.1 u_18.2, IA E (b 5) 120 tp, IA E (b 1) 68 (enc (st S 0 1 (nI (tNr tp tl (tNx tp tl bb)))))])) hC hD hW 2 rfl 1 rfl (by omega) (by decide) rfl (by rw [enc_at (f := 0) (i := 1) S (Or.inl ⟨by decide, rfl, rfl⟩)]; rfl) dX5_wantItem_81 (fun H locs hW => ?_)
          refine lv_goto (tgt := 135) hx hb dX5_wantItem_82 (by decide) ?_
          exact r_vret hC hQ hD hW ((u_18.1, u_18.2), (st S 0 1 (nI (tNr tp tl (tNx tp tl bb))))) ⟨by rw [pItem, if_pos c_2, if_pos c_4, cif_t b_6, pHeat, cif_t hN1]; exact ⟨(show u_18.1 5 = 1 from xr_17.2.1), xr_17.1, rfl⟩, (xr_17.2.2.trans (xr_15.2.2.trans rfl))⟩ rfl rfl dX5_wantItem_135
        · refine r_callCi hC hD hW hA lkX5_231 (c_X5_wantNumber_n l E b u_16.1 u_16.2 tp tl ht1 hB (tNx tp tl bb) (tNx_le hbb) xr_15.1 (show u_16.1 5 = 1 from (xr_15.2.1.trans (show z 5 = 1 from hg5))) 20 90 hN1) rfl rfl ⟨by decide, by decide, by decide, by decide⟩ [0, 1] rfl rfl rfl (fun _ => rfl) hl.1 rfl rfl (Nat.le_of_ble_eq_true rfl) dX5_wantItem_55 (fun r_19 _ H locs hr_19 hW => ?_)
          have hW : Wd E A s.heap (wcat [MJ b (upd u_16.1 5 0) u_16.2, IA E (b 5) 120 tp, IA E (b 1) 68 (enc S)]) H locs := hW
          have hr_19 : True := hr_19
          refine lv_istore_n (lv' := [(1, .int r_19), (0, .ref (b 0))]) hx hb dX5_wantItem_58 rfl hl (by decide) rfl (fun ls hl => ?_)
          refine lv_aload_n hx hb dX5_wantItem_59 rfl (lv_at hl 1 rfl) ?_
          refine r_get hC hW flX5_7 0 rfl rfl dX5_wantItem_60 ?_
          refine lv_iconst (v := 1) hx hb dX5_wantItem_63 (by decide) ?_
          refine lv_aload_n hx hb dX5_wantItem_64 rfl (lv_at hl 1 rfl) ?_
          refine r_get hC hW flX5_224 0 rfl rfl dX5_wantItem_65 ?_
          refine n_top (show (upd u_16.1 5 0) 5 = 0 from rfl) ?_
          refine lv_if_eq (tgt := 75) hx hb dX5_wantItem_68 (by decide) (fun _ => ?_) (fun c => absurd c (by decide))
          refine lv_aload_n hx hb dX5_wantItem_75 rfl (lv_at hl 1 rfl) ?_
          refine r_get hC hW flX5_7 0 rfl rfl dX5_wantItem_76 ?_
          refine lv_iconst (v := 1) hx hb dX5_wantItem_79 (by decide) ?_
          refine r_iald hC hW 2 rfl 1 rfl (by omega) (by decide) dX5_wantItem_80 ?_
          refine n_top (enc_0 S (by decide)) ?_
          refine r_iast (ws' := (wcat [MJ b (upd u_16.1 5 0) u_16.2, IA E (b 5) 120 tp, IA E (b 1) 68 (enc (st S 0 1 (S 0 1)))])) hC hD hW 2 rfl 1 rfl (by omega) (by decide) rfl (by rw [enc_at (f := 0) (i := 1) S (Or.inl ⟨by decide, rfl, rfl⟩)]; rfl) dX5_wantItem_81 (fun H locs hW => ?_)
          refine lv_goto (tgt := 135) hx hb dX5_wantItem_82 (by decide) ?_
          exact r_vret hC hQ hD hW ((upd u_16.1 5 0, u_16.2), (st S 0 1 (S 0 1))) ⟨by rw [pItem, if_pos c_2, if_pos c_4, cif_t b_6, pHeat, cif_f hN1]; exact ⟨(show (upd u_16.1 5 0) 5 = 0 from rfl), xr_15.1⟩, (xr_15.2.2.trans rfl)⟩ rfl rfl dX5_wantItem_135
    · refine lv_aload_n hx hb dX5_wantItem_25 rfl (lv_at hl 0 rfl) ?_
      refine lv_aload_n hx hb dX5_wantItem_26 rfl (lv_at hl 0 rfl) ?_
      refine r_callCi hC hD hW hA lkX5_250 (c_X5_markHere l E b z w tp tl ht1 hB bb hbb hZ) rfl rfl ⟨by decide, by decide, by decide, by decide⟩ [0] rfl rfl rfl (fun _ => rfl) hl.1 rfl rfl (Nat.le_of_ble_eq_true rfl) dX5_wantItem_27 (fun r_20 _ H locs hr_20 hW => ?_)
      have hW : Wd E A s.heap (wcat [MJ b z w, IA E (b 5) 120 tp, IA E (b 1) 68 (enc S)]) H locs := hW
      have hr_20 : r_20 = (tMi tp tl bb) := hr_20
      subst hr_20
      refine r_callCv hC hD hW hA lkX5_253 (c_X5_wantGarment l E b z w tp tl ht1 hB bb hbb hZ S P G hV (tMi tp tl bb)) rfl rfl ⟨by decide, by decide, by decide, by decide⟩ [0, 1, 2] rfl rfl rfl (fun _ => rfl) hl.1 rfl rfl (Nat.le_of_ble_eq_true rfl) dX5_wantItem_30 (fun u_22 H locs hr_21 hW => ?_)
      have hW : Wd E A s.heap (wcat [MJ b u_22.1.1 u_22.1.2, IA E (b 5) 120 tp, IA E (b 1) 68 (enc u_22.2)]) H locs := hW
      have xr_21 := hr_21
      refine lv_goto (tgt := 135) hx hb dX5_wantItem_33 (by decide) ?_
      exact r_vret hC hQ hD hW ((u_22.1.1, u_22.1.2), u_22.2) ⟨by rw [pItem, if_pos c_2, if_neg c_4]; exact xr_21.1, xr_21.2⟩ rfl rfl dX5_wantItem_135
  · refine lv_aload_n hx hb dX5_wantItem_7 rfl (lv_at hl 0 rfl) ?_
    refine lv_aload_n hx hb dX5_wantItem_8 rfl (lv_at hl 0 rfl) ?_
    refine r_callCi hC hD hW hA lkX5_244 (c_X5_kindHere l E b z w tp tl ht1 hB bb hbb hZ) rfl rfl ⟨by decide, by decide, by decide, by decide⟩ [0] rfl rfl rfl (fun _ => rfl) hl.1 rfl rfl (Nat.le_of_ble_eq_true rfl) dX5_wantItem_9 (fun r_23 _ H locs hr_23 hW => ?_)
    have hW : Wd E A s.heap (wcat [MJ b z w, IA E (b 5) 120 tp, IA E (b 1) 68 (enc S)]) H locs := hW
    have hr_23 : r_23 = (tKi tp tl bb) := hr_23
    subst hr_23
    refine r_callCv hC hD hW hA lkX5_247 (c_X5_wantOne l E b z w tp tl ht1 hB bb hbb hZ S P G hV (tKi tp tl bb)) rfl rfl ⟨by decide, by decide, by decide, by decide⟩ [0, 1, 2] rfl rfl rfl (fun _ => rfl) hl.1 rfl rfl (Nat.le_of_ble_eq_true rfl) dX5_wantItem_12 (fun u_25 H locs hr_24 hW => ?_)
    have hW : Wd E A s.heap (wcat [MJ b u_25.1.1 u_25.1.2, IA E (b 5) 120 tp, IA E (b 1) 68 (enc u_25.2)]) H locs := hW
    have xr_24 := hr_24
    refine lv_goto (tgt := 135) hx hb dX5_wantItem_15 (by decide) ?_
    exact r_vret hC hQ hD hW ((u_25.1.1, u_25.1.2), u_25.2) ⟨by rw [pItem, if_neg c_2]; exact xr_24.1, xr_24.2⟩ rfl rfl dX5_wantItem_135
set_option maxHeartbeats 4000000 in
set_option maxRecDepth 100000 in
theorem c_X5_home (l : Launch) (E : Ev) (b : Nat → Nat) (z : Nat → Int32) (w : Int64) (tp : Nat → Int32) (tl : Nat) (ht1 : tl ≤ 120) (hB : tBY tp tl) (htl : z 0 = nI tl) (S : HS) (P : Nat) (G : Nat) (hV : HV S P G) (f11 : Nat → Int32) : MI l E yX5_home cX5_home 3 .int 7 156 0 0 [.ref (b 0)] (wcat [MJ b z w, IA E (b 5) 120 tp, IA E (b 1) 68 (enc S), IA E (b 11) 68 f11]) (fun (r : Int32) (u : (((Nat → Int32) × Int64) × (Nat → Int32))) => (r = (mHome S P G tp tl).1) ∧ (u.1.1 0 = 0 ∧ u.1.1 6 = z 6)) (fun (u : (((Nat → Int32) × Int64) × (Nat → Int32))) => (wcat [MJ b u.1.1 u.1.2, IA E (b 5) 120 tp, IA E (b 1) 68 (enc ((mHome S P G tp tl).2.1)), IA E (b 11) 68 u.2])) := by
  refine MI_intro RX5 (by decide) rfl (Nat.le_of_ble_eq_true rfl) ?_
  intro p e R s m args below meth c A Q hQ hC hD hW hA ls hl
  have hx := hC.1
  have hb := hC.2.1
  have hW : Wd E A s.heap (wcat [MJ b z w, IA E (b 5) 120 tp, IA E (b 1) 68 (enc S), IA E (b 11) 68 f11]) s.heap [] := hW
  have hD : Dj A [b 0, b 5, b 1, b 11] := hD
  have hl : lv_has ls 3 [(0, .ref (b 0))] := hl
  have hP := hV.p
  have hP1 := hV.p6
  have hG := hV.g
  have hG1 := hV.g10
  refine lv_aload_n hx hb dX5_home_0 rfl (lv_at hl 0 rfl) ?_
  refine lv_iconst (v := 1) hx hb dX5_home_1 (by decide) ?_
  refine lv_aload_n hx hb dX5_home_2 rfl (lv_at hl 0 rfl) ?_
  refine r_get hC hW flX5_41 0 rfl rfl dX5_home_3 ?_
  refine r_callVv hC hD hW hA lkX5_153 (c_X5_moveAll_k l E (b 0) (b 1) (MF b z w) rfl (enc S) (b 11) f11) rfl ⟨by decide, by decide, by decide, by decide⟩ [0, 2, 3] rfl rfl rfl (fun _ => rfl) hl.1 rfl rfl (Nat.le_of_ble_eq_true rfl) dX5_home_6 (fun _ H locs hr_1 hW => ?_)
  have hW : Wd E A s.heap (wcat [MJ b z w, IA E (b 5) 120 tp, IA E (b 1) 68 (enc S), IA E (b 11) 68 (enc S)]) H locs := hW
  refine lv_aload_n hx hb dX5_home_9 rfl (lv_at hl 0 rfl) ?_
  refine lv_iconst (v := 0) hx hb dX5_home_10 (by decide) ?_
  refine r_put (ws' := (wcat [MJ b (upd z 3 0) w, IA E (b 5) 120 tp, IA E (b 1) 68 (enc S), IA E (b 11) 68 (enc S)])) hC hD hW fpX5_171 0 rfl rfl rfl (Nat.le_of_ble_eq_true rfl) rfl rfl dX5_home_11 (fun H locs hW => ?_)
  refine lv_aload_n hx hb dX5_home_14 rfl (lv_at hl 0 rfl) ?_
  refine lv_iconst (v := 1) hx hb dX5_home_15 (by decide) ?_
  refine r_put (ws' := (wcat [MJ b (upd (upd z 3 0) 5 1) w, IA E (b 5) 120 tp, IA E (b 1) 68 (enc S), IA E (b 11) 68 (enc S)])) hC hD hW fpX5_224 0 rfl rfl rfl (Nat.le_of_ble_eq_true rfl) rfl rfl dX5_home_16 (fun H locs hW => ?_)
  refine lv_iconst (v := 0) hx hb dX5_home_19 (by decide) ?_
  refine lv_istore_n (lv' := [(1, .int 0), (0, .ref (b 0))]) hx hb dX5_home_20 rfl hl (by decide) rfl (fun ls hl => ?_)
  refine lv_iconst (v := 1) hx hb dX5_home_21 (by decide) ?_
  refine lv_istore_n (lv' := [(2, .int 1), (1, .int 0), (0, .ref (b 0))]) hx hb dX5_home_22 rfl hl (by decide) rfl (fun ls hl => ?_)
  have L23 : ∀ (n_ : Nat) (f : Nat) (k : Nat) (n : Nat) (S1 : HS) (P1 : Nat) (G1 : Nat) (z1 : (Nat → Int32)) (w1 : Int64) (H : Heap) (locs : List Loc) (ls : Array Slot), f < n_ → k ≤ tl → tl < f + k → n ≤ k → HV S1 P1 G1 → (z1 0 = nI tl ∧ z1 3 = nI k ∧ z1 5 = 1 ∧ z1 6 = z 6) → pAll tp tl f S1 P1 G1 k n = pAll tp tl (tl + 1) S P G 0 0 → Wd E A s.heap (wcat [MJ b z1 w1, IA E (b 5) 120 tp, IA E (b 1) 68 (enc S1), IA E (b 11) 68 (enc S)]) H locs → lv_has ls 3 [(0, .ref (b 0)), (1, .int (nI n)), (2, .int 1)] → W p l e R s m args below meth c H locs 0 0 Q (F0 m 23 ls []) := by
    intro n_
    induction n_ with
    | zero => intro f k n S1 P1 G1 z1 w1 H locs ls hm; exact absurd hm (Nat.not_lt_zero _)
    | succ n_ ih =>
      intro f k n S1 P1 G1 z1 w1 H locs ls hm hk hf hn hv hz hp hW hl
      rcases f with _ | f
      · exact absurd hf (by omega)
      · refine lv_iload_n hx hb dX5_home_23 rfl (lv_at hl 2 rfl) ?_
        refine lv_if_eq (tgt := 71) hx hb dX5_home_24 (by decide) (fun c => absurd c (by decide)) (fun _ => ?_)
        refine lv_aload_n hx hb dX5_home_27 rfl (lv_at hl 0 rfl) ?_
        refine r_callCv hC hD hW hA lkX5_228 (c_X5_advance l E b z1 w1 tp tl ht1 hB hz.1 k hk hz.2.1) rfl rfl ⟨by decide, by decide, by decide, by decide⟩ [0, 1] rfl rfl rfl (fun _ => rfl) hl.1 rfl rfl (Nat.le_of_ble_eq_true rfl) dX5_home_28 (fun u_3 H locs hr_2 hW => ?_)
        have hW : Wd E A s.heap (wcat [MJ b u_3.1 u_3.2, IA E (b 5) 120 tp, IA E (b 1) 68 (enc S1), IA E (b 11) 68 (enc S)]) H locs := hW
        have xr_2 := hr_2
        refine lv_aload_n hx hb dX5_home_31 rfl (lv_at hl 0 rfl) ?_
        refine r_callCv hC hD hW hA lkX5_260 (c_X5_wantItem l E b u_3.1 u_3.2 tp tl ht1 hB (tSk tp tl k) (tSk_le hk) xr_2.1 S1 P1 G1 hv (show u_3.1 5 = 1 from (xr_2.2.1.trans hz.2.2.1))) rfl rfl ⟨by decide, by decide, by decide, by decide⟩ [0, 1, 2] rfl rfl rfl (fun _ => rfl) hl.1 rfl rfl (Nat.le_of_ble_eq_true rfl) dX5_home_32 (fun u_5 H locs hr_4 hW => ?_)
        have hW : Wd E A s.heap (wcat [MJ b u_5.1.1 u_5.1.2, IA E (b 5) 120 tp, IA E (b 1) 68 (enc u_5.2), IA E (b 11) 68 (enc S)]) H locs := hW
        have xr_4 := hr_4
        have hit := IV_item (tp := tp) hv (b := tSk tp tl k) (tSk_le hk)
        have hsg := tSk_ge tp tl k
        rcases hq : pItem tp tl S1 P1 G1 (tSk tp tl k) with ⟨_ | q2, e2⟩
        · rw [hq] at hit
          have h5 : u_5.1.1 5 = 0 ∧ ZT tp tl e2 u_5.1.1 u_5.1.2 := by have e := xr_4.1; rw [hq] at e; exact e
          have hle : tSk tp tl k ≤ e2 ∧ e2 ≤ tl := ⟨hit.1, hit.2.1⟩
          have hsr := tSr_le tp tl e2
          refine lv_iinc (v := (nI (n + 1))) (lv' := [(1, .int (nI (n + 1))), (0, .ref (b 0)), (2, .int 1)]) (k := 1) hx hb dX5_home_35 hl rfl (nI_inc n 1) (by decide) rfl (fun ls hl => ?_)
          refine lv_aload_n hx hb dX5_home_38 rfl (lv_at hl 1 rfl) ?_
          refine r_get hC hW flX5_224 0 rfl rfl dX5_home_39 ?_
          refine n_top h5.1 ?_
          refine lv_if_eq (tgt := 66) hx hb dX5_home_42 (by decide) (fun _ => ?_) (fun c => absurd c (by decide))
          refine lv_iconst (v := 0) hx hb dX5_home_66 (by decide) ?_
          refine lv_istore_n (lv' := [(2, .int 0), (1, .int (nI (n + 1))), (0, .ref (b 0))]) hx hb dX5_home_67 rfl hl (by decide) rfl (fun ls hl => ?_)
          refine lv_goto (tgt := 23) hx hb dX5_home_68 (by decide) ?_
          refine lv_iload_n hx hb dX5_home_23 rfl (lv_at hl 0 rfl) ?_
          refine lv_if_eq (tgt := 71) hx hb dX5_home_24 (by decide) (fun _ => ?_) (fun c => absurd c (by decide))
          refine lv_aload_n hx hb dX5_home_71 rfl (lv_at hl 2 rfl) ?_
          refine lv_aload_n hx hb dX5_home_72 rfl (lv_at hl 2 rfl) ?_
          refine r_get hC hW flX5_224 0 rfl rfl dX5_home_73 ?_
          refine n_top h5.1 ?_
          refine lv_if_eq (tgt := 90) hx hb dX5_home_76 (by decide) (fun _ => ?_) (fun c => absurd c (by decide))
          refine lv_iconst (v := 0) hx hb dX5_home_90 (by decide) ?_
          refine r_put (ws' := (wcat [MJ b (upd u_5.1.1 5 0) u_5.1.2, IA E (b 5) 120 tp, IA E (b 1) 68 (enc u_5.2), IA E (b 11) 68 (enc S)])) hC hD hW fpX5_224 0 rfl rfl rfl (Nat.le_of_ble_eq_true rfl) rfl rfl dX5_home_91 (fun H locs hW => ?_)
          refine lv_aload_n hx hb dX5_home_94 rfl (lv_at hl 2 rfl) ?_
          refine lv_iconst (v := 0) hx hb dX5_home_95 (by decide) ?_
          refine r_put (ws' := (wcat [MJ b (upd (upd u_5.1.1 5 0) 0 0) u_5.1.2, IA E (b 5) 120 tp, IA E (b 1) 68 (enc u_5.2), IA E (b 11) 68 (enc S)])) hC hD hW fpX5_167 0 rfl rfl rfl (Nat.le_of_ble_eq_true rfl) rfl rfl dX5_home_96 (fun H locs hW => ?_)
          refine lv_aload_n hx hb dX5_home_99 rfl (lv_at hl 2 rfl) ?_
          refine r_get hC hW flX5_224 0 rfl rfl dX5_home_100 ?_
          refine n_top (show (upd (upd u_5.1.1 5 0) 0 0) 5 = 0 from rfl) ?_
          refine lv_if_ne (tgt := 122) hx hb dX5_home_103 (by decide) (fun c => absurd c (by decide)) (fun _ => ?_)
          refine lv_aload_n hx hb dX5_home_106 rfl (lv_at hl 2 rfl) ?_
          refine lv_iconst (v := 0) hx hb dX5_home_107 (by decide) ?_
          refine lv_aload_n hx hb dX5_home_108 rfl (lv_at hl 2 rfl) ?_
          refine r_get hC hW flX5_41 0 rfl rfl dX5_home_109 ?_
          refine r_callVv hC hD hW hA lkX5_153 (c_X5_moveAll_r l E (b 0) (b 1) (MF b (upd (upd u_5.1.1 5 0) 0 0) u_5.1.2) rfl (enc u_5.2) (b 11) (enc S)) rfl ⟨by decide, by decide, by decide, by decide⟩ [0, 2, 3] rfl rfl rfl (fun _ => rfl) hl.1 rfl rfl (Nat.le_of_ble_eq_true rfl) dX5_home_112 (fun _ H locs hr_6 hW => ?_)
          have hW : Wd E A s.heap (wcat [MJ b (upd (upd u_5.1.1 5 0) 0 0) u_5.1.2, IA E (b 5) 120 tp, IA E (b 1) 68 (enc S), IA E (b 11) 68 (enc S)]) H locs := hW
          refine lv_iconst (v := (-1)) hx hb dX5_home_115 (by decide) ?_
          refine lv_aload_n hx hb dX5_home_116 rfl (lv_at hl 2 rfl) ?_
          refine r_get hC hW flX5_174 0 rfl rfl dX5_home_117 ?_
          refine n_top (show (upd (upd u_5.1.1 5 0) 0 0) 2 = (nI e2) from h5.2.2.2.1) ?_
          refine n_isub (v := ((-1) - nI e2)) hx hb dX5_home_120 rfl ?_
          exact r_iret hC hQ hD hW ((upd (upd u_5.1.1 5 0) 0 0, u_5.1.2), enc S) ⟨(by rw [mHome_n (hp.symm.trans (pAll_n hq))]; first | done | rfl), rfl, (xr_4.2.trans (xr_2.2.2.trans hz.2.2.2))⟩ (by rw [mHome_n (hp.symm.trans (pAll_n hq))]; first | done | rfl) rfl dX5_home_121
        · rw [hq] at hit
          have hy : u_5.1.1 5 = 1 ∧ ZT tp tl e2 u_5.1.1 u_5.1.2 ∧ u_5.2 = q2.1 := by have e := xr_4.1; rw [hq] at e; exact e
          have hle : tSk tp tl k ≤ e2 ∧ e2 ≤ tl := ⟨hit.1, hit.2.1⟩
          have hsr := tSr_le tp tl e2
          refine lv_iinc (v := (nI (n + 1))) (lv' := [(1, .int (nI (n + 1))), (0, .ref (b 0)), (2, .int 1)]) (k := 1) hx hb dX5_home_35 hl rfl (nI_inc n 1) (by decide) rfl (fun ls hl => ?_)
          refine lv_aload_n hx hb dX5_home_38 rfl (lv_at hl 1 rfl) ?_
          refine r_get hC hW flX5_224 0 rfl rfl dX5_home_39 ?_
          refine n_top hy.1 ?_
          refine lv_if_eq (tgt := 66) hx hb dX5_home_42 (by decide) (fun c => absurd c (by decide)) (fun _ => ?_)
          refine lv_aload_n hx hb dX5_home_45 rfl (lv_at hl 1 rfl) ?_
          refine r_get hC hW flX5_186 0 rfl rfl dX5_home_46 ?_
          refine n_top hy.2.1.2.1 ?_
          refine lv_iconst (v := 3) hx hb dX5_home_49 (by decide) ?_
          refine lv_icmp_ne (tgt := 66) hx hb dX5_home_50 (by decide) (fun c_7 => ?_) (fun c_7 => ?_)
          · have c_7 : ¬ tSr tp tl e2 = 3 := fun z_ => c_7 ((nI_eq (a := tSr tp tl e2) (b := 3) (by omega) (by omega)).mpr z_)
            refine lv_iconst (v := 0) hx hb dX5_home_66 (by decide) ?_
            refine lv_istore_n (lv' := [(2, .int 0), (1, .int (nI (n + 1))), (0, .ref (b 0))]) hx hb dX5_home_67 rfl hl (by decide) rfl (fun ls hl => ?_)
            refine lv_goto (tgt := 23) hx hb dX5_home_68 (by decide) ?_
            refine lv_iload_n hx hb dX5_home_23 rfl (lv_at hl 0 rfl) ?_
            refine lv_if_eq (tgt := 71) hx hb dX5_home_24 (by decide) (fun _ => ?_) (fun c => absurd c (by decide))
            refine lv_aload_n hx hb dX5_home_71 rfl (lv_at hl 2 rfl) ?_
            refine lv_aload_n hx hb dX5_home_72 rfl (lv_at hl 2 rfl) ?_
            refine r_get hC hW flX5_224 0 rfl rfl dX5_home_73 ?_
            refine n_top hy.1 ?_
            refine lv_if_eq (tgt := 90) hx hb dX5_home_76 (by decide) (fun c => absurd c (by decide)) (fun _ => ?_)
            refine lv_aload_n hx hb dX5_home_79 rfl (lv_at hl 2 rfl) ?_
            refine r_get hC hW flX5_186 0 rfl rfl dX5_home_80 ?_
            refine n_top hy.2.1.2.1 ?_
            refine lv_if_ne (tgt := 90) hx hb dX5_home_83 (by decide) (fun c_8 => ?_) (fun c_8 => ?_)
            · have c_8 : ¬ tSr tp tl e2 = 0 := fun z_ => c_8 ((nI_eq (a := tSr tp tl e2) (b := 0) (by omega) (by omega)).mpr z_)
              refine lv_iconst (v := 0) hx hb dX5_home_90 (by decide) ?_
              refine r_put (ws' := (wcat [MJ b (upd u_5.1.1 5 0) u_5.1.2, IA E (b 5) 120 tp, IA E (b 1) 68 (enc u_5.2), IA E (b 11) 68 (enc S)])) hC hD hW fpX5_224 0 rfl rfl rfl (Nat.le_of_ble_eq_true rfl) rfl rfl dX5_home_91 (fun H locs hW => ?_)
              refine lv_aload_n hx hb dX5_home_94 rfl (lv_at hl 2 rfl) ?_
              refine lv_iconst (v := 0) hx hb dX5_home_95 (by decide) ?_
              refine r_put (ws' := (wcat [MJ b (upd (upd u_5.1.1 5 0) 0 0) u_5.1.2, IA E (b 5) 120 tp, IA E (b 1) 68 (enc u_5.2), IA E (b 11) 68 (enc S)])) hC hD hW fpX5_167 0 rfl rfl rfl (Nat.le_of_ble_eq_true rfl) rfl rfl dX5_home_96 (fun H locs hW => ?_)
              refine lv_aload_n hx hb dX5_home_99 rfl (lv_at hl 2 rfl) ?_
              refine r_get hC hW flX5_224 0 rfl rfl dX5_home_100 ?_
              refine n_top (show (upd (upd u_5.1.1 5 0) 0 0) 5 = 0 from rfl) ?_
              refine lv_if_ne (tgt := 122) hx hb dX5_home_103 (by decide) (fun c => absurd c (by decide)) (fun _ => ?_)
              refine lv_aload_n hx hb dX5_home_106 rfl (lv_at hl 2 rfl) ?_
              refine lv_iconst (v := 0) hx hb dX5_home_107 (by decide) ?_
              refine lv_aload_n hx hb dX5_home_108 rfl (lv_at hl 2 rfl) ?_
              refine r_get hC hW flX5_41 0 rfl rfl dX5_home_109 ?_
              refine r_callVv hC hD hW hA lkX5_153 (c_X5_moveAll_r l E (b 0) (b 1) (MF b (upd (upd u_5.1.1 5 0) 0 0) u_5.1.2) rfl (enc u_5.2) (b 11) (enc S)) rfl ⟨by decide, by decide, by decide, by decide⟩ [0, 2, 3] rfl rfl rfl (fun _ => rfl) hl.1 rfl rfl (Nat.le_of_ble_eq_true rfl) dX5_home_112 (fun _ H locs hr_9 hW => ?_)
              have hW : Wd E A s.heap (wcat [MJ b (upd (upd u_5.1.1 5 0) 0 0) u_5.1.2, IA E (b 5) 120 tp, IA E (b 1) 68 (enc S), IA E (b 11) 68 (enc S)]) H locs := hW
              refine lv_iconst (v := (-1)) hx hb dX5_home_115 (by decide) ?_
              refine lv_aload_n hx hb dX5_home_116 rfl (lv_at hl 2 rfl) ?_
              refine r_get hC hW flX5_174 0 rfl rfl dX5_home_117 ?_
              refine n_top (show (upd (upd u_5.1.1 5 0) 0 0) 2 = (nI e2) from hy.2.1.2.2.1) ?_
              refine n_isub (v := ((-1) - nI e2)) hx hb dX5_home_120 rfl ?_
              exact r_iret hC hQ hD hW ((upd (upd u_5.1.1 5 0) 0 0, u_5.1.2), enc S) ⟨(by rw [mHome_n (hp.symm.trans (pAll_x hq (fun z_ => c_7 (tKd_3v z_).1) (fun z_ => c_8 (tSr_0.mpr z_))))]; first | done | rfl), rfl, (xr_4.2.trans (xr_2.2.2.trans hz.2.2.2))⟩ (by rw [mHome_n (hp.symm.trans (pAll_x hq (fun z_ => c_7 (tKd_3v z_).1) (fun z_ => c_8 (tSr_0.mpr z_))))]; first | done | rfl) rfl dX5_home_121
            · have c_8 : tSr tp tl e2 = 0 := (nI_eq (a := tSr tp tl e2) (b := 0) (by omega) (by omega)).mp c_8
              refine lv_iconst (v := 1) hx hb dX5_home_86 (by decide) ?_
              refine lv_goto (tgt := 91) hx hb dX5_home_87 (by decide) ?_
              refine r_put (ws' := (wcat [MJ b (upd u_5.1.1 5 1) u_5.1.2, IA E (b 5) 120 tp, IA E (b 1) 68 (enc u_5.2), IA E (b 11) 68 (enc S)])) hC hD hW fpX5_224 0 rfl rfl rfl (Nat.le_of_ble_eq_true rfl) rfl rfl dX5_home_91 (fun H locs hW => ?_)
              refine lv_aload_n hx hb dX5_home_94 rfl (lv_at hl 2 rfl) ?_
              refine lv_iconst (v := 0) hx hb dX5_home_95 (by decide) ?_
              refine r_put (ws' := (wcat [MJ b (upd (upd u_5.1.1 5 1) 0 0) u_5.1.2, IA E (b 5) 120 tp, IA E (b 1) 68 (enc u_5.2), IA E (b 11) 68 (enc S)])) hC hD hW fpX5_167 0 rfl rfl rfl (Nat.le_of_ble_eq_true rfl) rfl rfl dX5_home_96 (fun H locs hW => ?_)
              refine lv_aload_n hx hb dX5_home_99 rfl (lv_at hl 2 rfl) ?_
              refine r_get hC hW flX5_224 0 rfl rfl dX5_home_100 ?_
              refine n_top (show (upd (upd u_5.1.1 5 1) 0 0) 5 = 1 from rfl) ?_
              refine lv_if_ne (tgt := 122) hx hb dX5_home_103 (by decide) (fun _ => ?_) (fun c => absurd c (by decide))
              refine lv_iload_n hx hb dX5_home_122 rfl (lv_at hl 1 rfl) ?_
              exact r_iret hC hQ hD hW ((upd (upd u_5.1.1 5 1) 0 0, u_5.1.2), enc S) ⟨(by rw [mHome_s (hp.symm.trans (pAll_0 hq (tSr_0.mp c_8)))]; first | done | rfl), rfl, (xr_4.2.trans (xr_2.2.2.trans hz.2.2.2))⟩ (by rw [mHome_s (hp.symm.trans (pAll_0 hq (tSr_0.mp c_8))), hy.2.2]; first | done | rfl) rfl dX5_home_123
          · have c_7 : tSr tp tl e2 = 3 := (nI_eq (a := tSr tp tl e2) (b := 3) (by omega) (by omega)).mp c_7
            refine lv_aload_n hx hb dX5_home_53 rfl (lv_at hl 1 rfl) ?_
            refine r_get hC hW flX5_193 0 rfl rfl dX5_home_54 ?_
            refine n_top hy.2.1.2.2.2.2.1 ?_
            refine lv_bipush (v := 59) hx hb dX5_home_57 (by decide) ?_
            refine lv_icmp_ne (tgt := 66) hx hb dX5_home_59 (by decide) (fun c_10 => ?_) (fun c_10 => ?_)
            · refine lv_iconst (v := 0) hx hb dX5_home_66 (by decide) ?_
              refine lv_istore_n (lv' := [(2, .int 0), (1, .int (nI (n + 1))), (0, .ref (b 0))]) hx hb dX5_home_67 rfl hl (by decide) rfl (fun ls hl => ?_)
              refine lv_goto (tgt := 23) hx hb dX5_home_68 (by decide) ?_
              refine lv_iload_n hx hb dX5_home_23 rfl (lv_at hl 0 rfl) ?_
              refine lv_if_eq (tgt := 71) hx hb dX5_home_24 (by decide) (fun _ => ?_) (fun c => absurd c (by decide))
              refine lv_aload_n hx hb dX5_home_71 rfl (lv_at hl 2 rfl) ?_
              refine lv_aload_n hx hb dX5_home_72 rfl (lv_at hl 2 rfl) ?_
              refine r_get hC hW flX5_224 0 rfl rfl dX5_home_73 ?_
              refine n_top hy.1 ?_
              refine lv_if_eq (tgt := 90) hx hb dX5_home_76 (by decide) (fun c => absurd c (by decide)) (fun _ => ?_)
              refine lv_aload_n hx hb dX5_home_79 rfl (lv_at hl 2 rfl) ?_
              refine r_get hC hW flX5_186 0 rfl rfl dX5_home_80 ?_
              refine n_top hy.2.1.2.1 ?_
              refine lv_if_ne (tgt := 90) hx hb dX5_home_83 (by decide) (fun c_11 => ?_) (fun c_11 => ?_)
              · have c_11 : ¬ tSr tp tl e2 = 0 := fun z_ => c_11 ((nI_eq (a := tSr tp tl e2) (b := 0) (by omega) (by omega)).mpr z_)
                refine lv_iconst (v := 0) hx hb dX5_home_90 (by decide) ?_
                refine r_put (ws' := (wcat [MJ b (upd u_5.1.1 5 0) u_5.1.2, IA E (b 5) 120 tp, IA E (b 1) 68 (enc u_5.2), IA E (b 11) 68 (enc S)])) hC hD hW fpX5_224 0 rfl rfl rfl (Nat.le_of_ble_eq_true rfl) rfl rfl dX5_home_91 (fun H locs hW => ?_)
                refine lv_aload_n hx hb dX5_home_94 rfl (lv_at hl 2 rfl) ?_
                refine lv_iconst (v := 0) hx hb dX5_home_95 (by decide) ?_
                refine r_put (ws' := (wcat [MJ b (upd (upd u_5.1.1 5 0) 0 0) u_5.1.2, IA E (b 5) 120 tp, IA E (b 1) 68 (enc u_5.2), IA E (b 11) 68 (enc S)])) hC hD hW fpX5_167 0 rfl rfl rfl (Nat.le_of_ble_eq_true rfl) rfl rfl dX5_home_96 (fun H locs hW => ?_)
                refine lv_aload_n hx hb dX5_home_99 rfl (lv_at hl 2 rfl) ?_
                refine r_get hC hW flX5_224 0 rfl rfl dX5_home_100 ?_
                refine n_top (show (upd (upd u_5.1.1 5 0) 0 0) 5 = 0 from rfl) ?_
                refine lv_if_ne (tgt := 122) hx hb dX5_home_103 (by decide) (fun c => absurd c (by decide)) (fun _ => ?_)
                refine lv_aload_n hx hb dX5_home_106 rfl (lv_at hl 2 rfl) ?_
                refine lv_iconst (v := 0) hx hb dX5_home_107 (by decide) ?_
                refine lv_aload_n hx hb dX5_home_108 rfl (lv_at hl 2 rfl) ?_
                refine r_get hC hW flX5_41 0 rfl rfl dX5_home_109 ?_
                refine r_callVv hC hD hW hA lkX5_153 (c_X5_moveAll_r l E (b 0) (b 1) (MF b (upd (upd u_5.1.1 5 0) 0 0) u_5.1.2) rfl (enc u_5.2) (b 11) (enc S)) rfl ⟨by decide, by decide, by decide, by decide⟩ [0, 2, 3] rfl rfl rfl (fun _ => rfl) hl.1 rfl rfl (Nat.le_of_ble_eq_true rfl) dX5_home_112 (fun _ H locs hr_12 hW => ?_)
                have hW : Wd E A s.heap (wcat [MJ b (upd (upd u_5.1.1 5 0) 0 0) u_5.1.2, IA E (b 5) 120 tp, IA E (b 1) 68 (enc S), IA E (b 11) 68 (enc S)]) H locs := hW
                refine lv_iconst (v := (-1)) hx hb dX5_home_115 (by decide) ?_
                refine lv_aload_n hx hb dX5_home_116 rfl (lv_at hl 2 rfl) ?_
                refine r_get hC hW flX5_174 0 rfl rfl dX5_home_117 ?_
                refine n_top (show (upd (upd u_5.1.1 5 0) 0 0) 2 = (nI e2) from hy.2.1.2.2.1) ?_
                refine n_isub (v := ((-1) - nI e2)) hx hb dX5_home_120 rfl ?_
                exact r_iret hC hQ hD hW ((upd (upd u_5.1.1 5 0) 0 0, u_5.1.2), enc S) ⟨(by rw [mHome_n (hp.symm.trans (pAll_x hq (fun z_ => c_10 (tKd_3v z_).2) (fun z_ => c_11 (tSr_0.mpr z_))))]; first | done | rfl), rfl, (xr_4.2.trans (xr_2.2.2.trans hz.2.2.2))⟩ (by rw [mHome_n (hp.symm.trans (pAll_x hq (fun z_ => c_10 (tKd_3v z_).2) (fun z_ => c_11 (tSr_0.mpr z_))))]; first | done | rfl) rfl dX5_home_121
              · have c_11 : tSr tp tl e2 = 0 := (nI_eq (a := tSr tp tl e2) (b := 0) (by omega) (by omega)).mp c_11
                refine lv_iconst (v := 1) hx hb dX5_home_86 (by decide) ?_
                refine lv_goto (tgt := 91) hx hb dX5_home_87 (by decide) ?_
                refine r_put (ws' := (wcat [MJ b (upd u_5.1.1 5 1) u_5.1.2, IA E (b 5) 120 tp, IA E (b 1) 68 (enc u_5.2), IA E (b 11) 68 (enc S)])) hC hD hW fpX5_224 0 rfl rfl rfl (Nat.le_of_ble_eq_true rfl) rfl rfl dX5_home_91 (fun H locs hW => ?_)
                refine lv_aload_n hx hb dX5_home_94 rfl (lv_at hl 2 rfl) ?_
                refine lv_iconst (v := 0) hx hb dX5_home_95 (by decide) ?_
                refine r_put (ws' := (wcat [MJ b (upd (upd u_5.1.1 5 1) 0 0) u_5.1.2, IA E (b 5) 120 tp, IA E (b 1) 68 (enc u_5.2), IA E (b 11) 68 (enc S)])) hC hD hW fpX5_167 0 rfl rfl rfl (Nat.le_of_ble_eq_true rfl) rfl rfl dX5_home_96 (fun H locs hW => ?_)
                refine lv_aload_n hx hb dX5_home_99 rfl (lv_at hl 2 rfl) ?_
                refine r_get hC hW flX5_224 0 rfl rfl dX5_home_100 ?_
                refine n_top (show (upd (upd u_5.1.1 5 1) 0 0) 5 = 1 from rfl) ?_
                refine lv_if_ne (tgt := 122) hx hb dX5_home_103 (by decide) (fun _ => ?_) (fun c => absurd c (by decide))
                refine lv_iload_n hx hb dX5_home_122 rfl (lv_at hl 1 rfl) ?_
                exact r_iret hC hQ hD hW ((upd (upd u_5.1.1 5 1) 0 0, u_5.1.2), enc S) ⟨(by rw [mHome_s (hp.symm.trans (pAll_0 hq (tSr_0.mp c_11)))]; first | done | rfl), rfl, (xr_4.2.trans (xr_2.2.2.trans hz.2.2.2))⟩ (by rw [mHome_s (hp.symm.trans (pAll_0 hq (tSr_0.mp c_11))), hy.2.2]; first | done | rfl) rfl dX5_home_123
            · have kd3 := tSr_3 (tp := tp) (tl := tl) (b := e2) (by omega) c_10
              have en3 := tEn_3 (tp := tp) (tl := tl) (k := e2) (by omega)
              refine lv_iconst (v := 1) hx hb dX5_home_62 (by decide) ?_
              refine lv_goto (tgt := 67) hx hb dX5_home_63 (by decide) ?_
              refine lv_istore_n (lv' := [(2, .int 1), (1, .int (nI (n + 1))), (0, .ref (b 0))]) hx hb dX5_home_67 rfl hl (by decide) rfl (fun ls hl => ?_)
              refine lv_goto (tgt := 23) hx hb dX5_home_68 (by decide) ?_
              exact ih f (tEn tp tl e2) (n + 1) q2.1 q2.2.1 q2.2.2 u_5.1.1 u_5.1.2 _ _ _ (by omega) (tEn_le hle.2) (by omega) (by omega) hit.2.2 ⟨hy.2.1.1, hy.2.1.2.2.2.1, hy.1, (xr_4.2.trans (xr_2.2.2.trans hz.2.2.2))⟩ ((pAll_3 hq kd3).symm.trans hp) (by have e := hW; rw [hy.2.2] at e; exact e) (lv_sub hl [2, 1, 0] rfl)
  exact L23 ((tl + 1) + 1) (tl + 1) 0 0 S P G (upd (upd z 3 0) 5 1) w _ _ _ (Nat.lt_succ_self _) (by omega) (by omega) (by omega) hV ⟨htl, rfl, rfl, rfl⟩ rfl hW (lv_sub hl [2, 1, 0] rfl)
