set_option maxHeartbeats 4000000 in
set_option maxRecDepth 100000 in
theorem c_X1_takeItem (l : Launch) (E : Ev) (ad : Nat → Nat) (av : Nat → Nat) (xo : Nat) (vt : Nat → Nat) (it : Int32) (vy : Nat → Nat) (y : Nat → Int32) (tp : Nat → Int32) (tl : Nat) (ht1 : tl ≤ 120) (hB : tBY tp tl) (bb : Nat) (hbb : bb ≤ tl) (hY : YT tp tl bb y) (S : HS) (Tt : HS) (P : Nat) (G : Nat) (hV : HV S P G) : MIs l E ad av yX1_takeItem cX1_takeItem 3 .boolean 6 129 [.ref xo] (wcat [[(xo, .inr (1, [.ref (vy 0), .ref (vt 0), .int it]))], TPW E vy y tp, HW E vt S Tt]) (fun (r : Int32) (u : ((Nat → Int32) × HS)) => IC tp tl (pItem tp tl S P G bb) u.1 u.2 r) (fun (u : ((Nat → Int32) × HS)) => (wcat [[(xo, .inr (1, [.ref (vy 0), .ref (vt 0), .int it]))], TPW E vy u.1 tp, HW E vt u.2 Tt])) := by
  refine MIs_intro RX1 (by decide) rfl (Nat.le_of_ble_eq_true rfl) ?_
  intro p e R s m args below meth c A Q hQ hC hD hW hA hSX ls hl
  have hx := hC.1
  have hb := hC.2.1
  have hW : Wd E A s.heap (wcat [[(xo, .inr (1, [.ref (vy 0), .ref (vt 0), .int it]))], TPW E vy y tp, HW E vt S Tt]) s.heap [] := hW
  have hD : Dj A [xo, vy 0, vy 1, vt 0, vt 1, vt 2, vt 3, vt 4, vt 5, vt 6, vt 7, vt 8, vt 9, vt 10] := hD
  have hl : lv_has ls 3 [(0, .ref xo)] := hl
  have hP := hV.p
  have hP1 := hV.p6
  have hG := hV.g
  have hG1 := hV.g10
  refine lv_aload_n hx hb dX1_takeItem_0 rfl (lv_at hl 0 rfl) ?_
  refine r_callCis hC hD hW hA hSX lkX1_41 (c_X1_kindAtTape l E ad av xo vt it vy y tp tl ht1 hB bb hbb hY) rfl rfl ⟨by decide, by decide, by decide, by decide⟩ [0, 1] rfl rfl rfl (fun _ => rfl) hl.1 rfl rfl (Nat.le_of_ble_eq_true rfl) dX1_takeItem_1 (fun r_1 _ H locs hr_1 hW => ?_)
  have hW : Wd E A s.heap (wcat [[(xo, .inr (1, [.ref (vy 0), .ref (vt 0), .int it]))], TPW E vy y tp, HW E vt S Tt]) H locs := hW
  have hr_1 : r_1 = (tKi tp tl bb) := hr_1
  subst hr_1
  refine lv_istore_n (lv' := [(1, .int (tKi tp tl bb)), (0, .ref xo)]) hx hb dX1_takeItem_4 rfl hl (by decide) rfl (fun ls hl => ?_)
  refine lv_iload_n hx hb dX1_takeItem_5 rfl (lv_at hl 0 rfl) ?_
  refine lv_if_lt (tgt := 15) hx hb dX1_takeItem_6 (by decide) (fun c_2 => ?_) (fun c_2 => ?_)
  · refine lv_aload_n hx hb dX1_takeItem_15 rfl (lv_at hl 1 rfl) ?_
    refine r_callCis hC hD hW hA hSX lkX1_49 (c_X1_markAtTape l E ad av xo vt it vy y tp tl ht1 hB bb hbb hY) rfl rfl ⟨by decide, by decide, by decide, by decide⟩ [0, 1] rfl rfl rfl (fun _ => rfl) hl.1 rfl rfl (Nat.le_of_ble_eq_true rfl) dX1_takeItem_16 (fun r_3 _ H locs hr_3 hW => ?_)
    have hW : Wd E A s.heap (wcat [[(xo, .inr (1, [.ref (vy 0), .ref (vt 0), .int it]))], TPW E vy y tp, HW E vt S Tt]) H locs := hW
    have hr_3 : r_3 = (tMi tp tl bb) := hr_3
    subst hr_3
    refine lv_istore_n (lv' := [(2, .int (tMi tp tl bb)), (1, .int (tKi tp tl bb)), (0, .ref xo)]) hx hb dX1_takeItem_19 rfl hl (by decide) rfl (fun ls hl => ?_)
    refine lv_iload_n hx hb dX1_takeItem_20 rfl (lv_at hl 0 rfl) ?_
    refine lv_if_lt (tgt := 30) hx hb dX1_takeItem_21 (by decide) (fun c_4 => ?_) (fun c_4 => ?_)
    · refine lv_aload_n hx hb dX1_takeItem_30 rfl (lv_at hl 2 rfl) ?_
      refine r_get hC hW flX1_9 0 rfl rfl dX1_takeItem_31 ?_
      refine r_ldcS (i := 9) hC hSX (by decide) rfl rfl dX1_takeItem_34 ?_
      refine r_callCis hC hD hW hA hSX lkX1_57 (c_X3_isAtWord l E ad av vy y tp tl ht1 hB bb hbb hY 9 (by decide) wdHeat wl9) rfl rfl ⟨by decide, by decide, by decide, by decide⟩ [1] rfl rfl rfl (fun _ => rfl) hl.1 rfl rfl (Nat.le_of_ble_eq_true rfl) dX1_takeItem_36 (fun r_5 _ H locs hr_5 hW => ?_)
      have hW : Wd E A s.heap (wcat [[(xo, .inr (1, [.ref (vy 0), .ref (vt 0), .int it]))], TPW E vy y tp, HW E vt S Tt]) H locs := hW
      have hr_5 : bz (tIW tp tl bb wdHeat) r_5 := hr_5
      rcases hr_5 with ⟨rfl, b_6⟩ | ⟨rfl, b_6⟩
      · refine lv_if_eq (tgt := 47) hx hb dX1_takeItem_39 (by decide) (fun _ => ?_) (fun c => absurd c (by decide))
        refine lv_aload_n hx hb dX1_takeItem_47 rfl (lv_at hl 2 rfl) ?_
        refine r_get hC hW flX1_9 0 rfl rfl dX1_takeItem_48 ?_
        refine r_ldcS (i := 10) hC hSX (by decide) rfl rfl dX1_takeItem_51 ?_
        refine r_callCis hC hD hW hA hSX lkX1_57 (c_X3_isAtWord l E ad av vy y tp tl ht1 hB bb hbb hY 10 (by decide) wdDies wl10) rfl rfl ⟨by decide, by decide, by decide, by decide⟩ [1] rfl rfl rfl (fun _ => rfl) hl.1 rfl rfl (Nat.le_of_ble_eq_true rfl) dX1_takeItem_53 (fun r_7 _ H locs hr_7 hW => ?_)
        have hW : Wd E A s.heap (wcat [[(xo, .inr (1, [.ref (vy 0), .ref (vt 0), .int it]))], TPW E vy y tp, HW E vt S Tt]) H locs := hW
        have hr_7 : bz (tIW tp tl bb wdDies) r_7 := hr_7
        rcases hr_7 with ⟨rfl, b_8⟩ | ⟨rfl, b_8⟩
        · refine lv_if_eq (tgt := 70) hx hb dX1_takeItem_56 (by decide) (fun _ => ?_) (fun c => absurd c (by decide))
          refine lv_iconst (v := 0) hx hb dX1_takeItem_70 (by decide) ?_
          exact r_zret hC hQ hD hW (by decide) (y, S) (by rw [pItem, if_pos c_2, if_pos c_4, cif_f b_6, cif_f b_8]; exact ⟨rfl, hY⟩) rfl rfl dX1_takeItem_71
        · refine lv_if_eq (tgt := 70) hx hb dX1_takeItem_56 (by decide) (fun c => absurd c (by decide)) (fun _ => ?_)
          refine lv_aload_n hx hb dX1_takeItem_59 rfl (lv_at hl 2 rfl) ?_
          refine r_callCi hC hD hW hA lkX1_66 (c_X1_takeDeath l E xo vt it vy y tp tl ht1 hB bb hbb hY S Tt P G hV) rfl rfl ⟨by decide, by decide, by decide, by decide⟩ [0, 1, 2] rfl rfl rfl (fun _ => rfl) hl.1 rfl rfl (Nat.le_of_ble_eq_true rfl) dX1_takeItem_60 (fun r_9 u_10 H locs hr_9 hW => ?_)
          have hW : Wd E A s.heap (wcat [[(xo, .inr (1, [.ref (vy 0), .ref (vt 0), .int it]))], TPW E vy u_10.1 tp, HW E vt u_10.2 Tt]) H locs := hW
          have hr_9 : IC tp tl (pDeath tp tl S P G bb) u_10.1 u_10.2 r_9 := hr_9
          refine lv_if_eq (tgt := 70) hx hb dX1_takeItem_63 (by decide) (fun c_11 => ?_) (fun c_11 => ?_)
          · refine lv_iconst (v := 0) hx hb dX1_takeItem_70 (by decide) ?_
            exact r_zret hC hQ hD hW (by decide) (u_10.1, u_10.2) (by rw [pItem, if_pos c_2, if_pos c_4, cif_f b_6, cif_t b_8]; have e := hr_9; rw [c_11] at e; exact e) rfl rfl dX1_takeItem_71
          · refine lv_iconst (v := 1) hx hb dX1_takeItem_66 (by decide) ?_
            refine lv_goto (tgt := 71) hx hb dX1_takeItem_67 (by decide) ?_
            exact r_zret hC hQ hD hW (by decide) (u_10.1, u_10.2) (by rw [pItem, if_pos c_2, if_pos c_4, cif_f b_6, cif_t b_8]; have e := hr_9; rw [(IC_01 hr_9).resolve_left c_11] at e; exact e) rfl rfl dX1_takeItem_71
      · refine lv_if_eq (tgt := 47) hx hb dX1_takeItem_39 (by decide) (fun c => absurd c (by decide)) (fun _ => ?_)
        refine lv_aload_n hx hb dX1_takeItem_42 rfl (lv_at hl 2 rfl) ?_
        refine r_callCi hC hD hW hA lkX1_61 (c_X1_takeHeat l E xo vt it vy y tp tl ht1 hB bb hbb hY S Tt P G hV) rfl rfl ⟨by decide, by decide, by decide, by decide⟩ [0, 1, 2] rfl rfl rfl (fun _ => rfl) hl.1 rfl rfl (Nat.le_of_ble_eq_true rfl) dX1_takeItem_43 (fun r_12 u_13 H locs hr_12 hW => ?_)
        have hW : Wd E A s.heap (wcat [[(xo, .inr (1, [.ref (vy 0), .ref (vt 0), .int it]))], TPW E vy u_13.1 tp, HW E vt u_13.2 Tt]) H locs := hW
        have hr_12 : IC tp tl (pHeat tp tl S P G bb) u_13.1 u_13.2 r_12 := hr_12
        exact r_zret hC hQ hD hW (IC_01 hr_12) (u_13.1, u_13.2) (by rw [pItem, if_pos c_2, if_pos c_4, cif_t b_6]; exact hr_12) rfl rfl dX1_takeItem_46
    · refine lv_aload_n hx hb dX1_takeItem_24 rfl (lv_at hl 2 rfl) ?_
      refine lv_iload_n hx hb dX1_takeItem_25 rfl (lv_at hl 0 rfl) ?_
      refine r_callCis hC hD hW hA hSX lkX1_52 (c_X1_takeGarment l E ad av xo vt it vy y tp tl ht1 hB bb hbb hY S Tt P G hV (tMi tp tl bb)) rfl rfl ⟨by decide, by decide, by decide, by decide⟩ [0, 1, 2] rfl rfl rfl (fun _ => rfl) hl.1 rfl rfl (Nat.le_of_ble_eq_true rfl) dX1_takeItem_26 (fun r_14 u_15 H locs hr_14 hW => ?_)
      have hW : Wd E A s.heap (wcat [[(xo, .inr (1, [.ref (vy 0), .ref (vt 0), .int it]))], TPW E vy u_15.1 tp, HW E vt u_15.2 Tt]) H locs := hW
      have hr_14 : IC tp tl (pGarment tp tl S P G (tMi tp tl bb) bb) u_15.1 u_15.2 r_14 := hr_14
      exact r_zret hC hQ hD hW (IC_01 hr_14) (u_15.1, u_15.2) (by rw [pItem, if_pos c_2, if_neg c_4]; exact hr_14) rfl rfl dX1_takeItem_29
  · refine lv_aload_n hx hb dX1_takeItem_9 rfl (lv_at hl 1 rfl) ?_
    refine lv_iload_n hx hb dX1_takeItem_10 rfl (lv_at hl 0 rfl) ?_
    refine r_callCis hC hD hW hA hSX lkX1_45 (c_X1_takePerson l E ad av xo vt it vy y tp tl ht1 hB bb hbb hY S Tt P G hV (tKi tp tl bb)) rfl rfl ⟨by decide, by decide, by decide, by decide⟩ [0, 1, 2] rfl rfl rfl (fun _ => rfl) hl.1 rfl rfl (Nat.le_of_ble_eq_true rfl) dX1_takeItem_11 (fun r_16 u_17 H locs hr_16 hW => ?_)
    have hW : Wd E A s.heap (wcat [[(xo, .inr (1, [.ref (vy 0), .ref (vt 0), .int it]))], TPW E vy u_17.1 tp, HW E vt u_17.2 Tt]) H locs := hW
    have hr_16 : IC tp tl (pPerson tp tl S P G (tKi tp tl bb) bb) u_17.1 u_17.2 r_16 := hr_16
    exact r_zret hC hQ hD hW (IC_01 hr_16) (u_17.1, u_17.2) (by rw [pItem, if_neg c_2]; exact hr_16) rfl rfl dX1_takeItem_14
set_option maxHeartbeats 4000000 in
set_option maxRecDepth 100000 in
theorem c_X1_takeItems (l : Launch) (E : Ev) (ad : Nat → Nat) (av : Nat → Nat) (xo : Nat) (vt : Nat → Nat) (it : Int32) (vy : Nat → Nat) (y : Nat → Int32) (tp : Nat → Int32) (tl : Nat) (ht1 : tl ≤ 120) (hB : tBY tp tl) (htl : y 0 = nI tl) (S : HS) (Tt : HS) (P : Nat) (G : Nat) (hV : HV S P G) : MIs l E ad av yX1_takeItems cX1_takeItems 2 .boolean 7 151 [.ref xo] (wcat [[(xo, .inr (1, [.ref (vy 0), .ref (vt 0), .int it]))], TPW E vy y tp, HW E vt S Tt]) (fun (r : Int32) (u : (((Nat → Int32) × HS) × Int32)) => AC (pAll tp tl (tl + 1) S P G 0 0) u.1.1 u.1.2 u.2 r) (fun (u : (((Nat → Int32) × HS) × Int32)) => (wcat [[(xo, .inr (1, [.ref (vy 0), .ref (vt 0), .int u.2]))], TPW E vy u.1.1 tp, HW E vt u.1.2 Tt])) := by
  refine MIs_intro RX1 (by decide) rfl (Nat.le_of_ble_eq_true rfl) ?_
  intro p e R s m args below meth c A Q hQ hC hD hW hA hSX ls hl
  have hx := hC.1
  have hb := hC.2.1
  have hW : Wd E A s.heap (wcat [[(xo, .inr (1, [.ref (vy 0), .ref (vt 0), .int it]))], TPW E vy y tp, HW E vt S Tt]) s.heap [] := hW
  have hD : Dj A [xo, vy 0, vy 1, vt 0, vt 1, vt 2, vt 3, vt 4, vt 5, vt 6, vt 7, vt 8, vt 9, vt 10] := hD
  have hl : lv_has ls 2 [(0, .ref xo)] := hl
  have hP := hV.p
  have hP1 := hV.p6
  have hG := hV.g
  have hG1 := hV.g10
  refine lv_aload_n hx hb dX1_takeItems_0 rfl (lv_at hl 0 rfl) ?_
  refine lv_iconst (v := 0) hx hb dX1_takeItems_1 (by decide) ?_
  refine r_put (ws' := (wcat [[(xo, .inr (1, [.ref (vy 0), .ref (vt 0), .int 0]))], TPW E vy y tp, HW E vt S Tt])) hC hD hW fpX1_19 0 rfl rfl rfl (Nat.le_of_ble_eq_true rfl) rfl rfl dX1_takeItems_2 (fun H locs hW => ?_)
  refine lv_aload_n hx hb dX1_takeItems_5 rfl (lv_at hl 0 rfl) ?_
  refine r_get hC hW flX1_9 0 rfl rfl dX1_takeItems_6 ?_
  refine r_callCv hC hD hW hA lkX1_23 (c_X3_rewind l E vy y tp) rfl rfl ⟨by decide, by decide, by decide, by decide⟩ [1] rfl rfl rfl (fun _ => rfl) hl.1 rfl rfl (Nat.le_of_ble_eq_true rfl) dX1_takeItems_9 (fun _ H locs hr_1 hW => ?_)
  have hW : Wd E A s.heap (wcat [[(xo, .inr (1, [.ref (vy 0), .ref (vt 0), .int 0]))], TPW E vy (upd (upd (upd (upd y 1 0) 2 0) 3 0) 4 0) tp, HW E vt S Tt]) H locs := hW
  refine lv_iconst (v := 0) hx hb dX1_takeItems_12 (by decide) ?_
  refine lv_istore_n (lv' := [(1, .int 0), (0, .ref xo)]) hx hb dX1_takeItems_13 rfl hl (by decide) rfl (fun ls hl => ?_)
  have L14 : ∀ (n_ : Nat) (f : Nat) (k : Nat) (n : Nat) (S1 : HS) (P1 : Nat) (G1 : Nat) (y1 : (Nat → Int32)) (H : Heap) (locs : List Loc) (ls : Array Slot), f < n_ → k ≤ tl → tl < f + k → n ≤ k → HV S1 P1 G1 → (y1 0 = nI tl ∧ y1 3 = nI k) → pAll tp tl f S1 P1 G1 k n = pAll tp tl (tl + 1) S P G 0 0 → Wd E A s.heap (wcat [[(xo, .inr (1, [.ref (vy 0), .ref (vt 0), .int (nI n)]))], TPW E vy y1 tp, HW E vt S1 Tt]) H locs → lv_has ls 2 [(0, .ref xo), (1, .int (nI n))] → W p l e R s m args below meth c H locs 0 0 Q (F0 m 14 ls []) := by
    intro n_
    induction n_ with
    | zero => intro f k n S1 P1 G1 y1 H locs ls hm; exact absurd hm (Nat.not_lt_zero _)
    | succ n_ ih =>
      intro f k n S1 P1 G1 y1 H locs ls hm hk hf hn hv hy hp hW hl
      rcases f with _ | f
      · exact absurd hf (by omega)
      · refine lv_iload_n hx hb dX1_takeItems_14 rfl (lv_at hl 1 rfl) ?_
        refine lv_aload_n hx hb dX1_takeItems_15 rfl (lv_at hl 0 rfl) ?_
        refine r_get hC hW flX1_9 0 rfl rfl dX1_takeItems_16 ?_
        refine r_get hC hW flX1_28 1 rfl rfl dX1_takeItems_19 ?_
        refine n_top (show y1 0 = (nI tl) from hy.1) ?_
        refine lv_icmp_gt (tgt := 84) hx hb dX1_takeItems_22 (by decide) (fun c_2 => absurd c_2 (Int32.not_lt.mpr (nI_le (b := tl) (by omega) (by omega)))) (fun c_2 => ?_)
        have c_2 : ¬ tl < n := fun z_ => c_2 ((nI_ltI (a := tl) (b := n) (by omega) (by omega)).mpr z_)
        refine lv_aload_n hx hb dX1_takeItems_25 rfl (lv_at hl 0 rfl) ?_
        refine r_get hC hW flX1_9 0 rfl rfl dX1_takeItems_26 ?_
        refine r_callCv hC hD hW hA lkX1_31 (c_X3_step l E vy y1 tp tl ht1 hB hy.1 k hk hy.2) rfl rfl ⟨by decide, by decide, by decide, by decide⟩ [1] rfl rfl rfl (fun _ => rfl) hl.1 rfl rfl (Nat.le_of_ble_eq_true rfl) dX1_takeItems_29 (fun u_4 H locs hr_3 hW => ?_)
        have hW : Wd E A s.heap (wcat [[(xo, .inr (1, [.ref (vy 0), .ref (vt 0), .int (nI n)]))], TPW E vy u_4 tp, HW E vt S1 Tt]) H locs := hW
        have xr_3 := hr_3
        refine lv_aload_n hx hb dX1_takeItems_32 rfl (lv_at hl 0 rfl) ?_
        refine r_callCis hC hD hW hA hSX lkX1_34 (c_X1_takeItem l E ad av xo vt (nI n) vy u_4 tp tl ht1 hB (tSk tp tl k) (tSk_le hk) xr_3 S1 Tt P1 G1 hv) rfl rfl ⟨by decide, by decide, by decide, by decide⟩ [0, 1, 2] rfl rfl rfl (fun _ => rfl) hl.1 rfl rfl (Nat.le_of_ble_eq_true rfl) dX1_takeItems_33 (fun r_5 u_6 H locs hr_5 hW => ?_)
        have hW : Wd E A s.heap (wcat [[(xo, .inr (1, [.ref (vy 0), .ref (vt 0), .int (nI n)]))], TPW E vy u_6.1 tp, HW E vt u_6.2 Tt]) H locs := hW
        have hr_5 : IC tp tl (pItem tp tl S1 P1 G1 (tSk tp tl k)) u_6.1 u_6.2 r_5 := hr_5
        have hit := IV_item (tp := tp) hv (b := tSk tp tl k) (tSk_le hk)
        have hsg := tSk_ge tp tl k
        rcases hq : pItem tp tl S1 P1 G1 (tSk tp tl k) with ⟨_ | q2, e2⟩
        · obtain ⟨hr9, hY9⟩ : r_5 = 0 ∧ YT tp tl e2 u_6.1 := by have e := hr_5; rw [hq] at e; exact e
          subst hr9
          rw [hq] at hit
          have hle : tSk tp tl k ≤ e2 ∧ e2 ≤ tl := ⟨hit.1, hit.2.1⟩
          have hkd := tKd_le tp tl e2
          refine lv_if_ne (tgt := 41) hx hb dX1_takeItems_36 (by decide) (fun c => absurd c (by decide)) (fun _ => ?_)
          refine lv_iconst (v := 0) hx hb dX1_takeItems_39 (by decide) ?_
          exact r_zret hC hQ hD hW (by decide) ((u_6.1, u_6.2), (nI n)) (by rw [← hp, pAll_n hq]; exact ⟨rfl, hY9.2.2.1⟩) rfl rfl dX1_takeItems_40
        · obtain ⟨hr9, hY9, hS9⟩ : r_5 = 1 ∧ YT tp tl e2 u_6.1 ∧ u_6.2 = q2.1 := by have e := hr_5; rw [hq] at e; exact e
          subst hr9
          rw [hq] at hit
          have hle : tSk tp tl k ≤ e2 ∧ e2 ≤ tl := ⟨hit.1, hit.2.1⟩
          have hkd := tKd_le tp tl e2
          refine lv_if_ne (tgt := 41) hx hb dX1_takeItems_36 (by decide) (fun _ => ?_) (fun c => absurd c (by decide))
          refine lv_aload_n hx hb dX1_takeItems_41 rfl (lv_at hl 0 rfl) ?_
          refine lv_dup hx hb dX1_takeItems_42 rfl ?_
          refine r_get hC hW flX1_19 0 rfl rfl dX1_takeItems_43 ?_
          refine lv_iconst (v := 1) hx hb dX1_takeItems_46 (by decide) ?_
          refine n_iadd (v := (nI (n + 1))) hx hb dX1_takeItems_47 (nI_1 n) ?_
          refine r_put (ws' := (wcat [[(xo, .inr (1, [.ref (vy 0), .ref (vt 0), .int (nI (n + 1))]))], TPW E vy u_6.1 tp, HW E vt u_6.2 Tt])) hC hD hW fpX1_19 0 rfl rfl rfl (Nat.le_of_ble_eq_true rfl) rfl rfl dX1_takeItems_48 (fun H locs hW => ?_)
          refine lv_aload_n hx hb dX1_takeItems_51 rfl (lv_at hl 0 rfl) ?_
          refine r_get hC hW flX1_9 0 rfl rfl dX1_takeItems_52 ?_
          refine r_get hC hW flX1_38 1 rfl rfl dX1_takeItems_55 ?_
          refine n_top hY9.2.1 ?_
          refine lv_iconst (v := 3) hx hb dX1_takeItems_58 (by decide) ?_
          refine lv_icmp_eq (tgt := 78) hx hb dX1_takeItems_59 (by decide) (fun c_7 => ?_) (fun c_7 => ?_)
          · have c_7 : tKd tp tl e2 = 3 := (nI_eq (a := tKd tp tl e2) (b := 3) (by omega) (by omega)).mp c_7
            have en3 := tEn_3 (tp := tp) (tl := tl) (k := e2) (by omega)
            refine lv_iinc (v := (nI (n + 1))) (lv' := [(1, .int (nI (n + 1))), (0, .ref xo)]) (k := 1) hx hb dX1_takeItems_78 hl rfl (nI_inc n 1) (by decide) rfl (fun ls hl => ?_)
            refine lv_goto (tgt := 14) hx hb dX1_takeItems_81 (by decide) ?_
            exact ih f (tEn tp tl e2) (n + 1) q2.1 q2.2.1 q2.2.2 u_6.1 _ _ _ (by omega) (tEn_le hle.2) (by omega) (by omega) hit.2.2 ⟨hY9.1, hY9.2.2.2.1⟩ ((pAll_3 hq c_7).symm.trans hp) (by have e := hW; rw [hS9] at e; exact e) (lv_sub hl [1, 0] rfl)
          · have c_7 : ¬ tKd tp tl e2 = 3 := fun z_ => c_7 ((nI_eq (a := tKd tp tl e2) (b := 3) (by omega) (by omega)).mpr z_)
            refine lv_aload_n hx hb dX1_takeItems_62 rfl (lv_at hl 0 rfl) ?_
            refine r_get hC hW flX1_9 0 rfl rfl dX1_takeItems_63 ?_
            refine r_get hC hW flX1_38 1 rfl rfl dX1_takeItems_66 ?_
            refine n_top hY9.2.1 ?_
            refine lv_if_ne (tgt := 76) hx hb dX1_takeItems_69 (by decide) (fun c_8 => ?_) (fun c_8 => ?_)
            · have c_8 : ¬ tKd tp tl e2 = 0 := fun z_ => c_8 ((nI_eq (a := tKd tp tl e2) (b := 0) (by omega) (by omega)).mpr z_)
              refine lv_iconst (v := 0) hx hb dX1_takeItems_76 (by decide) ?_
              exact r_zret hC hQ hD hW (by decide) ((u_6.1, u_6.2), (nI (n + 1))) (by rw [← hp, pAll_x hq c_7 c_8]; exact ⟨rfl, hY9.2.2.1⟩) rfl rfl dX1_takeItems_77
            · have c_8 : tKd tp tl e2 = 0 := (nI_eq (a := tKd tp tl e2) (b := 0) (by omega) (by omega)).mp c_8
              refine lv_iconst (v := 1) hx hb dX1_takeItems_72 (by decide) ?_
              refine lv_goto (tgt := 77) hx hb dX1_takeItems_73 (by decide) ?_
              exact r_zret hC hQ hD hW (by decide) ((u_6.1, u_6.2), (nI (n + 1))) (by rw [← hp, pAll_0 hq c_8]; exact ⟨rfl, hS9, rfl⟩) rfl rfl dX1_takeItems_77
  exact L14 ((tl + 1) + 1) (tl + 1) 0 0 S P G (upd (upd (upd (upd y 1 0) 2 0) 3 0) 4 0) _ _ _ (Nat.lt_succ_self _) (by omega) (by omega) (by omega) hV ⟨htl, rfl⟩ rfl hW (lv_sub hl [1, 0] rfl)
set_option maxHeartbeats 4000000 in
set_option maxRecDepth 100000 in
theorem c_X4_home (l : Launch) (E : Ev) (ad : Nat → Nat) (av : Nat → Nat) (o : Nat → Nat) (vl : Nat → Nat) (vt : Nat → Nat) (vk : Nat → Nat) (vy : Nat → Nat) (kp : Int32) (S : HS) (Tl : HS) (P : Nat) (G : Nat) (hV : HV S P G) (St : HS) (Tt : HS) (y : Nat → Int32) (tp : Nat → Int32) (tl : Nat) (ht1 : tl ≤ 120) (hB : tBY tp tl) (htl : y 0 = nI tl) (it : Int32) : MIs l E ad av yX4_home cX4_home 3 .int 8 172 [.ref (o 0)] (wcat [CO o vl vt vk vy kp, [(o 1, .inr (1, [.ref (vy 0), .ref (vt 0), .int it]))], TPW E vy y tp, HW E vl S Tl, HW E vt St Tt]) (fun (r : Int32) (u : ((Nat → Int32) × HS × Int32)) => (r = (mHome S P G tp tl).1) ∧ (u.1 0 = 0)) (fun (u : ((Nat → Int32) × HS × Int32)) => (wcat [CO o vl vt vk vy kp, [(o 1, .inr (1, [.ref (vy 0), .ref (vt 0), .int u.2.2]))], TPW E vy u.1 tp, HW E vl ((mHome S P G tp tl).2.1) Tl, HW E vt u.2.1 Tt])) := by
  refine MIs_intro RX4 (by decide) rfl (Nat.le_of_ble_eq_true rfl) ?_
  intro p e R s m args below meth c A Q hQ hC hD hW hA hSX ls hl
  have hx := hC.1
  have hb := hC.2.1
  have hW : Wd E A s.heap (wcat [CO o vl vt vk vy kp, [(o 1, .inr (1, [.ref (vy 0), .ref (vt 0), .int it]))], TPW E vy y tp, HW E vl S Tl, HW E vt St Tt]) s.heap [] := hW
  have hD : Dj A [o 0, o 1, vy 0, vy 1, vl 0, vl 1, vl 2, vl 3, vl 4, vl 5, vl 6, vl 7, vl 8, vl 9, vl 10, vt 0, vt 1, vt 2, vt 3, vt 4, vt 5, vt 6, vt 7, vt 8, vt 9, vt 10] := hD
  have hl : lv_has ls 3 [(0, .ref (o 0))] := hl
  have hP := hV.p
  have hP1 := hV.p6
  have hG := hV.g
  have hG1 := hV.g10
  refine lv_aload_n hx hb dX4_home_0 rfl (lv_at hl 0 rfl) ?_
  refine r_callCv hC hD hW hA lkX4_159 (c_X4_startTrial l E o vl vt vk vy kp S Tl St Tt) rfl rfl ⟨by decide, by decide, by decide, by decide⟩ [0, 3, 4] rfl rfl rfl (fun _ => rfl) hl.1 rfl rfl (Nat.le_of_ble_eq_true rfl) dX4_home_1 (fun _ H locs hr_1 hW => ?_)
  have hW : Wd E A s.heap (wcat [CO o vl vt vk vy kp, [(o 1, .inr (1, [.ref (vy 0), .ref (vt 0), .int it]))], TPW E vy y tp, HW E vl S Tl, HW E vt S Tt]) H locs := hW
  refine lv_aload_n hx hb dX4_home_4 rfl (lv_at hl 0 rfl) ?_
  refine r_get hC hW flX4_38 0 rfl rfl dX4_home_5 ?_
  refine r_callCis hC hD hW hA hSX lkX4_182 (c_X1_takeItems l E ad av (o 1) vt it vy y tp tl ht1 hB htl S Tt P G hV) rfl rfl ⟨by decide, by decide, by decide, by decide⟩ [1, 2, 4] rfl rfl rfl (fun _ => rfl) hl.1 rfl rfl (Nat.le_of_ble_eq_true rfl) dX4_home_8 (fun r_2 u_3 H locs hr_2 hW => ?_)
  have hW : Wd E A s.heap (wcat [CO o vl vt vk vy kp, [(o 1, .inr (1, [.ref (vy 0), .ref (vt 0), .int u_3.2]))], TPW E vy u_3.1.1 tp, HW E vl S Tl, HW E vt u_3.1.2 Tt]) H locs := hW
  have hr_2 : AC (pAll tp tl (tl + 1) S P G 0 0) u_3.1.1 u_3.1.2 u_3.2 r_2 := hr_2
  rcases hq : pAll tp tl (tl + 1) S P G 0 0 with ⟨_ | q2, e2⟩
  · obtain ⟨hr9, hY9⟩ : r_2 = 0 ∧ u_3.1.1 2 = nI e2 := by have e := hr_2; rw [hq] at e; exact e
    subst hr9
    refine lv_istore_n (lv' := [(1, .int 0), (0, .ref (o 0))]) hx hb dX4_home_11 rfl hl (by decide) rfl (fun ls hl => ?_)
    refine lv_aload_n hx hb dX4_home_12 rfl (lv_at hl 1 rfl) ?_
    refine r_get hC hW flX4_29 0 rfl rfl dX4_home_13 ?_
    refine r_get hC hW flX4_186 2 rfl rfl dX4_home_16 ?_
    refine n_top hY9 ?_
    refine lv_istore_n (lv' := [(2, .int (nI e2)), (1, .int 0), (0, .ref (o 0))]) hx hb dX4_home_19 rfl hl (by decide) rfl (fun ls hl => ?_)
    refine lv_aload_n hx hb dX4_home_20 rfl (lv_at hl 2 rfl) ?_
    refine r_get hC hW flX4_29 0 rfl rfl dX4_home_21 ?_
    refine r_callCv hC hD hW hA lkX4_179 (c_X3_clear l E vy u_3.1.1 tp) rfl rfl ⟨by decide, by decide, by decide, by decide⟩ [2] rfl rfl rfl (fun _ => rfl) hl.1 rfl rfl (Nat.le_of_ble_eq_true rfl) dX4_home_24 (fun _ H locs hr_4 hW => ?_)
    have hW : Wd E A s.heap (wcat [CO o vl vt vk vy kp, [(o 1, .inr (1, [.ref (vy 0), .ref (vt 0), .int u_3.2]))], TPW E vy (upd u_3.1.1 0 0) tp, HW E vl S Tl, HW E vt u_3.1.2 Tt]) H locs := hW
    refine lv_iload_n hx hb dX4_home_27 rfl (lv_at hl 1 rfl) ?_
    refine lv_if_ne (tgt := 35) hx hb dX4_home_28 (by decide) (fun c => absurd c (by decide)) (fun _ => ?_)
    refine lv_iconst (v := (-1)) hx hb dX4_home_31 (by decide) ?_
    refine lv_iload_n hx hb dX4_home_32 rfl (lv_at hl 0 rfl) ?_
    refine n_isub (v := ((-1) - nI e2)) hx hb dX4_home_33 rfl ?_
    exact r_iret hC hQ hD hW (upd u_3.1.1 0 0, u_3.1.2, u_3.2) ⟨(by rw [mHome_n hq]; first | done | rfl), rfl⟩ (by rw [mHome_n hq]; first | done | rfl) rfl dX4_home_34
  · obtain ⟨hr9, hS9, hI9⟩ : r_2 = 1 ∧ u_3.1.2 = q2.1 ∧ u_3.2 = nI q2.2.2.2 := by have e := hr_2; rw [hq] at e; exact e
    subst hr9
    refine lv_istore_n (lv' := [(1, .int 1), (0, .ref (o 0))]) hx hb dX4_home_11 rfl hl (by decide) rfl (fun ls hl => ?_)
    refine lv_aload_n hx hb dX4_home_12 rfl (lv_at hl 1 rfl) ?_
    refine r_get hC hW flX4_29 0 rfl rfl dX4_home_13 ?_
    refine r_get hC hW flX4_186 2 rfl rfl dX4_home_16 ?_
    refine lv_istore_n (lv' := [(2, .int (u_3.1.1 2)), (1, .int 1), (0, .ref (o 0))]) hx hb dX4_home_19 rfl hl (by decide) rfl (fun ls hl => ?_)
    refine lv_aload_n hx hb dX4_home_20 rfl (lv_at hl 2 rfl) ?_
    refine r_get hC hW flX4_29 0 rfl rfl dX4_home_21 ?_
    refine r_callCv hC hD hW hA lkX4_179 (c_X3_clear l E vy u_3.1.1 tp) rfl rfl ⟨by decide, by decide, by decide, by decide⟩ [2] rfl rfl rfl (fun _ => rfl) hl.1 rfl rfl (Nat.le_of_ble_eq_true rfl) dX4_home_24 (fun _ H locs hr_5 hW => ?_)
    have hW : Wd E A s.heap (wcat [CO o vl vt vk vy kp, [(o 1, .inr (1, [.ref (vy 0), .ref (vt 0), .int u_3.2]))], TPW E vy (upd u_3.1.1 0 0) tp, HW E vl S Tl, HW E vt u_3.1.2 Tt]) H locs := hW
    refine lv_iload_n hx hb dX4_home_27 rfl (lv_at hl 1 rfl) ?_
    refine lv_if_ne (tgt := 35) hx hb dX4_home_28 (by decide) (fun _ => ?_) (fun c => absurd c (by decide))
    refine lv_aload_n hx hb dX4_home_35 rfl (lv_at hl 2 rfl) ?_
    refine r_get hC hW flX4_10 0 rfl rfl dX4_home_36 ?_
    refine lv_aload_n hx hb dX4_home_39 rfl (lv_at hl 2 rfl) ?_
    refine r_get hC hW flX4_16 0 rfl rfl dX4_home_40 ?_
    refine r_callCv hC hD hW hA lkX4_189 (c_X0_become l E vl S Tl vt u_3.1.2 Tt) rfl rfl ⟨by decide, by decide, by decide, by decide⟩ [3, 4] rfl rfl rfl (fun _ => rfl) hl.1 rfl rfl (Nat.le_of_ble_eq_true rfl) dX4_home_43 (fun _ H locs hr_6 hW => ?_)
    have hW : Wd E A s.heap (wcat [CO o vl vt vk vy kp, [(o 1, .inr (1, [.ref (vy 0), .ref (vt 0), .int u_3.2]))], TPW E vy (upd u_3.1.1 0 0) tp, HW E vl u_3.1.2 Tl, HW E vt u_3.1.2 Tt]) H locs := hW
    refine lv_aload_n hx hb dX4_home_46 rfl (lv_at hl 2 rfl) ?_
    refine r_get hC hW flX4_38 0 rfl rfl dX4_home_47 ?_
    refine r_get hC hW flX4_193 1 rfl rfl dX4_home_50 ?_
    exact r_iret hC hQ hD hW (upd u_3.1.1 0 0, u_3.1.2, u_3.2) ⟨(by rw [mHome_s hq, hI9]; first | done | rfl), rfl⟩ (by rw [mHome_s hq, hS9]; first | done | rfl) rfl dX4_home_53
