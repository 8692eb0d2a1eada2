set_option maxHeartbeats 4000000 in
set_option maxRecDepth 100000 in
theorem c_X3_isAtWord (l : Launch) (E : Ev) (ad : Nat → Nat) (av : Nat → Nat) (vy : Nat → Nat) (y : Nat → Int32) (tp : Nat → Int32) (tl : Nat) (ht1 : tl ≤ 120) (hB : tBY tp tl) (bb : Nat) (hbb : bb ≤ tl) (hY : YT tp tl bb y) (i : Nat) (hi : i < 14) (L : List Nat) (hL : WLb i L = true) : MIs l E ad av yX3_isAtWord cX3_isAtWord 3 .boolean 4 85 [.ref (vy 0), .ref (ad i)] (wcat [TPW E vy y tp]) (fun (r : Int32) (_ : Unit) => bz (tIW tp tl bb L) r) (fun (_ : Unit) => (wcat [TPW E vy y tp])) := by
  refine MIs_intro RX3 (by decide) rfl (Nat.le_of_ble_eq_true rfl) ?_
  intro p e R s m args below meth c A Q hQ hC hD hW hA hSX ls hl
  have hx := hC.1
  have hb := hC.2.1
  have hW : Wd E A s.heap (wcat [TPW E vy y tp]) s.heap [] := hW
  have hD : Dj A [vy 0, vy 1] := hD
  have hl : lv_has ls 3 [(0, .ref (vy 0)), (1, .ref (ad i))] := hl
  have hkd := tKd_le tp tl bb
  have hen := tEn_le (tp := tp) hbb
  have hge := tEn_ge tp tl bb
  have hsl := (sch_all i hi).1
  refine lv_aload_n hx hb dX3_isAtWord_0 rfl (lv_at hl 0 rfl) ?_
  refine r_get hC hW flX3_22 0 rfl rfl dX3_isAtWord_1 ?_
  refine n_top (show y 1 = (nI (tKd tp tl bb)) from hY.2.1) ?_
  refine lv_iconst (v := 1) hx hb dX3_isAtWord_4 (by decide) ?_
  refine lv_icmp_ne (tgt := 24) hx hb dX3_isAtWord_5 (by decide) (fun c_1 => ?_) (fun c_1 => ?_)
  · have c_1 : ¬ tKd tp tl bb = 1 := fun z_ => c_1 ((nI_eq (a := tKd tp tl bb) (b := 1) (by omega) (by omega)).mpr z_)
    refine lv_iconst (v := 0) hx hb dX3_isAtWord_24 (by decide) ?_
    exact r_zret hC hQ hD hW (by decide) () (bz_f (fun z_ => c_1 ((tIW_s hL).mp z_).1)) rfl rfl dX3_isAtWord_25
  · have c_1 : tKd tp tl bb = 1 := (nI_eq (a := tKd tp tl bb) (b := 1) (by omega) (by omega)).mp c_1
    refine lv_aload_n hx hb dX3_isAtWord_8 rfl (lv_at hl 0 rfl) ?_
    refine r_get hC hW flX3_28 0 rfl rfl dX3_isAtWord_9 ?_
    refine n_top (show y 3 = (nI (tEn tp tl bb)) from hY.2.2.2.1) ?_
    refine lv_aload_n hx hb dX3_isAtWord_12 rfl (lv_at hl 0 rfl) ?_
    refine r_get hC hW flX3_25 0 rfl rfl dX3_isAtWord_13 ?_
    refine n_top (show y 2 = (nI bb) from hY.2.2.1) ?_
    refine n_isub (v := (nI (tEn tp tl bb - bb))) hx hb dX3_isAtWord_16 (pk_sub hge) ?_
    refine lv_aload_n hx hb dX3_isAtWord_17 rfl (lv_at hl 1 rfl) ?_
    refine r_callTi hC hD hW hA hSX lkX3_44 (c_length l E ad av i hi) hi ⟨by decide, by decide, by decide, by decide⟩ rfl hl.1 rfl rfl (Nat.le_of_ble_eq_true rfl) dX3_isAtWord_18 (fun r_2 _ H locs hr_2 hW => ?_)
    have hr_2 : r_2 = (nI (slen.getD i 0)) := hr_2
    subst hr_2
    refine lv_icmp_eq (tgt := 26) hx hb dX3_isAtWord_21 (by decide) (fun c_3 => ?_) (fun c_3 => ?_)
    · have c_3 : tEn tp tl bb - bb = slen.getD i 0 := (nI_eq (a := tEn tp tl bb - bb) (b := slen.getD i 0) (by omega) (by omega)).mp c_3
      refine lv_iconst (v := 0) hx hb dX3_isAtWord_26 (by decide) ?_
      refine lv_istore_n (lv' := [(2, .int 0), (0, .ref (vy 0)), (1, .ref (ad i))]) hx hb dX3_isAtWord_27 rfl hl (by decide) rfl (fun ls hl => ?_)
      have L28 : ∀ (n_ : Nat) (k : Nat) (H : Heap) (locs : List Loc) (ls : Array Slot), slen.getD i 0 - k < n_ → k ≤ slen.getD i 0 → (∀ q_, q_ < k → tp (bb + q_) = sch i q_) → Wd E A s.heap (wcat [TPW E vy y tp]) H locs → lv_has ls 3 [(0, .ref (vy 0)), (1, .ref (ad i)), (2, .int (nI k))] → W p l e R s m args below meth c H locs 0 0 Q (F0 m 28 ls []) := by
        intro n_
        induction n_ with
        | zero => intro k H locs ls hm; exact absurd hm (Nat.not_lt_zero _)
        | succ n_ ih =>
          intro k H locs ls hm hk hr hW hl
          refine lv_iload_n hx hb dX3_isAtWord_28 rfl (lv_at hl 2 rfl) ?_
          refine lv_aload_n hx hb dX3_isAtWord_29 rfl (lv_at hl 1 rfl) ?_
          refine r_callTi hC hD hW hA hSX lkX3_44 (c_length l E ad av i hi) hi ⟨by decide, by decide, by decide, by decide⟩ rfl hl.1 rfl rfl (Nat.le_of_ble_eq_true rfl) dX3_isAtWord_30 (fun r_4 _ H locs hr_4 hW => ?_)
          have hr_4 : r_4 = (nI (slen.getD i 0)) := hr_4
          subst hr_4
          refine lv_icmp_ge (tgt := 63) hx hb dX3_isAtWord_33 (by decide) (fun c_5 => ?_) (fun c_5 => ?_)
          · have c_5 : slen.getD i 0 ≤ k := (nI_leI (a := slen.getD i 0) (b := k) (by omega) (by omega)).mp c_5
            refine lv_iconst (v := 1) hx hb dX3_isAtWord_63 (by decide) ?_
            exact r_zret hC hQ hD hW (by decide) () (bz_t ((tIW_s hL).mpr ⟨by omega, by omega, fun q hq => hr q (by omega)⟩)) rfl rfl dX3_isAtWord_64
          · have c_5 : ¬ slen.getD i 0 ≤ k := fun z_ => c_5 ((nI_leI (a := slen.getD i 0) (b := k) (by omega) (by omega)).mpr z_)
            refine lv_aload_n hx hb dX3_isAtWord_36 rfl (lv_at hl 0 rfl) ?_
            refine r_get hC hW flX3_9 0 rfl rfl dX3_isAtWord_37 ?_
            refine lv_aload_n hx hb dX3_isAtWord_40 rfl (lv_at hl 0 rfl) ?_
            refine r_get hC hW flX3_25 0 rfl rfl dX3_isAtWord_41 ?_
            refine n_top (show y 2 = (nI bb) from hY.2.2.1) ?_
            refine lv_iload_n hx hb dX3_isAtWord_44 rfl (lv_at hl 2 rfl) ?_
            refine n_iadd (v := (nI (bb + k))) hx hb dX3_isAtWord_45 (nI_add bb k) ?_
            refine r_iald hC hW 1 rfl (bb + k) rfl (by omega) (by decide) dX3_isAtWord_46 ?_
            refine lv_aload_n hx hb dX3_isAtWord_47 rfl (lv_at hl 1 rfl) ?_
            refine lv_iload_n hx hb dX3_isAtWord_48 rfl (lv_at hl 2 rfl) ?_
            refine r_callTi hC hD hW hA hSX lkX3_49 (c_charAt l E ad av i k hi (by omega)) hi ⟨by decide, by decide, by decide, by decide⟩ rfl hl.1 rfl rfl (Nat.le_of_ble_eq_true rfl) dX3_isAtWord_49 (fun r_6 _ H locs hr_6 hW => ?_)
            have hr_6 : r_6 = (sch i k) := hr_6
            subst hr_6
            refine lv_icmp_eq (tgt := 57) hx hb dX3_isAtWord_52 (by decide) (fun c_7 => ?_) (fun c_7 => ?_)
            · refine lv_iinc (v := (nI (k + 1))) (lv' := [(2, .int (nI (k + 1))), (0, .ref (vy 0)), (1, .ref (ad i))]) (k := 2) hx hb dX3_isAtWord_57 hl rfl (nI_inc k 1) (by decide) rfl (fun ls hl => ?_)
              refine lv_goto (tgt := 28) hx hb dX3_isAtWord_60 (by decide) ?_
              exact ih (k + 1) _ _ _ (by omega) (by omega) (lt_s hr c_7) hW (lv_sub hl [1, 2, 0] rfl)
            · refine lv_iconst (v := 0) hx hb dX3_isAtWord_55 (by decide) ?_
              exact r_zret hC hQ hD hW (by decide) () (bz_f (fun z_ => c_7 (((tIW_s hL).mp z_).2.2 k (by omega)))) rfl rfl dX3_isAtWord_56
      exact L28 (slen.getD i 0 - 0 + 1) 0 _ _ _ (Nat.lt_succ_self _) (by omega) lt_0 hW (lv_sub hl [1, 2, 0] rfl)
    · have c_3 : ¬ tEn tp tl bb - bb = slen.getD i 0 := fun z_ => c_3 ((nI_eq (a := tEn tp tl bb - bb) (b := slen.getD i 0) (by omega) (by omega)).mpr z_)
      refine lv_iconst (v := 0) hx hb dX3_isAtWord_24 (by decide) ?_
      exact r_zret hC hQ hD hW (by decide) () (bz_f (fun z_ => c_3 ((tIW_s hL).mp z_).2.1)) rfl rfl dX3_isAtWord_25
set_option maxHeartbeats 4000000 in
set_option maxRecDepth 100000 in
theorem c_X1_kindAtTape (l : Launch) (E : Ev) (ad : Nat → Nat) (av : Nat → Nat) (xo : Nat) (vt : Nat → Nat) (it : Int32) (vy : Nat → Nat) (y : Nat → Int32) (tp : Nat → Int32) (tl : Nat) (ht1 : tl ≤ 120) (hB : tBY tp tl) (bb : Nat) (hbb : bb ≤ tl) (hY : YT tp tl bb y) : MIs l E ad av yX1_kindAtTape cX1_kindAtTape 1 .int 5 107 [.ref xo] (wcat [[(xo, .inr (1, [.ref (vy 0), .ref (vt 0), .int it]))], TPW E vy y tp]) (fun (r : Int32) (_ : Unit) => r = tKi tp tl bb) (fun (_ : Unit) => (wcat [[(xo, .inr (1, [.ref (vy 0), .ref (vt 0), .int it]))], TPW E vy y tp])) := by
  refine MIs_intro RX1 (by decide) rfl (Nat.le_of_ble_eq_true rfl) ?_
  intro p e R s m args below meth c A Q hQ hC hD hW hA hSX ls hl
  have hx := hC.1
  have hb := hC.2.1
  have hW : Wd E A s.heap (wcat [[(xo, .inr (1, [.ref (vy 0), .ref (vt 0), .int it]))], TPW E vy y tp]) s.heap [] := hW
  have hD : Dj A [xo, vy 0, vy 1] := hD
  have hl : lv_has ls 1 [(0, .ref xo)] := hl
  refine lv_aload_n hx hb dX1_kindAtTape_0 rfl (lv_at hl 0 rfl) ?_
  refine r_get hC hW flX1_9 0 rfl rfl dX1_kindAtTape_1 ?_
  refine r_ldcS (i := 0) hC hSX (by decide) rfl rfl dX1_kindAtTape_4 ?_
  refine r_callCis hC hD hW hA hSX lkX1_57 (c_X3_isAtWord l E ad av vy y tp tl ht1 hB bb hbb hY 0 (by decide) wdGuest wl0) rfl rfl ⟨by decide, by decide, by decide, by decide⟩ [1] rfl rfl rfl (fun _ => rfl) hl.1 rfl rfl (Nat.le_of_ble_eq_true rfl) dX1_kindAtTape_6 (fun r_1 _ H locs hr_1 hW => ?_)
  have hW : Wd E A s.heap (wcat [[(xo, .inr (1, [.ref (vy 0), .ref (vt 0), .int it]))], TPW E vy y tp]) H locs := hW
  have hr_1 : bz (tIW tp tl bb wdGuest) r_1 := hr_1
  rcases hr_1 with ⟨rfl, b_2⟩ | ⟨rfl, b_2⟩
  · refine lv_if_eq (tgt := 14) hx hb dX1_kindAtTape_9 (by decide) (fun _ => ?_) (fun c => absurd c (by decide))
    refine lv_aload_n hx hb dX1_kindAtTape_14 rfl (lv_at hl 0 rfl) ?_
    refine r_get hC hW flX1_9 0 rfl rfl dX1_kindAtTape_15 ?_
    refine r_ldcS (i := 1) hC hSX (by decide) rfl rfl dX1_kindAtTape_18 ?_
    refine r_callCis hC hD hW hA hSX lkX1_57 (c_X3_isAtWord l E ad av vy y tp tl ht1 hB bb hbb hY 1 (by decide) wdMinder wl1) rfl rfl ⟨by decide, by decide, by decide, by decide⟩ [1] rfl rfl rfl (fun _ => rfl) hl.1 rfl rfl (Nat.le_of_ble_eq_true rfl) dX1_kindAtTape_20 (fun r_3 _ H locs hr_3 hW => ?_)
    have hW : Wd E A s.heap (wcat [[(xo, .inr (1, [.ref (vy 0), .ref (vt 0), .int it]))], TPW E vy y tp]) H locs := hW
    have hr_3 : bz (tIW tp tl bb wdMinder) r_3 := hr_3
    rcases hr_3 with ⟨rfl, b_4⟩ | ⟨rfl, b_4⟩
    · refine lv_if_eq (tgt := 28) hx hb dX1_kindAtTape_23 (by decide) (fun _ => ?_) (fun c => absurd c (by decide))
      refine lv_aload_n hx hb dX1_kindAtTape_28 rfl (lv_at hl 0 rfl) ?_
      refine r_get hC hW flX1_9 0 rfl rfl dX1_kindAtTape_29 ?_
      refine r_ldcS (i := 2) hC hSX (by decide) rfl rfl dX1_kindAtTape_32 ?_
      refine r_callCis hC hD hW hA hSX lkX1_57 (c_X3_isAtWord l E ad av vy y tp tl ht1 hB bb hbb hY 2 (by decide) wdVague wl2) rfl rfl ⟨by decide, by decide, by decide, by decide⟩ [1] rfl rfl rfl (fun _ => rfl) hl.1 rfl rfl (Nat.le_of_ble_eq_true rfl) dX1_kindAtTape_34 (fun r_5 _ H locs hr_5 hW => ?_)
      have hW : Wd E A s.heap (wcat [[(xo, .inr (1, [.ref (vy 0), .ref (vt 0), .int it]))], TPW E vy y tp]) H locs := hW
      have hr_5 : bz (tIW tp tl bb wdVague) r_5 := hr_5
      rcases hr_5 with ⟨rfl, b_6⟩ | ⟨rfl, b_6⟩
      · refine lv_if_eq (tgt := 42) hx hb dX1_kindAtTape_37 (by decide) (fun _ => ?_) (fun c => absurd c (by decide))
        refine lv_aload_n hx hb dX1_kindAtTape_42 rfl (lv_at hl 0 rfl) ?_
        refine r_get hC hW flX1_9 0 rfl rfl dX1_kindAtTape_43 ?_
        refine r_ldcS (i := 3) hC hSX (by decide) rfl rfl dX1_kindAtTape_46 ?_
        refine r_callCis hC hD hW hA hSX lkX1_57 (c_X3_isAtWord l E ad av vy y tp tl ht1 hB bb hbb hY 3 (by decide) wdDeaf wl3) rfl rfl ⟨by decide, by decide, by decide, by decide⟩ [1] rfl rfl rfl (fun _ => rfl) hl.1 rfl rfl (Nat.le_of_ble_eq_true rfl) dX1_kindAtTape_48 (fun r_7 _ H locs hr_7 hW => ?_)
        have hW : Wd E A s.heap (wcat [[(xo, .inr (1, [.ref (vy 0), .ref (vt 0), .int it]))], TPW E vy y tp]) H locs := hW
        have hr_7 : bz (tIW tp tl bb wdDeaf) r_7 := hr_7
        rcases hr_7 with ⟨rfl, b_8⟩ | ⟨rfl, b_8⟩
        · refine lv_if_eq (tgt := 56) hx hb dX1_kindAtTape_51 (by decide) (fun _ => ?_) (fun c => absurd c (by decide))
          refine lv_aload_n hx hb dX1_kindAtTape_56 rfl (lv_at hl 0 rfl) ?_
          refine r_get hC hW flX1_9 0 rfl rfl dX1_kindAtTape_57 ?_
          refine r_ldcS (i := 4) hC hSX (by decide) rfl rfl dX1_kindAtTape_60 ?_
          refine r_callCis hC hD hW hA hSX lkX1_57 (c_X3_isAtWord l E ad av vy y tp tl ht1 hB bb hbb hY 4 (by decide) wdDaughter wl4) rfl rfl ⟨by decide, by decide, by decide, by decide⟩ [1] rfl rfl rfl (fun _ => rfl) hl.1 rfl rfl (Nat.le_of_ble_eq_true rfl) dX1_kindAtTape_62 (fun r_9 _ H locs hr_9 hW => ?_)
          have hW : Wd E A s.heap (wcat [[(xo, .inr (1, [.ref (vy 0), .ref (vt 0), .int it]))], TPW E vy y tp]) H locs := hW
          have hr_9 : bz (tIW tp tl bb wdDaughter) r_9 := hr_9
          rcases hr_9 with ⟨rfl, b_10⟩ | ⟨rfl, b_10⟩
          · refine lv_if_eq (tgt := 70) hx hb dX1_kindAtTape_65 (by decide) (fun _ => ?_) (fun c => absurd c (by decide))
            refine lv_aload_n hx hb dX1_kindAtTape_70 rfl (lv_at hl 0 rfl) ?_
            refine r_get hC hW flX1_9 0 rfl rfl dX1_kindAtTape_71 ?_
            refine r_ldcS (i := 5) hC hSX (by decide) rfl rfl dX1_kindAtTape_74 ?_
            refine r_callCis hC hD hW hA hSX lkX1_57 (c_X3_isAtWord l E ad av vy y tp tl ht1 hB bb hbb hY 5 (by decide) wdMagpie wl5) rfl rfl ⟨by decide, by decide, by decide, by decide⟩ [1] rfl rfl rfl (fun _ => rfl) hl.1 rfl rfl (Nat.le_of_ble_eq_true rfl) dX1_kindAtTape_76 (fun r_11 _ H locs hr_11 hW => ?_)
            have hW : Wd E A s.heap (wcat [[(xo, .inr (1, [.ref (vy 0), .ref (vt 0), .int it]))], TPW E vy y tp]) H locs := hW
            have hr_11 : bz (tIW tp tl bb wdMagpie) r_11 := hr_11
            rcases hr_11 with ⟨rfl, b_12⟩ | ⟨rfl, b_12⟩
            · refine lv_if_eq (tgt := 86) hx hb dX1_kindAtTape_79 (by decide) (fun _ => ?_) (fun c => absurd c (by decide))
              refine lv_iconst (v := (-1)) hx hb dX1_kindAtTape_86 (by decide) ?_
              exact r_iret hC hQ hD hW () (by rw [tKi, cif_f b_2, cif_f b_4, cif_f b_6, cif_f b_8, cif_f b_10, cif_f b_12]) rfl rfl dX1_kindAtTape_87
            · refine lv_if_eq (tgt := 86) hx hb dX1_kindAtTape_79 (by decide) (fun c => absurd c (by decide)) (fun _ => ?_)
              refine lv_iconst (v := 5) hx hb dX1_kindAtTape_82 (by decide) ?_
              refine lv_goto (tgt := 87) hx hb dX1_kindAtTape_83 (by decide) ?_
              exact r_iret hC hQ hD hW () (by rw [tKi, cif_f b_2, cif_f b_4, cif_f b_6, cif_f b_8, cif_f b_10, cif_t b_12]) rfl rfl dX1_kindAtTape_87
          · refine lv_if_eq (tgt := 70) hx hb dX1_kindAtTape_65 (by decide) (fun c => absurd c (by decide)) (fun _ => ?_)
            refine lv_iconst (v := 4) hx hb dX1_kindAtTape_68 (by decide) ?_
            exact r_iret hC hQ hD hW () (by rw [tKi, cif_f b_2, cif_f b_4, cif_f b_6, cif_f b_8, cif_t b_10]) rfl rfl dX1_kindAtTape_69
        · refine lv_if_eq (tgt := 56) hx hb dX1_kindAtTape_51 (by decide) (fun c => absurd c (by decide)) (fun _ => ?_)
          refine lv_iconst (v := 3) hx hb dX1_kindAtTape_54 (by decide) ?_
          exact r_iret hC hQ hD hW () (by rw [tKi, cif_f b_2, cif_f b_4, cif_f b_6, cif_t b_8]) rfl rfl dX1_kindAtTape_55
      · refine lv_if_eq (tgt := 42) hx hb dX1_kindAtTape_37 (by decide) (fun c => absurd c (by decide)) (fun _ => ?_)
        refine lv_iconst (v := 2) hx hb dX1_kindAtTape_40 (by decide) ?_
        exact r_iret hC hQ hD hW () (by rw [tKi, cif_f b_2, cif_f b_4, cif_t b_6]) rfl rfl dX1_kindAtTape_41
    · refine lv_if_eq (tgt := 28) hx hb dX1_kindAtTape_23 (by decide) (fun c => absurd c (by decide)) (fun _ => ?_)
      refine lv_iconst (v := 1) hx hb dX1_kindAtTape_26 (by decide) ?_
      exact r_iret hC hQ hD hW () (by rw [tKi, cif_f b_2, cif_t b_4]) rfl rfl dX1_kindAtTape_27
  · refine lv_if_eq (tgt := 14) hx hb dX1_kindAtTape_9 (by decide) (fun c => absurd c (by decide)) (fun _ => ?_)
    refine lv_iconst (v := 0) hx hb dX1_kindAtTape_12 (by decide) ?_
    exact r_iret hC hQ hD hW () (by rw [tKi, cif_t b_2]) rfl rfl dX1_kindAtTape_13
set_option maxHeartbeats 4000000 in
set_option maxRecDepth 100000 in
theorem c_X1_markAtTape (l : Launch) (E : Ev) (ad : Nat → Nat) (av : Nat → Nat) (xo : Nat) (vt : Nat → Nat) (it : Int32) (vy : Nat → Nat) (y : Nat → Int32) (tp : Nat → Int32) (tl : Nat) (ht1 : tl ≤ 120) (hB : tBY tp tl) (bb : Nat) (hbb : bb ≤ tl) (hY : YT tp tl bb y) : MIs l E ad av yX1_markAtTape cX1_markAtTape 1 .int 5 107 [.ref xo] (wcat [[(xo, .inr (1, [.ref (vy 0), .ref (vt 0), .int it]))], TPW E vy y tp]) (fun (r : Int32) (_ : Unit) => r = tMi tp tl bb) (fun (_ : Unit) => (wcat [[(xo, .inr (1, [.ref (vy 0), .ref (vt 0), .int it]))], TPW E vy y tp])) := by
  refine MIs_intro RX1 (by decide) rfl (Nat.le_of_ble_eq_true rfl) ?_
  intro p e R s m args below meth c A Q hQ hC hD hW hA hSX ls hl
  have hx := hC.1
  have hb := hC.2.1
  have hW : Wd E A s.heap (wcat [[(xo, .inr (1, [.ref (vy 0), .ref (vt 0), .int it]))], TPW E vy y tp]) s.heap [] := hW
  have hD : Dj A [xo, vy 0, vy 1] := hD
  have hl : lv_has ls 1 [(0, .ref xo)] := hl
  refine lv_aload_n hx hb dX1_markAtTape_0 rfl (lv_at hl 0 rfl) ?_
  refine r_get hC hW flX1_9 0 rfl rfl dX1_markAtTape_1 ?_
  refine r_ldcS (i := 6) hC hSX (by decide) rfl rfl dX1_markAtTape_4 ?_
  refine r_callCis hC hD hW hA hSX lkX1_57 (c_X3_isAtWord l E ad av vy y tp tl ht1 hB bb hbb hY 6 (by decide) wdSewn wl6) rfl rfl ⟨by decide, by decide, by decide, by decide⟩ [1] rfl rfl rfl (fun _ => rfl) hl.1 rfl rfl (Nat.le_of_ble_eq_true rfl) dX1_markAtTape_6 (fun r_1 _ H locs hr_1 hW => ?_)
  have hW : Wd E A s.heap (wcat [[(xo, .inr (1, [.ref (vy 0), .ref (vt 0), .int it]))], TPW E vy y tp]) H locs := hW
  have hr_1 : bz (tIW tp tl bb wdSewn) r_1 := hr_1
  rcases hr_1 with ⟨rfl, b_2⟩ | ⟨rfl, b_2⟩
  · refine lv_if_eq (tgt := 14) hx hb dX1_markAtTape_9 (by decide) (fun _ => ?_) (fun c => absurd c (by decide))
    refine lv_aload_n hx hb dX1_markAtTape_14 rfl (lv_at hl 0 rfl) ?_
    refine r_get hC hW flX1_9 0 rfl rfl dX1_markAtTape_15 ?_
    refine r_ldcS (i := 7) hC hSX (by decide) rfl rfl dX1_markAtTape_18 ?_
    refine r_callCis hC hD hW hA hSX lkX1_57 (c_X3_isAtWord l E ad av vy y tp tl ht1 hB bb hbb hY 7 (by decide) wdIroned wl7) rfl rfl ⟨by decide, by decide, by decide, by decide⟩ [1] rfl rfl rfl (fun _ => rfl) hl.1 rfl rfl (Nat.le_of_ble_eq_true rfl) dX1_markAtTape_20 (fun r_3 _ H locs hr_3 hW => ?_)
    have hW : Wd E A s.heap (wcat [[(xo, .inr (1, [.ref (vy 0), .ref (vt 0), .int it]))], TPW E vy y tp]) H locs := hW
    have hr_3 : bz (tIW tp tl bb wdIroned) r_3 := hr_3
    rcases hr_3 with ⟨rfl, b_4⟩ | ⟨rfl, b_4⟩
    · refine lv_if_eq (tgt := 28) hx hb dX1_markAtTape_23 (by decide) (fun _ => ?_) (fun c => absurd c (by decide))
      refine lv_aload_n hx hb dX1_markAtTape_28 rfl (lv_at hl 0 rfl) ?_
      refine r_get hC hW flX1_9 0 rfl rfl dX1_markAtTape_29 ?_
      refine r_ldcS (i := 8) hC hSX (by decide) rfl rfl dX1_markAtTape_32 ?_
      refine r_callCis hC hD hW hA hSX lkX1_57 (c_X3_isAtWord l E ad av vy y tp tl ht1 hB bb hbb hY 8 (by decide) wdPen wl8) rfl rfl ⟨by decide, by decide, by decide, by decide⟩ [1] rfl rfl rfl (fun _ => rfl) hl.1 rfl rfl (Nat.le_of_ble_eq_true rfl) dX1_markAtTape_34 (fun r_5 _ H locs hr_5 hW => ?_)
      have hW : Wd E A s.heap (wcat [[(xo, .inr (1, [.ref (vy 0), .ref (vt 0), .int it]))], TPW E vy y tp]) H locs := hW
      have hr_5 : bz (tIW tp tl bb wdPen) r_5 := hr_5
      rcases hr_5 with ⟨rfl, b_6⟩ | ⟨rfl, b_6⟩
      · refine lv_if_eq (tgt := 44) hx hb dX1_markAtTape_37 (by decide) (fun _ => ?_) (fun c => absurd c (by decide))
        refine lv_iconst (v := (-1)) hx hb dX1_markAtTape_44 (by decide) ?_
        exact r_iret hC hQ hD hW () (by rw [tMi, cif_f b_2, cif_f b_4, cif_f b_6]) rfl rfl dX1_markAtTape_45
      · refine lv_if_eq (tgt := 44) hx hb dX1_markAtTape_37 (by decide) (fun c => absurd c (by decide)) (fun _ => ?_)
        refine lv_iconst (v := 2) hx hb dX1_markAtTape_40 (by decide) ?_
        refine lv_goto (tgt := 45) hx hb dX1_markAtTape_41 (by decide) ?_
        exact r_iret hC hQ hD hW () (by rw [tMi, cif_f b_2, cif_f b_4, cif_t b_6]) rfl rfl dX1_markAtTape_45
    · refine lv_if_eq (tgt := 28) hx hb dX1_markAtTape_23 (by decide) (fun c => absurd c (by decide)) (fun _ => ?_)
      refine lv_iconst (v := 1) hx hb dX1_markAtTape_26 (by decide) ?_
      exact r_iret hC hQ hD hW () (by rw [tMi, cif_f b_2, cif_t b_4]) rfl rfl dX1_markAtTape_27
  · refine lv_if_eq (tgt := 14) hx hb dX1_markAtTape_9 (by decide) (fun c => absurd c (by decide)) (fun _ => ?_)
    refine lv_iconst (v := 0) hx hb dX1_markAtTape_12 (by decide) ?_
    exact r_iret hC hQ hD hW () (by rw [tMi, cif_t b_2]) rfl rfl dX1_markAtTape_13
set_option maxHeartbeats 4000000 in
set_option maxRecDepth 100000 in
theorem c_X1_takeNumber (l : Launch) (E : Ev) (xo : Nat) (vt : Nat → Nat) (it : Int32) (vy : Nat → Nat) (y : Nat → Int32) (tp : Nat → Int32) (tl : Nat) (ht1 : tl ≤ 120) (hB : tBY tp tl) (bb : Nat) (hbb : bb ≤ tl) (hY : YT tp tl bb y) (x1 : Int32) (x2 : Int32) (hh : x2 ≤ 999) : MI l E yX1_takeNumber cX1_takeNumber 3 .boolean 2 44 0 0 [.ref xo, .int x1, .int x2] (wcat [[(xo, .inr (1, [.ref (vy 0), .ref (vt 0), .int it]))], TPW E vy y tp]) (fun (r : Int32) (u : (Nat → Int32)) => (bz (tNm tp tl (tNx tp tl bb) x1 x2) r) ∧ (YT tp tl (tNx tp tl bb) u)) (fun (u : (Nat → Int32)) => (wcat [[(xo, .inr (1, [.ref (vy 0), .ref (vt 0), .int it]))], TPW E vy u tp])) := by
  refine MI_intro RX1 (by decide) rfl (Nat.le_of_ble_eq_true rfl) ?_
  intro p e R s m args below meth c A Q hQ hC hD hW hA ls hl
  have hx := hC.1
  have hb := hC.2.1
  have hW : Wd E A s.heap (wcat [[(xo, .inr (1, [.ref (vy 0), .ref (vt 0), .int it]))], TPW E vy y tp]) s.heap [] := hW
  have hD : Dj A [xo, vy 0, vy 1] := hD
  have hl : lv_has ls 3 [(0, .ref xo), (1, .int x1), (2, .int x2)] := hl
  refine lv_aload_n hx hb dX1_takeNumber_0 rfl (lv_at hl 0 rfl) ?_
  refine r_get hC hW flX1_9 0 rfl rfl dX1_takeNumber_1 ?_
  refine r_callCv hC hD hW hA lkX1_31 (c_X3_step l E vy y tp tl ht1 hB hY.1 (tEn tp tl bb) (tEn_le hbb) hY.2.2.2.1) rfl rfl ⟨by decide, by decide, by decide, by decide⟩ [1] rfl rfl rfl (fun _ => rfl) hl.1 rfl rfl (Nat.le_of_ble_eq_true rfl) dX1_takeNumber_4 (fun u_2 H locs hr_1 hW => ?_)
  have hW : Wd E A s.heap (wcat [[(xo, .inr (1, [.ref (vy 0), .ref (vt 0), .int it]))], TPW E vy u_2 tp]) H locs := hW
  have xr_1 := hr_1
  refine lv_aload_n hx hb dX1_takeNumber_7 rfl (lv_at hl 0 rfl) ?_
  refine r_get hC hW flX1_9 0 rfl rfl dX1_takeNumber_8 ?_
  refine lv_iload_n hx hb dX1_takeNumber_11 rfl (lv_at hl 1 rfl) ?_
  refine lv_iload_n hx hb dX1_takeNumber_12 rfl (lv_at hl 2 rfl) ?_
  refine r_callCi hC hD hW hA lkX1_114 (c_X3_isAtNumber l E vy u_2 tp tl (tNx tp tl bb) xr_1 x1 x2 hh) rfl rfl ⟨by decide, by decide, by decide, by decide⟩ [1] rfl rfl rfl (fun _ => rfl) hl.1 rfl rfl (Nat.le_of_ble_eq_true rfl) dX1_takeNumber_13 (fun r_3 _ H locs hr_3 hW => ?_)
  have hW : Wd E A s.heap (wcat [[(xo, .inr (1, [.ref (vy 0), .ref (vt 0), .int it]))], TPW E vy u_2 tp]) H locs := hW
  have hr_3 : bz (tNm tp tl (tNx tp tl bb) x1 x2) r_3 := hr_3
  exact r_zret hC hQ hD hW (bz_01 hr_3) u_2 ⟨hr_3, xr_1⟩ rfl rfl dX1_takeNumber_16
