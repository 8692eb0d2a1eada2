set_option maxHeartbeats 4000000 in
set_option maxRecDepth 100000 in
theorem c_X5_isWord (l : Launch) (E : Ev) (b : Nat → Nat) (z : Nat → Int32) (w : Int64) (tp : Nat → Int32) (tl : Nat) (ht1 : tl ≤ 120) (hB : tBY tp tl) (bb : Nat) (hbb : bb ≤ tl) (hZ : ZT tp tl bb z w) (L : List Nat) (hL : okW L = true) (v : Int64) (hv : v = Int64.ofNat (hsR L)) : MI l E yX5_isWord cX5_isWord 3 .boolean 0 0 0 0 [.ref (b 0), .long v] (wcat [MJ b z w]) (fun (r : Int32) (_ : Unit) => bz (tIW tp tl bb L) r) (fun (_ : Unit) => (wcat [MJ b z w])) := by
  refine MI_intro RX5 (by decide) rfl (Nat.le_of_ble_eq_true rfl) ?_
  intro p e R s m args below meth c A Q hQ hC hD hW hA ls hl
  have hx := hC.1
  have hb := hC.2.1
  have hW : Wd E A s.heap (wcat [MJ b z w]) s.heap [] := hW
  have hD : Dj A [b 0] := hD
  have hl : lv_has ls 3 [(0, .ref (b 0)), (1, .long v)] := hl
  refine lv_aload_n hx hb dX5_isWord_0 rfl (lv_at hl 0 rfl) ?_
  refine r_get hC hW flX5_186 0 rfl rfl dX5_isWord_1 ?_
  refine lv_iconst (v := 1) hx hb dX5_isWord_4 (by decide) ?_
  refine lv_icmp_ne (tgt := 21) hx hb dX5_isWord_5 (by decide) (fun c_1 => ?_) (fun c_1 => ?_)
  · refine lv_iconst (v := 0) hx hb dX5_isWord_21 (by decide) ?_
    exact r_zret hC hQ hD hW (by decide) () (bz_f (fun z_ => c_1 ((tIW_iff hZ hL).mpr z_).1)) rfl rfl dX5_isWord_22
  · refine lv_aload_n hx hb dX5_isWord_8 rfl (lv_at hl 0 rfl) ?_
    refine r_get hC hW flX5_189 0 rfl rfl dX5_isWord_9 ?_
    refine lv_lload_n hx hb dX5_isWord_12 rfl (lv_at hl 1 rfl) ?_
    refine W.lcmp hx hb dX5_isWord_13 ?_
    refine lv_if_ne (tgt := 21) hx hb dX5_isWord_14 (by decide) (fun c_2 => ?_) (fun c_2 => ?_)
    · have c_2 : ¬ w = v := cmp_ne c_2
      refine lv_iconst (v := 0) hx hb dX5_isWord_21 (by decide) ?_
      exact r_zret hC hQ hD hW (by decide) () (bz_f (fun z_ => c_2 (((tIW_iff hZ hL).mpr z_).2.trans hv.symm))) rfl rfl dX5_isWord_22
    · have c_2 : w = v := cmp_nen c_2
      refine lv_iconst (v := 1) hx hb dX5_isWord_17 (by decide) ?_
      refine lv_goto (tgt := 22) hx hb dX5_isWord_18 (by decide) ?_
      exact r_zret hC hQ hD hW (by decide) () (bz_t ((tIW_iff hZ hL).mp ⟨c_1, c_2.trans hv⟩)) rfl rfl dX5_isWord_22
set_option maxHeartbeats 4000000 in
set_option maxRecDepth 100000 in
theorem c_X5_kindHere (l : Launch) (E : Ev) (b : Nat → Nat) (z : Nat → Int32) (w : Int64) (tp : Nat → Int32) (tl : Nat) (ht1 : tl ≤ 120) (hB : tBY tp tl) (bb : Nat) (hbb : bb ≤ tl) (hZ : ZT tp tl bb z w) : MI l E yX5_kindHere cX5_kindHere 1 .int 1 22 0 0 [.ref (b 0)] (wcat [MJ b z w]) (fun (r : Int32) (_ : Unit) => r = tKi tp tl bb) (fun (_ : Unit) => (wcat [MJ b z w])) := by
  refine MI_intro RX5 (by decide) rfl (Nat.le_of_ble_eq_true rfl) ?_
  intro p e R s m args below meth c A Q hQ hC hD hW hA ls hl
  have hx := hC.1
  have hb := hC.2.1
  have hW : Wd E A s.heap (wcat [MJ b z w]) s.heap [] := hW
  have hD : Dj A [b 0] := hD
  have hl : lv_has ls 1 [(0, .ref (b 0))] := hl
  refine lv_aload_n hx hb dX5_kindHere_0 rfl (lv_at hl 0 rfl) ?_
  refine r_ldc2 hC clX5_202 dX5_kindHere_1 ?_
  refine r_callCi hC hD hW hA lkX5_204 (c_X5_isWord l E b z w tp tl ht1 hB bb hbb hZ wdGuest okGuest 4137608 (by decide +kernel)) rfl rfl ⟨by decide, by decide, by decide, by decide⟩ [0] rfl rfl rfl (fun _ => rfl) hl.1 rfl rfl (Nat.le_of_ble_eq_true rfl) dX5_kindHere_4 (fun r_1 _ H locs hr_1 hW => ?_)
  have hW : Wd E A s.heap (wcat [MJ b z w]) H locs := hW
  have hr_1 : bz (tIW tp tl bb wdGuest) r_1 := hr_1
  rcases hr_1 with ⟨rfl, b_2⟩ | ⟨rfl, b_2⟩
  · refine lv_if_eq (tgt := 14) hx hb dX5_kindHere_7 (by decide) (fun _ => ?_) (fun c => absurd c (by decide))
    refine lv_aload_n hx hb dX5_kindHere_14 rfl (lv_at hl 0 rfl) ?_
    refine r_ldc2 hC clX5_208 dX5_kindHere_15 ?_
    refine r_callCi hC hD hW hA lkX5_204 (c_X5_isWord l E b z w tp tl ht1 hB bb hbb hZ wdMinder okMinder 191597391 (by decide +kernel)) rfl rfl ⟨by decide, by decide, by decide, by decide⟩ [0] rfl rfl rfl (fun _ => rfl) hl.1 rfl rfl (Nat.le_of_ble_eq_true rfl) dX5_kindHere_18 (fun r_3 _ H locs hr_3 hW => ?_)
    have hW : Wd E A s.heap (wcat [MJ b z w]) H locs := hW
    have hr_3 : bz (tIW tp tl bb wdMinder) r_3 := hr_3
    rcases hr_3 with ⟨rfl, b_4⟩ | ⟨rfl, b_4⟩
    · refine lv_if_eq (tgt := 28) hx hb dX5_kindHere_21 (by decide) (fun _ => ?_) (fun c => absurd c (by decide))
      refine lv_aload_n hx hb dX5_kindHere_28 rfl (lv_at hl 0 rfl) ?_
      refine r_ldc2 hC clX5_210 dX5_kindHere_29 ?_
      refine r_callCi hC hD hW hA lkX5_204 (c_X5_isWord l E b z w tp tl ht1 hB bb hbb hZ wdVague okVague 11717060 (by decide +kernel)) rfl rfl ⟨by decide, by decide, by decide, by decide⟩ [0] rfl rfl rfl (fun _ => rfl) hl.1 rfl rfl (Nat.le_of_ble_eq_true rfl) dX5_kindHere_32 (fun r_5 _ H locs hr_5 hW => ?_)
      have hW : Wd E A s.heap (wcat [MJ b z w]) H locs := hW
      have hr_5 : bz (tIW tp tl bb wdVague) r_5 := hr_5
      rcases hr_5 with ⟨rfl, b_6⟩ | ⟨rfl, b_6⟩
      · refine lv_if_eq (tgt := 42) hx hb dX5_kindHere_35 (by decide) (fun _ => ?_) (fun c => absurd c (by decide))
        refine lv_aload_n hx hb dX5_kindHere_42 rfl (lv_at hl 0 rfl) ?_
        refine r_ldc2 hC clX5_212 dX5_kindHere_43 ?_
        refine r_callCi hC hD hW hA lkX5_204 (c_X5_isWord l E b z w tp tl ht1 hB bb hbb hZ wdDeaf okDeaf 82410 (by decide +kernel)) rfl rfl ⟨by decide, by decide, by decide, by decide⟩ [0] rfl rfl rfl (fun _ => rfl) hl.1 rfl rfl (Nat.le_of_ble_eq_true rfl) dX5_kindHere_46 (fun r_7 _ H locs hr_7 hW => ?_)
        have hW : Wd E A s.heap (wcat [MJ b z w]) H locs := hW
        have hr_7 : bz (tIW tp tl bb wdDeaf) r_7 := hr_7
        rcases hr_7 with ⟨rfl, b_8⟩ | ⟨rfl, b_8⟩
        · refine lv_if_eq (tgt := 56) hx hb dX5_kindHere_49 (by decide) (fun _ => ?_) (fun c => absurd c (by decide))
          refine lv_aload_n hx hb dX5_kindHere_56 rfl (lv_at hl 0 rfl) ?_
          refine r_ldc2 hC clX5_214 dX5_kindHere_57 ?_
          refine r_callCi hC hD hW hA lkX5_204 (c_X5_isWord l E b z w tp tl ht1 hB bb hbb hZ wdDaughter okDaughter 42534052632 (by decide +kernel)) rfl rfl ⟨by decide, by decide, by decide, by decide⟩ [0] rfl rfl rfl (fun _ => rfl) hl.1 rfl rfl (Nat.le_of_ble_eq_true rfl) dX5_kindHere_60 (fun r_9 _ H locs hr_9 hW => ?_)
          have hW : Wd E A s.heap (wcat [MJ b z w]) H locs := hW
          have hr_9 : bz (tIW tp tl bb wdDaughter) r_9 := hr_9
          rcases hr_9 with ⟨rfl, b_10⟩ | ⟨rfl, b_10⟩
          · refine lv_if_eq (tgt := 70) hx hb dX5_kindHere_63 (by decide) (fun _ => ?_) (fun c => absurd c (by decide))
            refine lv_aload_n hx hb dX5_kindHere_70 rfl (lv_at hl 0 rfl) ?_
            refine r_ldc2 hC clX5_216 dX5_kindHere_71 ?_
            refine r_callCi hC hD hW hA lkX5_204 (c_X5_isWord l E b z w tp tl ht1 hB bb hbb hZ wdMagpie okMagpie 187216925 (by decide +kernel)) rfl rfl ⟨by decide, by decide, by decide, by decide⟩ [0] rfl rfl rfl (fun _ => rfl) hl.1 rfl rfl (Nat.le_of_ble_eq_true rfl) dX5_kindHere_74 (fun r_11 _ H locs hr_11 hW => ?_)
            have hW : Wd E A s.heap (wcat [MJ b z w]) H locs := hW
            have hr_11 : bz (tIW tp tl bb wdMagpie) r_11 := hr_11
            rcases hr_11 with ⟨rfl, b_12⟩ | ⟨rfl, b_12⟩
            · refine lv_if_eq (tgt := 84) hx hb dX5_kindHere_77 (by decide) (fun _ => ?_) (fun c => absurd c (by decide))
              refine lv_iconst (v := (-1)) hx hb dX5_kindHere_84 (by decide) ?_
              exact r_iret hC hQ hD hW () (by rw [tKi, cif_f b_2, cif_f b_4, cif_f b_6, cif_f b_8, cif_f b_10, cif_f b_12]) rfl rfl dX5_kindHere_85
            · refine lv_if_eq (tgt := 84) hx hb dX5_kindHere_77 (by decide) (fun c => absurd c (by decide)) (fun _ => ?_)
              refine lv_iconst (v := 5) hx hb dX5_kindHere_80 (by decide) ?_
              refine lv_goto (tgt := 85) hx hb dX5_kindHere_81 (by decide) ?_
              exact r_iret hC hQ hD hW () (by rw [tKi, cif_f b_2, cif_f b_4, cif_f b_6, cif_f b_8, cif_f b_10, cif_t b_12]) rfl rfl dX5_kindHere_85
          · refine lv_if_eq (tgt := 70) hx hb dX5_kindHere_63 (by decide) (fun c => absurd c (by decide)) (fun _ => ?_)
            refine lv_iconst (v := 4) hx hb dX5_kindHere_66 (by decide) ?_
            refine lv_goto (tgt := 85) hx hb dX5_kindHere_67 (by decide) ?_
            exact r_iret hC hQ hD hW () (by rw [tKi, cif_f b_2, cif_f b_4, cif_f b_6, cif_f b_8, cif_t b_10]) rfl rfl dX5_kindHere_85
        · refine lv_if_eq (tgt := 56) hx hb dX5_kindHere_49 (by decide) (fun c => absurd c (by decide)) (fun _ => ?_)
          refine lv_iconst (v := 3) hx hb dX5_kindHere_52 (by decide) ?_
          refine lv_goto (tgt := 85) hx hb dX5_kindHere_53 (by decide) ?_
          exact r_iret hC hQ hD hW () (by rw [tKi, cif_f b_2, cif_f b_4, cif_f b_6, cif_t b_8]) rfl rfl dX5_kindHere_85
      · refine lv_if_eq (tgt := 42) hx hb dX5_kindHere_35 (by decide) (fun c => absurd c (by decide)) (fun _ => ?_)
        refine lv_iconst (v := 2) hx hb dX5_kindHere_38 (by decide) ?_
        refine lv_goto (tgt := 85) hx hb dX5_kindHere_39 (by decide) ?_
        exact r_iret hC hQ hD hW () (by rw [tKi, cif_f b_2, cif_f b_4, cif_t b_6]) rfl rfl dX5_kindHere_85
    · refine lv_if_eq (tgt := 28) hx hb dX5_kindHere_21 (by decide) (fun c => absurd c (by decide)) (fun _ => ?_)
      refine lv_iconst (v := 1) hx hb dX5_kindHere_24 (by decide) ?_
      refine lv_goto (tgt := 85) hx hb dX5_kindHere_25 (by decide) ?_
      exact r_iret hC hQ hD hW () (by rw [tKi, cif_f b_2, cif_t b_4]) rfl rfl dX5_kindHere_85
  · refine lv_if_eq (tgt := 14) hx hb dX5_kindHere_7 (by decide) (fun c => absurd c (by decide)) (fun _ => ?_)
    refine lv_iconst (v := 0) hx hb dX5_kindHere_10 (by decide) ?_
    refine lv_goto (tgt := 85) hx hb dX5_kindHere_11 (by decide) ?_
    exact r_iret hC hQ hD hW () (by rw [tKi, cif_t b_2]) rfl rfl dX5_kindHere_85
set_option maxHeartbeats 4000000 in
set_option maxRecDepth 100000 in
theorem c_X5_markHere (l : Launch) (E : Ev) (b : Nat → Nat) (z : Nat → Int32) (w : Int64) (tp : Nat → Int32) (tl : Nat) (ht1 : tl ≤ 120) (hB : tBY tp tl) (bb : Nat) (hbb : bb ≤ tl) (hZ : ZT tp tl bb z w) : MI l E yX5_markHere cX5_markHere 1 .int 1 22 0 0 [.ref (b 0)] (wcat [MJ b z w]) (fun (r : Int32) (_ : Unit) => r = tMi tp tl bb) (fun (_ : Unit) => (wcat [MJ b z w])) := by
  refine MI_intro RX5 (by decide) rfl (Nat.le_of_ble_eq_true rfl) ?_
  intro p e R s m args below meth c A Q hQ hC hD hW hA ls hl
  have hx := hC.1
  have hb := hC.2.1
  have hW : Wd E A s.heap (wcat [MJ b z w]) s.heap [] := hW
  have hD : Dj A [b 0] := hD
  have hl : lv_has ls 1 [(0, .ref (b 0))] := hl
  refine lv_aload_n hx hb dX5_markHere_0 rfl (lv_at hl 0 rfl) ?_
  refine r_ldc2 hC clX5_218 dX5_markHere_1 ?_
  refine r_callCi hC hD hW hA lkX5_204 (c_X5_isWord l E b z w tp tl ht1 hB bb hbb hZ wdSewn okSewn 378257 (by decide +kernel)) rfl rfl ⟨by decide, by decide, by decide, by decide⟩ [0] rfl rfl rfl (fun _ => rfl) hl.1 rfl rfl (Nat.le_of_ble_eq_true rfl) dX5_markHere_4 (fun r_1 _ H locs hr_1 hW => ?_)
  have hW : Wd E A s.heap (wcat [MJ b z w]) H locs := hW
  have hr_1 : bz (tIW tp tl bb wdSewn) r_1 := hr_1
  rcases hr_1 with ⟨rfl, b_2⟩ | ⟨rfl, b_2⟩
  · refine lv_if_eq (tgt := 14) hx hb dX5_markHere_7 (by decide) (fun _ => ?_) (fun c => absurd c (by decide))
    refine lv_aload_n hx hb dX5_markHere_14 rfl (lv_at hl 0 rfl) ?_
    refine r_ldc2 hC clX5_220 dX5_markHere_15 ?_
    refine r_callCi hC hD hW hA lkX5_204 (c_X5_isWord l E b z w tp tl ht1 hB bb hbb hZ wdIroned okIroned 139011691 (by decide +kernel)) rfl rfl ⟨by decide, by decide, by decide, by decide⟩ [0] rfl rfl rfl (fun _ => rfl) hl.1 rfl rfl (Nat.le_of_ble_eq_true rfl) dX5_markHere_18 (fun r_3 _ H locs hr_3 hW => ?_)
    have hW : Wd E A s.heap (wcat [MJ b z w]) H locs := hW
    have hr_3 : bz (tIW tp tl bb wdIroned) r_3 := hr_3
    rcases hr_3 with ⟨rfl, b_4⟩ | ⟨rfl, b_4⟩
    · refine lv_if_eq (tgt := 28) hx hb dX5_markHere_21 (by decide) (fun _ => ?_) (fun c => absurd c (by decide))
      refine lv_aload_n hx hb dX5_markHere_28 rfl (lv_at hl 0 rfl) ?_
      refine r_ldc2 hC clX5_222 dX5_markHere_29 ?_
      refine r_callCi hC hD hW hA lkX5_204 (c_X5_isWord l E b z w tp tl ht1 hB bb hbb hZ wdPen okPen 11813 (by decide +kernel)) rfl rfl ⟨by decide, by decide, by decide, by decide⟩ [0] rfl rfl rfl (fun _ => rfl) hl.1 rfl rfl (Nat.le_of_ble_eq_true rfl) dX5_markHere_32 (fun r_5 _ H locs hr_5 hW => ?_)
      have hW : Wd E A s.heap (wcat [MJ b z w]) H locs := hW
      have hr_5 : bz (tIW tp tl bb wdPen) r_5 := hr_5
      rcases hr_5 with ⟨rfl, b_6⟩ | ⟨rfl, b_6⟩
      · refine lv_if_eq (tgt := 42) hx hb dX5_markHere_35 (by decide) (fun _ => ?_) (fun c => absurd c (by decide))
        refine lv_iconst (v := (-1)) hx hb dX5_markHere_42 (by decide) ?_
        exact r_iret hC hQ hD hW () (by rw [tMi, cif_f b_2, cif_f b_4, cif_f b_6]) rfl rfl dX5_markHere_43
      · refine lv_if_eq (tgt := 42) hx hb dX5_markHere_35 (by decide) (fun c => absurd c (by decide)) (fun _ => ?_)
        refine lv_iconst (v := 2) hx hb dX5_markHere_38 (by decide) ?_
        refine lv_goto (tgt := 43) hx hb dX5_markHere_39 (by decide) ?_
        exact r_iret hC hQ hD hW () (by rw [tMi, cif_f b_2, cif_f b_4, cif_t b_6]) rfl rfl dX5_markHere_43
    · refine lv_if_eq (tgt := 28) hx hb dX5_markHere_21 (by decide) (fun c => absurd c (by decide)) (fun _ => ?_)
      refine lv_iconst (v := 1) hx hb dX5_markHere_24 (by decide) ?_
      refine lv_goto (tgt := 43) hx hb dX5_markHere_25 (by decide) ?_
      exact r_iret hC hQ hD hW () (by rw [tMi, cif_f b_2, cif_t b_4]) rfl rfl dX5_markHere_43
  · refine lv_if_eq (tgt := 14) hx hb dX5_markHere_7 (by decide) (fun c => absurd c (by decide)) (fun _ => ?_)
    refine lv_iconst (v := 0) hx hb dX5_markHere_10 (by decide) ?_
    refine lv_goto (tgt := 43) hx hb dX5_markHere_11 (by decide) ?_
    exact r_iret hC hQ hD hW () (by rw [tMi, cif_t b_2]) rfl rfl dX5_markHere_43
set_option maxHeartbeats 4000000 in
set_option maxRecDepth 100000 in
theorem c_X5_wantNumber_y (l : Launch) (E : Ev) (b : Nat → Nat) (z : Nat → Int32) (w : Int64) (tp : Nat → Int32) (tl : Nat) (ht1 : tl ≤ 120) (hB : tBY tp tl) (bb : Nat) (hbb : bb ≤ tl) (hZ : ZT tp tl bb z w) (hg5 : z 5 = 1) (x1 : Int32) (x2 : Int32) (hN : tNm tp tl bb x1 x2) : MI l E yX5_wantNumber cX5_wantNumber 4 .int 3 63 0 0 [.ref (b 0), .int x1, .int x2] (wcat [MJ b z w, IA E (b 5) 120 tp]) (fun (r : Int32) (u : ((Nat → Int32) × Int64)) => (r = nI (tNr tp tl bb)) ∧ (ZT tp tl (tNx tp tl bb) u.1 u.2 ∧ u.1 5 = 1 ∧ u.1 6 = z 6)) (fun (u : ((Nat → Int32) × Int64)) => (wcat [MJ b u.1 u.2, IA E (b 5) 120 tp])) := by
  refine MI_intro RX5 (by decide) rfl (Nat.le_of_ble_eq_true rfl) ?_
  intro p e R s m args below meth c A Q hQ hC hD hW hA ls hl
  have hx := hC.1
  have hb := hC.2.1
  have hW : Wd E A s.heap (wcat [MJ b z w, IA E (b 5) 120 tp]) s.heap [] := hW
  have hD : Dj A [b 0, b 5] := hD
  have hl : lv_has ls 4 [(0, .ref (b 0)), (1, .int x1), (2, .int x2)] := hl
  refine lv_aload_n hx hb dX5_wantNumber_0 rfl (lv_at hl 0 rfl) ?_
  refine r_get hC hW flX5_193 0 rfl rfl dX5_wantNumber_1 ?_
  refine n_top (show z 4 = (nI (tNr tp tl bb)) from (hZ.2.2.2.2.1.trans (tVl_2 hN.1))) ?_
  refine lv_istore_n (lv' := [(3, .int (nI (tNr tp tl bb))), (0, .ref (b 0)), (1, .int x1), (2, .int x2)]) hx hb dX5_wantNumber_4 rfl hl (by decide) rfl (fun ls hl => ?_)
  refine lv_aload_n hx hb dX5_wantNumber_5 rfl (lv_at hl 1 rfl) ?_
  refine lv_aload_n hx hb dX5_wantNumber_6 rfl (lv_at hl 1 rfl) ?_
  refine r_get hC hW flX5_224 0 rfl rfl dX5_wantNumber_7 ?_
  refine n_top (show z 5 = 1 from hg5) ?_
  refine lv_if_eq (tgt := 34) hx hb dX5_wantNumber_10 (by decide) (fun c => absurd c (by decide)) (fun _ => ?_)
  refine lv_aload_n hx hb dX5_wantNumber_13 rfl (lv_at hl 1 rfl) ?_
  refine r_get hC hW flX5_186 0 rfl rfl dX5_wantNumber_14 ?_
  refine n_top (show z 1 = 2 from (hZ.2.1.trans (tSr_2 hN.1))) ?_
  refine lv_iconst (v := 2) hx hb dX5_wantNumber_17 (by decide) ?_
  refine lv_icmp_ne (tgt := 34) hx hb dX5_wantNumber_18 (by decide) (fun c => absurd c (by decide)) (fun _ => ?_)
  refine lv_iload_n hx hb dX5_wantNumber_21 rfl (lv_at hl 0 rfl) ?_
  refine lv_iload_n hx hb dX5_wantNumber_22 rfl (lv_at hl 2 rfl) ?_
  refine lv_iload_n hx hb dX5_wantNumber_23 rfl (lv_at hl 3 rfl) ?_
  refine r_callSi hC hD hW hA lkX5_45 (c_X5_in l E (nI (tNr tp tl bb)) x1 x2) ⟨by decide, by decide, by decide, by decide⟩ rfl hl.1 rfl rfl (Nat.le_of_ble_eq_true rfl) dX5_wantNumber_24 (fun r_1 _ H locs hr_1 hW => ?_)
  have hW : Wd E A s.heap (wcat [MJ b z w, IA E (b 5) 120 tp]) H locs := hW
  have hr_1 : bz (x1 ≤ (nI (tNr tp tl bb)) ∧ (nI (tNr tp tl bb)) ≤ x2) r_1 := hr_1
  rcases hr_1 with ⟨rfl, b_2⟩ | ⟨rfl, b_2⟩
  · exact absurd hN.2 b_2
  · refine lv_if_eq (tgt := 34) hx hb dX5_wantNumber_27 (by decide) (fun c => absurd c (by decide)) (fun _ => ?_)
    refine lv_iconst (v := 1) hx hb dX5_wantNumber_30 (by decide) ?_
    refine lv_goto (tgt := 35) hx hb dX5_wantNumber_31 (by decide) ?_
    refine r_put (ws' := (wcat [MJ b (upd z 5 1) w, IA E (b 5) 120 tp])) hC hD hW fpX5_224 0 rfl rfl rfl (Nat.le_of_ble_eq_true rfl) rfl rfl dX5_wantNumber_35 (fun H locs hW => ?_)
    refine lv_aload_n hx hb dX5_wantNumber_38 rfl (lv_at hl 1 rfl) ?_
    refine r_get hC hW flX5_224 0 rfl rfl dX5_wantNumber_39 ?_
    refine n_top (show (upd z 5 1) 5 = 1 from rfl) ?_
    refine lv_if_eq (tgt := 49) hx hb dX5_wantNumber_42 (by decide) (fun c => absurd c (by decide)) (fun _ => ?_)
    refine lv_aload_n hx hb dX5_wantNumber_45 rfl (lv_at hl 1 rfl) ?_
    refine r_callCv hC hD hW hA lkX5_228 (c_X5_advance l E b (upd z 5 1) w tp tl ht1 hB hZ.1 (tEn tp tl bb) (tEn_le hbb) hZ.2.2.2.1) rfl rfl ⟨by decide, by decide, by decide, by decide⟩ [0, 1] rfl rfl rfl (fun _ => rfl) hl.1 rfl rfl (Nat.le_of_ble_eq_true rfl) dX5_wantNumber_46 (fun u_4 H locs hr_3 hW => ?_)
    have hW : Wd E A s.heap (wcat [MJ b u_4.1 u_4.2, IA E (b 5) 120 tp]) H locs := hW
    have xr_3 := hr_3
    refine lv_iload_n hx hb dX5_wantNumber_49 rfl (lv_at hl 0 rfl) ?_
    exact r_iret hC hQ hD hW (u_4.1, u_4.2) ⟨rfl, xr_3.1, (show u_4.1 5 = 1 from (xr_3.2.1.trans (show (upd z 5 1) 5 = 1 from rfl))), (xr_3.2.2.trans rfl)⟩ rfl rfl dX5_wantNumber_50
set_option maxHeartbeats 4000000 in
set_option maxRecDepth 100000 in
theorem c_X5_wantNumber_n (l : Launch) (E : Ev) (b : Nat → Nat) (z : Nat → Int32) (w : Int64) (tp : Nat → Int32) (tl : Nat) (ht1 : tl ≤ 120) (hB : tBY tp tl) (bb : Nat) (hbb : bb ≤ tl) (hZ : ZT tp tl bb z w) (hg5 : z 5 = 1) (x1 : Int32) (x2 : Int32) (hN : ¬ tNm tp tl bb x1 x2) : MI l E yX5_wantNumber cX5_wantNumber 4 .int 1 22 0 0 [.ref (b 0), .int x1, .int x2] (wcat [MJ b z w, IA E (b 5) 120 tp]) (fun (r : Int32) (_ : Unit) => True) (fun (_ : Unit) => (wcat [MJ b (upd z 5 0) w, IA E (b 5) 120 tp])) := by
  refine MI_intro RX5 (by decide) rfl (Nat.le_of_ble_eq_true rfl) ?_
  intro p e R s m args below meth c A Q hQ hC hD hW hA ls hl
  have hx := hC.1
  have hb := hC.2.1
  have hW : Wd E A s.heap (wcat [MJ b z w, IA E (b 5) 120 tp]) s.heap [] := hW
  have hD : Dj A [b 0, b 5] := hD
  have hl : lv_has ls 4 [(0, .ref (b 0)), (1, .int x1), (2, .int x2)] := hl
  have hsr := tSr_le tp tl bb
  refine lv_aload_n hx hb dX5_wantNumber_0 rfl (lv_at hl 0 rfl) ?_
  refine r_get hC hW flX5_193 0 rfl rfl dX5_wantNumber_1 ?_
  refine n_top (show z 4 = (tVl tp tl bb) from hZ.2.2.2.2.1) ?_
  refine lv_istore_n (lv' := [(3, .int (tVl tp tl bb)), (0, .ref (b 0)), (1, .int x1), (2, .int x2)]) hx hb dX5_wantNumber_4 rfl hl (by decide) rfl (fun ls hl => ?_)
  refine lv_aload_n hx hb dX5_wantNumber_5 rfl (lv_at hl 1 rfl) ?_
  refine lv_aload_n hx hb dX5_wantNumber_6 rfl (lv_at hl 1 rfl) ?_
  refine r_get hC hW flX5_224 0 rfl rfl dX5_wantNumber_7 ?_
  refine n_top (show z 5 = 1 from hg5) ?_
  refine lv_if_eq (tgt := 34) hx hb dX5_wantNumber_10 (by decide) (fun c => absurd c (by decide)) (fun _ => ?_)
  refine lv_aload_n hx hb dX5_wantNumber_13 rfl (lv_at hl 1 rfl) ?_
  refine r_get hC hW flX5_186 0 rfl rfl dX5_wantNumber_14 ?_
  refine n_top (show z 1 = (nI (tSr tp tl bb)) from hZ.2.1) ?_
  refine lv_iconst (v := 2) hx hb dX5_wantNumber_17 (by decide) ?_
  refine lv_icmp_ne (tgt := 34) hx hb dX5_wantNumber_18 (by decide) (fun c_1 => ?_) (fun c_1 => ?_)
  · have c_1 : ¬ tSr tp tl bb = 2 := fun z_ => c_1 ((nI_eq (a := tSr tp tl bb) (b := 2) (by omega) (by omega)).mpr z_)
    refine lv_iconst (v := 0) hx hb dX5_wantNumber_34 (by decide) ?_
    refine r_put (ws' := (wcat [MJ b (upd z 5 0) w, IA E (b 5) 120 tp])) hC hD hW fpX5_224 0 rfl rfl rfl (Nat.le_of_ble_eq_true rfl) rfl rfl dX5_wantNumber_35 (fun H locs hW => ?_)
    refine lv_aload_n hx hb dX5_wantNumber_38 rfl (lv_at hl 1 rfl) ?_
    refine r_get hC hW flX5_224 0 rfl rfl dX5_wantNumber_39 ?_
    refine n_top (show (upd z 5 0) 5 = 0 from rfl) ?_
    refine lv_if_eq (tgt := 49) hx hb dX5_wantNumber_42 (by decide) (fun _ => ?_) (fun c => absurd c (by decide))
    refine lv_iload_n hx hb dX5_wantNumber_49 rfl (lv_at hl 0 rfl) ?_
    exact r_iret hC hQ hD hW () trivial rfl rfl dX5_wantNumber_50
  · have c_1 : tSr tp tl bb = 2 := (nI_eq (a := tSr tp tl bb) (b := 2) (by omega) (by omega)).mp c_1
    refine lv_iload_n hx hb dX5_wantNumber_21 rfl (lv_at hl 0 rfl) ?_
    refine lv_iload_n hx hb dX5_wantNumber_22 rfl (lv_at hl 2 rfl) ?_
    refine lv_iload_n hx hb dX5_wantNumber_23 rfl (lv_at hl 3 rfl) ?_
    refine r_callSi hC hD hW hA lkX5_45 (c_X5_in l E (tVl tp tl bb) x1 x2) ⟨by decide, by decide, by decide, by decide⟩ rfl hl.1 rfl rfl (Nat.le_of_ble_eq_true rfl) dX5_wantNumber_24 (fun r_2 _ H locs hr_2 hW => ?_)
    have hW : Wd E A s.heap (wcat [MJ b z w, IA E (b 5) 120 tp]) H locs := hW
    have hr_2 : bz (x1 ≤ (tVl tp tl bb) ∧ (tVl tp tl bb) ≤ x2) r_2 := hr_2
    rcases hr_2 with ⟨rfl, b_3⟩ | ⟨rfl, b_3⟩
    · refine lv_if_eq (tgt := 34) hx hb dX5_wantNumber_27 (by decide) (fun _ => ?_) (fun c => absurd c (by decide))
      refine lv_iconst (v := 0) hx hb dX5_wantNumber_34 (by decide) ?_
      refine r_put (ws' := (wcat [MJ b (upd z 5 0) w, IA E (b 5) 120 tp])) hC hD hW fpX5_224 0 rfl rfl rfl (Nat.le_of_ble_eq_true rfl) rfl rfl dX5_wantNumber_35 (fun H locs hW => ?_)
      refine lv_aload_n hx hb dX5_wantNumber_38 rfl (lv_at hl 1 rfl) ?_
      refine r_get hC hW flX5_224 0 rfl rfl dX5_wantNumber_39 ?_
      refine n_top (show (upd z 5 0) 5 = 0 from rfl) ?_
      refine lv_if_eq (tgt := 49) hx hb dX5_wantNumber_42 (by decide) (fun _ => ?_) (fun c => absurd c (by decide))
      refine lv_iload_n hx hb dX5_wantNumber_49 rfl (lv_at hl 0 rfl) ?_
      exact r_iret hC hQ hD hW () trivial rfl rfl dX5_wantNumber_50
    · refine lv_if_eq (tgt := 34) hx hb dX5_wantNumber_27 (by decide) (fun c => absurd c (by decide)) (fun _ => ?_)
      exact absurd (tNm_of (by omega) b_3) hN
set_option maxHeartbeats 4000000 in
set_option maxRecDepth 100000 in
theorem c_X5_mayWant_0 (l : Launch) (E : Ev) (b : Nat → Nat) (z : Nat → Int32) (w : Int64) (tp : Nat → Int32) (tl : Nat) (ht1 : tl ≤ 120) (hB : tBY tp tl) (bb : Nat) (hbb : bb ≤ tl) (hZ : ZT tp tl bb z w) (L : List Nat) (hL : okW L = true) (v : Int64) (hv : v = Int64.ofNat (hsR L)) (x1 : Int32) (x2 : Int32) (x3 : Int32) (hg5 : z 5 = 0) : MI l E yX5_mayWant cX5_mayWant 6 .int 0 0 0 0 [.ref (b 0), .long v, .int x1, .int x2, .int x3] (wcat [MJ b z w, IA E (b 5) 120 tp]) (fun (r : Int32) (_ : Unit) => r = x3) (fun (_ : Unit) => (wcat [MJ b z w, IA E (b 5) 120 tp])) := by
  refine MI_intro RX5 (by decide) rfl (Nat.le_of_ble_eq_true rfl) ?_
  intro p e R s m args below meth c A Q hQ hC hD hW hA ls hl
  have hx := hC.1
  have hb := hC.2.1
  have hW : Wd E A s.heap (wcat [MJ b z w, IA E (b 5) 120 tp]) s.heap [] := hW
  have hD : Dj A [b 0, b 5] := hD
  have hl : lv_has ls 6 [(0, .ref (b 0)), (1, .long v), (3, .int x1), (4, .int x2), (5, .int x3)] := hl
  refine lv_aload_n hx hb dX5_mayWant_0 rfl (lv_at hl 0 rfl) ?_
  refine r_get hC hW flX5_224 0 rfl rfl dX5_mayWant_1 ?_
  refine n_top (show z 5 = 0 from hg5) ?_
  refine lv_if_eq (tgt := 15) hx hb dX5_mayWant_4 (by decide) (fun _ => ?_) (fun c => absurd c (by decide))
  refine lv_iload hx hb dX5_mayWant_15 (lv_at hl 4 rfl) ?_
  exact r_iret hC hQ hD hW () rfl rfl rfl dX5_mayWant_17
set_option maxHeartbeats 4000000 in
set_option maxRecDepth 100000 in
theorem c_X5_mayWant_w (l : Launch) (E : Ev) (b : Nat → Nat) (z : Nat → Int32) (w : Int64) (tp : Nat → Int32) (tl : Nat) (ht1 : tl ≤ 120) (hB : tBY tp tl) (bb : Nat) (hbb : bb ≤ tl) (hZ : ZT tp tl bb z w) (L : List Nat) (hL : okW L = true) (v : Int64) (hv : v = Int64.ofNat (hsR L)) (x1 : Int32) (x2 : Int32) (x3 : Int32) (hg5 : z 5 = 1) (hI : ¬ tIW tp tl bb L) : MI l E yX5_mayWant cX5_mayWant 6 .int 1 22 0 0 [.ref (b 0), .long v, .int x1, .int x2, .int x3] (wcat [MJ b z w, IA E (b 5) 120 tp]) (fun (r : Int32) (_ : Unit) => r = x3) (fun (_ : Unit) => (wcat [MJ b z w, IA E (b 5) 120 tp])) := by
  refine MI_intro RX5 (by decide) rfl (Nat.le_of_ble_eq_true rfl) ?_
  intro p e R s m args below meth c A Q hQ hC hD hW hA ls hl
  have hx := hC.1
  have hb := hC.2.1
  have hW : Wd E A s.heap (wcat [MJ b z w, IA E (b 5) 120 tp]) s.heap [] := hW
  have hD : Dj A [b 0, b 5] := hD
  have hl : lv_has ls 6 [(0, .ref (b 0)), (1, .long v), (3, .int x1), (4, .int x2), (5, .int x3)] := hl
  refine lv_aload_n hx hb dX5_mayWant_0 rfl (lv_at hl 0 rfl) ?_
  refine r_get hC hW flX5_224 0 rfl rfl dX5_mayWant_1 ?_
  refine n_top (show z 5 = 1 from hg5) ?_
  refine lv_if_eq (tgt := 15) hx hb dX5_mayWant_4 (by decide) (fun c => absurd c (by decide)) (fun _ => ?_)
  refine lv_aload_n hx hb dX5_mayWant_7 rfl (lv_at hl 0 rfl) ?_
  refine lv_lload_n hx hb dX5_mayWant_8 rfl (lv_at hl 1 rfl) ?_
  refine r_callCi hC hD hW hA lkX5_204 (c_X5_isWord l E b z w tp tl ht1 hB bb hbb hZ L hL v hv) rfl rfl ⟨by decide, by decide, by decide, by decide⟩ [0] rfl rfl rfl (fun _ => rfl) hl.1 rfl rfl (Nat.le_of_ble_eq_true rfl) dX5_mayWant_9 (fun r_1 _ H locs hr_1 hW => ?_)
  have hW : Wd E A s.heap (wcat [MJ b z w, IA E (b 5) 120 tp]) H locs := hW
  have hr_1 : bz (tIW tp tl bb L) r_1 := hr_1
  rcases hr_1 with ⟨rfl, b_2⟩ | ⟨rfl, b_2⟩
  · refine lv_if_ne (tgt := 18) hx hb dX5_mayWant_12 (by decide) (fun c => absurd c (by decide)) (fun _ => ?_)
    refine lv_iload hx hb dX5_mayWant_15 (lv_at hl 4 rfl) ?_
    exact r_iret hC hQ hD hW () rfl rfl rfl dX5_mayWant_17
  · exact absurd b_2 hI
set_option maxHeartbeats 4000000 in
set_option maxRecDepth 100000 in
theorem c_X5_mayWant_y (l : Launch) (E : Ev) (b : Nat → Nat) (z : Nat → Int32) (w : Int64) (tp : Nat → Int32) (tl : Nat) (ht1 : tl ≤ 120) (hB : tBY tp tl) (bb : Nat) (hbb : bb ≤ tl) (hZ : ZT tp tl bb z w) (L : List Nat) (hL : okW L = true) (v : Int64) (hv : v = Int64.ofNat (hsR L)) (x1 : Int32) (x2 : Int32) (x3 : Int32) (hg5 : z 5 = 1) (hI : tIW tp tl bb L) (hN : tNm tp tl (tNx tp tl bb) x1 x2) : MI l E yX5_mayWant cX5_mayWant 6 .int 4 86 0 0 [.ref (b 0), .long v, .int x1, .int x2, .int x3] (wcat [MJ b z w, IA E (b 5) 120 tp]) (fun (r : Int32) (u : ((Nat → Int32) × Int64)) => (r = nI (tNr tp tl (tNx tp tl bb))) ∧ (ZT tp tl (tNx tp tl (tNx tp tl bb)) u.1 u.2 ∧ u.1 5 = 1 ∧ u.1 6 = z 6)) (fun (u : ((Nat → Int32) × Int64)) => (wcat [MJ b u.1 u.2, IA E (b 5) 120 tp])) := by
  refine MI_intro RX5 (by decide) rfl (Nat.le_of_ble_eq_true rfl) ?_
  intro p e R s m args below meth c A Q hQ hC hD hW hA ls hl
  have hx := hC.1
  have hb := hC.2.1
  have hW : Wd E A s.heap (wcat [MJ b z w, IA E (b 5) 120 tp]) s.heap [] := hW
  have hD : Dj A [b 0, b 5] := hD
  have hl : lv_has ls 6 [(0, .ref (b 0)), (1, .long v), (3, .int x1), (4, .int x2), (5, .int x3)] := hl
  refine lv_aload_n hx hb dX5_mayWant_0 rfl (lv_at hl 0 rfl) ?_
  refine r_get hC hW flX5_224 0 rfl rfl dX5_mayWant_1 ?_
  refine n_top (show z 5 = 1 from hg5) ?_
  refine lv_if_eq (tgt := 15) hx hb dX5_mayWant_4 (by decide) (fun c => absurd c (by decide)) (fun _ => ?_)
  refine lv_aload_n hx hb dX5_mayWant_7 rfl (lv_at hl 0 rfl) ?_
  refine lv_lload_n hx hb dX5_mayWant_8 rfl (lv_at hl 1 rfl) ?_
  refine r_callCi hC hD hW hA lkX5_204 (c_X5_isWord l E b z w tp tl ht1 hB bb hbb hZ L hL v hv) rfl rfl ⟨by decide, by decide, by decide, by decide⟩ [0] rfl rfl rfl (fun _ => rfl) hl.1 rfl rfl (Nat.le_of_ble_eq_true rfl) dX5_mayWant_9 (fun r_1 _ H locs hr_1 hW => ?_)
  have hW : Wd E A s.heap (wcat [MJ b z w, IA E (b 5) 120 tp]) H locs := hW
  have hr_1 : bz (tIW tp tl bb L) r_1 := hr_1
  rcases hr_1 with ⟨rfl, b_2⟩ | ⟨rfl, b_2⟩
  · exact absurd hI b_2
  · refine lv_if_ne (tgt := 18) hx hb dX5_mayWant_12 (by decide) (fun _ => ?_) (fun c => absurd c (by decide))
    refine lv_aload_n hx hb dX5_mayWant_18 rfl (lv_at hl 0 rfl) ?_
    refine r_callCv hC hD hW hA lkX5_228 (c_X5_advance l E b z w tp tl ht1 hB hZ.1 (tEn tp tl bb) (tEn_le hbb) hZ.2.2.2.1) rfl rfl ⟨by decide, by decide, by decide, by decide⟩ [0, 1] rfl rfl rfl (fun _ => rfl) hl.1 rfl rfl (Nat.le_of_ble_eq_true rfl) dX5_mayWant_19 (fun u_4 H locs hr_3 hW => ?_)
    have hW : Wd E A s.heap (wcat [MJ b u_4.1 u_4.2, IA E (b 5) 120 tp]) H locs := hW
    have xr_3 := hr_3
    refine lv_aload_n hx hb dX5_mayWant_22 rfl (lv_at hl 0 rfl) ?_
    refine lv_iload_n hx hb dX5_mayWant_23 rfl (lv_at hl 2 rfl) ?_
    refine lv_iload hx hb dX5_mayWant_24 (lv_at hl 3 rfl) ?_
    refine r_callCi hC hD hW hA lkX5_231 (c_X5_wantNumber_y l E b u_4.1 u_4.2 tp tl ht1 hB (tNx tp tl bb) (tNx_le hbb) xr_3.1 (show u_4.1 5 = 1 from (xr_3.2.1.trans (show z 5 = 1 from hg5))) x1 x2 hN) rfl rfl ⟨by decide, by decide, by decide, by decide⟩ [0, 1] rfl rfl rfl (fun _ => rfl) hl.1 rfl rfl (Nat.le_of_ble_eq_true rfl) dX5_mayWant_26 (fun r_5 u_6 H locs hr_5 hW => ?_)
    have hW : Wd E A s.heap (wcat [MJ b u_6.1 u_6.2, IA E (b 5) 120 tp]) H locs := hW
    obtain ⟨hr_5, xr_5⟩ := hr_5
    have hr_5 : r_5 = (nI (tNr tp tl (tNx tp tl bb))) := hr_5
    subst hr_5
    exact r_iret hC hQ hD hW (u_6.1, u_6.2) ⟨rfl, xr_5.1, (show u_6.1 5 = 1 from xr_5.2.1), (xr_5.2.2.trans (xr_3.2.2.trans rfl))⟩ rfl rfl dX5_mayWant_29
set_option maxHeartbeats 4000000 in
set_option maxRecDepth 100000 in
theorem c_X5_mayWant_n (l : Launch) (E : Ev) (b : Nat → Nat) (z : Nat → Int32) (w : Int64) (tp : Nat → Int32) (tl : Nat) (ht1 : tl ≤ 120) (hB : tBY tp tl) (bb : Nat) (hbb : bb ≤ tl) (hZ : ZT tp tl bb z w) (L : List Nat) (hL : okW L = true) (v : Int64) (hv : v = Int64.ofNat (hsR L)) (x1 : Int32) (x2 : Int32) (x3 : Int32) (hg5 : z 5 = 1) (hI : tIW tp tl bb L) (hN : ¬ tNm tp tl (tNx tp tl bb) x1 x2) : MI l E yX5_mayWant cX5_mayWant 6 .int 3 63 0 0 [.ref (b 0), .long v, .int x1, .int x2, .int x3] (wcat [MJ b z w, IA E (b 5) 120 tp]) (fun (r : Int32) (u : ((Nat → Int32) × Int64)) => (True) ∧ (ZT tp tl (tNx tp tl bb) u.1 u.2 ∧ u.1 5 = 0 ∧ u.1 6 = z 6)) (fun (u : ((Nat → Int32) × Int64)) => (wcat [MJ b u.1 u.2, IA E (b 5) 120 tp])) := by
  refine MI_intro RX5 (by decide) rfl (Nat.le_of_ble_eq_true rfl) ?_
  intro p e R s m args below meth c A Q hQ hC hD hW hA ls hl
  have hx := hC.1
  have hb := hC.2.1
  have hW : Wd E A s.heap (wcat [MJ b z w, IA E (b 5) 120 tp]) s.heap [] := hW
  have hD : Dj A [b 0, b 5] := hD
  have hl : lv_has ls 6 [(0, .ref (b 0)), (1, .long v), (3, .int x1), (4, .int x2), (5, .int x3)] := hl
  refine lv_aload_n hx hb dX5_mayWant_0 rfl (lv_at hl 0 rfl) ?_
  refine r_get hC hW flX5_224 0 rfl rfl dX5_mayWant_1 ?_
  refine n_top (show z 5 = 1 from hg5) ?_
  refine lv_if_eq (tgt := 15) hx hb dX5_mayWant_4 (by decide) (fun c => absurd c (by decide)) (fun _ => ?_)
  refine lv_aload_n hx hb dX5_mayWant_7 rfl (lv_at hl 0 rfl) ?_
  refine lv_lload_n hx hb dX5_mayWant_8 rfl (lv_at hl 1 rfl) ?_
  refine r_callCi hC hD hW hA lkX5_204 (c_X5_isWord l E b z w tp tl ht1 hB bb hbb hZ L hL v hv) rfl rfl ⟨by decide, by decide, by decide, by decide⟩ [0] rfl rfl rfl (fun _ => rfl) hl.1 rfl rfl (Nat.le_of_ble_eq_true rfl) dX5_mayWant_9 (fun r_1 _ H locs hr_1 hW => ?_)
  have hW : Wd E A s.heap (wcat [MJ b z w, IA E (b 5) 120 tp]) H locs := hW
  have hr_1 : bz (tIW tp tl bb L) r_1 := hr_1
  rcases hr_1 with ⟨rfl, b_2⟩ | ⟨rfl, b_2⟩
  · exact absurd hI b_2
  · refine lv_if_ne (tgt := 18) hx hb dX5_mayWant_12 (by decide) (fun _ => ?_) (fun c => absurd c (by decide))
    refine lv_aload_n hx hb dX5_mayWant_18 rfl (lv_at hl 0 rfl) ?_
    refine r_callCv hC hD hW hA lkX5_228 (c_X5_advance l E b z w tp tl ht1 hB hZ.1 (tEn tp tl bb) (tEn_le hbb) hZ.2.2.2.1) rfl rfl ⟨by decide, by decide, by decide, by decide⟩ [0, 1] rfl rfl rfl (fun _ => rfl) hl.1 rfl rfl (Nat.le_of_ble_eq_true rfl) dX5_mayWant_19 (fun u_4 H locs hr_3 hW => ?_)
    have hW : Wd E A s.heap (wcat [MJ b u_4.1 u_4.2, IA E (b 5) 120 tp]) H locs := hW
    have xr_3 := hr_3
    refine lv_aload_n hx hb dX5_mayWant_22 rfl (lv_at hl 0 rfl) ?_
    refine lv_iload_n hx hb dX5_mayWant_23 rfl (lv_at hl 2 rfl) ?_
    refine lv_iload hx hb dX5_mayWant_24 (lv_at hl 3 rfl) ?_
    refine r_callCi hC hD hW hA lkX5_231 (c_X5_wantNumber_n l E b u_4.1 u_4.2 tp tl ht1 hB (tNx tp tl bb) (tNx_le hbb) xr_3.1 (show u_4.1 5 = 1 from (xr_3.2.1.trans (show z 5 = 1 from hg5))) x1 x2 hN) rfl rfl ⟨by decide, by decide, by decide, by decide⟩ [0, 1] rfl rfl rfl (fun _ => rfl) hl.1 rfl rfl (Nat.le_of_ble_eq_true rfl) dX5_mayWant_26 (fun r_5 _ H locs hr_5 hW => ?_)
    have hW : Wd E A s.heap (wcat [MJ b (upd u_4.1 5 0) u_4.2, IA E (b 5) 120 tp]) H locs := hW
    have hr_5 : True := hr_5
    exact r_iret hC hQ hD hW (upd u_4.1 5 0, u_4.2) ⟨trivial, xr_3.1, rfl, (xr_3.2.2.trans rfl)⟩ rfl rfl dX5_mayWant_29
