set_option maxHeartbeats 4000000 in
set_option maxRecDepth 100000 in
theorem c_X3_tokenOf (l : Launch) (E : Ev) (x : Int32) : MI l E yX3_tokenOf cX3_tokenOf 1 .int 0 0 0 0 [.int x] [] (fun (r : Int32) (_ : Unit) => r = nI (tTn x)) (fun (_ : Unit) => []) := by
  refine MI_intro RX3 (by decide) rfl (Nat.le_of_ble_eq_true rfl) ?_
  intro p e R s m args below meth c A Q hQ hC hD hW hA ls hl
  have hx := hC.1
  have hb := hC.2.1
  have hW : Wd E A s.heap [] s.heap [] := hW
  have hl : lv_has ls 1 [(0, .int x)] := hl
  refine lv_iload_n hx hb dX3_tokenOf_0 rfl (lv_at hl 0 rfl) ?_
  refine lv_bipush (v := 97) hx hb dX3_tokenOf_1 (by decide) ?_
  refine lv_icmp_lt (tgt := 14) hx hb dX3_tokenOf_3 (by decide) (fun c_1 => ?_) (fun c_1 => ?_)
  · refine lv_iload_n hx hb dX3_tokenOf_14 rfl (lv_at hl 0 rfl) ?_
    refine lv_bipush (v := 48) hx hb dX3_tokenOf_15 (by decide) ?_
    refine lv_icmp_lt (tgt := 28) hx hb dX3_tokenOf_17 (by decide) (fun c_2 => ?_) (fun c_2 => ?_)
    · refine lv_iload_n hx hb dX3_tokenOf_28 rfl (lv_at hl 0 rfl) ?_
      refine lv_bipush (v := 59) hx hb dX3_tokenOf_29 (by decide) ?_
      refine lv_icmp_ne (tgt := 38) hx hb dX3_tokenOf_31 (by decide) (fun c_3 => ?_) (fun c_3 => ?_)
      · refine lv_iconst (v := 4) hx hb dX3_tokenOf_38 (by decide) ?_
        exact r_iret hC hQ hD hW () (by unfold tTn; rw [cif_f (show ¬ ltP x from fun z_ => absurd z_.1 (Int32.not_le.mpr c_1)), cif_f (show ¬ dgP x from fun z_ => absurd z_.1 (Int32.not_le.mpr c_2)), if_neg c_3]; rfl) rfl rfl dX3_tokenOf_39
      · refine lv_iconst (v := 3) hx hb dX3_tokenOf_34 (by decide) ?_
        refine lv_goto (tgt := 39) hx hb dX3_tokenOf_35 (by decide) ?_
        exact r_iret hC hQ hD hW () (by unfold tTn; rw [cif_f (show ¬ ltP x from fun z_ => absurd z_.1 (Int32.not_le.mpr c_1)), cif_f (show ¬ dgP x from fun z_ => absurd z_.1 (Int32.not_le.mpr c_2)), if_pos c_3]; rfl) rfl rfl dX3_tokenOf_39
    · refine lv_iload_n hx hb dX3_tokenOf_20 rfl (lv_at hl 0 rfl) ?_
      refine lv_bipush (v := 57) hx hb dX3_tokenOf_21 (by decide) ?_
      refine lv_icmp_gt (tgt := 28) hx hb dX3_tokenOf_23 (by decide) (fun c_4 => ?_) (fun c_4 => ?_)
      · refine lv_iload_n hx hb dX3_tokenOf_28 rfl (lv_at hl 0 rfl) ?_
        refine lv_bipush (v := 59) hx hb dX3_tokenOf_29 (by decide) ?_
        refine lv_icmp_ne (tgt := 38) hx hb dX3_tokenOf_31 (by decide) (fun c_5 => ?_) (fun c_5 => ?_)
        · refine lv_iconst (v := 4) hx hb dX3_tokenOf_38 (by decide) ?_
          exact r_iret hC hQ hD hW () (by unfold tTn; rw [cif_f (show ¬ ltP x from fun z_ => absurd z_.1 (Int32.not_le.mpr c_1)), cif_f (show ¬ dgP x from fun z_ => absurd z_.2 (Int32.not_le.mpr c_4)), if_neg c_5]; rfl) rfl rfl dX3_tokenOf_39
        · refine lv_iconst (v := 3) hx hb dX3_tokenOf_34 (by decide) ?_
          refine lv_goto (tgt := 39) hx hb dX3_tokenOf_35 (by decide) ?_
          exact r_iret hC hQ hD hW () (by unfold tTn; rw [cif_f (show ¬ ltP x from fun z_ => absurd z_.1 (Int32.not_le.mpr c_1)), cif_f (show ¬ dgP x from fun z_ => absurd z_.2 (Int32.not_le.mpr c_4)), if_pos c_5]; rfl) rfl rfl dX3_tokenOf_39
      · refine lv_iconst (v := 2) hx hb dX3_tokenOf_26 (by decide) ?_
        exact r_iret hC hQ hD hW () (congrArg nI (tTn_2.mpr ⟨Int32.not_lt.mp c_2, Int32.not_lt.mp c_4⟩).symm) rfl rfl dX3_tokenOf_27
  · refine lv_iload_n hx hb dX3_tokenOf_6 rfl (lv_at hl 0 rfl) ?_
    refine lv_bipush (v := 122) hx hb dX3_tokenOf_7 (by decide) ?_
    refine lv_icmp_gt (tgt := 14) hx hb dX3_tokenOf_9 (by decide) (fun c_6 => ?_) (fun c_6 => ?_)
    · refine lv_iload_n hx hb dX3_tokenOf_14 rfl (lv_at hl 0 rfl) ?_
      refine lv_bipush (v := 48) hx hb dX3_tokenOf_15 (by decide) ?_
      refine lv_icmp_lt (tgt := 28) hx hb dX3_tokenOf_17 (by decide) (fun c_7 => ?_) (fun c_7 => ?_)
      · refine lv_iload_n hx hb dX3_tokenOf_28 rfl (lv_at hl 0 rfl) ?_
        refine lv_bipush (v := 59) hx hb dX3_tokenOf_29 (by decide) ?_
        refine lv_icmp_ne (tgt := 38) hx hb dX3_tokenOf_31 (by decide) (fun c_8 => ?_) (fun c_8 => ?_)
        · refine lv_iconst (v := 4) hx hb dX3_tokenOf_38 (by decide) ?_
          exact r_iret hC hQ hD hW () (by unfold tTn; rw [cif_f (show ¬ ltP x from fun z_ => absurd z_.2 (Int32.not_le.mpr c_6)), cif_f (show ¬ dgP x from fun z_ => absurd z_.1 (Int32.not_le.mpr c_7)), if_neg c_8]; rfl) rfl rfl dX3_tokenOf_39
        · refine lv_iconst (v := 3) hx hb dX3_tokenOf_34 (by decide) ?_
          refine lv_goto (tgt := 39) hx hb dX3_tokenOf_35 (by decide) ?_
          exact r_iret hC hQ hD hW () (by unfold tTn; rw [cif_f (show ¬ ltP x from fun z_ => absurd z_.2 (Int32.not_le.mpr c_6)), cif_f (show ¬ dgP x from fun z_ => absurd z_.1 (Int32.not_le.mpr c_7)), if_pos c_8]; rfl) rfl rfl dX3_tokenOf_39
      · refine lv_iload_n hx hb dX3_tokenOf_20 rfl (lv_at hl 0 rfl) ?_
        refine lv_bipush (v := 57) hx hb dX3_tokenOf_21 (by decide) ?_
        refine lv_icmp_gt (tgt := 28) hx hb dX3_tokenOf_23 (by decide) (fun c_9 => ?_) (fun c_9 => ?_)
        · refine lv_iload_n hx hb dX3_tokenOf_28 rfl (lv_at hl 0 rfl) ?_
          refine lv_bipush (v := 59) hx hb dX3_tokenOf_29 (by decide) ?_
          refine lv_icmp_ne (tgt := 38) hx hb dX3_tokenOf_31 (by decide) (fun c_10 => ?_) (fun c_10 => ?_)
          · refine lv_iconst (v := 4) hx hb dX3_tokenOf_38 (by decide) ?_
            exact r_iret hC hQ hD hW () (by unfold tTn; rw [cif_f (show ¬ ltP x from fun z_ => absurd z_.2 (Int32.not_le.mpr c_6)), cif_f (show ¬ dgP x from fun z_ => absurd z_.2 (Int32.not_le.mpr c_9)), if_neg c_10]; rfl) rfl rfl dX3_tokenOf_39
          · refine lv_iconst (v := 3) hx hb dX3_tokenOf_34 (by decide) ?_
            refine lv_goto (tgt := 39) hx hb dX3_tokenOf_35 (by decide) ?_
            exact r_iret hC hQ hD hW () (by unfold tTn; rw [cif_f (show ¬ ltP x from fun z_ => absurd z_.2 (Int32.not_le.mpr c_6)), cif_f (show ¬ dgP x from fun z_ => absurd z_.2 (Int32.not_le.mpr c_9)), if_pos c_10]; rfl) rfl rfl dX3_tokenOf_39
        · refine lv_iconst (v := 2) hx hb dX3_tokenOf_26 (by decide) ?_
          exact r_iret hC hQ hD hW () (congrArg nI (tTn_2.mpr ⟨Int32.not_lt.mp c_7, Int32.not_lt.mp c_9⟩).symm) rfl rfl dX3_tokenOf_27
    · refine lv_iconst (v := 1) hx hb dX3_tokenOf_12 (by decide) ?_
      exact r_iret hC hQ hD hW () (congrArg nI (tTn_1.mpr ⟨Int32.not_lt.mp c_1, Int32.not_lt.mp c_6⟩).symm) rfl rfl dX3_tokenOf_13
set_option maxHeartbeats 4000000 in
set_option maxRecDepth 100000 in
theorem c_X3_step (l : Launch) (E : Ev) (vy : Nat → Nat) (y : Nat → Int32) (tp : Nat → Int32) (tl : Nat) (ht1 : tl ≤ 120) (hB : tBY tp tl) (htl : y 0 = nI tl) (k0 : Nat) (hk0 : k0 ≤ tl) (hp3 : y 3 = nI k0) : MV l E yX3_step cX3_step 2 1 21 0 0 [.ref (vy 0)] (wcat [TPW E vy y tp]) (fun (u : (Nat → Int32)) => YT tp tl (tSk tp tl k0) u) (fun (u : (Nat → Int32)) => (wcat [TPW E vy u tp])) := by
  refine MV_intro RX3 (by decide) rfl (Nat.le_of_ble_eq_true rfl) ?_
  intro p e R s m args below meth c A Q hQ hC hnm hD hW hA ls hl
  have hx := hC.1
  have hb := hC.2.1
  have hW : Wd E A s.heap (wcat [TPW E vy y tp]) s.heap [] := hW
  have hD : Dj A [vy 0, vy 1] := hD
  have hl : lv_has ls 2 [(0, .ref (vy 0))] := hl
  refine lv_aload_n hx hb dX3_step_0 rfl (lv_at hl 0 rfl) ?_
  refine lv_aload_n hx hb dX3_step_1 rfl (lv_at hl 0 rfl) ?_
  refine r_get hC hW flX3_28 0 rfl rfl dX3_step_2 ?_
  refine n_top (show y 3 = (nI k0) from hp3) ?_
  refine r_put (ws' := (wcat [TPW E vy (upd y 2 (nI k0)) tp])) hC hD hW fpX3_25 0 rfl rfl rfl (Nat.le_of_ble_eq_true rfl) rfl rfl dX3_step_5 (fun H locs hW => ?_)
  have L8 : ∀ (n_ : Nat) (k1 : Nat) (H : Heap) (locs : List Loc) (ls : Array Slot), tl - k1 < n_ → k0 ≤ k1 → k1 ≤ tl → tSk tp tl k0 = tSk tp tl k1 → Wd E A s.heap (wcat [TPW E vy (upd y 2 (nI k1)) tp]) H locs → lv_has ls 2 [(0, .ref (vy 0))] → W p l e R s m args below meth c H locs 0 0 Q (F0 m 8 ls []) := by
    intro n_
    induction n_ with
    | zero => intro k1 H locs ls hm; exact absurd hm (Nat.not_lt_zero _)
    | succ n_ ih =>
      intro k1 H locs ls hm hk1 hk2 hs hW hl
      refine lv_aload_n hx hb dX3_step_8 rfl (lv_at hl 0 rfl) ?_
      refine r_get hC hW flX3_25 0 rfl rfl dX3_step_9 ?_
      refine n_top (show (upd y 2 (nI k1)) 2 = (nI k1) from rfl) ?_
      refine lv_aload_n hx hb dX3_step_12 rfl (lv_at hl 0 rfl) ?_
      refine r_get hC hW flX3_15 0 rfl rfl dX3_step_13 ?_
      refine n_top (show (upd y 2 (nI k1)) 0 = (nI tl) from htl) ?_
      refine lv_icmp_ge (tgt := 46) hx hb dX3_step_16 (by decide) (fun c_1 => ?_) (fun c_1 => ?_)
      · have c_1 : tl ≤ k1 := (nI_leI (a := tl) (b := k1) (by omega) (by omega)).mp c_1
        have hsk : tSk tp tl k0 = k1 := hs.trans (tRn_f (q := bkP) (by rw [tBt_out (by omega)]; exact nbk))
        have htn := tTn_le (tp k1)
        have htg := tTn_ge (tp k1)
        refine lv_aload_n hx hb dX3_step_46 rfl (lv_at hl 0 rfl) ?_
        refine lv_aload_n hx hb dX3_step_47 rfl (lv_at hl 0 rfl) ?_
        refine r_get hC hW flX3_25 0 rfl rfl dX3_step_48 ?_
        refine n_top (show (upd y 2 (nI k1)) 2 = (nI k1) from rfl) ?_
        refine r_put (ws' := (wcat [TPW E vy (upd (upd y 2 (nI k1)) 3 (nI k1)) tp])) hC hD hW fpX3_28 0 rfl rfl rfl (Nat.le_of_ble_eq_true rfl) rfl rfl dX3_step_51 (fun H locs hW => ?_)
        refine lv_aload_n hx hb dX3_step_54 rfl (lv_at hl 0 rfl) ?_
        refine lv_iconst (v := 0) hx hb dX3_step_55 (by decide) ?_
        refine r_put (ws' := (wcat [TPW E vy (upd (upd (upd y 2 (nI k1)) 3 (nI k1)) 4 0) tp])) hC hD hW fpX3_31 0 rfl rfl rfl (Nat.le_of_ble_eq_true rfl) rfl rfl dX3_step_56 (fun H locs hW => ?_)
        refine lv_aload_n hx hb dX3_step_59 rfl (lv_at hl 0 rfl) ?_
        refine lv_aload_n hx hb dX3_step_60 rfl (lv_at hl 0 rfl) ?_
        refine r_get hC hW flX3_25 0 rfl rfl dX3_step_61 ?_
        refine n_top (show (upd (upd (upd y 2 (nI k1)) 3 (nI k1)) 4 0) 2 = (nI k1) from rfl) ?_
        refine lv_aload_n hx hb dX3_step_64 rfl (lv_at hl 0 rfl) ?_
        refine r_get hC hW flX3_15 0 rfl rfl dX3_step_65 ?_
        refine n_top (show (upd (upd (upd y 2 (nI k1)) 3 (nI k1)) 4 0) 0 = (nI tl) from htl) ?_
        refine lv_icmp_ge (tgt := 86) hx hb dX3_step_68 (by decide) (fun c_2 => ?_) (fun c_2 => ?_)
        · have c_2 : tl ≤ k1 := (nI_leI (a := tl) (b := k1) (by omega) (by omega)).mp c_2
          refine lv_iconst (v := 0) hx hb dX3_step_86 (by decide) ?_
          refine r_put (ws' := (wcat [TPW E vy (upd (upd (upd (upd y 2 (nI k1)) 3 (nI k1)) 4 0) 1 0) tp])) hC hD hW fpX3_22 0 rfl rfl rfl (Nat.le_of_ble_eq_true rfl) rfl rfl dX3_step_87 (fun H locs hW => ?_)
          refine lv_aload_n hx hb dX3_step_90 rfl (lv_at hl 0 rfl) ?_
          refine r_get hC hW flX3_22 0 rfl rfl dX3_step_91 ?_
          refine n_top (show (upd (upd (upd (upd y 2 (nI k1)) 3 (nI k1)) 4 0) 1 0) 1 = 0 from rfl) ?_
          refine lv_iconst (v := 3) hx hb dX3_step_94 (by decide) ?_
          refine lv_icmp_eq (tgt := 106) hx hb dX3_step_95 (by decide) (fun c => absurd c (by decide)) (fun _ => ?_)
          refine lv_aload_n hx hb dX3_step_98 rfl (lv_at hl 0 rfl) ?_
          refine r_get hC hW flX3_22 0 rfl rfl dX3_step_99 ?_
          refine n_top (show (upd (upd (upd (upd y 2 (nI k1)) 3 (nI k1)) 4 0) 1 0) 1 = 0 from rfl) ?_
          refine lv_iconst (v := 4) hx hb dX3_step_102 (by decide) ?_
          refine lv_icmp_ne (tgt := 115) hx hb dX3_step_103 (by decide) (fun _ => ?_) (fun c => absurd c (by decide))
          refine lv_aload_n hx hb dX3_step_115 rfl (lv_at hl 0 rfl) ?_
          refine r_get hC hW flX3_15 0 rfl rfl dX3_step_116 ?_
          refine n_top (show (upd (upd (upd (upd y 2 (nI k1)) 3 (nI k1)) 4 0) 1 0) 0 = (nI tl) from htl) ?_
          refine lv_istore_n (lv' := [(1, .int (nI tl)), (0, .ref (vy 0))]) hx hb dX3_step_119 rfl hl (by decide) rfl (fun ls hl => ?_)
          have L120 : ∀ (n_ : Nat) (k : Nat) (y1 : (Nat → Int32)) (H : Heap) (locs : List Loc) (ls : Array Slot), tl - (k1 + k) < n_ → k1 + k ≤ tl → (y1 0 = nI tl ∧ y1 1 = nI 0 ∧ y1 2 = nI k1 ∧ y1 3 = nI (k1 + k) ∧ y1 4 = nI (nc (0) tp k1 k)) → (∀ q_, q_ < k → tTn (tp (k1 + q_)) = 0) → Wd E A s.heap (wcat [TPW E vy y1 tp]) H locs → lv_has ls 2 [(0, .ref (vy 0)), (1, .int (nI tl))] → W p l e R s m args below meth c H locs 0 0 Q (F0 m 120 ls []) := by
            intro n_
            induction n_ with
            | zero => intro k y1 H locs ls hm; exact absurd hm (Nat.not_lt_zero _)
            | succ n_ ih120 =>
              intro k y1 H locs ls hm hk hz hr hW hl
              refine lv_aload_n hx hb dX3_step_120 rfl (lv_at hl 0 rfl) ?_
              refine r_get hC hW flX3_28 0 rfl rfl dX3_step_121 ?_
              refine n_top (show y1 3 = (nI (k1 + k)) from hz.2.2.2.1) ?_
              refine lv_iload_n hx hb dX3_step_124 rfl (lv_at hl 1 rfl) ?_
              refine lv_icmp_ge (tgt := 198) hx hb dX3_step_125 (by decide) (fun c_3 => ?_) (fun c_3 => ?_)
              · have c_3 : tl ≤ k1 + k := (nI_leI (a := tl) (b := k1 + k) (by omega) (by omega)).mp c_3
                exact r_vret hC hQ hD hW y1 (by rw [hsk]; exact YT_of (T := 0) (L := tl) (k := k) (tKd_0.mpr (by omega)) (by omega) (by omega) (by omega) (by omega) hr (Or.inl (by omega)) hz.1 hz.2.1 hz.2.2.1 hz.2.2.2.1 hz.2.2.2.2) rfl rfl dX3_step_198
              · have c_3 : ¬ tl ≤ k1 + k := fun z_ => c_3 ((nI_leI (a := tl) (b := k1 + k) (by omega) (by omega)).mpr z_)
                refine lv_aload_n hx hb dX3_step_128 rfl (lv_at hl 0 rfl) ?_
                refine r_get hC hW flX3_9 0 rfl rfl dX3_step_129 ?_
                refine lv_aload_n hx hb dX3_step_132 rfl (lv_at hl 0 rfl) ?_
                refine r_get hC hW flX3_28 0 rfl rfl dX3_step_133 ?_
                refine n_top (show y1 3 = (nI (k1 + k)) from hz.2.2.2.1) ?_
                refine r_iald hC hW 1 rfl (k1 + k) rfl (by omega) (by decide) dX3_step_136 ?_
                have htk := tTn_le (tp (k1 + k))
                refine r_callSi hC hD hW hA lkX3_34 (c_X3_tokenOf l E (tp (k1 + k))) ⟨by decide, by decide, by decide, by decide⟩ rfl hl.1 rfl rfl (Nat.le_of_ble_eq_true rfl) dX3_step_137 (fun r_4 _ H locs hr_4 hW => ?_)
                have hW : Wd E A s.heap (wcat [TPW E vy y1 tp]) H locs := hW
                have hr_4 : r_4 = (nI (tTn (tp (k1 + k)))) := hr_4
                subst hr_4
                refine lv_aload_n hx hb dX3_step_140 rfl (lv_at hl 0 rfl) ?_
                refine r_get hC hW flX3_22 0 rfl rfl dX3_step_141 ?_
                refine n_top (show y1 1 = (nI 0) from hz.2.1) ?_
                refine lv_icmp_ne (tgt := 198) hx hb dX3_step_144 (by decide) (fun c_5 => ?_) (fun c_5 => ?_)
                · have c_5 : ¬ tTn (tp (k1 + k)) = 0 := fun z_ => c_5 ((nI_eq (a := tTn (tp (k1 + k))) (b := 0) (by omega) (by omega)).mpr z_)
                  exact r_vret hC hQ hD hW y1 (by rw [hsk]; exact YT_of (T := 0) (L := tl) (k := k) (tKd_0.mpr (by omega)) (by omega) (by omega) (by omega) (by omega) hr (Or.inr c_5) hz.1 hz.2.1 hz.2.2.1 hz.2.2.2.1 hz.2.2.2.2) rfl rfl dX3_step_198
                · have c_5 : tTn (tp (k1 + k)) = 0 := (nI_eq (a := tTn (tp (k1 + k))) (b := 0) (by omega) (by omega)).mp c_5
                  refine lv_aload_n hx hb dX3_step_147 rfl (lv_at hl 0 rfl) ?_
                  refine r_get hC hW flX3_22 0 rfl rfl dX3_step_148 ?_
                  refine n_top (show y1 1 = (nI 0) from hz.2.1) ?_
                  refine lv_iconst (v := 2) hx hb dX3_step_151 (by decide) ?_
                  refine lv_icmp_ne (tgt := 185) hx hb dX3_step_152 (by decide) (fun c_6 => ?_) (fun c_6 => ?_)
                  · have c_6 : ¬ 0 = 2 := fun z_ => c_6 ((nI_eq (a := 0) (b := 2) (by omega) (by omega)).mpr z_)
                    refine lv_aload_n hx hb dX3_step_185 rfl (lv_at hl 0 rfl) ?_
                    refine lv_dup hx hb dX3_step_186 rfl ?_
                    refine r_get hC hW flX3_28 0 rfl rfl dX3_step_187 ?_
                    refine n_top (show y1 3 = (nI (k1 + k)) from hz.2.2.2.1) ?_
                    refine lv_iconst (v := 1) hx hb dX3_step_190 (by decide) ?_
                    refine n_iadd (v := (nI (k1 + k + 1))) hx hb dX3_step_191 (nI_add (k1 + k) 1) ?_
                    refine r_put (ws' := (wcat [TPW E vy (upd y1 3 (nI (k1 + k + 1))) tp])) hC hD hW fpX3_28 0 rfl rfl rfl (Nat.le_of_ble_eq_true rfl) rfl rfl dX3_step_192 (fun H locs hW => ?_)
                    refine lv_goto (tgt := 120) hx hb dX3_step_195 (by decide) ?_
                    exact ih120 (k + 1) (upd y1 3 (nI (k1 + k + 1))) _ _ _ (by omega) (by omega) ⟨hz.1, hz.2.1, hz.2.2.1, rfl, (hz.2.2.2.2.trans (congrArg nI (nc_o (T := 0) (by omega))))⟩ (lt_s hr c_5) hW (lv_sub hl [0, 1] rfl)
                  · have c_6 : 0 = 2 := (nI_eq (a := 0) (b := 2) (by omega) (by omega)).mp c_6
                    refine lv_aload_n hx hb dX3_step_155 rfl (lv_at hl 0 rfl) ?_
                    refine lv_sipush (v := 1000) hx hb dX3_step_156 (by decide) ?_
                    refine lv_aload_n hx hb dX3_step_159 rfl (lv_at hl 0 rfl) ?_
                    refine r_get hC hW flX3_31 0 rfl rfl dX3_step_160 ?_
                    refine n_top (show y1 4 = (nI (nc (0) tp k1 k)) from hz.2.2.2.2) ?_
                    refine lv_bipush (v := 10) hx hb dX3_step_163 (by decide) ?_
                    refine n_imul (v := (nI ((nc (0) tp k1 k) * 10))) hx hb dX3_step_165 (pk_mul (nc (0) tp k1 k) 10) ?_
                    refine lv_aload_n hx hb dX3_step_166 rfl (lv_at hl 0 rfl) ?_
                    refine r_get hC hW flX3_9 0 rfl rfl dX3_step_167 ?_
                    refine lv_aload_n hx hb dX3_step_170 rfl (lv_at hl 0 rfl) ?_
                    refine r_get hC hW flX3_28 0 rfl rfl dX3_step_171 ?_
                    refine n_top (show y1 3 = (nI (k1 + k)) from hz.2.2.2.1) ?_
                    refine r_iald hC hW 1 rfl (k1 + k) rfl (by omega) (by decide) dX3_step_174 ?_
                    refine n_iadd (v := (nI (nc (0) tp k1 k * 10) + tp (k1 + k))) hx hb dX3_step_175 rfl ?_
                    refine lv_bipush (v := 48) hx hb dX3_step_176 (by decide) ?_
                    refine n_isub (v := (nI (nc (0) tp k1 k * 10) + tp (k1 + k) - 48)) hx hb dX3_step_178 rfl ?_
                    refine r_mmin hC lkX3_38 hl.1 (by decide) (by decide) (by decide) (by decide) (Nat.le_of_ble_eq_true rfl) dX3_step_179 ?_
                    refine n_top (nc_min (T := 0) (by omega) (tTn_2.mp (by omega))) ?_
                    refine r_put (ws' := (wcat [TPW E vy (upd y1 4 (nI (nc (0) tp k1 (k + 1)))) tp])) hC hD hW fpX3_31 0 rfl rfl rfl (Nat.le_of_ble_eq_true rfl) rfl rfl dX3_step_182 (fun H locs hW => ?_)
                    refine lv_aload_n hx hb dX3_step_185 rfl (lv_at hl 0 rfl) ?_
                    refine lv_dup hx hb dX3_step_186 rfl ?_
                    refine r_get hC hW flX3_28 0 rfl rfl dX3_step_187 ?_
                    refine n_top (show (upd y1 4 (nI (nc (0) tp k1 (k + 1)))) 3 = (nI (k1 + k)) from hz.2.2.2.1) ?_
                    refine lv_iconst (v := 1) hx hb dX3_step_190 (by decide) ?_
                    refine n_iadd (v := (nI (k1 + k + 1))) hx hb dX3_step_191 (nI_add (k1 + k) 1) ?_
                    refine r_put (ws' := (wcat [TPW E vy (upd (upd y1 4 (nI (nc (0) tp k1 (k + 1)))) 3 (nI (k1 + k + 1))) tp])) hC hD hW fpX3_28 0 rfl rfl rfl (Nat.le_of_ble_eq_true rfl) rfl rfl dX3_step_192 (fun H locs hW => ?_)
                    refine lv_goto (tgt := 120) hx hb dX3_step_195 (by decide) ?_
                    exact ih120 (k + 1) (upd (upd y1 4 (nI (nc (0) tp k1 (k + 1)))) 3 (nI (k1 + k + 1))) _ _ _ (by omega) (by omega) ⟨hz.1, hz.2.1, hz.2.2.1, rfl, rfl⟩ (lt_s hr c_5) hW (lv_sub hl [0, 1] rfl)
          exact L120 (tl - (k1 + 0) + 1) 0 (upd (upd (upd (upd y 2 (nI k1)) 3 (nI k1)) 4 0) 1 0) _ _ _ (Nat.lt_succ_self _) (by omega) ⟨htl, rfl, rfl, rfl, (show (0 : Int32) = nI (nc (0) tp k1 0) by unfold nc; split <;> rfl)⟩ lt_0 hW (lv_sub hl [1, 0] rfl)
        · have c_2 : ¬ tl ≤ k1 := fun z_ => c_2 ((nI_leI (a := tl) (b := k1) (by omega) (by omega)).mpr z_)
          refine lv_aload_n hx hb dX3_step_71 rfl (lv_at hl 0 rfl) ?_
          refine r_get hC hW flX3_9 0 rfl rfl dX3_step_72 ?_
          refine lv_aload_n hx hb dX3_step_75 rfl (lv_at hl 0 rfl) ?_
          refine r_get hC hW flX3_25 0 rfl rfl dX3_step_76 ?_
          refine n_top (show (upd (upd (upd y 2 (nI k1)) 3 (nI k1)) 4 0) 2 = (nI k1) from rfl) ?_
          refine r_iald hC hW 1 rfl k1 rfl (by omega) (by decide) dX3_step_79 ?_
          refine r_callSi hC hD hW hA lkX3_34 (c_X3_tokenOf l E (tp k1)) ⟨by decide, by decide, by decide, by decide⟩ rfl hl.1 rfl rfl (Nat.le_of_ble_eq_true rfl) dX3_step_80 (fun r_7 _ H locs hr_7 hW => ?_)
          have hW : Wd E A s.heap (wcat [TPW E vy (upd (upd (upd y 2 (nI k1)) 3 (nI k1)) 4 0) tp]) H locs := hW
          have hr_7 : r_7 = (nI (tTn (tp k1))) := hr_7
          subst hr_7
          refine lv_goto (tgt := 87) hx hb dX3_step_83 (by decide) ?_
          refine r_put (ws' := (wcat [TPW E vy (upd (upd (upd (upd y 2 (nI k1)) 3 (nI k1)) 4 0) 1 (nI (tTn (tp k1)))) tp])) hC hD hW fpX3_22 0 rfl rfl rfl (Nat.le_of_ble_eq_true rfl) rfl rfl dX3_step_87 (fun H locs hW => ?_)
          refine lv_aload_n hx hb dX3_step_90 rfl (lv_at hl 0 rfl) ?_
          refine r_get hC hW flX3_22 0 rfl rfl dX3_step_91 ?_
          refine n_top (show (upd (upd (upd (upd y 2 (nI k1)) 3 (nI k1)) 4 0) 1 (nI (tTn (tp k1)))) 1 = (nI (tTn (tp k1))) from rfl) ?_
          refine lv_iconst (v := 3) hx hb dX3_step_94 (by decide) ?_
          refine lv_icmp_eq (tgt := 106) hx hb dX3_step_95 (by decide) (fun c_8 => ?_) (fun c_8 => ?_)
          · have c_8 : tTn (tp k1) = 3 := (nI_eq (a := tTn (tp k1)) (b := 3) (by omega) (by omega)).mp c_8
            refine lv_aload_n hx hb dX3_step_106 rfl (lv_at hl 0 rfl) ?_
            refine r_get hC hW flX3_25 0 rfl rfl dX3_step_107 ?_
            refine n_top (show (upd (upd (upd (upd y 2 (nI k1)) 3 (nI k1)) 4 0) 1 (nI (tTn (tp k1)))) 2 = (nI k1) from rfl) ?_
            refine lv_iconst (v := 1) hx hb dX3_step_110 (by decide) ?_
            refine n_iadd (v := (nI (k1 + 1))) hx hb dX3_step_111 (nI_add k1 1) ?_
            refine lv_goto (tgt := 119) hx hb dX3_step_112 (by decide) ?_
            refine lv_istore_n (lv' := [(1, .int (nI (k1 + 1))), (0, .ref (vy 0))]) hx hb dX3_step_119 rfl hl (by decide) rfl (fun ls hl => ?_)
            have L120 : ∀ (n_ : Nat) (k : Nat) (y1 : (Nat → Int32)) (H : Heap) (locs : List Loc) (ls : Array Slot), k1 + 1 - (k1 + k) < n_ → k1 + k ≤ k1 + 1 → (y1 0 = nI tl ∧ y1 1 = nI (tTn (tp k1)) ∧ y1 2 = nI k1 ∧ y1 3 = nI (k1 + k) ∧ y1 4 = nI (nc (tTn (tp k1)) tp k1 k)) → (∀ q_, q_ < k → tTn (tp (k1 + q_)) = tTn (tp k1)) → Wd E A s.heap (wcat [TPW E vy y1 tp]) H locs → lv_has ls 2 [(0, .ref (vy 0)), (1, .int (nI (k1 + 1)))] → W p l e R s m args below meth c H locs 0 0 Q (F0 m 120 ls []) := by
              intro n_
              induction n_ with
              | zero => intro k y1 H locs ls hm; exact absurd hm (Nat.not_lt_zero _)
              | succ n_ ih120 =>
                intro k y1 H locs ls hm hk hz hr hW hl
                refine lv_aload_n hx hb dX3_step_120 rfl (lv_at hl 0 rfl) ?_
                refine r_get hC hW flX3_28 0 rfl rfl dX3_step_121 ?_
                refine n_top (show y1 3 = (nI (k1 + k)) from hz.2.2.2.1) ?_
                refine lv_iload_n hx hb dX3_step_124 rfl (lv_at hl 1 rfl) ?_
                refine lv_icmp_ge (tgt := 198) hx hb dX3_step_125 (by decide) (fun c_9 => ?_) (fun c_9 => ?_)
                · have c_9 : k1 + 1 ≤ k1 + k := (nI_leI (a := k1 + 1) (b := k1 + k) (by omega) (by omega)).mp c_9
                  exact r_vret hC hQ hD hW y1 (by rw [hsk]; exact YT_of (T := tTn (tp k1)) (L := k1 + 1) (k := k) (tKd_in (by omega)) (by omega) (by omega) (by omega) (by omega) hr (Or.inl (by omega)) hz.1 hz.2.1 hz.2.2.1 hz.2.2.2.1 hz.2.2.2.2) rfl rfl dX3_step_198
                · have c_9 : ¬ k1 + 1 ≤ k1 + k := fun z_ => c_9 ((nI_leI (a := k1 + 1) (b := k1 + k) (by omega) (by omega)).mpr z_)
                  refine lv_aload_n hx hb dX3_step_128 rfl (lv_at hl 0 rfl) ?_
                  refine r_get hC hW flX3_9 0 rfl rfl dX3_step_129 ?_
                  refine lv_aload_n hx hb dX3_step_132 rfl (lv_at hl 0 rfl) ?_
                  refine r_get hC hW flX3_28 0 rfl rfl dX3_step_133 ?_
                  refine n_top (show y1 3 = (nI (k1 + k)) from hz.2.2.2.1) ?_
                  refine r_iald hC hW 1 rfl (k1 + k) rfl (by omega) (by decide) dX3_step_136 ?_
                  have htk := tTn_le (tp (k1 + k))
                  refine r_callSi hC hD hW hA lkX3_34 (c_X3_tokenOf l E (tp (k1 + k))) ⟨by decide, by decide, by decide, by decide⟩ rfl hl.1 rfl rfl (Nat.le_of_ble_eq_true rfl) dX3_step_137 (fun r_10 _ H locs hr_10 hW => ?_)
                  have hW : Wd E A s.heap (wcat [TPW E vy y1 tp]) H locs := hW
                  have hr_10 : r_10 = (nI (tTn (tp (k1 + k)))) := hr_10
                  subst hr_10
                  refine lv_aload_n hx hb dX3_step_140 rfl (lv_at hl 0 rfl) ?_
                  refine r_get hC hW flX3_22 0 rfl rfl dX3_step_141 ?_
                  refine n_top (show y1 1 = (nI (tTn (tp k1))) from hz.2.1) ?_
                  refine lv_icmp_ne (tgt := 198) hx hb dX3_step_144 (by decide) (fun c_11 => ?_) (fun c_11 => ?_)
                  · have c_11 : ¬ tTn (tp (k1 + k)) = tTn (tp k1) := fun z_ => c_11 ((nI_eq (a := tTn (tp (k1 + k))) (b := tTn (tp k1)) (by omega) (by omega)).mpr z_)
                    exact r_vret hC hQ hD hW y1 (by rw [hsk]; exact YT_of (T := tTn (tp k1)) (L := k1 + 1) (k := k) (tKd_in (by omega)) (by omega) (by omega) (by omega) (by omega) hr (Or.inr c_11) hz.1 hz.2.1 hz.2.2.1 hz.2.2.2.1 hz.2.2.2.2) rfl rfl dX3_step_198
                  · have c_11 : tTn (tp (k1 + k)) = tTn (tp k1) := (nI_eq (a := tTn (tp (k1 + k))) (b := tTn (tp k1)) (by omega) (by omega)).mp c_11
                    refine lv_aload_n hx hb dX3_step_147 rfl (lv_at hl 0 rfl) ?_
                    refine r_get hC hW flX3_22 0 rfl rfl dX3_step_148 ?_
                    refine n_top (show y1 1 = (nI (tTn (tp k1))) from hz.2.1) ?_
                    refine lv_iconst (v := 2) hx hb dX3_step_151 (by decide) ?_
                    refine lv_icmp_ne (tgt := 185) hx hb dX3_step_152 (by decide) (fun c_12 => ?_) (fun c_12 => ?_)
                    · have c_12 : ¬ tTn (tp k1) = 2 := fun z_ => c_12 ((nI_eq (a := tTn (tp k1)) (b := 2) (by omega) (by omega)).mpr z_)
                      refine lv_aload_n hx hb dX3_step_185 rfl (lv_at hl 0 rfl) ?_
                      refine lv_dup hx hb dX3_step_186 rfl ?_
                      refine r_get hC hW flX3_28 0 rfl rfl dX3_step_187 ?_
                      refine n_top (show y1 3 = (nI (k1 + k)) from hz.2.2.2.1) ?_
                      refine lv_iconst (v := 1) hx hb dX3_step_190 (by decide) ?_
                      refine n_iadd (v := (nI (k1 + k + 1))) hx hb dX3_step_191 (nI_add (k1 + k) 1) ?_
                      refine r_put (ws' := (wcat [TPW E vy (upd y1 3 (nI (k1 + k + 1))) tp])) hC hD hW fpX3_28 0 rfl rfl rfl (Nat.le_of_ble_eq_true rfl) rfl rfl dX3_step_192 (fun H locs hW => ?_)
                      refine lv_goto (tgt := 120) hx hb dX3_step_195 (by decide) ?_
                      exact ih120 (k + 1) (upd y1 3 (nI (k1 + k + 1))) _ _ _ (by omega) (by omega) ⟨hz.1, hz.2.1, hz.2.2.1, rfl, (hz.2.2.2.2.trans (congrArg nI (nc_o (T := tTn (tp k1)) (by omega))))⟩ (lt_s hr c_11) hW (lv_sub hl [0, 1] rfl)
                    · have c_12 : tTn (tp k1) = 2 := (nI_eq (a := tTn (tp k1)) (b := 2) (by omega) (by omega)).mp c_12
                      refine lv_aload_n hx hb dX3_step_155 rfl (lv_at hl 0 rfl) ?_
                      refine lv_sipush (v := 1000) hx hb dX3_step_156 (by decide) ?_
                      refine lv_aload_n hx hb dX3_step_159 rfl (lv_at hl 0 rfl) ?_
                      refine r_get hC hW flX3_31 0 rfl rfl dX3_step_160 ?_
                      refine n_top (show y1 4 = (nI (nc (tTn (tp k1)) tp k1 k)) from hz.2.2.2.2) ?_
                      refine lv_bipush (v := 10) hx hb dX3_step_163 (by decide) ?_
                      refine n_imul (v := (nI ((nc (tTn (tp k1)) tp k1 k) * 10))) hx hb dX3_step_165 (pk_mul (nc (tTn (tp k1)) tp k1 k) 10) ?_
                      refine lv_aload_n hx hb dX3_step_166 rfl (lv_at hl 0 rfl) ?_
                      refine r_get hC hW flX3_9 0 rfl rfl dX3_step_167 ?_
                      refine lv_aload_n hx hb dX3_step_170 rfl (lv_at hl 0 rfl) ?_
                      refine r_get hC hW flX3_28 0 rfl rfl dX3_step_171 ?_
                      refine n_top (show y1 3 = (nI (k1 + k)) from hz.2.2.2.1) ?_
                      refine r_iald hC hW 1 rfl (k1 + k) rfl (by omega) (by decide) dX3_step_174 ?_
                      refine n_iadd (v := (nI (nc (tTn (tp k1)) tp k1 k * 10) + tp (k1 + k))) hx hb dX3_step_175 rfl ?_
                      refine lv_bipush (v := 48) hx hb dX3_step_176 (by decide) ?_
                      refine n_isub (v := (nI (nc (tTn (tp k1)) tp k1 k * 10) + tp (k1 + k) - 48)) hx hb dX3_step_178 rfl ?_
                      refine r_mmin hC lkX3_38 hl.1 (by decide) (by decide) (by decide) (by decide) (Nat.le_of_ble_eq_true rfl) dX3_step_179 ?_
                      refine n_top (nc_min (T := tTn (tp k1)) (by omega) (tTn_2.mp (by omega))) ?_
                      refine r_put (ws' := (wcat [TPW E vy (upd y1 4 (nI (nc (tTn (tp k1)) tp k1 (k + 1)))) tp])) hC hD hW fpX3_31 0 rfl rfl rfl (Nat.le_of_ble_eq_true rfl) rfl rfl dX3_step_182 (fun H locs hW => ?_)
                      refine lv_aload_n hx hb dX3_step_185 rfl (lv_at hl 0 rfl) ?_
                      refine lv_dup hx hb dX3_step_186 rfl ?_
                      refine r_get hC hW flX3_28 0 rfl rfl dX3_step_187 ?_
                      refine n_top (show (upd y1 4 (nI (nc (tTn (tp k1)) tp k1 (k + 1)))) 3 = (nI (k1 + k)) from hz.2.2.2.1) ?_
                      refine lv_iconst (v := 1) hx hb dX3_step_190 (by decide) ?_
                      refine n_iadd (v := (nI (k1 + k + 1))) hx hb dX3_step_191 (nI_add (k1 + k) 1) ?_
                      refine r_put (ws' := (wcat [TPW E vy (upd (upd y1 4 (nI (nc (tTn (tp k1)) tp k1 (k + 1)))) 3 (nI (k1 + k + 1))) tp])) hC hD hW fpX3_28 0 rfl rfl rfl (Nat.le_of_ble_eq_true rfl) rfl rfl dX3_step_192 (fun H locs hW => ?_)
                      refine lv_goto (tgt := 120) hx hb dX3_step_195 (by decide) ?_
                      exact ih120 (k + 1) (upd (upd y1 4 (nI (nc (tTn (tp k1)) tp k1 (k + 1)))) 3 (nI (k1 + k + 1))) _ _ _ (by omega) (by omega) ⟨hz.1, hz.2.1, hz.2.2.1, rfl, rfl⟩ (lt_s hr c_11) hW (lv_sub hl [0, 1] rfl)
            exact L120 (k1 + 1 - (k1 + 0) + 1) 0 (upd (upd (upd (upd y 2 (nI k1)) 3 (nI k1)) 4 0) 1 (nI (tTn (tp k1)))) _ _ _ (Nat.lt_succ_self _) (by omega) ⟨htl, rfl, rfl, rfl, (show (0 : Int32) = nI (nc (tTn (tp k1)) tp k1 0) by unfold nc; split <;> rfl)⟩ lt_0 hW (lv_sub hl [1, 0] rfl)
          · have c_8 : ¬ tTn (tp k1) = 3 := fun z_ => c_8 ((nI_eq (a := tTn (tp k1)) (b := 3) (by omega) (by omega)).mpr z_)
            refine lv_aload_n hx hb dX3_step_98 rfl (lv_at hl 0 rfl) ?_
            refine r_get hC hW flX3_22 0 rfl rfl dX3_step_99 ?_
            refine n_top (show (upd (upd (upd (upd y 2 (nI k1)) 3 (nI k1)) 4 0) 1 (nI (tTn (tp k1)))) 1 = (nI (tTn (tp k1))) from rfl) ?_
            refine lv_iconst (v := 4) hx hb dX3_step_102 (by decide) ?_
            refine lv_icmp_ne (tgt := 115) hx hb dX3_step_103 (by decide) (fun c_13 => ?_) (fun c_13 => ?_)
            · have c_13 : ¬ tTn (tp k1) = 4 := fun z_ => c_13 ((nI_eq (a := tTn (tp k1)) (b := 4) (by omega) (by omega)).mpr z_)
              refine lv_aload_n hx hb dX3_step_115 rfl (lv_at hl 0 rfl) ?_
              refine r_get hC hW flX3_15 0 rfl rfl dX3_step_116 ?_
              refine n_top (show (upd (upd (upd (upd y 2 (nI k1)) 3 (nI k1)) 4 0) 1 (nI (tTn (tp k1)))) 0 = (nI tl) from htl) ?_
              refine lv_istore_n (lv' := [(1, .int (nI tl)), (0, .ref (vy 0))]) hx hb dX3_step_119 rfl hl (by decide) rfl (fun ls hl => ?_)
              have L120 : ∀ (n_ : Nat) (k : Nat) (y1 : (Nat → Int32)) (H : Heap) (locs : List Loc) (ls : Array Slot), tl - (k1 + k) < n_ → k1 + k ≤ tl → (y1 0 = nI tl ∧ y1 1 = nI (tTn (tp k1)) ∧ y1 2 = nI k1 ∧ y1 3 = nI (k1 + k) ∧ y1 4 = nI (nc (tTn (tp k1)) tp k1 k)) → (∀ q_, q_ < k → tTn (tp (k1 + q_)) = tTn (tp k1)) → Wd E A s.heap (wcat [TPW E vy y1 tp]) H locs → lv_has ls 2 [(0, .ref (vy 0)), (1, .int (nI tl))] → W p l e R s m args below meth c H locs 0 0 Q (F0 m 120 ls []) := by
                intro n_
                induction n_ with
                | zero => intro k y1 H locs ls hm; exact absurd hm (Nat.not_lt_zero _)
                | succ n_ ih120 =>
                  intro k y1 H locs ls hm hk hz hr hW hl
                  refine lv_aload_n hx hb dX3_step_120 rfl (lv_at hl 0 rfl) ?_
                  refine r_get hC hW flX3_28 0 rfl rfl dX3_step_121 ?_
                  refine n_top (show y1 3 = (nI (k1 + k)) from hz.2.2.2.1) ?_
                  refine lv_iload_n hx hb dX3_step_124 rfl (lv_at hl 1 rfl) ?_
                  refine lv_icmp_ge (tgt := 198) hx hb dX3_step_125 (by decide) (fun c_14 => ?_) (fun c_14 => ?_)
                  · have c_14 : tl ≤ k1 + k := (nI_leI (a := tl) (b := k1 + k) (by omega) (by omega)).mp c_14
                    exact r_vret hC hQ hD hW y1 (by rw [hsk]; exact YT_of (T := tTn (tp k1)) (L := tl) (k := k) (tKd_in (by omega)) (by omega) (by omega) (by omega) (by omega) hr (Or.inl (by omega)) hz.1 hz.2.1 hz.2.2.1 hz.2.2.2.1 hz.2.2.2.2) rfl rfl dX3_step_198
                  · have c_14 : ¬ tl ≤ k1 + k := fun z_ => c_14 ((nI_leI (a := tl) (b := k1 + k) (by omega) (by omega)).mpr z_)
                    refine lv_aload_n hx hb dX3_step_128 rfl (lv_at hl 0 rfl) ?_
                    refine r_get hC hW flX3_9 0 rfl rfl dX3_step_129 ?_
                    refine lv_aload_n hx hb dX3_step_132 rfl (lv_at hl 0 rfl) ?_
                    refine r_get hC hW flX3_28 0 rfl rfl dX3_step_133 ?_
                    refine n_top (show y1 3 = (nI (k1 + k)) from hz.2.2.2.1) ?_
                    refine r_iald hC hW 1 rfl (k1 + k) rfl (by omega) (by decide) dX3_step_136 ?_
                    have htk := tTn_le (tp (k1 + k))
                    refine r_callSi hC hD hW hA lkX3_34 (c_X3_tokenOf l E (tp (k1 + k))) ⟨by decide, by decide, by decide, by decide⟩ rfl hl.1 rfl rfl (Nat.le_of_ble_eq_true rfl) dX3_step_137 (fun r_15 _ H locs hr_15 hW => ?_)
                    have hW : Wd E A s.heap (wcat [TPW E vy y1 tp]) H locs := hW
                    have hr_15 : r_15 = (nI (tTn (tp (k1 + k)))) := hr_15
                    subst hr_15
                    refine lv_aload_n hx hb dX3_step_140 rfl (lv_at hl 0 rfl) ?_
                    refine r_get hC hW flX3_22 0 rfl rfl dX3_step_141 ?_
                    refine n_top (show y1 1 = (nI (tTn (tp k1))) from hz.2.1) ?_
                    refine lv_icmp_ne (tgt := 198) hx hb dX3_step_144 (by decide) (fun c_16 => ?_) (fun c_16 => ?_)
                    · have c_16 : ¬ tTn (tp (k1 + k)) = tTn (tp k1) := fun z_ => c_16 ((nI_eq (a := tTn (tp (k1 + k))) (b := tTn (tp k1)) (by omega) (by omega)).mpr z_)
                      exact r_vret hC hQ hD hW y1 (by rw [hsk]; exact YT_of (T := tTn (tp k1)) (L := tl) (k := k) (tKd_in (by omega)) (by omega) (by omega) (by omega) (by omega) hr (Or.inr c_16) hz.1 hz.2.1 hz.2.2.1 hz.2.2.2.1 hz.2.2.2.2) rfl rfl dX3_step_198
                    · have c_16 : tTn (tp (k1 + k)) = tTn (tp k1) := (nI_eq (a := tTn (tp (k1 + k))) (b := tTn (tp k1)) (by omega) (by omega)).mp c_16
                      refine lv_aload_n hx hb dX3_step_147 rfl (lv_at hl 0 rfl) ?_
                      refine r_get hC hW flX3_22 0 rfl rfl dX3_step_148 ?_
                      refine n_top (show y1 1 = (nI (tTn (tp k1))) from hz.2.1) ?_
                      refine lv_iconst (v := 2) hx hb dX3_step_151 (by decide) ?_
                      refine lv_icmp_ne (tgt := 185) hx hb dX3_step_152 (by decide) (fun c_17 => ?_) (fun c_17 => ?_)
                      · have c_17 : ¬ tTn (tp k1) = 2 := fun z_ => c_17 ((nI_eq (a := tTn (tp k1)) (b := 2) (by omega) (by omega)).mpr z_)
                        refine lv_aload_n hx hb dX3_step_185 rfl (lv_at hl 0 rfl) ?_
                        refine lv_dup hx hb dX3_step_186 rfl ?_
                        refine r_get hC hW flX3_28 0 rfl rfl dX3_step_187 ?_
                        refine n_top (show y1 3 = (nI (k1 + k)) from hz.2.2.2.1) ?_
                        refine lv_iconst (v := 1) hx hb dX3_step_190 (by decide) ?_
                        refine n_iadd (v := (nI (k1 + k + 1))) hx hb dX3_step_191 (nI_add (k1 + k) 1) ?_
                        refine r_put (ws' := (wcat [TPW E vy (upd y1 3 (nI (k1 + k + 1))) tp])) hC hD hW fpX3_28 0 rfl rfl rfl (Nat.le_of_ble_eq_true rfl) rfl rfl dX3_step_192 (fun H locs hW => ?_)
                        refine lv_goto (tgt := 120) hx hb dX3_step_195 (by decide) ?_
                        exact ih120 (k + 1) (upd y1 3 (nI (k1 + k + 1))) _ _ _ (by omega) (by omega) ⟨hz.1, hz.2.1, hz.2.2.1, rfl, (hz.2.2.2.2.trans (congrArg nI (nc_o (T := tTn (tp k1)) (by omega))))⟩ (lt_s hr c_16) hW (lv_sub hl [0, 1] rfl)
                      · have c_17 : tTn (tp k1) = 2 := (nI_eq (a := tTn (tp k1)) (b := 2) (by omega) (by omega)).mp c_17
                        refine lv_aload_n hx hb dX3_step_155 rfl (lv_at hl 0 rfl) ?_
                        refine lv_sipush (v := 1000) hx hb dX3_step_156 (by decide) ?_
                        refine lv_aload_n hx hb dX3_step_159 rfl (lv_at hl 0 rfl) ?_
                        refine r_get hC hW flX3_31 0 rfl rfl dX3_step_160 ?_
                        refine n_top (show y1 4 = (nI (nc (tTn (tp k1)) tp k1 k)) from hz.2.2.2.2) ?_
                        refine lv_bipush (v := 10) hx hb dX3_step_163 (by decide) ?_
                        refine n_imul (v := (nI ((nc (tTn (tp k1)) tp k1 k) * 10))) hx hb dX3_step_165 (pk_mul (nc (tTn (tp k1)) tp k1 k) 10) ?_
                        refine lv_aload_n hx hb dX3_step_166 rfl (lv_at hl 0 rfl) ?_
                        refine r_get hC hW flX3_9 0 rfl rfl dX3_step_167 ?_
                        refine lv_aload_n hx hb dX3_step_170 rfl (lv_at hl 0 rfl) ?_
                        refine r_get hC hW flX3_28 0 rfl rfl dX3_step_171 ?_
                        refine n_top (show y1 3 = (nI (k1 + k)) from hz.2.2.2.1) ?_
                        refine r_iald hC hW 1 rfl (k1 + k) rfl (by omega) (by decide) dX3_step_174 ?_
                        refine n_iadd (v := (nI (nc (tTn (tp k1)) tp k1 k * 10) + tp (k1 + k))) hx hb dX3_step_175 rfl ?_
                        refine lv_bipush (v := 48) hx hb dX3_step_176 (by decide) ?_
                        refine n_isub (v := (nI (nc (tTn (tp k1)) tp k1 k * 10) + tp (k1 + k) - 48)) hx hb dX3_step_178 rfl ?_
                        refine r_mmin hC lkX3_38 hl.1 (by decide) (by decide) (by decide) (by decide) (Nat.le_of_ble_eq_true rfl) dX3_step_179 ?_
                        refine n_top (nc_min (T := tTn (tp k1)) (by omega) (tTn_2.mp (by omega))) ?_
                        refine r_put (ws' := (wcat [TPW E vy (upd y1 4 (nI (nc (tTn (tp k1)) tp k1 (k + 1)))) tp])) hC hD hW fpX3_31 0 rfl rfl rfl (Nat.le_of_ble_eq_true rfl) rfl rfl dX3_step_182 (fun H locs hW => ?_)
                        refine lv_aload_n hx hb dX3_step_185 rfl (lv_at hl 0 rfl) ?_
                        refine lv_dup hx hb dX3_step_186 rfl ?_
                        refine r_get hC hW flX3_28 0 rfl rfl dX3_step_187 ?_
                        refine n_top (show (upd y1 4 (nI (nc (tTn (tp k1)) tp k1 (k + 1)))) 3 = (nI (k1 + k)) from hz.2.2.2.1) ?_
                        refine lv_iconst (v := 1) hx hb dX3_step_190 (by decide) ?_
                        refine n_iadd (v := (nI (k1 + k + 1))) hx hb dX3_step_191 (nI_add (k1 + k) 1) ?_
                        refine r_put (ws' := (wcat [TPW E vy (upd (upd y1 4 (nI (nc (tTn (tp k1)) tp k1 (k + 1)))) 3 (nI (k1 + k + 1))) tp])) hC hD hW fpX3_28 0 rfl rfl rfl (Nat.le_of_ble_eq_true rfl) rfl rfl dX3_step_192 (fun H locs hW => ?_)
                        refine lv_goto (tgt := 120) hx hb dX3_step_195 (by decide) ?_
                        exact ih120 (k + 1) (upd (upd y1 4 (nI (nc (tTn (tp k1)) tp k1 (k + 1)))) 3 (nI (k1 + k + 1))) _ _ _ (by omega) (by omega) ⟨hz.1, hz.2.1, hz.2.2.1, rfl, rfl⟩ (lt_s hr c_16) hW (lv_sub hl [0, 1] rfl)
              exact L120 (tl - (k1 + 0) + 1) 0 (upd (upd (upd (upd y 2 (nI k1)) 3 (nI k1)) 4 0) 1 (nI (tTn (tp k1)))) _ _ _ (Nat.lt_succ_self _) (by omega) ⟨htl, rfl, rfl, rfl, (show (0 : Int32) = nI (nc (tTn (tp k1)) tp k1 0) by unfold nc; split <;> rfl)⟩ lt_0 hW (lv_sub hl [1, 0] rfl)
            · have c_13 : tTn (tp k1) = 4 := (nI_eq (a := tTn (tp k1)) (b := 4) (by omega) (by omega)).mp c_13
              refine lv_aload_n hx hb dX3_step_106 rfl (lv_at hl 0 rfl) ?_
              refine r_get hC hW flX3_25 0 rfl rfl dX3_step_107 ?_
              refine n_top (show (upd (upd (upd (upd y 2 (nI k1)) 3 (nI k1)) 4 0) 1 (nI (tTn (tp k1)))) 2 = (nI k1) from rfl) ?_
              refine lv_iconst (v := 1) hx hb dX3_step_110 (by decide) ?_
              refine n_iadd (v := (nI (k1 + 1))) hx hb dX3_step_111 (nI_add k1 1) ?_
              refine lv_goto (tgt := 119) hx hb dX3_step_112 (by decide) ?_
              refine lv_istore_n (lv' := [(1, .int (nI (k1 + 1))), (0, .ref (vy 0))]) hx hb dX3_step_119 rfl hl (by decide) rfl (fun ls hl => ?_)
              have L120 : ∀ (n_ : Nat) (k : Nat) (y1 : (Nat → Int32)) (H : Heap) (locs : List Loc) (ls : Array Slot), k1 + 1 - (k1 + k) < n_ → k1 + k ≤ k1 + 1 → (y1 0 = nI tl ∧ y1 1 = nI (tTn (tp k1)) ∧ y1 2 = nI k1 ∧ y1 3 = nI (k1 + k) ∧ y1 4 = nI (nc (tTn (tp k1)) tp k1 k)) → (∀ q_, q_ < k → tTn (tp (k1 + q_)) = tTn (tp k1)) → Wd E A s.heap (wcat [TPW E vy y1 tp]) H locs → lv_has ls 2 [(0, .ref (vy 0)), (1, .int (nI (k1 + 1)))] → W p l e R s m args below meth c H locs 0 0 Q (F0 m 120 ls []) := by
                intro n_
                induction n_ with
                | zero => intro k y1 H locs ls hm; exact absurd hm (Nat.not_lt_zero _)
                | succ n_ ih120 =>
                  intro k y1 H locs ls hm hk hz hr hW hl
                  refine lv_aload_n hx hb dX3_step_120 rfl (lv_at hl 0 rfl) ?_
                  refine r_get hC hW flX3_28 0 rfl rfl dX3_step_121 ?_
                  refine n_top (show y1 3 = (nI (k1 + k)) from hz.2.2.2.1) ?_
                  refine lv_iload_n hx hb dX3_step_124 rfl (lv_at hl 1 rfl) ?_
                  refine lv_icmp_ge (tgt := 198) hx hb dX3_step_125 (by decide) (fun c_18 => ?_) (fun c_18 => ?_)
                  · have c_18 : k1 + 1 ≤ k1 + k := (nI_leI (a := k1 + 1) (b := k1 + k) (by omega) (by omega)).mp c_18
                    exact r_vret hC hQ hD hW y1 (by rw [hsk]; exact YT_of (T := tTn (tp k1)) (L := k1 + 1) (k := k) (tKd_in (by omega)) (by omega) (by omega) (by omega) (by omega) hr (Or.inl (by omega)) hz.1 hz.2.1 hz.2.2.1 hz.2.2.2.1 hz.2.2.2.2) rfl rfl dX3_step_198
                  · have c_18 : ¬ k1 + 1 ≤ k1 + k := fun z_ => c_18 ((nI_leI (a := k1 + 1) (b := k1 + k) (by omega) (by omega)).mpr z_)
                    refine lv_aload_n hx hb dX3_step_128 rfl (lv_at hl 0 rfl) ?_
                    refine r_get hC hW flX3_9 0 rfl rfl dX3_step_129 ?_
                    refine lv_aload_n hx hb dX3_step_132 rfl (lv_at hl 0 rfl) ?_
                    refine r_get hC hW flX3_28 0 rfl rfl dX3_step_133 ?_
                    refine n_top (show y1 3 = (nI (k1 + k)) from hz.2.2.2.1) ?_
                    refine r_iald hC hW 1 rfl (k1 + k) rfl (by omega) (by decide) dX3_step_136 ?_
                    have htk := tTn_le (tp (k1 + k))
                    refine r_callSi hC hD hW hA lkX3_34 (c_X3_tokenOf l E (tp (k1 + k))) ⟨by decide, by decide, by decide, by decide⟩ rfl hl.1 rfl rfl (Nat.le_of_ble_eq_true rfl) dX3_step_137 (fun r_19 _ H locs hr_19 hW => ?_)
                    have hW : Wd E A s.heap (wcat [TPW E vy y1 tp]) H locs := hW
                    have hr_19 : r_19 = (nI (tTn (tp (k1 + k)))) := hr_19
                    subst hr_19
                    refine lv_aload_n hx hb dX3_step_140 rfl (lv_at hl 0 rfl) ?_
                    refine r_get hC hW flX3_22 0 rfl rfl dX3_step_141 ?_
                    refine n_top (show y1 1 = (nI (tTn (tp k1))) from hz.2.1) ?_
                    refine lv_icmp_ne (tgt := 198) hx hb dX3_step_144 (by decide) (fun c_20 => ?_) (fun c_20 => ?_)
                    · have c_20 : ¬ tTn (tp (k1 + k)) = tTn (tp k1) := fun z_ => c_20 ((nI_eq (a := tTn (tp (k1 + k))) (b := tTn (tp k1)) (by omega) (by omega)).mpr z_)
                      exact r_vret hC hQ hD hW y1 (by rw [hsk]; exact YT_of (T := tTn (tp k1)) (L := k1 + 1) (k := k) (tKd_in (by omega)) (by omega) (by omega) (by omega) (by omega) hr (Or.inr c_20) hz.1 hz.2.1 hz.2.2.1 hz.2.2.2.1 hz.2.2.2.2) rfl rfl dX3_step_198
                    · have c_20 : tTn (tp (k1 + k)) = tTn (tp k1) := (nI_eq (a := tTn (tp (k1 + k))) (b := tTn (tp k1)) (by omega) (by omega)).mp c_20
                      refine lv_aload_n hx hb dX3_step_147 rfl (lv_at hl 0 rfl) ?_
                      refine r_get hC hW flX3_22 0 rfl rfl dX3_step_148 ?_
                      refine n_top (show y1 1 = (nI (tTn (tp k1))) from hz.2.1) ?_
                      refine lv_iconst (v := 2) hx hb dX3_step_151 (by decide) ?_
                      refine lv_icmp_ne (tgt := 185) hx hb dX3_step_152 (by decide) (fun c_21 => ?_) (fun c_21 => ?_)
                      · have c_21 : ¬ tTn (tp k1) = 2 := fun z_ => c_21 ((nI_eq (a := tTn (tp k1)) (b := 2) (by omega) (by omega)).mpr z_)
                        refine lv_aload_n hx hb dX3_step_185 rfl (lv_at hl 0 rfl) ?_
                        refine lv_dup hx hb dX3_step_186 rfl ?_
                        refine r_get hC hW flX3_28 0 rfl rfl dX3_step_187 ?_
                        refine n_top (show y1 3 = (nI (k1 + k)) from hz.2.2.2.1) ?_
                        refine lv_iconst (v := 1) hx hb dX3_step_190 (by decide) ?_
                        refine n_iadd (v := (nI (k1 + k + 1))) hx hb dX3_step_191 (nI_add (k1 + k) 1) ?_
                        refine r_put (ws' := (wcat [TPW E vy (upd y1 3 (nI (k1 + k + 1))) tp])) hC hD hW fpX3_28 0 rfl rfl rfl (Nat.le_of_ble_eq_true rfl) rfl rfl dX3_step_192 (fun H locs hW => ?_)
                        refine lv_goto (tgt := 120) hx hb dX3_step_195 (by decide) ?_
                        exact ih120 (k + 1) (upd y1 3 (nI (k1 + k + 1))) _ _ _ (by omega) (by omega) ⟨hz.1, hz.2.1, hz.2.2.1, rfl, (hz.2.2.2.2.trans (congrArg nI (nc_o (T := tTn (tp k1)) (by omega))))⟩ (lt_s hr c_20) hW (lv_sub hl [0, 1] rfl)
                      · have c_21 : tTn (tp k1) = 2 := (nI_eq (a := tTn (tp k1)) (b := 2) (by omega) (by omega)).mp c_21
                        refine lv_aload_n hx hb dX3_step_155 rfl (lv_at hl 0 rfl) ?_
                        refine lv_sipush (v := 1000) hx hb dX3_step_156 (by decide) ?_
                        refine lv_aload_n hx hb dX3_step_159 rfl (lv_at hl 0 rfl) ?_
                        refine r_get hC hW flX3_31 0 rfl rfl dX3_step_160 ?_
                        refine n_top (show y1 4 = (nI (nc (tTn (tp k1)) tp k1 k)) from hz.2.2.2.2) ?_
                        refine lv_bipush (v := 10) hx hb dX3_step_163 (by decide) ?_
                        refine n_imul (v := (nI ((nc (tTn (tp k1)) tp k1 k) * 10))) hx hb dX3_step_165 (pk_mul (nc (tTn (tp k1)) tp k1 k) 10) ?_
                        refine lv_aload_n hx hb dX3_step_166 rfl (lv_at hl 0 rfl) ?_
                        refine r_get hC hW flX3_9 0 rfl rfl dX3_step_167 ?_
                        refine lv_aload_n hx hb dX3_step_170 rfl (lv_at hl 0 rfl) ?_
                        refine r_get hC hW flX3_28 0 rfl rfl dX3_step_171 ?_
                        refine n_top (show y1 3 = (nI (k1 + k)) from hz.2.2.2.1) ?_
                        refine r_iald hC hW 1 rfl (k1 + k) rfl (by omega) (by decide) dX3_step_174 ?_
                        refine n_iadd (v := (nI (nc (tTn (tp k1)) tp k1 k * 10) + tp (k1 + k))) hx hb dX3_step_175 rfl ?_
                        refine lv_bipush (v := 48) hx hb dX3_step_176 (by decide) ?_
                        refine n_isub (v := (nI (nc (tTn (tp k1)) tp k1 k * 10) + tp (k1 + k) - 48)) hx hb dX3_step_178 rfl ?_
                        refine r_mmin hC lkX3_38 hl.1 (by decide) (by decide) (by decide) (by decide) (Nat.le_of_ble_eq_true rfl) dX3_step_179 ?_
                        refine n_top (nc_min (T := tTn (tp k1)) (by omega) (tTn_2.mp (by omega))) ?_
                        refine r_put (ws' := (wcat [TPW E vy (upd y1 4 (nI (nc (tTn (tp k1)) tp k1 (k + 1)))) tp])) hC hD hW fpX3_31 0 rfl rfl rfl (Nat.le_of_ble_eq_true rfl) rfl rfl dX3_step_182 (fun H locs hW => ?_)
                        refine lv_aload_n hx hb dX3_step_185 rfl (lv_at hl 0 rfl) ?_
                        refine lv_dup hx hb dX3_step_186 rfl ?_
                        refine r_get hC hW flX3_28 0 rfl rfl dX3_step_187 ?_
                        refine n_top (show (upd y1 4 (nI (nc (tTn (tp k1)) tp k1 (k + 1)))) 3 = (nI (k1 + k)) from hz.2.2.2.1) ?_
                        refine lv_iconst (v := 1) hx hb dX3_step_190 (by decide) ?_
                        refine n_iadd (v := (nI (k1 + k + 1))) hx hb dX3_step_191 (nI_add (k1 + k) 1) ?_
                        refine r_put (ws' := (wcat [TPW E vy (upd (upd y1 4 (nI (nc (tTn (tp k1)) tp k1 (k + 1)))) 3 (nI (k1 + k + 1))) tp])) hC hD hW fpX3_28 0 rfl rfl rfl (Nat.le_of_ble_eq_true rfl) rfl rfl dX3_step_192 (fun H locs hW => ?_)
                        refine lv_goto (tgt := 120) hx hb dX3_step_195 (by decide) ?_
                        exact ih120 (k + 1) (upd (upd y1 4 (nI (nc (tTn (tp k1)) tp k1 (k + 1)))) 3 (nI (k1 + k + 1))) _ _ _ (by omega) (by omega) ⟨hz.1, hz.2.1, hz.2.2.1, rfl, rfl⟩ (lt_s hr c_20) hW (lv_sub hl [0, 1] rfl)
              exact L120 (k1 + 1 - (k1 + 0) + 1) 0 (upd (upd (upd (upd y 2 (nI k1)) 3 (nI k1)) 4 0) 1 (nI (tTn (tp k1)))) _ _ _ (Nat.lt_succ_self _) (by omega) ⟨htl, rfl, rfl, rfl, (show (0 : Int32) = nI (nc (tTn (tp k1)) tp k1 0) by unfold nc; split <;> rfl)⟩ lt_0 hW (lv_sub hl [1, 0] rfl)
      · have c_1 : ¬ tl ≤ k1 := fun z_ => c_1 ((nI_leI (a := tl) (b := k1) (by omega) (by omega)).mpr z_)
        refine lv_aload_n hx hb dX3_step_19 rfl (lv_at hl 0 rfl) ?_
        refine r_get hC hW flX3_9 0 rfl rfl dX3_step_20 ?_
        refine lv_aload_n hx hb dX3_step_23 rfl (lv_at hl 0 rfl) ?_
        refine r_get hC hW flX3_25 0 rfl rfl dX3_step_24 ?_
        refine n_top (show (upd y 2 (nI k1)) 2 = (nI k1) from rfl) ?_
        refine r_iald hC hW 1 rfl k1 rfl (by omega) (by decide) dX3_step_27 ?_
        refine lv_bipush (v := 32) hx hb dX3_step_28 (by decide) ?_
        refine lv_icmp_ne (tgt := 46) hx hb dX3_step_30 (by decide) (fun c_22 => ?_) (fun c_22 => ?_)
        · have hsk : tSk tp tl k0 = k1 := hs.trans (tRn_f (q := bkP) (by rw [tBt_in (by omega)]; exact c_22))
          have htn := tTn_le (tp k1)
          have htg := tTn_ge (tp k1)
          refine lv_aload_n hx hb dX3_step_46 rfl (lv_at hl 0 rfl) ?_
          refine lv_aload_n hx hb dX3_step_47 rfl (lv_at hl 0 rfl) ?_
          refine r_get hC hW flX3_25 0 rfl rfl dX3_step_48 ?_
          refine n_top (show (upd y 2 (nI k1)) 2 = (nI k1) from rfl) ?_
          refine r_put (ws' := (wcat [TPW E vy (upd (upd y 2 (nI k1)) 3 (nI k1)) tp])) hC hD hW fpX3_28 0 rfl rfl rfl (Nat.le_of_ble_eq_true rfl) rfl rfl dX3_step_51 (fun H locs hW => ?_)
          refine lv_aload_n hx hb dX3_step_54 rfl (lv_at hl 0 rfl) ?_
          refine lv_iconst (v := 0) hx hb dX3_step_55 (by decide) ?_
          refine r_put (ws' := (wcat [TPW E vy (upd (upd (upd y 2 (nI k1)) 3 (nI k1)) 4 0) tp])) hC hD hW fpX3_31 0 rfl rfl rfl (Nat.le_of_ble_eq_true rfl) rfl rfl dX3_step_56 (fun H locs hW => ?_)
          refine lv_aload_n hx hb dX3_step_59 rfl (lv_at hl 0 rfl) ?_
          refine lv_aload_n hx hb dX3_step_60 rfl (lv_at hl 0 rfl) ?_
          refine r_get hC hW flX3_25 0 rfl rfl dX3_step_61 ?_
          refine n_top (show (upd (upd (upd y 2 (nI k1)) 3 (nI k1)) 4 0) 2 = (nI k1) from rfl) ?_
          refine lv_aload_n hx hb dX3_step_64 rfl (lv_at hl 0 rfl) ?_
          refine r_get hC hW flX3_15 0 rfl rfl dX3_step_65 ?_
          refine n_top (show (upd (upd (upd y 2 (nI k1)) 3 (nI k1)) 4 0) 0 = (nI tl) from htl) ?_
          refine lv_icmp_ge (tgt := 86) hx hb dX3_step_68 (by decide) (fun c_23 => ?_) (fun c_23 => ?_)
          · have c_23 : tl ≤ k1 := (nI_leI (a := tl) (b := k1) (by omega) (by omega)).mp c_23
            refine lv_iconst (v := 0) hx hb dX3_step_86 (by decide) ?_
            refine r_put (ws' := (wcat [TPW E vy (upd (upd (upd (upd y 2 (nI k1)) 3 (nI k1)) 4 0) 1 0) tp])) hC hD hW fpX3_22 0 rfl rfl rfl (Nat.le_of_ble_eq_true rfl) rfl rfl dX3_step_87 (fun H locs hW => ?_)
            refine lv_aload_n hx hb dX3_step_90 rfl (lv_at hl 0 rfl) ?_
            refine r_get hC hW flX3_22 0 rfl rfl dX3_step_91 ?_
            refine n_top (show (upd (upd (upd (upd y 2 (nI k1)) 3 (nI k1)) 4 0) 1 0) 1 = 0 from rfl) ?_
            refine lv_iconst (v := 3) hx hb dX3_step_94 (by decide) ?_
            refine lv_icmp_eq (tgt := 106) hx hb dX3_step_95 (by decide) (fun c => absurd c (by decide)) (fun _ => ?_)
            refine lv_aload_n hx hb dX3_step_98 rfl (lv_at hl 0 rfl) ?_
            refine r_get hC hW flX3_22 0 rfl rfl dX3_step_99 ?_
            refine n_top (show (upd (upd (upd (upd y 2 (nI k1)) 3 (nI k1)) 4 0) 1 0) 1 = 0 from rfl) ?_
            refine lv_iconst (v := 4) hx hb dX3_step_102 (by decide) ?_
            refine lv_icmp_ne (tgt := 115) hx hb dX3_step_103 (by decide) (fun _ => ?_) (fun c => absurd c (by decide))
            refine lv_aload_n hx hb dX3_step_115 rfl (lv_at hl 0 rfl) ?_
            refine r_get hC hW flX3_15 0 rfl rfl dX3_step_116 ?_
            refine n_top (show (upd (upd (upd (upd y 2 (nI k1)) 3 (nI k1)) 4 0) 1 0) 0 = (nI tl) from htl) ?_
            refine lv_istore_n (lv' := [(1, .int (nI tl)), (0, .ref (vy 0))]) hx hb dX3_step_119 rfl hl (by decide) rfl (fun ls hl => ?_)
            have L120 : ∀ (n_ : Nat) (k : Nat) (y1 : (Nat → Int32)) (H : Heap) (locs : List Loc) (ls : Array Slot), tl - (k1 + k) < n_ → k1 + k ≤ tl → (y1 0 = nI tl ∧ y1 1 = nI 0 ∧ y1 2 = nI k1 ∧ y1 3 = nI (k1 + k) ∧ y1 4 = nI (nc (0) tp k1 k)) → (∀ q_, q_ < k → tTn (tp (k1 + q_)) = 0) → Wd E A s.heap (wcat [TPW E vy y1 tp]) H locs → lv_has ls 2 [(0, .ref (vy 0)), (1, .int (nI tl))] → W p l e R s m args below meth c H locs 0 0 Q (F0 m 120 ls []) := by
              intro n_
              induction n_ with
              | zero => intro k y1 H locs ls hm; exact absurd hm (Nat.not_lt_zero _)
              | succ n_ ih120 =>
                intro k y1 H locs ls hm hk hz hr hW hl
                refine lv_aload_n hx hb dX3_step_120 rfl (lv_at hl 0 rfl) ?_
                refine r_get hC hW flX3_28 0 rfl rfl dX3_step_121 ?_
                refine n_top (show y1 3 = (nI (k1 + k)) from hz.2.2.2.1) ?_
                refine lv_iload_n hx hb dX3_step_124 rfl (lv_at hl 1 rfl) ?_
                refine lv_icmp_ge (tgt := 198) hx hb dX3_step_125 (by decide) (fun c_24 => ?_) (fun c_24 => ?_)
                · have c_24 : tl ≤ k1 + k := (nI_leI (a := tl) (b := k1 + k) (by omega) (by omega)).mp c_24
                  exact r_vret hC hQ hD hW y1 (by rw [hsk]; exact YT_of (T := 0) (L := tl) (k := k) (tKd_0.mpr (by omega)) (by omega) (by omega) (by omega) (by omega) hr (Or.inl (by omega)) hz.1 hz.2.1 hz.2.2.1 hz.2.2.2.1 hz.2.2.2.2) rfl rfl dX3_step_198
                · have c_24 : ¬ tl ≤ k1 + k := fun z_ => c_24 ((nI_leI (a := tl) (b := k1 + k) (by omega) (by omega)).mpr z_)
                  refine lv_aload_n hx hb dX3_step_128 rfl (lv_at hl 0 rfl) ?_
                  refine r_get hC hW flX3_9 0 rfl rfl dX3_step_129 ?_
                  refine lv_aload_n hx hb dX3_step_132 rfl (lv_at hl 0 rfl) ?_
                  refine r_get hC hW flX3_28 0 rfl rfl dX3_step_133 ?_
                  refine n_top (show y1 3 = (nI (k1 + k)) from hz.2.2.2.1) ?_
                  refine r_iald hC hW 1 rfl (k1 + k) rfl (by omega) (by decide) dX3_step_136 ?_
                  have htk := tTn_le (tp (k1 + k))
                  refine r_callSi hC hD hW hA lkX3_34 (c_X3_tokenOf l E (tp (k1 + k))) ⟨by decide, by decide, by decide, by decide⟩ rfl hl.1 rfl rfl (Nat.le_of_ble_eq_true rfl) dX3_step_137 (fun r_25 _ H locs hr_25 hW => ?_)
                  have hW : Wd E A s.heap (wcat [TPW E vy y1 tp]) H locs := hW
                  have hr_25 : r_25 = (nI (tTn (tp (k1 + k)))) := hr_25
                  subst hr_25
                  refine lv_aload_n hx hb dX3_step_140 rfl (lv_at hl 0 rfl) ?_
                  refine r_get hC hW flX3_22 0 rfl rfl dX3_step_141 ?_
                  refine n_top (show y1 1 = (nI 0) from hz.2.1) ?_
                  refine lv_icmp_ne (tgt := 198) hx hb dX3_step_144 (by decide) (fun c_26 => ?_) (fun c_26 => ?_)
                  · have c_26 : ¬ tTn (tp (k1 + k)) = 0 := fun z_ => c_26 ((nI_eq (a := tTn (tp (k1 + k))) (b := 0) (by omega) (by omega)).mpr z_)
                    exact r_vret hC hQ hD hW y1 (by rw [hsk]; exact YT_of (T := 0) (L := tl) (k := k) (tKd_0.mpr (by omega)) (by omega) (by omega) (by omega) (by omega) hr (Or.inr c_26) hz.1 hz.2.1 hz.2.2.1 hz.2.2.2.1 hz.2.2.2.2) rfl rfl dX3_step_198
                  · have c_26 : tTn (tp (k1 + k)) = 0 := (nI_eq (a := tTn (tp (k1 + k))) (b := 0) (by omega) (by omega)).mp c_26
                    refine lv_aload_n hx hb dX3_step_147 rfl (lv_at hl 0 rfl) ?_
                    refine r_get hC hW flX3_22 0 rfl rfl dX3_step_148 ?_
                    refine n_top (show y1 1 = (nI 0) from hz.2.1) ?_
                    refine lv_iconst (v := 2) hx hb dX3_step_151 (by decide) ?_
                    refine lv_icmp_ne (tgt := 185) hx hb dX3_step_152 (by decide) (fun c_27 => ?_) (fun c_27 => ?_)
                    · have c_27 : ¬ 0 = 2 := fun z_ => c_27 ((nI_eq (a := 0) (b := 2) (by omega) (by omega)).mpr z_)
                      refine lv_aload_n hx hb dX3_step_185 rfl (lv_at hl 0 rfl) ?_
                      refine lv_dup hx hb dX3_step_186 rfl ?_
                      refine r_get hC hW flX3_28 0 rfl rfl dX3_step_187 ?_
                      refine n_top (show y1 3 = (nI (k1 + k)) from hz.2.2.2.1) ?_
                      refine lv_iconst (v := 1) hx hb dX3_step_190 (by decide) ?_
                      refine n_iadd (v := (nI (k1 + k + 1))) hx hb dX3_step_191 (nI_add (k1 + k) 1) ?_
                      refine r_put (ws' := (wcat [TPW E vy (upd y1 3 (nI (k1 + k + 1))) tp])) hC hD hW fpX3_28 0 rfl rfl rfl (Nat.le_of_ble_eq_true rfl) rfl rfl dX3_step_192 (fun H locs hW => ?_)
                      refine lv_goto (tgt := 120) hx hb dX3_step_195 (by decide) ?_
                      exact ih120 (k + 1) (upd y1 3 (nI (k1 + k + 1))) _ _ _ (by omega) (by omega) ⟨hz.1, hz.2.1, hz.2.2.1, rfl, (hz.2.2.2.2.trans (congrArg nI (nc_o (T := 0) (by omega))))⟩ (lt_s hr c_26) hW (lv_sub hl [0, 1] rfl)
                    · have c_27 : 0 = 2 := (nI_eq (a := 0) (b := 2) (by omega) (by omega)).mp c_27
                      refine lv_aload_n hx hb dX3_step_155 rfl (lv_at hl 0 rfl) ?_
                      refine lv_sipush (v := 1000) hx hb dX3_step_156 (by decide) ?_
                      refine lv_aload_n hx hb dX3_step_159 rfl (lv_at hl 0 rfl) ?_
                      refine r_get hC hW flX3_31 0 rfl rfl dX3_step_160 ?_
                      refine n_top (show y1 4 = (nI (nc (0) tp k1 k)) from hz.2.2.2.2) ?_
                      refine lv_bipush (v := 10) hx hb dX3_step_163 (by decide) ?_
                      refine n_imul (v := (nI ((nc (0) tp k1 k) * 10))) hx hb dX3_step_165 (pk_mul (nc (0) tp k1 k) 10) ?_
                      refine lv_aload_n hx hb dX3_step_166 rfl (lv_at hl 0 rfl) ?_
                      refine r_get hC hW flX3_9 0 rfl rfl dX3_step_167 ?_
                      refine lv_aload_n hx hb dX3_step_170 rfl (lv_at hl 0 rfl) ?_
                      refine r_get hC hW flX3_28 0 rfl rfl dX3_step_171 ?_
                      refine n_top (show y1 3 = (nI (k1 + k)) from hz.2.2.2.1) ?_
                      refine r_iald hC hW 1 rfl (k1 + k) rfl (by omega) (by decide) dX3_step_174 ?_
                      refine n_iadd (v := (nI (nc (0) tp k1 k * 10) + tp (k1 + k))) hx hb dX3_step_175 rfl ?_
                      refine lv_bipush (v := 48) hx hb dX3_step_176 (by decide) ?_
                      refine n_isub (v := (nI (nc (0) tp k1 k * 10) + tp (k1 + k) - 48)) hx hb dX3_step_178 rfl ?_
                      refine r_mmin hC lkX3_38 hl.1 (by decide) (by decide) (by decide) (by decide) (Nat.le_of_ble_eq_true rfl) dX3_step_179 ?_
                      refine n_top (nc_min (T := 0) (by omega) (tTn_2.mp (by omega))) ?_
                      refine r_put (ws' := (wcat [TPW E vy (upd y1 4 (nI (nc (0) tp k1 (k + 1)))) tp])) hC hD hW fpX3_31 0 rfl rfl rfl (Nat.le_of_ble_eq_true rfl) rfl rfl dX3_step_182 (fun H locs hW => ?_)
                      refine lv_aload_n hx hb dX3_step_185 rfl (lv_at hl 0 rfl) ?_
                      refine lv_dup hx hb dX3_step_186 rfl ?_
                      refine r_get hC hW flX3_28 0 rfl rfl dX3_step_187 ?_
                      refine n_top (show (upd y1 4 (nI (nc (0) tp k1 (k + 1)))) 3 = (nI (k1 + k)) from hz.2.2.2.1) ?_
                      refine lv_iconst (v := 1) hx hb dX3_step_190 (by decide) ?_
                      refine n_iadd (v := (nI (k1 + k + 1))) hx hb dX3_step_191 (nI_add (k1 + k) 1) ?_
                      refine r_put (ws' := (wcat [TPW E vy (upd (upd y1 4 (nI (nc (0) tp k1 (k + 1)))) 3 (nI (k1 + k + 1))) tp])) hC hD hW fpX3_28 0 rfl rfl rfl (Nat.le_of_ble_eq_true rfl) rfl rfl dX3_step_192 (fun H locs hW => ?_)
                      refine lv_goto (tgt := 120) hx hb dX3_step_195 (by decide) ?_
                      exact ih120 (k + 1) (upd (upd y1 4 (nI (nc (0) tp k1 (k + 1)))) 3 (nI (k1 + k + 1))) _ _ _ (by omega) (by omega) ⟨hz.1, hz.2.1, hz.2.2.1, rfl, rfl⟩ (lt_s hr c_26) hW (lv_sub hl [0, 1] rfl)
            exact L120 (tl - (k1 + 0) + 1) 0 (upd (upd (upd (upd y 2 (nI k1)) 3 (nI k1)) 4 0) 1 0) _ _ _ (Nat.lt_succ_self _) (by omega) ⟨htl, rfl, rfl, rfl, (show (0 : Int32) = nI (nc (0) tp k1 0) by unfold nc; split <;> rfl)⟩ lt_0 hW (lv_sub hl [1, 0] rfl)
          · have c_23 : ¬ tl ≤ k1 := fun z_ => c_23 ((nI_leI (a := tl) (b := k1) (by omega) (by omega)).mpr z_)
            refine lv_aload_n hx hb dX3_step_71 rfl (lv_at hl 0 rfl) ?_
            refine r_get hC hW flX3_9 0 rfl rfl dX3_step_72 ?_
            refine lv_aload_n hx hb dX3_step_75 rfl (lv_at hl 0 rfl) ?_
            refine r_get hC hW flX3_25 0 rfl rfl dX3_step_76 ?_
            refine n_top (show (upd (upd (upd y 2 (nI k1)) 3 (nI k1)) 4 0) 2 = (nI k1) from rfl) ?_
            refine r_iald hC hW 1 rfl k1 rfl (by omega) (by decide) dX3_step_79 ?_
            refine r_callSi hC hD hW hA lkX3_34 (c_X3_tokenOf l E (tp k1)) ⟨by decide, by decide, by decide, by decide⟩ rfl hl.1 rfl rfl (Nat.le_of_ble_eq_true rfl) dX3_step_80 (fun r_28 _ H locs hr_28 hW => ?_)
            have hW : Wd E A s.heap (wcat [TPW E vy (upd (upd (upd y 2 (nI k1)) 3 (nI k1)) 4 0) tp]) H locs := hW
            have hr_28 : r_28 = (nI (tTn (tp k1))) := hr_28
            subst hr_28
            refine lv_goto (tgt := 87) hx hb dX3_step_83 (by decide) ?_
            refine r_put (ws' := (wcat [TPW E vy (upd (upd (upd (upd y 2 (nI k1)) 3 (nI k1)) 4 0) 1 (nI (tTn (tp k1)))) tp])) hC hD hW fpX3_22 0 rfl rfl rfl (Nat.le_of_ble_eq_true rfl) rfl rfl dX3_step_87 (fun H locs hW => ?_)
            refine lv_aload_n hx hb dX3_step_90 rfl (lv_at hl 0 rfl) ?_
            refine r_get hC hW flX3_22 0 rfl rfl dX3_step_91 ?_
            refine n_top (show (upd (upd (upd (upd y 2 (nI k1)) 3 (nI k1)) 4 0) 1 (nI (tTn (tp k1)))) 1 = (nI (tTn (tp k1))) from rfl) ?_
            refine lv_iconst (v := 3) hx hb dX3_step_94 (by decide) ?_
            refine lv_icmp_eq (tgt := 106) hx hb dX3_step_95 (by decide) (fun c_29 => ?_) (fun c_29 => ?_)
            · have c_29 : tTn (tp k1) = 3 := (nI_eq (a := tTn (tp k1)) (b := 3) (by omega) (by omega)).mp c_29
              refine lv_aload_n hx hb dX3_step_106 rfl (lv_at hl 0 rfl) ?_
              refine r_get hC hW flX3_25 0 rfl rfl dX3_step_107 ?_
              refine n_top (show (upd (upd (upd (upd y 2 (nI k1)) 3 (nI k1)) 4 0) 1 (nI (tTn (tp k1)))) 2 = (nI k1) from rfl) ?_
              refine lv_iconst (v := 1) hx hb dX3_step_110 (by decide) ?_
              refine n_iadd (v := (nI (k1 + 1))) hx hb dX3_step_111 (nI_add k1 1) ?_
              refine lv_goto (tgt := 119) hx hb dX3_step_112 (by decide) ?_
              refine lv_istore_n (lv' := [(1, .int (nI (k1 + 1))), (0, .ref (vy 0))]) hx hb dX3_step_119 rfl hl (by decide) rfl (fun ls hl => ?_)
              have L120 : ∀ (n_ : Nat) (k : Nat) (y1 : (Nat → Int32)) (H : Heap) (locs : List Loc) (ls : Array Slot), k1 + 1 - (k1 + k) < n_ → k1 + k ≤ k1 + 1 → (y1 0 = nI tl ∧ y1 1 = nI (tTn (tp k1)) ∧ y1 2 = nI k1 ∧ y1 3 = nI (k1 + k) ∧ y1 4 = nI (nc (tTn (tp k1)) tp k1 k)) → (∀ q_, q_ < k → tTn (tp (k1 + q_)) = tTn (tp k1)) → Wd E A s.heap (wcat [TPW E vy y1 tp]) H locs → lv_has ls 2 [(0, .ref (vy 0)), (1, .int (nI (k1 + 1)))] → W p l e R s m args below meth c H locs 0 0 Q (F0 m 120 ls []) := by
                intro n_
                induction n_ with
                | zero => intro k y1 H locs ls hm; exact absurd hm (Nat.not_lt_zero _)
                | succ n_ ih120 =>
                  intro k y1 H locs ls hm hk hz hr hW hl
                  refine lv_aload_n hx hb dX3_step_120 rfl (lv_at hl 0 rfl) ?_
                  refine r_get hC hW flX3_28 0 rfl rfl dX3_step_121 ?_
                  refine n_top (show y1 3 = (nI (k1 + k)) from hz.2.2.2.1) ?_
                  refine lv_iload_n hx hb dX3_step_124 rfl (lv_at hl 1 rfl) ?_
                  refine lv_icmp_ge (tgt := 198) hx hb dX3_step_125 (by decide) (fun c_30 => ?_) (fun c_30 => ?_)
                  · have c_30 : k1 + 1 ≤ k1 + k := (nI_leI (a := k1 + 1) (b := k1 + k) (by omega) (by omega)).mp c_30
                    exact r_vret hC hQ hD hW y1 (by rw [hsk]; exact YT_of (T := tTn (tp k1)) (L := k1 + 1) (k := k) (tKd_in (by omega)) (by omega) (by omega) (by omega) (by omega) hr (Or.inl (by omega)) hz.1 hz.2.1 hz.2.2.1 hz.2.2.2.1 hz.2.2.2.2) rfl rfl dX3_step_198
                  · have c_30 : ¬ k1 + 1 ≤ k1 + k := fun z_ => c_30 ((nI_leI (a := k1 + 1) (b := k1 + k) (by omega) (by omega)).mpr z_)
                    refine lv_aload_n hx hb dX3_step_128 rfl (lv_at hl 0 rfl) ?_
                    refine r_get hC hW flX3_9 0 rfl rfl dX3_step_129 ?_
                    refine lv_aload_n hx hb dX3_step_132 rfl (lv_at hl 0 rfl) ?_
                    refine r_get hC hW flX3_28 0 rfl rfl dX3_step_133 ?_
                    refine n_top (show y1 3 = (nI (k1 + k)) from hz.2.2.2.1) ?_
                    refine r_iald hC hW 1 rfl (k1 + k) rfl (by omega) (by decide) dX3_step_136 ?_
                    have htk := tTn_le (tp (k1 + k))
                    refine r_callSi hC hD hW hA lkX3_34 (c_X3_tokenOf l E (tp (k1 + k))) ⟨by decide, by decide, by decide, by decide⟩ rfl hl.1 rfl rfl (Nat.le_of_ble_eq_true rfl) dX3_step_137 (fun r_31 _ H locs hr_31 hW => ?_)
                    have hW : Wd E A s.heap (wcat [TPW E vy y1 tp]) H locs := hW
                    have hr_31 : r_31 = (nI (tTn (tp (k1 + k)))) := hr_31
                    subst hr_31
                    refine lv_aload_n hx hb dX3_step_140 rfl (lv_at hl 0 rfl) ?_
                    refine r_get hC hW flX3_22 0 rfl rfl dX3_step_141 ?_
                    refine n_top (show y1 1 = (nI (tTn (tp k1))) from hz.2.1) ?_
                    refine lv_icmp_ne (tgt := 198) hx hb dX3_step_144 (by decide) (fun c_32 => ?_) (fun c_32 => ?_)
                    · have c_32 : ¬ tTn (tp (k1 + k)) = tTn (tp k1) := fun z_ => c_32 ((nI_eq (a := tTn (tp (k1 + k))) (b := tTn (tp k1)) (by omega) (by omega)).mpr z_)
                      exact r_vret hC hQ hD hW y1 (by rw [hsk]; exact YT_of (T := tTn (tp k1)) (L := k1 + 1) (k := k) (tKd_in (by omega)) (by omega) (by omega) (by omega) (by omega) hr (Or.inr c_32) hz.1 hz.2.1 hz.2.2.1 hz.2.2.2.1 hz.2.2.2.2) rfl rfl dX3_step_198
                    · have c_32 : tTn (tp (k1 + k)) = tTn (tp k1) := (nI_eq (a := tTn (tp (k1 + k))) (b := tTn (tp k1)) (by omega) (by omega)).mp c_32
                      refine lv_aload_n hx hb dX3_step_147 rfl (lv_at hl 0 rfl) ?_
                      refine r_get hC hW flX3_22 0 rfl rfl dX3_step_148 ?_
                      refine n_top (show y1 1 = (nI (tTn (tp k1))) from hz.2.1) ?_
                      refine lv_iconst (v := 2) hx hb dX3_step_151 (by decide) ?_
                      refine lv_icmp_ne (tgt := 185) hx hb dX3_step_152 (by decide) (fun c_33 => ?_) (fun c_33 => ?_)
                      · have c_33 : ¬ tTn (tp k1) = 2 := fun z_ => c_33 ((nI_eq (a := tTn (tp k1)) (b := 2) (by omega) (by omega)).mpr z_)
                        refine lv_aload_n hx hb dX3_step_185 rfl (lv_at hl 0 rfl) ?_
                        refine lv_dup hx hb dX3_step_186 rfl ?_
                        refine r_get hC hW flX3_28 0 rfl rfl dX3_step_187 ?_
                        refine n_top (show y1 3 = (nI (k1 + k)) from hz.2.2.2.1) ?_
                        refine lv_iconst (v := 1) hx hb dX3_step_190 (by decide) ?_
                        refine n_iadd (v := (nI (k1 + k + 1))) hx hb dX3_step_191 (nI_add (k1 + k) 1) ?_
                        refine r_put (ws' := (wcat [TPW E vy (upd y1 3 (nI (k1 + k + 1))) tp])) hC hD hW fpX3_28 0 rfl rfl rfl (Nat.le_of_ble_eq_true rfl) rfl rfl dX3_step_192 (fun H locs hW => ?_)
                        refine lv_goto (tgt := 120) hx hb dX3_step_195 (by decide) ?_
                        exact ih120 (k + 1) (upd y1 3 (nI (k1 + k + 1))) _ _ _ (by omega) (by omega) ⟨hz.1, hz.2.1, hz.2.2.1, rfl, (hz.2.2.2.2.trans (congrArg nI (nc_o (T := tTn (tp k1)) (by omega))))⟩ (lt_s hr c_32) hW (lv_sub hl [0, 1] rfl)
                      · have c_33 : tTn (tp k1) = 2 := (nI_eq (a := tTn (tp k1)) (b := 2) (by omega) (by omega)).mp c_33
                        refine lv_aload_n hx hb dX3_step_155 rfl (lv_at hl 0 rfl) ?_
                        refine lv_sipush (v := 1000) hx hb dX3_step_156 (by decide) ?_
                        refine lv_aload_n hx hb dX3_step_159 rfl (lv_at hl 0 rfl) ?_
                        refine r_get hC hW flX3_31 0 rfl rfl dX3_step_160 ?_
                        refine n_top (show y1 4 = (nI (nc (tTn (tp k1)) tp k1 k)) from hz.2.2.2.2) ?_
                        refine lv_bipush (v := 10) hx hb dX3_step_163 (by decide) ?_
                        refine n_imul (v := (nI ((nc (tTn (tp k1)) tp k1 k) * 10))) hx hb dX3_step_165 (pk_mul (nc (tTn (tp k1)) tp k1 k) 10) ?_
                        refine lv_aload_n hx hb dX3_step_166 rfl (lv_at hl 0 rfl) ?_
                        refine r_get hC hW flX3_9 0 rfl rfl dX3_step_167 ?_
                        refine lv_aload_n hx hb dX3_step_170 rfl (lv_at hl 0 rfl) ?_
                        refine r_get hC hW flX3_28 0 rfl rfl dX3_step_171 ?_
                        refine n_top (show y1 3 = (nI (k1 + k)) from hz.2.2.2.1) ?_
                        refine r_iald hC hW 1 rfl (k1 + k) rfl (by omega) (by decide) dX3_step_174 ?_
                        refine n_iadd (v := (nI (nc (tTn (tp k1)) tp k1 k * 10) + tp (k1 + k))) hx hb dX3_step_175 rfl ?_
                        refine lv_bipush (v := 48) hx hb dX3_step_176 (by decide) ?_
                        refine n_isub (v := (nI (nc (tTn (tp k1)) tp k1 k * 10) + tp (k1 + k) - 48)) hx hb dX3_step_178 rfl ?_
                        refine r_mmin hC lkX3_38 hl.1 (by decide) (by decide) (by decide) (by decide) (Nat.le_of_ble_eq_true rfl) dX3_step_179 ?_
                        refine n_top (nc_min (T := tTn (tp k1)) (by omega) (tTn_2.mp (by omega))) ?_
                        refine r_put (ws' := (wcat [TPW E vy (upd y1 4 (nI (nc (tTn (tp k1)) tp k1 (k + 1)))) tp])) hC hD hW fpX3_31 0 rfl rfl rfl (Nat.le_of_ble_eq_true rfl) rfl rfl dX3_step_182 (fun H locs hW => ?_)
                        refine lv_aload_n hx hb dX3_step_185 rfl (lv_at hl 0 rfl) ?_
                        refine lv_dup hx hb dX3_step_186 rfl ?_
                        refine r_get hC hW flX3_28 0 rfl rfl dX3_step_187 ?_
                        refine n_top (show (upd y1 4 (nI (nc (tTn (tp k1)) tp k1 (k + 1)))) 3 = (nI (k1 + k)) from hz.2.2.2.1) ?_
                        refine lv_iconst (v := 1) hx hb dX3_step_190 (by decide) ?_
                        refine n_iadd (v := (nI (k1 + k + 1))) hx hb dX3_step_191 (nI_add (k1 + k) 1) ?_
                        refine r_put (ws' := (wcat [TPW E vy (upd (upd y1 4 (nI (nc (tTn (tp k1)) tp k1 (k + 1)))) 3 (nI (k1 + k + 1))) tp])) hC hD hW fpX3_28 0 rfl rfl rfl (Nat.le_of_ble_eq_true rfl) rfl rfl dX3_step_192 (fun H locs hW => ?_)
                        refine lv_goto (tgt := 120) hx hb dX3_step_195 (by decide) ?_
                        exact ih120 (k + 1) (upd (upd y1 4 (nI (nc (tTn (tp k1)) tp k1 (k + 1)))) 3 (nI (k1 + k + 1))) _ _ _ (by omega) (by omega) ⟨hz.1, hz.2.1, hz.2.2.1, rfl, rfl⟩ (lt_s hr c_32) hW (lv_sub hl [0, 1] rfl)
              exact L120 (k1 + 1 - (k1 + 0) + 1) 0 (upd (upd (upd (upd y 2 (nI k1)) 3 (nI k1)) 4 0) 1 (nI (tTn (tp k1)))) _ _ _ (Nat.lt_succ_self _) (by omega) ⟨htl, rfl, rfl, rfl, (show (0 : Int32) = nI (nc (tTn (tp k1)) tp k1 0) by unfold nc; split <;> rfl)⟩ lt_0 hW (lv_sub hl [1, 0] rfl)
            · have c_29 : ¬ tTn (tp k1) = 3 := fun z_ => c_29 ((nI_eq (a := tTn (tp k1)) (b := 3) (by omega) (by omega)).mpr z_)
              refine lv_aload_n hx hb dX3_step_98 rfl (lv_at hl 0 rfl) ?_
              refine r_get hC hW flX3_22 0 rfl rfl dX3_step_99 ?_
              refine n_top (show (upd (upd (upd (upd y 2 (nI k1)) 3 (nI k1)) 4 0) 1 (nI (tTn (tp k1)))) 1 = (nI (tTn (tp k1))) from rfl) ?_
              refine lv_iconst (v := 4) hx hb dX3_step_102 (by decide) ?_
              refine lv_icmp_ne (tgt := 115) hx hb dX3_step_103 (by decide) (fun c_34 => ?_) (fun c_34 => ?_)
              · have c_34 : ¬ tTn (tp k1) = 4 := fun z_ => c_34 ((nI_eq (a := tTn (tp k1)) (b := 4) (by omega) (by omega)).mpr z_)
                refine lv_aload_n hx hb dX3_step_115 rfl (lv_at hl 0 rfl) ?_
                refine r_get hC hW flX3_15 0 rfl rfl dX3_step_116 ?_
                refine n_top (show (upd (upd (upd (upd y 2 (nI k1)) 3 (nI k1)) 4 0) 1 (nI (tTn (tp k1)))) 0 = (nI tl) from htl) ?_
                refine lv_istore_n (lv' := [(1, .int (nI tl)), (0, .ref (vy 0))]) hx hb dX3_step_119 rfl hl (by decide) rfl (fun ls hl => ?_)
                have L120 : ∀ (n_ : Nat) (k : Nat) (y1 : (Nat → Int32)) (H : Heap) (locs : List Loc) (ls : Array Slot), tl - (k1 + k) < n_ → k1 + k ≤ tl → (y1 0 = nI tl ∧ y1 1 = nI (tTn (tp k1)) ∧ y1 2 = nI k1 ∧ y1 3 = nI (k1 + k) ∧ y1 4 = nI (nc (tTn (tp k1)) tp k1 k)) → (∀ q_, q_ < k → tTn (tp (k1 + q_)) = tTn (tp k1)) → Wd E A s.heap (wcat [TPW E vy y1 tp]) H locs → lv_has ls 2 [(0, .ref (vy 0)), (1, .int (nI tl))] → W p l e R s m args below meth c H locs 0 0 Q (F0 m 120 ls []) := by
                  intro n_
                  induction n_ with
                  | zero => intro k y1 H locs ls hm; exact absurd hm (Nat.not_lt_zero _)
                  | succ n_ ih120 =>
                    intro k y1 H locs ls hm hk hz hr hW hl
                    refine lv_aload_n hx hb dX3_step_120 rfl (lv_at hl 0 rfl) ?_
                    refine r_get hC hW flX3_28 0 rfl rfl dX3_step_121 ?_
                    refine n_top (show y1 3 = (nI (k1 + k)) from hz.2.2.2.1) ?_
                    refine lv_iload_n hx hb dX3_step_124 rfl (lv_at hl 1 rfl) ?_
                    refine lv_icmp_ge (tgt := 198) hx hb dX3_step_125 (by decide) (fun c_35 => ?_) (fun c_35 => ?_)
                    · have c_35 : tl ≤ k1 + k := (nI_leI (a := tl) (b := k1 + k) (by omega) (by omega)).mp c_35
                      exact r_vret hC hQ hD hW y1 (by rw [hsk]; exact YT_of (T := tTn (tp k1)) (L := tl) (k := k) (tKd_in (by omega)) (by omega) (by omega) (by omega) (by omega) hr (Or.inl (by omega)) hz.1 hz.2.1 hz.2.2.1 hz.2.2.2.1 hz.2.2.2.2) rfl rfl dX3_step_198
                    · have c_35 : ¬ tl ≤ k1 + k := fun z_ => c_35 ((nI_leI (a := tl) (b := k1 + k) (by omega) (by omega)).mpr z_)
                      refine lv_aload_n hx hb dX3_step_128 rfl (lv_at hl 0 rfl) ?_
                      refine r_get hC hW flX3_9 0 rfl rfl dX3_step_129 ?_
                      refine lv_aload_n hx hb dX3_step_132 rfl (lv_at hl 0 rfl) ?_
                      refine r_get hC hW flX3_28 0 rfl rfl dX3_step_133 ?_
                      refine n_top (show y1 3 = (nI (k1 + k)) from hz.2.2.2.1) ?_
                      refine r_iald hC hW 1 rfl (k1 + k) rfl (by omega) (by decide) dX3_step_136 ?_
                      have htk := tTn_le (tp (k1 + k))
                      refine r_callSi hC hD hW hA lkX3_34 (c_X3_tokenOf l E (tp (k1 + k))) ⟨by decide, by decide, by decide, by decide⟩ rfl hl.1 rfl rfl (Nat.le_of_ble_eq_true rfl) dX3_step_137 (fun r_36 _ H locs hr_36 hW => ?_)
                      have hW : Wd E A s.heap (wcat [TPW E vy y1 tp]) H locs := hW
                      have hr_36 : r_36 = (nI (tTn (tp (k1 + k)))) := hr_36
                      subst hr_36
                      refine lv_aload_n hx hb dX3_step_140 rfl (lv_at hl 0 rfl) ?_
                      refine r_get hC hW flX3_22 0 rfl rfl dX3_step_141 ?_
                      refine n_top (show y1 1 = (nI (tTn (tp k1))) from hz.2.1) ?_
                      refine lv_icmp_ne (tgt := 198) hx hb dX3_step_144 (by decide) (fun c_37 => ?_) (fun c_37 => ?_)
                      · have c_37 : ¬ tTn (tp (k1 + k)) = tTn (tp k1) := fun z_ => c_37 ((nI_eq (a := tTn (tp (k1 + k))) (b := tTn (tp k1)) (by omega) (by omega)).mpr z_)
                        exact r_vret hC hQ hD hW y1 (by rw [hsk]; exact YT_of (T := tTn (tp k1)) (L := tl) (k := k) (tKd_in (by omega)) (by omega) (by omega) (by omega) (by omega) hr (Or.inr c_37) hz.1 hz.2.1 hz.2.2.1 hz.2.2.2.1 hz.2.2.2.2) rfl rfl dX3_step_198
                      · have c_37 : tTn (tp (k1 + k)) = tTn (tp k1) := (nI_eq (a := tTn (tp (k1 + k))) (b := tTn (tp k1)) (by omega) (by omega)).mp c_37
                        refine lv_aload_n hx hb dX3_step_147 rfl (lv_at hl 0 rfl) ?_
                        refine r_get hC hW flX3_22 0 rfl rfl dX3_step_148 ?_
                        refine n_top (show y1 1 = (nI (tTn (tp k1))) from hz.2.1) ?_
                        refine lv_iconst (v := 2) hx hb dX3_step_151 (by decide) ?_
                        refine lv_icmp_ne (tgt := 185) hx hb dX3_step_152 (by decide) (fun c_38 => ?_) (fun c_38 => ?_)
                        · have c_38 : ¬ tTn (tp k1) = 2 := fun z_ => c_38 ((nI_eq (a := tTn (tp k1)) (b := 2) (by omega) (by omega)).mpr z_)
                          refine lv_aload_n hx hb dX3_step_185 rfl (lv_at hl 0 rfl) ?_
                          refine lv_dup hx hb dX3_step_186 rfl ?_
                          refine r_get hC hW flX3_28 0 rfl rfl dX3_step_187 ?_
                          refine n_top (show y1 3 = (nI (k1 + k)) from hz.2.2.2.1) ?_
                          refine lv_iconst (v := 1) hx hb dX3_step_190 (by decide) ?_
                          refine n_iadd (v := (nI (k1 + k + 1))) hx hb dX3_step_191 (nI_add (k1 + k) 1) ?_
                          refine r_put (ws' := (wcat [TPW E vy (upd y1 3 (nI (k1 + k + 1))) tp])) hC hD hW fpX3_28 0 rfl rfl rfl (Nat.le_of_ble_eq_true rfl) rfl rfl dX3_step_192 (fun H locs hW => ?_)
                          refine lv_goto (tgt := 120) hx hb dX3_step_195 (by decide) ?_
                          exact ih120 (k + 1) (upd y1 3 (nI (k1 + k + 1))) _ _ _ (by omega) (by omega) ⟨hz.1, hz.2.1, hz.2.2.1, rfl, (hz.2.2.2.2.trans (congrArg nI (nc_o (T := tTn (tp k1)) (by omega))))⟩ (lt_s hr c_37) hW (lv_sub hl [0, 1] rfl)
                        · have c_38 : tTn (tp k1) = 2 := (nI_eq (a := tTn (tp k1)) (b := 2) (by omega) (by omega)).mp c_38
                          refine lv_aload_n hx hb dX3_step_155 rfl (lv_at hl 0 rfl) ?_
                          refine lv_sipush (v := 1000) hx hb dX3_step_156 (by decide) ?_
                          refine lv_aload_n hx hb dX3_step_159 rfl (lv_at hl 0 rfl) ?_
                          refine r_get hC hW flX3_31 0 rfl rfl dX3_step_160 ?_
                          refine n_top (show y1 4 = (nI (nc (tTn (tp k1)) tp k1 k)) from hz.2.2.2.2) ?_
                          refine lv_bipush (v := 10) hx hb dX3_step_163 (by decide) ?_
                          refine n_imul (v := (nI ((nc (tTn (tp k1)) tp k1 k) * 10))) hx hb dX3_step_165 (pk_mul (nc (tTn (tp k1)) tp k1 k) 10) ?_
                          refine lv_aload_n hx hb dX3_step_166 rfl (lv_at hl 0 rfl) ?_
                          refine r_get hC hW flX3_9 0 rfl rfl dX3_step_167 ?_
                          refine lv_aload_n hx hb dX3_step_170 rfl (lv_at hl 0 rfl) ?_
                          refine r_get hC hW flX3_28 0 rfl rfl dX3_step_171 ?_
                          refine n_top (show y1 3 = (nI (k1 + k)) from hz.2.2.2.1) ?_
                          refine r_iald hC hW 1 rfl (k1 + k) rfl (by omega) (by decide) dX3_step_174 ?_
                          refine n_iadd (v := (nI (nc (tTn (tp k1)) tp k1 k * 10) + tp (k1 + k))) hx hb dX3_step_175 rfl ?_
                          refine lv_bipush (v := 48) hx hb dX3_step_176 (by decide) ?_
                          refine n_isub (v := (nI (nc (tTn (tp k1)) tp k1 k * 10) + tp (k1 + k) - 48)) hx hb dX3_step_178 rfl ?_
                          refine r_mmin hC lkX3_38 hl.1 (by decide) (by decide) (by decide) (by decide) (Nat.le_of_ble_eq_true rfl) dX3_step_179 ?_
                          refine n_top (nc_min (T := tTn (tp k1)) (by omega) (tTn_2.mp (by omega))) ?_
                          refine r_put (ws' := (wcat [TPW E vy (upd y1 4 (nI (nc (tTn (tp k1)) tp k1 (k + 1)))) tp])) hC hD hW fpX3_31 0 rfl rfl rfl (Nat.le_of_ble_eq_true rfl) rfl rfl dX3_step_182 (fun H locs hW => ?_)
                          refine lv_aload_n hx hb dX3_step_185 rfl (lv_at hl 0 rfl) ?_
                          refine lv_dup hx hb dX3_step_186 rfl ?_
                          refine r_get hC hW flX3_28 0 rfl rfl dX3_step_187 ?_
                          refine n_top (show (upd y1 4 (nI (nc (tTn (tp k1)) tp k1 (k + 1)))) 3 = (nI (k1 + k)) from hz.2.2.2.1) ?_
                          refine lv_iconst (v := 1) hx hb dX3_step_190 (by decide) ?_
                          refine n_iadd (v := (nI (k1 + k + 1))) hx hb dX3_step_191 (nI_add (k1 + k) 1) ?_
                          refine r_put (ws' := (wcat [TPW E vy (upd (upd y1 4 (nI (nc (tTn (tp k1)) tp k1 (k + 1)))) 3 (nI (k1 + k + 1))) tp])) hC hD hW fpX3_28 0 rfl rfl rfl (Nat.le_of_ble_eq_true rfl) rfl rfl dX3_step_192 (fun H locs hW => ?_)
                          refine lv_goto (tgt := 120) hx hb dX3_step_195 (by decide) ?_
                          exact ih120 (k + 1) (upd (upd y1 4 (nI (nc (tTn (tp k1)) tp k1 (k + 1)))) 3 (nI (k1 + k + 1))) _ _ _ (by omega) (by omega) ⟨hz.1, hz.2.1, hz.2.2.1, rfl, rfl⟩ (lt_s hr c_37) hW (lv_sub hl [0, 1] rfl)
                exact L120 (tl - (k1 + 0) + 1) 0 (upd (upd (upd (upd y 2 (nI k1)) 3 (nI k1)) 4 0) 1 (nI (tTn (tp k1)))) _ _ _ (Nat.lt_succ_self _) (by omega) ⟨htl, rfl, rfl, rfl, (show (0 : Int32) = nI (nc (tTn (tp k1)) tp k1 0) by unfold nc; split <;> rfl)⟩ lt_0 hW (lv_sub hl [1, 0] rfl)
              · have c_34 : tTn (tp k1) = 4 := (nI_eq (a := tTn (tp k1)) (b := 4) (by omega) (by omega)).mp c_34
                refine lv_aload_n hx hb dX3_step_106 rfl (lv_at hl 0 rfl) ?_
                refine r_get hC hW flX3_25 0 rfl rfl dX3_step_107 ?_
                refine n_top (show (upd (upd (upd (upd y 2 (nI k1)) 3 (nI k1)) 4 0) 1 (nI (tTn (tp k1)))) 2 = (nI k1) from rfl) ?_
                refine lv_iconst (v := 1) hx hb dX3_step_110 (by decide) ?_
                refine n_iadd (v := (nI (k1 + 1))) hx hb dX3_step_111 (nI_add k1 1) ?_
                refine lv_goto (tgt := 119) hx hb dX3_step_112 (by decide) ?_
                refine lv_istore_n (lv' := [(1, .int (nI (k1 + 1))), (0, .ref (vy 0))]) hx hb dX3_step_119 rfl hl (by decide) rfl (fun ls hl => ?_)
                have L120 : ∀ (n_ : Nat) (k : Nat) (y1 : (Nat → Int32)) (H : Heap) (locs : List Loc) (ls : Array Slot), k1 + 1 - (k1 + k) < n_ → k1 + k ≤ k1 + 1 → (y1 0 = nI tl ∧ y1 1 = nI (tTn (tp k1)) ∧ y1 2 = nI k1 ∧ y1 3 = nI (k1 + k) ∧ y1 4 = nI (nc (tTn (tp k1)) tp k1 k)) → (∀ q_, q_ < k → tTn (tp (k1 + q_)) = tTn (tp k1)) → Wd E A s.heap (wcat [TPW E vy y1 tp]) H locs → lv_has ls 2 [(0, .ref (vy 0)), (1, .int (nI (k1 + 1)))] → W p l e R s m args below meth c H locs 0 0 Q (F0 m 120 ls []) := by
                  intro n_
                  induction n_ with
                  | zero => intro k y1 H locs ls hm; exact absurd hm (Nat.not_lt_zero _)
                  | succ n_ ih120 =>
                    intro k y1 H locs ls hm hk hz hr hW hl
                    refine lv_aload_n hx hb dX3_step_120 rfl (lv_at hl 0 rfl) ?_
                    refine r_get hC hW flX3_28 0 rfl rfl dX3_step_121 ?_
                    refine n_top (show y1 3 = (nI (k1 + k)) from hz.2.2.2.1) ?_
                    refine lv_iload_n hx hb dX3_step_124 rfl (lv_at hl 1 rfl) ?_
                    refine lv_icmp_ge (tgt := 198) hx hb dX3_step_125 (by decide) (fun c_39 => ?_) (fun c_39 => ?_)
                    · have c_39 : k1 + 1 ≤ k1 + k := (nI_leI (a := k1 + 1) (b := k1 + k) (by omega) (by omega)).mp c_39
                      exact r_vret hC hQ hD hW y1 (by rw [hsk]; exact YT_of (T := tTn (tp k1)) (L := k1 + 1) (k := k) (tKd_in (by omega)) (by omega) (by omega) (by omega) (by omega) hr (Or.inl (by omega)) hz.1 hz.2.1 hz.2.2.1 hz.2.2.2.1 hz.2.2.2.2) rfl rfl dX3_step_198
                    · have c_39 : ¬ k1 + 1 ≤ k1 + k := fun z_ => c_39 ((nI_leI (a := k1 + 1) (b := k1 + k) (by omega) (by omega)).mpr z_)
                      refine lv_aload_n hx hb dX3_step_128 rfl (lv_at hl 0 rfl) ?_
                      refine r_get hC hW flX3_9 0 rfl rfl dX3_step_129 ?_
                      refine lv_aload_n hx hb dX3_step_132 rfl (lv_at hl 0 rfl) ?_
                      refine r_get hC hW flX3_28 0 rfl rfl dX3_step_133 ?_
                      refine n_top (show y1 3 = (nI (k1 + k)) from hz.2.2.2.1) ?_
                      refine r_iald hC hW 1 rfl (k1 + k) rfl (by omega) (by decide) dX3_step_136 ?_
                      have htk := tTn_le (tp (k1 + k))
                      refine r_callSi hC hD hW hA lkX3_34 (c_X3_tokenOf l E (tp (k1 + k))) ⟨by decide, by decide, by decide, by decide⟩ rfl hl.1 rfl rfl (Nat.le_of_ble_eq_true rfl) dX3_step_137 (fun r_40 _ H locs hr_40 hW => ?_)
                      have hW : Wd E A s.heap (wcat [TPW E vy y1 tp]) H locs := hW
                      have hr_40 : r_40 = (nI (tTn (tp (k1 + k)))) := hr_40
                      subst hr_40
                      refine lv_aload_n hx hb dX3_step_140 rfl (lv_at hl 0 rfl) ?_
                      refine r_get hC hW flX3_22 0 rfl rfl dX3_step_141 ?_
                      refine n_top (show y1 1 = (nI (tTn (tp k1))) from hz.2.1) ?_
                      refine lv_icmp_ne (tgt := 198) hx hb dX3_step_144 (by decide) (fun c_41 => ?_) (fun c_41 => ?_)
                      · have c_41 : ¬ tTn (tp (k1 + k)) = tTn (tp k1) := fun z_ => c_41 ((nI_eq (a := tTn (tp (k1 + k))) (b := tTn (tp k1)) (by omega) (by omega)).mpr z_)
                        exact r_vret hC hQ hD hW y1 (by rw [hsk]; exact YT_of (T := tTn (tp k1)) (L := k1 + 1) (k := k) (tKd_in (by omega)) (by omega) (by omega) (by omega) (by omega) hr (Or.inr c_41) hz.1 hz.2.1 hz.2.2.1 hz.2.2.2.1 hz.2.2.2.2) rfl rfl dX3_step_198
                      · have c_41 : tTn (tp (k1 + k)) = tTn (tp k1) := (nI_eq (a := tTn (tp (k1 + k))) (b := tTn (tp k1)) (by omega) (by omega)).mp c_41
                        refine lv_aload_n hx hb dX3_step_147 rfl (lv_at hl 0 rfl) ?_
                        refine r_get hC hW flX3_22 0 rfl rfl dX3_step_148 ?_
                        refine n_top (show y1 1 = (nI (tTn (tp k1))) from hz.2.1) ?_
                        refine lv_iconst (v := 2) hx hb dX3_step_151 (by decide) ?_
                        refine lv_icmp_ne (tgt := 185) hx hb dX3_step_152 (by decide) (fun c_42 => ?_) (fun c_42 => ?_)
                        · have c_42 : ¬ tTn (tp k1) = 2 := fun z_ => c_42 ((nI_eq (a := tTn (tp k1)) (b := 2) (by omega) (by omega)).mpr z_)
                          refine lv_aload_n hx hb dX3_step_185 rfl (lv_at hl 0 rfl) ?_
                          refine lv_dup hx hb dX3_step_186 rfl ?_
                          refine r_get hC hW flX3_28 0 rfl rfl dX3_step_187 ?_
                          refine n_top (show y1 3 = (nI (k1 + k)) from hz.2.2.2.1) ?_
                          refine lv_iconst (v := 1) hx hb dX3_step_190 (by decide) ?_
                          refine n_iadd (v := (nI (k1 + k + 1))) hx hb dX3_step_191 (nI_add (k1 + k) 1) ?_
                          refine r_put (ws' := (wcat [TPW E vy (upd y1 3 (nI (k1 + k + 1))) tp])) hC hD hW fpX3_28 0 rfl rfl rfl (Nat.le_of_ble_eq_true rfl) rfl rfl dX3_step_192 (fun H locs hW => ?_)
                          refine lv_goto (tgt := 120) hx hb dX3_step_195 (by decide) ?_
                          exact ih120 (k + 1) (upd y1 3 (nI (k1 + k + 1))) _ _ _ (by omega) (by omega) ⟨hz.1, hz.2.1, hz.2.2.1, rfl, (hz.2.2.2.2.trans (congrArg nI (nc_o (T := tTn (tp k1)) (by omega))))⟩ (lt_s hr c_41) hW (lv_sub hl [0, 1] rfl)
                        · have c_42 : tTn (tp k1) = 2 := (nI_eq (a := tTn (tp k1)) (b := 2) (by omega) (by omega)).mp c_42
                          refine lv_aload_n hx hb dX3_step_155 rfl (lv_at hl 0 rfl) ?_
                          refine lv_sipush (v := 1000) hx hb dX3_step_156 (by decide) ?_
                          refine lv_aload_n hx hb dX3_step_159 rfl (lv_at hl 0 rfl) ?_
                          refine r_get hC hW flX3_31 0 rfl rfl dX3_step_160 ?_
                          refine n_top (show y1 4 = (nI (nc (tTn (tp k1)) tp k1 k)) from hz.2.2.2.2) ?_
                          refine lv_bipush (v := 10) hx hb dX3_step_163 (by decide) ?_
                          refine n_imul (v := (nI ((nc (tTn (tp k1)) tp k1 k) * 10))) hx hb dX3_step_165 (pk_mul (nc (tTn (tp k1)) tp k1 k) 10) ?_
                          refine lv_aload_n hx hb dX3_step_166 rfl (lv_at hl 0 rfl) ?_
                          refine r_get hC hW flX3_9 0 rfl rfl dX3_step_167 ?_
                          refine lv_aload_n hx hb dX3_step_170 rfl (lv_at hl 0 rfl) ?_
                          refine r_get hC hW flX3_28 0 rfl rfl dX3_step_171 ?_
                          refine n_top (show y1 3 = (nI (k1 + k)) from hz.2.2.2.1) ?_
                          refine r_iald hC hW 1 rfl (k1 + k) rfl (by omega) (by decide) dX3_step_174 ?_
                          refine n_iadd (v := (nI (nc (tTn (tp k1)) tp k1 k * 10) + tp (k1 + k))) hx hb dX3_step_175 rfl ?_
                          refine lv_bipush (v := 48) hx hb dX3_step_176 (by decide) ?_
                          refine n_isub (v := (nI (nc (tTn (tp k1)) tp k1 k * 10) + tp (k1 + k) - 48)) hx hb dX3_step_178 rfl ?_
                          refine r_mmin hC lkX3_38 hl.1 (by decide) (by decide) (by decide) (by decide) (Nat.le_of_ble_eq_true rfl) dX3_step_179 ?_
                          refine n_top (nc_min (T := tTn (tp k1)) (by omega) (tTn_2.mp (by omega))) ?_
                          refine r_put (ws' := (wcat [TPW E vy (upd y1 4 (nI (nc (tTn (tp k1)) tp k1 (k + 1)))) tp])) hC hD hW fpX3_31 0 rfl rfl rfl (Nat.le_of_ble_eq_true rfl) rfl rfl dX3_step_182 (fun H locs hW => ?_)
                          refine lv_aload_n hx hb dX3_step_185 rfl (lv_at hl 0 rfl) ?_
                          refine lv_dup hx hb dX3_step_186 rfl ?_
                          refine r_get hC hW flX3_28 0 rfl rfl dX3_step_187 ?_
                          refine n_top (show (upd y1 4 (nI (nc (tTn (tp k1)) tp k1 (k + 1)))) 3 = (nI (k1 + k)) from hz.2.2.2.1) ?_
                          refine lv_iconst (v := 1) hx hb dX3_step_190 (by decide) ?_
                          refine n_iadd (v := (nI (k1 + k + 1))) hx hb dX3_step_191 (nI_add (k1 + k) 1) ?_
                          refine r_put (ws' := (wcat [TPW E vy (upd (upd y1 4 (nI (nc (tTn (tp k1)) tp k1 (k + 1)))) 3 (nI (k1 + k + 1))) tp])) hC hD hW fpX3_28 0 rfl rfl rfl (Nat.le_of_ble_eq_true rfl) rfl rfl dX3_step_192 (fun H locs hW => ?_)
                          refine lv_goto (tgt := 120) hx hb dX3_step_195 (by decide) ?_
                          exact ih120 (k + 1) (upd (upd y1 4 (nI (nc (tTn (tp k1)) tp k1 (k + 1)))) 3 (nI (k1 + k + 1))) _ _ _ (by omega) (by omega) ⟨hz.1, hz.2.1, hz.2.2.1, rfl, rfl⟩ (lt_s hr c_41) hW (lv_sub hl [0, 1] rfl)
                exact L120 (k1 + 1 - (k1 + 0) + 1) 0 (upd (upd (upd (upd y 2 (nI k1)) 3 (nI k1)) 4 0) 1 (nI (tTn (tp k1)))) _ _ _ (Nat.lt_succ_self _) (by omega) ⟨htl, rfl, rfl, rfl, (show (0 : Int32) = nI (nc (tTn (tp k1)) tp k1 0) by unfold nc; split <;> rfl)⟩ lt_0 hW (lv_sub hl [1, 0] rfl)
        · refine lv_aload_n hx hb dX3_step_33 rfl (lv_at hl 0 rfl) ?_
          refine lv_dup hx hb dX3_step_34 rfl ?_
          refine r_get hC hW flX3_25 0 rfl rfl dX3_step_35 ?_
          refine n_top (show (upd y 2 (nI k1)) 2 = (nI k1) from rfl) ?_
          refine lv_iconst (v := 1) hx hb dX3_step_38 (by decide) ?_
          refine n_iadd (v := (nI (k1 + 1))) hx hb dX3_step_39 (nI_add k1 1) ?_
          refine r_put (ws' := (wcat [TPW E vy (upd (upd y 2 (nI k1)) 2 (nI (k1 + 1))) tp])) hC hD hW fpX3_25 0 rfl rfl rfl (Nat.le_of_ble_eq_true rfl) rfl rfl dX3_step_40 (fun H locs hW => ?_)
          refine lv_goto (tgt := 8) hx hb dX3_step_43 (by decide) ?_
          exact ih (k1 + 1) _ _ _ (by omega) (by omega) (by omega) (hs.trans (tRn_t (q := bkP) (by rw [tBt_in (by omega)]; exact c_22) (by omega))) (by have e := hW; rw [upd_upd] at e; exact e) (lv_sub hl [0] rfl)
  exact L8 (tl - k0 + 1) k0 _ _ _ (Nat.lt_succ_self _) (by omega) (by omega) rfl hW (lv_sub hl [0] rfl)
set_option maxHeartbeats 4000000 in
set_option maxRecDepth 100000 in
theorem c_X3_isAtNumber (l : Launch) (E : Ev) (vy : Nat → Nat) (y : Nat → Int32) (tp : Nat → Int32) (tl : Nat) (bb : Nat) (hY : YT tp tl bb y) (x1 : Int32) (x2 : Int32) (hh : x2 ≤ 999) : MI l E yX3_isAtNumber cX3_isAtNumber 3 .boolean 1 22 0 0 [.ref (vy 0), .int x1, .int x2] (wcat [TPW E vy y tp]) (fun (r : Int32) (_ : Unit) => bz (tNm tp tl bb x1 x2) r) (fun (_ : Unit) => (wcat [TPW E vy y tp])) := by
  refine MI_intro RX3 (by decide) rfl (Nat.le_of_ble_eq_true rfl) ?_
  intro p e R s m args below meth c A Q hQ hC hD hW hA ls hl
  have hx := hC.1
  have hb := hC.2.1
  have hW : Wd E A s.heap (wcat [TPW E vy y tp]) s.heap [] := hW
  have hD : Dj A [vy 0, vy 1] := hD
  have hl : lv_has ls 3 [(0, .ref (vy 0)), (1, .int x1), (2, .int x2)] := hl
  refine lv_aload_n hx hb dX3_isAtNumber_0 rfl (lv_at hl 0 rfl) ?_
  refine r_get hC hW flX3_22 0 rfl rfl dX3_isAtNumber_1 ?_
  refine lv_iconst (v := 2) hx hb dX3_isAtNumber_4 (by decide) ?_
  refine lv_icmp_ne (tgt := 24) hx hb dX3_isAtNumber_5 (by decide) (fun c_1 => ?_) (fun c_1 => ?_)
  · refine lv_iconst (v := 0) hx hb dX3_isAtNumber_24 (by decide) ?_
    exact r_zret hC hQ hD hW (by decide) () (bz_f (fun z_ => c_1 ((tNm_c hY hh).mpr z_).1)) rfl rfl dX3_isAtNumber_25
  · refine lv_aload_n hx hb dX3_isAtNumber_8 rfl (lv_at hl 0 rfl) ?_
    refine r_get hC hW flX3_31 0 rfl rfl dX3_isAtNumber_9 ?_
    refine lv_iload_n hx hb dX3_isAtNumber_12 rfl (lv_at hl 1 rfl) ?_
    refine lv_iload_n hx hb dX3_isAtNumber_13 rfl (lv_at hl 2 rfl) ?_
    refine r_callNi hC hD hW hA hC.2.2.2.2.2.2.1.2.2.2 lkN_isWithin (c_X4_isWithin l E (y 4) x1 x2) ⟨by decide, by decide, by decide, by decide⟩ rfl hl.1 rfl rfl (Nat.le_of_ble_eq_true rfl) dX3_isAtNumber_14 (fun r_2 _ H locs hr_2 hW => ?_)
    have hW : Wd E A s.heap (wcat [TPW E vy y tp]) H locs := hW
    have hr_2 : bz (x1 ≤ (y 4) ∧ (y 4) ≤ x2) r_2 := hr_2
    rcases hr_2 with ⟨rfl, b_3⟩ | ⟨rfl, b_3⟩
    · refine lv_if_eq (tgt := 24) hx hb dX3_isAtNumber_17 (by decide) (fun _ => ?_) (fun c => absurd c (by decide))
      refine lv_iconst (v := 0) hx hb dX3_isAtNumber_24 (by decide) ?_
      exact r_zret hC hQ hD hW (by decide) () (bz_f (fun z_ => b_3 ((tNm_c hY hh).mpr z_).2)) rfl rfl dX3_isAtNumber_25
    · refine lv_if_eq (tgt := 24) hx hb dX3_isAtNumber_17 (by decide) (fun c => absurd c (by decide)) (fun _ => ?_)
      refine lv_iconst (v := 1) hx hb dX3_isAtNumber_20 (by decide) ?_
      refine lv_goto (tgt := 25) hx hb dX3_isAtNumber_21 (by decide) ?_
      exact r_zret hC hQ hD hW (by decide) () (bz_t ((tNm_c hY hh).mp ⟨c_1, b_3⟩)) rfl rfl dX3_isAtNumber_25
