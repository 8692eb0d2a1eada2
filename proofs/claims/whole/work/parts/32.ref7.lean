set_option maxHeartbeats 4000000 in
set_option maxRecDepth 100000 in
theorem c_X5_byteAt (l : Launch) (E : Ev) (b : Nat → Nat) (z : Nat → Int32) (w : Int64) (tp : Nat → Int32) (tl : Nat) (ht1 : tl ≤ 120) (hB : tBY tp tl) (htl : z 0 = nI tl) (k : Nat) (hk9 : k < 1000) : MI l E yX5_byteAt cX5_byteAt 2 .int 0 0 0 0 [.ref (b 0), .int (nI k)] (wcat [MJ b z w, IA E (b 5) 120 tp]) (fun (r : Int32) (_ : Unit) => r = tBt tp tl k) (fun (_ : Unit) => (wcat [MJ b z w, IA E (b 5) 120 tp])) := by
  refine MI_intro RX5 (by decide) rfl (Nat.le_of_ble_eq_true rfl) ?_
  intro p e R s m args below meth c A Q hQ hC hD hW hA ls hl
  have hx := hC.1
  have hb := hC.2.1
  have hW : Wd E A s.heap (wcat [MJ b z w, IA E (b 5) 120 tp]) s.heap [] := hW
  have hD : Dj A [b 0, b 5] := hD
  have hl : lv_has ls 2 [(0, .ref (b 0)), (1, .int (nI k))] := hl
  refine lv_iload_n hx hb dX5_byteAt_0 rfl (lv_at hl 1 rfl) ?_
  refine lv_aload_n hx hb dX5_byteAt_1 rfl (lv_at hl 0 rfl) ?_
  refine r_get hC hW flX5_167 0 rfl rfl dX5_byteAt_2 ?_
  refine n_top (show z 0 = (nI tl) from htl) ?_
  refine lv_icmp_ge (tgt := 17) hx hb dX5_byteAt_5 (by decide) (fun c_1 => ?_) (fun c_1 => ?_)
  · have c_1 : tl ≤ k := (nI_leI (a := tl) (b := k) (by omega) (by omega)).mp c_1
    refine lv_iconst (v := (-1)) hx hb dX5_byteAt_17 (by decide) ?_
    exact r_iret hC hQ hD hW () (tBt_out (by omega)).symm rfl rfl dX5_byteAt_18
  · have c_1 : ¬ tl ≤ k := fun z_ => c_1 ((nI_leI (a := tl) (b := k) (by omega) (by omega)).mpr z_)
    refine lv_aload_n hx hb dX5_byteAt_8 rfl (lv_at hl 0 rfl) ?_
    refine r_get hC hW flX5_22 0 rfl rfl dX5_byteAt_9 ?_
    refine lv_iload_n hx hb dX5_byteAt_12 rfl (lv_at hl 1 rfl) ?_
    refine r_iald hC hW 1 rfl k rfl (by omega) (by decide) dX5_byteAt_13 ?_
    refine lv_goto (tgt := 18) hx hb dX5_byteAt_14 (by decide) ?_
    exact r_iret hC hQ hD hW () (tBt_in (by omega)).symm rfl rfl dX5_byteAt_18
set_option maxHeartbeats 4000000 in
set_option maxRecDepth 100000 in
theorem c_X5_isLetter (l : Launch) (E : Ev) (x : Int32) : MI l E yX5_isLetter cX5_isLetter 1 .boolean 1 22 0 0 [.int x] [] (fun (r : Int32) (_ : Unit) => bz (ltP x) r) (fun (_ : Unit) => []) := by
  refine MI_intro RX5 (by decide) rfl (Nat.le_of_ble_eq_true rfl) ?_
  intro p e R s m args below meth c A Q hQ hC hD hW hA ls hl
  have hx := hC.1
  have hb := hC.2.1
  have hW : Wd E A s.heap [] s.heap [] := hW
  have hl : lv_has ls 1 [(0, .int x)] := hl
  refine lv_iload_n hx hb dX5_isLetter_0 rfl (lv_at hl 0 rfl) ?_
  refine lv_bipush (v := 97) hx hb dX5_isLetter_1 (by decide) ?_
  refine lv_bipush (v := 122) hx hb dX5_isLetter_3 (by decide) ?_
  refine r_callSi hC hD hW hA lkX5_45 (c_X5_in l E x 97 122) ⟨by decide, by decide, by decide, by decide⟩ rfl hl.1 rfl rfl (Nat.le_of_ble_eq_true rfl) dX5_isLetter_5 (fun r_1 _ H locs hr_1 hW => ?_)
  have hr_1 : bz (97 ≤ x ∧ x ≤ 122) r_1 := hr_1
  exact r_zret hC hQ hD hW (bz_01 hr_1) () hr_1 rfl rfl dX5_isLetter_8
set_option maxHeartbeats 4000000 in
set_option maxRecDepth 100000 in
theorem c_X5_isDigit (l : Launch) (E : Ev) (x : Int32) : MI l E yX5_isDigit cX5_isDigit 1 .boolean 1 22 0 0 [.int x] [] (fun (r : Int32) (_ : Unit) => bz (dgP x) r) (fun (_ : Unit) => []) := by
  refine MI_intro RX5 (by decide) rfl (Nat.le_of_ble_eq_true rfl) ?_
  intro p e R s m args below meth c A Q hQ hC hD hW hA ls hl
  have hx := hC.1
  have hb := hC.2.1
  have hW : Wd E A s.heap [] s.heap [] := hW
  have hl : lv_has ls 1 [(0, .int x)] := hl
  refine lv_iload_n hx hb dX5_isDigit_0 rfl (lv_at hl 0 rfl) ?_
  refine lv_bipush (v := 48) hx hb dX5_isDigit_1 (by decide) ?_
  refine lv_bipush (v := 57) hx hb dX5_isDigit_3 (by decide) ?_
  refine r_callSi hC hD hW hA lkX5_45 (c_X5_in l E x 48 57) ⟨by decide, by decide, by decide, by decide⟩ rfl hl.1 rfl rfl (Nat.le_of_ble_eq_true rfl) dX5_isDigit_5 (fun r_1 _ H locs hr_1 hW => ?_)
  have hr_1 : bz (48 ≤ x ∧ x ≤ 57) r_1 := hr_1
  exact r_zret hC hQ hD hW (bz_01 hr_1) () hr_1 rfl rfl dX5_isDigit_8
set_option maxHeartbeats 4000000 in
set_option maxRecDepth 100000 in
theorem c_X5_advance (l : Launch) (E : Ev) (b : Nat → Nat) (z : Nat → Int32) (w : Int64) (tp : Nat → Int32) (tl : Nat) (ht1 : tl ≤ 120) (hB : tBY tp tl) (htl : z 0 = nI tl) (k0 : Nat) (hk0 : k0 ≤ tl) (hp3 : z 3 = nI k0) : MV l E yX5_advance cX5_advance 2 2 42 0 0 [.ref (b 0)] (wcat [MJ b z w, IA E (b 5) 120 tp]) (fun (u : ((Nat → Int32) × Int64)) => ZT tp tl (tSk tp tl k0) u.1 u.2 ∧ u.1 5 = z 5 ∧ u.1 6 = z 6) (fun (u : ((Nat → Int32) × Int64)) => (wcat [MJ b u.1 u.2, IA E (b 5) 120 tp])) := by
  refine MV_intro RX5 (by decide) rfl (Nat.le_of_ble_eq_true rfl) ?_
  intro p e R s m args below meth c A Q hQ hC hnm hD hW hA ls hl
  have hx := hC.1
  have hb := hC.2.1
  have hW : Wd E A s.heap (wcat [MJ b z w, IA E (b 5) 120 tp]) s.heap [] := hW
  have hD : Dj A [b 0, b 5] := hD
  have hl : lv_has ls 2 [(0, .ref (b 0))] := hl
  refine lv_aload_n hx hb dX5_advance_0 rfl (lv_at hl 0 rfl) ?_
  refine lv_aload_n hx hb dX5_advance_1 rfl (lv_at hl 0 rfl) ?_
  refine r_get hC hW flX5_171 0 rfl rfl dX5_advance_2 ?_
  refine n_top (show z 3 = (nI k0) from hp3) ?_
  refine r_put (ws' := (wcat [MJ b (upd z 2 (nI k0)) w, IA E (b 5) 120 tp])) hC hD hW fpX5_174 0 rfl rfl rfl (Nat.le_of_ble_eq_true rfl) rfl rfl dX5_advance_5 (fun H locs hW => ?_)
  have L8 : ∀ (n_ : Nat) (k1 : Nat) (H : Heap) (locs : List Loc) (ls : Array Slot), tl - k1 < n_ → k0 ≤ k1 → k1 ≤ tl → tSk tp tl k0 = tSk tp tl k1 → Wd E A s.heap (wcat [MJ b (upd z 2 (nI k1)) w, IA E (b 5) 120 tp]) H locs → lv_has ls 2 [(0, .ref (b 0))] → W p l e R s m args below meth c H locs 0 0 Q (F0 m 8 ls []) := by
    intro n_
    induction n_ with
    | zero => intro k1 H locs ls hm; exact absurd hm (Nat.not_lt_zero _)
    | succ n_ ih =>
      intro k1 H locs ls hm hk1 hk2 hs hW hl
      refine lv_aload_n hx hb dX5_advance_8 rfl (lv_at hl 0 rfl) ?_
      refine lv_aload_n hx hb dX5_advance_9 rfl (lv_at hl 0 rfl) ?_
      refine r_get hC hW flX5_174 0 rfl rfl dX5_advance_10 ?_
      refine n_top (show (upd z 2 (nI k1)) 2 = (nI k1) from rfl) ?_
      refine r_callCi hC hD hW hA lkX5_177 (c_X5_byteAt l E b (upd z 2 (nI k1)) w tp tl ht1 hB htl k1 (by omega)) rfl rfl ⟨by decide, by decide, by decide, by decide⟩ [0, 1] rfl rfl rfl (fun _ => rfl) hl.1 rfl rfl (Nat.le_of_ble_eq_true rfl) dX5_advance_13 (fun r_1 _ H locs hr_1 hW => ?_)
      have hW : Wd E A s.heap (wcat [MJ b (upd z 2 (nI k1)) w, IA E (b 5) 120 tp]) H locs := hW
      have hr_1 : r_1 = (tBt tp tl k1) := hr_1
      subst hr_1
      refine lv_bipush (v := 32) hx hb dX5_advance_16 (by decide) ?_
      refine lv_icmp_ne (tgt := 34) hx hb dX5_advance_18 (by decide) (fun c_2 => ?_) (fun c_2 => ?_)
      · have hsk : tSk tp tl k0 = k1 := hs.trans (tRn_f (q := bkP) c_2)
        refine lv_aload_n hx hb dX5_advance_34 rfl (lv_at hl 0 rfl) ?_
        refine lv_aload_n hx hb dX5_advance_35 rfl (lv_at hl 0 rfl) ?_
        refine r_get hC hW flX5_174 0 rfl rfl dX5_advance_36 ?_
        refine n_top (show (upd z 2 (nI k1)) 2 = (nI k1) from rfl) ?_
        refine r_put (ws' := (wcat [MJ b (upd (upd z 2 (nI k1)) 3 (nI k1)) w, IA E (b 5) 120 tp])) hC hD hW fpX5_171 0 rfl rfl rfl (Nat.le_of_ble_eq_true rfl) rfl rfl dX5_advance_39 (fun H locs hW => ?_)
        refine lv_aload_n hx hb dX5_advance_42 rfl (lv_at hl 0 rfl) ?_
        refine lv_aload_n hx hb dX5_advance_43 rfl (lv_at hl 0 rfl) ?_
        refine r_get hC hW flX5_174 0 rfl rfl dX5_advance_44 ?_
        refine n_top (show (upd (upd z 2 (nI k1)) 3 (nI k1)) 2 = (nI k1) from rfl) ?_
        refine r_callCi hC hD hW hA lkX5_177 (c_X5_byteAt l E b (upd (upd z 2 (nI k1)) 3 (nI k1)) w tp tl ht1 hB htl k1 (by omega)) rfl rfl ⟨by decide, by decide, by decide, by decide⟩ [0, 1] rfl rfl rfl (fun _ => rfl) hl.1 rfl rfl (Nat.le_of_ble_eq_true rfl) dX5_advance_47 (fun r_3 _ H locs hr_3 hW => ?_)
        have hW : Wd E A s.heap (wcat [MJ b (upd (upd z 2 (nI k1)) 3 (nI k1)) w, IA E (b 5) 120 tp]) H locs := hW
        have hr_3 : r_3 = (tBt tp tl k1) := hr_3
        subst hr_3
        refine lv_istore_n (lv' := [(1, .int (tBt tp tl k1)), (0, .ref (b 0))]) hx hb dX5_advance_50 rfl hl (by decide) rfl (fun ls hl => ?_)
        refine lv_aload_n hx hb dX5_advance_51 rfl (lv_at hl 1 rfl) ?_
        refine lv_iload_n hx hb dX5_advance_52 rfl (lv_at hl 0 rfl) ?_
        refine lv_if_ge (tgt := 60) hx hb dX5_advance_53 (by decide) (fun c_4 => ?_) (fun c_4 => ?_)
        · refine lv_iload_n hx hb dX5_advance_60 rfl (lv_at hl 0 rfl) ?_
          refine r_callSi hC hD hW hA lkX5_180 (c_X5_isLetter l E (tBt tp tl k1)) ⟨by decide, by decide, by decide, by decide⟩ rfl hl.1 rfl rfl (Nat.le_of_ble_eq_true rfl) dX5_advance_61 (fun r_5 _ H locs hr_5 hW => ?_)
          have hW : Wd E A s.heap (wcat [MJ b (upd (upd z 2 (nI k1)) 3 (nI k1)) w, IA E (b 5) 120 tp]) H locs := hW
          have hr_5 : bz (ltP (tBt tp tl k1)) r_5 := hr_5
          rcases hr_5 with ⟨rfl, b_6⟩ | ⟨rfl, b_6⟩
          · refine lv_if_eq (tgt := 71) hx hb dX5_advance_64 (by decide) (fun _ => ?_) (fun c => absurd c (by decide))
            refine lv_iload_n hx hb dX5_advance_71 rfl (lv_at hl 0 rfl) ?_
            refine r_callSi hC hD hW hA lkX5_183 (c_X5_isDigit l E (tBt tp tl k1)) ⟨by decide, by decide, by decide, by decide⟩ rfl hl.1 rfl rfl (Nat.le_of_ble_eq_true rfl) dX5_advance_72 (fun r_7 _ H locs hr_7 hW => ?_)
            have hW : Wd E A s.heap (wcat [MJ b (upd (upd z 2 (nI k1)) 3 (nI k1)) w, IA E (b 5) 120 tp]) H locs := hW
            have hr_7 : bz (dgP (tBt tp tl k1)) r_7 := hr_7
            rcases hr_7 with ⟨rfl, b_8⟩ | ⟨rfl, b_8⟩
            · refine lv_if_eq (tgt := 82) hx hb dX5_advance_75 (by decide) (fun _ => ?_) (fun c => absurd c (by decide))
              refine lv_iconst (v := 3) hx hb dX5_advance_82 (by decide) ?_
              refine r_put (ws' := (wcat [MJ b (upd (upd (upd z 2 (nI k1)) 3 (nI k1)) 1 3) w, IA E (b 5) 120 tp])) hC hD hW fpX5_186 0 rfl rfl rfl (Nat.le_of_ble_eq_true rfl) rfl rfl dX5_advance_83 (fun H locs hW => ?_)
              refine lv_aload_n hx hb dX5_advance_86 rfl (lv_at hl 1 rfl) ?_
              refine lv_lconst (v := 0) hx hb dX5_advance_87 (by decide) ?_
              refine r_put (ws' := (wcat [MJ b (upd (upd (upd z 2 (nI k1)) 3 (nI k1)) 1 3) 0, IA E (b 5) 120 tp])) hC hD hW fpX5_189 0 rfl rfl rfl (Nat.le_of_ble_eq_true rfl) rfl rfl dX5_advance_88 (fun H locs hW => ?_)
              refine lv_aload_n hx hb dX5_advance_91 rfl (lv_at hl 1 rfl) ?_
              refine lv_aload_n hx hb dX5_advance_92 rfl (lv_at hl 1 rfl) ?_
              refine r_get hC hW flX5_186 0 rfl rfl dX5_advance_93 ?_
              refine n_top (show (upd (upd (upd z 2 (nI k1)) 3 (nI k1)) 1 3) 1 = 3 from rfl) ?_
              refine lv_iconst (v := 2) hx hb dX5_advance_96 (by decide) ?_
              refine lv_icmp_ne (tgt := 104) hx hb dX5_advance_97 (by decide) (fun _ => ?_) (fun c => absurd c (by decide))
              refine lv_iload_n hx hb dX5_advance_104 rfl (lv_at hl 0 rfl) ?_
              refine r_put (ws' := (wcat [MJ b (upd (upd (upd (upd z 2 (nI k1)) 3 (nI k1)) 1 3) 4 (tBt tp tl k1)) 0, IA E (b 5) 120 tp])) hC hD hW fpX5_193 0 rfl rfl rfl (Nat.le_of_ble_eq_true rfl) rfl rfl dX5_advance_105 (fun H locs hW => ?_)
              refine lv_aload_n hx hb dX5_advance_108 rfl (lv_at hl 1 rfl) ?_
              refine r_get hC hW flX5_186 0 rfl rfl dX5_advance_109 ?_
              refine n_top (show (upd (upd (upd (upd z 2 (nI k1)) 3 (nI k1)) 1 3) 4 (tBt tp tl k1)) 1 = 3 from rfl) ?_
              refine lv_iconst (v := 3) hx hb dX5_advance_112 (by decide) ?_
              refine lv_icmp_ne (tgt := 126) hx hb dX5_advance_113 (by decide) (fun c => absurd c (by decide)) (fun _ => ?_)
              refine lv_aload_n hx hb dX5_advance_116 rfl (lv_at hl 1 rfl) ?_
              refine lv_dup hx hb dX5_advance_117 rfl ?_
              refine r_get hC hW flX5_171 0 rfl rfl dX5_advance_118 ?_
              refine n_top (show (upd (upd (upd (upd z 2 (nI k1)) 3 (nI k1)) 1 3) 4 (tBt tp tl k1)) 3 = (nI k1) from rfl) ?_
              refine lv_iconst (v := 1) hx hb dX5_advance_121 (by decide) ?_
              refine n_iadd (v := (nI (k1 + 1))) hx hb dX5_advance_122 (nI_add k1 1) ?_
              refine r_put (ws' := (wcat [MJ b (upd (upd (upd (upd (upd z 2 (nI k1)) 3 (nI k1)) 1 3) 4 (tBt tp tl k1)) 3 (nI (k1 + 1))) 0, IA E (b 5) 120 tp])) hC hD hW fpX5_171 0 rfl rfl rfl (Nat.le_of_ble_eq_true rfl) rfl rfl dX5_advance_123 (fun H locs hW => ?_)
              refine lv_aload_n hx hb dX5_advance_126 rfl (lv_at hl 1 rfl) ?_
              refine r_get hC hW flX5_186 0 rfl rfl dX5_advance_127 ?_
              refine n_top (show (upd (upd (upd (upd (upd z 2 (nI k1)) 3 (nI k1)) 1 3) 4 (tBt tp tl k1)) 3 (nI (k1 + 1))) 1 = 3 from rfl) ?_
              refine lv_iconst (v := 1) hx hb dX5_advance_130 (by decide) ?_
              refine lv_icmp_ne (tgt := 207) hx hb dX5_advance_131 (by decide) (fun _ => ?_) (fun c => absurd c (by decide))
              refine lv_aload_n hx hb dX5_advance_207 rfl (lv_at hl 1 rfl) ?_
              refine r_get hC hW flX5_186 0 rfl rfl dX5_advance_208 ?_
              refine n_top (show (upd (upd (upd (upd (upd z 2 (nI k1)) 3 (nI k1)) 1 3) 4 (tBt tp tl k1)) 3 (nI (k1 + 1))) 1 = 3 from rfl) ?_
              refine lv_iconst (v := 2) hx hb dX5_advance_211 (by decide) ?_
              refine lv_icmp_ne (tgt := 281) hx hb dX5_advance_212 (by decide) (fun _ => ?_) (fun c => absurd c (by decide))
              exact r_vret hC hQ hD hW (upd (upd (upd (upd (upd z 2 (nI k1)) 3 (nI k1)) 1 3) 4 (tBt tp tl k1)) 3 (nI (k1 + 1)), 0) ⟨by rw [hsk]; exact (ZT_sign (Decidable.byContradiction (fun z_ => absurd ((tBt_neg hB).mpr z_) (Int32.not_lt.mpr c_4))) b_6 b_8 htl rfl rfl rfl rfl rfl), rfl, rfl⟩ rfl rfl dX5_advance_281
            · refine lv_if_eq (tgt := 82) hx hb dX5_advance_75 (by decide) (fun c => absurd c (by decide)) (fun _ => ?_)
              refine lv_iconst (v := 2) hx hb dX5_advance_78 (by decide) ?_
              refine lv_goto (tgt := 83) hx hb dX5_advance_79 (by decide) ?_
              refine r_put (ws' := (wcat [MJ b (upd (upd (upd z 2 (nI k1)) 3 (nI k1)) 1 2) w, IA E (b 5) 120 tp])) hC hD hW fpX5_186 0 rfl rfl rfl (Nat.le_of_ble_eq_true rfl) rfl rfl dX5_advance_83 (fun H locs hW => ?_)
              refine lv_aload_n hx hb dX5_advance_86 rfl (lv_at hl 1 rfl) ?_
              refine lv_lconst (v := 0) hx hb dX5_advance_87 (by decide) ?_
              refine r_put (ws' := (wcat [MJ b (upd (upd (upd z 2 (nI k1)) 3 (nI k1)) 1 2) 0, IA E (b 5) 120 tp])) hC hD hW fpX5_189 0 rfl rfl rfl (Nat.le_of_ble_eq_true rfl) rfl rfl dX5_advance_88 (fun H locs hW => ?_)
              refine lv_aload_n hx hb dX5_advance_91 rfl (lv_at hl 1 rfl) ?_
              refine lv_aload_n hx hb dX5_advance_92 rfl (lv_at hl 1 rfl) ?_
              refine r_get hC hW flX5_186 0 rfl rfl dX5_advance_93 ?_
              refine n_top (show (upd (upd (upd z 2 (nI k1)) 3 (nI k1)) 1 2) 1 = 2 from rfl) ?_
              refine lv_iconst (v := 2) hx hb dX5_advance_96 (by decide) ?_
              refine lv_icmp_ne (tgt := 104) hx hb dX5_advance_97 (by decide) (fun c => absurd c (by decide)) (fun _ => ?_)
              refine lv_iconst (v := 0) hx hb dX5_advance_100 (by decide) ?_
              refine lv_goto (tgt := 105) hx hb dX5_advance_101 (by decide) ?_
              refine r_put (ws' := (wcat [MJ b (upd (upd (upd (upd z 2 (nI k1)) 3 (nI k1)) 1 2) 4 0) 0, IA E (b 5) 120 tp])) hC hD hW fpX5_193 0 rfl rfl rfl (Nat.le_of_ble_eq_true rfl) rfl rfl dX5_advance_105 (fun H locs hW => ?_)
              refine lv_aload_n hx hb dX5_advance_108 rfl (lv_at hl 1 rfl) ?_
              refine r_get hC hW flX5_186 0 rfl rfl dX5_advance_109 ?_
              refine n_top (show (upd (upd (upd (upd z 2 (nI k1)) 3 (nI k1)) 1 2) 4 0) 1 = 2 from rfl) ?_
              refine lv_iconst (v := 3) hx hb dX5_advance_112 (by decide) ?_
              refine lv_icmp_ne (tgt := 126) hx hb dX5_advance_113 (by decide) (fun _ => ?_) (fun c => absurd c (by decide))
              refine lv_aload_n hx hb dX5_advance_126 rfl (lv_at hl 1 rfl) ?_
              refine r_get hC hW flX5_186 0 rfl rfl dX5_advance_127 ?_
              refine n_top (show (upd (upd (upd (upd z 2 (nI k1)) 3 (nI k1)) 1 2) 4 0) 1 = 2 from rfl) ?_
              refine lv_iconst (v := 1) hx hb dX5_advance_130 (by decide) ?_
              refine lv_icmp_ne (tgt := 207) hx hb dX5_advance_131 (by decide) (fun _ => ?_) (fun c => absurd c (by decide))
              have L207 : ∀ (n_ : Nat) (k : Nat) (z1 : (Nat → Int32)) (H : Heap) (locs : List Loc) (ls : Array Slot), tl - (k1 + k) < n_ → k1 + k ≤ tl → z1 0 = nI tl ∧ z1 1 = 2 ∧ z1 2 = nI k1 ∧ z1 3 = nI (k1 + k) ∧ z1 4 = nI (tNv tp k1 k) ∧ z1 5 = z 5 ∧ z1 6 = z 6 → tRn dgP tp tl k1 = tRn dgP tp tl (k1 + k) → tNv tp k1 k ≤ 10000 → Wd E A s.heap (wcat [MJ b z1 0, IA E (b 5) 120 tp]) H locs → lv_has ls 2 [(0, .ref (b 0))] → W p l e R s m args below meth c H locs 0 0 Q (F0 m 207 ls []) := by
                intro n_
                induction n_ with
                | zero => intro k z1 H locs ls hm; exact absurd hm (Nat.not_lt_zero _)
                | succ n_ ih207 =>
                  intro k z1 H locs ls hm hk hz1 hr hn hW hl
                  refine lv_aload_n hx hb dX5_advance_207 rfl (lv_at hl 0 rfl) ?_
                  refine r_get hC hW flX5_186 0 rfl rfl dX5_advance_208 ?_
                  refine n_top (show z1 1 = 2 from hz1.2.1) ?_
                  refine lv_iconst (v := 2) hx hb dX5_advance_211 (by decide) ?_
                  refine lv_icmp_ne (tgt := 281) hx hb dX5_advance_212 (by decide) (fun c => absurd c (by decide)) (fun _ => ?_)
                  refine lv_aload_n hx hb dX5_advance_215 rfl (lv_at hl 0 rfl) ?_
                  refine lv_aload_n hx hb dX5_advance_216 rfl (lv_at hl 0 rfl) ?_
                  refine r_get hC hW flX5_171 0 rfl rfl dX5_advance_217 ?_
                  refine n_top (show z1 3 = (nI (k1 + k)) from hz1.2.2.2.1) ?_
                  refine r_callCi hC hD hW hA lkX5_177 (c_X5_byteAt l E b z1 0 tp tl ht1 hB hz1.1 (k1 + k) (by omega)) rfl rfl ⟨by decide, by decide, by decide, by decide⟩ [0, 1] rfl rfl rfl (fun _ => rfl) hl.1 rfl rfl (Nat.le_of_ble_eq_true rfl) dX5_advance_220 (fun r_9 _ H locs hr_9 hW => ?_)
                  have hW : Wd E A s.heap (wcat [MJ b z1 0, IA E (b 5) 120 tp]) H locs := hW
                  have hr_9 : r_9 = (tBt tp tl (k1 + k)) := hr_9
                  subst hr_9
                  refine r_callSi hC hD hW hA lkX5_183 (c_X5_isDigit l E (tBt tp tl (k1 + k))) ⟨by decide, by decide, by decide, by decide⟩ rfl hl.1 rfl rfl (Nat.le_of_ble_eq_true rfl) dX5_advance_223 (fun r_10 _ H locs hr_10 hW => ?_)
                  have hW : Wd E A s.heap (wcat [MJ b z1 0, IA E (b 5) 120 tp]) H locs := hW
                  have hr_10 : bz (dgP (tBt tp tl (k1 + k))) r_10 := hr_10
                  rcases hr_10 with ⟨rfl, b_11⟩ | ⟨rfl, b_11⟩
                  · refine lv_if_eq (tgt := 281) hx hb dX5_advance_226 (by decide) (fun _ => ?_) (fun c => absurd c (by decide))
                    exact r_vret hC hQ hD hW (z1, 0) ⟨by rw [hsk]; exact (ZT_num b_6 b_8 hr b_11 hz1.1 hz1.2.1 hz1.2.2.1 hz1.2.2.2.1 hz1.2.2.2.2.1 rfl), hz1.2.2.2.2.2.1, hz1.2.2.2.2.2.2⟩ rfl rfl dX5_advance_281
                  · refine lv_if_eq (tgt := 281) hx hb dX5_advance_226 (by decide) (fun c => absurd c (by decide)) (fun _ => ?_)
                    have hlk := tBt_lt (q := dgP) ndg b_11
                    refine lv_aload_n hx hb dX5_advance_229 rfl (lv_at hl 0 rfl) ?_
                    refine lv_aload_n hx hb dX5_advance_230 rfl (lv_at hl 0 rfl) ?_
                    refine r_get hC hW flX5_193 0 rfl rfl dX5_advance_231 ?_
                    refine n_top (show z1 4 = (nI (tNv tp k1 k)) from hz1.2.2.2.2.1) ?_
                    refine lv_sipush (v := 999) hx hb dX5_advance_234 (by decide) ?_
                    refine lv_icmp_le (tgt := 246) hx hb dX5_advance_237 (by decide) (fun c_12 => ?_) (fun c_12 => ?_)
                    · have c_12 : tNv tp k1 k ≤ 999 := (nI_leI (a := tNv tp k1 k) (b := 999) (by omega) (by omega)).mp c_12
                      refine lv_bipush (v := 10) hx hb dX5_advance_246 (by decide) ?_
                      refine lv_aload_n hx hb dX5_advance_248 rfl (lv_at hl 0 rfl) ?_
                      refine r_get hC hW flX5_193 0 rfl rfl dX5_advance_249 ?_
                      refine n_top (show z1 4 = (nI (tNv tp k1 k)) from hz1.2.2.2.2.1) ?_
                      refine n_imul (v := (nI (10 * (tNv tp k1 k)))) hx hb dX5_advance_252 (pk_mul 10 (tNv tp k1 k)) ?_
                      refine lv_aload_n hx hb dX5_advance_253 rfl (lv_at hl 0 rfl) ?_
                      refine lv_aload_n hx hb dX5_advance_254 rfl (lv_at hl 0 rfl) ?_
                      refine r_get hC hW flX5_171 0 rfl rfl dX5_advance_255 ?_
                      refine n_top (show z1 3 = (nI (k1 + k)) from hz1.2.2.2.1) ?_
                      refine r_callCi hC hD hW hA lkX5_177 (c_X5_byteAt l E b z1 0 tp tl ht1 hB hz1.1 (k1 + k) (by omega)) rfl rfl ⟨by decide, by decide, by decide, by decide⟩ [0, 1] rfl rfl rfl (fun _ => rfl) hl.1 rfl rfl (Nat.le_of_ble_eq_true rfl) dX5_advance_258 (fun r_13 _ H locs hr_13 hW => ?_)
                      have hW : Wd E A s.heap (wcat [MJ b z1 0, IA E (b 5) 120 tp]) H locs := hW
                      have hr_13 : r_13 = (tBt tp tl (k1 + k)) := hr_13
                      subst hr_13
                      refine n_iadd (v := ((nI (10 * (tNv tp k1 k))) + (tBt tp tl (k1 + k)))) hx hb dX5_advance_261 rfl ?_
                      refine lv_bipush (v := 48) hx hb dX5_advance_262 (by decide) ?_
                      refine n_isub (v := (nI (10 * tNv tp k1 k + (ix (tp (k1 + k)) - 48)))) hx hb dX5_advance_264 (dg_add _ b_11) ?_
                      refine r_put (ws' := (wcat [MJ b (upd z1 4 (nI (10 * tNv tp k1 k + (ix (tp (k1 + k)) - 48)))) 0, IA E (b 5) 120 tp])) hC hD hW fpX5_193 0 rfl rfl rfl (Nat.le_of_ble_eq_true rfl) rfl rfl dX5_advance_265 (fun H locs hW => ?_)
                      refine lv_aload_n hx hb dX5_advance_268 rfl (lv_at hl 0 rfl) ?_
                      refine lv_dup hx hb dX5_advance_269 rfl ?_
                      refine r_get hC hW flX5_171 0 rfl rfl dX5_advance_270 ?_
                      refine n_top (show (upd z1 4 (nI (10 * tNv tp k1 k + (ix (tp (k1 + k)) - 48)))) 3 = (nI (k1 + k)) from hz1.2.2.2.1) ?_
                      refine lv_iconst (v := 1) hx hb dX5_advance_273 (by decide) ?_
                      refine n_iadd (v := (nI (k1 + k + 1))) hx hb dX5_advance_274 (nI_add (k1 + k) 1) ?_
                      refine r_put (ws' := (wcat [MJ b (upd (upd z1 4 (nI (10 * tNv tp k1 k + (ix (tp (k1 + k)) - 48)))) 3 (nI (k1 + k + 1))) 0, IA E (b 5) 120 tp])) hC hD hW fpX5_171 0 rfl rfl rfl (Nat.le_of_ble_eq_true rfl) rfl rfl dX5_advance_275 (fun H locs hW => ?_)
                      refine lv_goto (tgt := 207) hx hb dX5_advance_278 (by decide) ?_
                      exact ih207 (k + 1) (upd (upd z1 4 (nI (10 * tNv tp k1 k + (ix (tp (k1 + k)) - 48)))) 3 (nI (k1 + k + 1))) _ _ _ (by omega) (by omega) ⟨hz1.1, hz1.2.1, hz1.2.2.1, rfl, (show nI (10 * tNv tp k1 k + (ix (tp (k1 + k)) - 48)) = nI (tNv tp k1 (k + 1)) by rw [tNv, if_neg (show ¬ 999 < tNv tp k1 k by omega)]), hz1.2.2.2.2.2.1, hz1.2.2.2.2.2.2⟩ (hr.trans (tRn_t (q := dgP) b_11 hlk)) (tNv_b hn b_11) hW (lv_sub hl [0] rfl)
                    · have c_12 : ¬ tNv tp k1 k ≤ 999 := fun z_ => c_12 ((nI_leI (a := tNv tp k1 k) (b := 999) (by omega) (by omega)).mpr z_)
                      refine lv_sipush (v := 10000) hx hb dX5_advance_240 (by decide) ?_
                      refine lv_goto (tgt := 265) hx hb dX5_advance_243 (by decide) ?_
                      refine r_put (ws' := (wcat [MJ b (upd z1 4 10000) 0, IA E (b 5) 120 tp])) hC hD hW fpX5_193 0 rfl rfl rfl (Nat.le_of_ble_eq_true rfl) rfl rfl dX5_advance_265 (fun H locs hW => ?_)
                      refine lv_aload_n hx hb dX5_advance_268 rfl (lv_at hl 0 rfl) ?_
                      refine lv_dup hx hb dX5_advance_269 rfl ?_
                      refine r_get hC hW flX5_171 0 rfl rfl dX5_advance_270 ?_
                      refine n_top (show (upd z1 4 10000) 3 = (nI (k1 + k)) from hz1.2.2.2.1) ?_
                      refine lv_iconst (v := 1) hx hb dX5_advance_273 (by decide) ?_
                      refine n_iadd (v := (nI (k1 + k + 1))) hx hb dX5_advance_274 (nI_add (k1 + k) 1) ?_
                      refine r_put (ws' := (wcat [MJ b (upd (upd z1 4 10000) 3 (nI (k1 + k + 1))) 0, IA E (b 5) 120 tp])) hC hD hW fpX5_171 0 rfl rfl rfl (Nat.le_of_ble_eq_true rfl) rfl rfl dX5_advance_275 (fun H locs hW => ?_)
                      refine lv_goto (tgt := 207) hx hb dX5_advance_278 (by decide) ?_
                      exact ih207 (k + 1) (upd (upd z1 4 10000) 3 (nI (k1 + k + 1))) _ _ _ (by omega) (by omega) ⟨hz1.1, hz1.2.1, hz1.2.2.1, rfl, (show (10000 : Int32) = nI (tNv tp k1 (k + 1)) by rw [tNv, if_pos (show 999 < tNv tp k1 k by omega)]; rfl), hz1.2.2.2.2.2.1, hz1.2.2.2.2.2.2⟩ (hr.trans (tRn_t (q := dgP) b_11 hlk)) (tNv_b hn b_11) hW (lv_sub hl [0] rfl)
              exact L207 (tl - (k1 + 0) + 1) 0 (upd (upd (upd (upd z 2 (nI k1)) 3 (nI k1)) 1 2) 4 0) _ _ _ (Nat.lt_succ_self _) (by omega) ⟨htl, rfl, rfl, rfl, rfl, rfl, rfl⟩ rfl (Nat.zero_le _) hW (lv_sub hl [1] rfl)
          · refine lv_if_eq (tgt := 71) hx hb dX5_advance_64 (by decide) (fun c => absurd c (by decide)) (fun _ => ?_)
            refine lv_iconst (v := 1) hx hb dX5_advance_67 (by decide) ?_
            refine lv_goto (tgt := 83) hx hb dX5_advance_68 (by decide) ?_
            refine r_put (ws' := (wcat [MJ b (upd (upd (upd z 2 (nI k1)) 3 (nI k1)) 1 1) w, IA E (b 5) 120 tp])) hC hD hW fpX5_186 0 rfl rfl rfl (Nat.le_of_ble_eq_true rfl) rfl rfl dX5_advance_83 (fun H locs hW => ?_)
            refine lv_aload_n hx hb dX5_advance_86 rfl (lv_at hl 1 rfl) ?_
            refine lv_lconst (v := 0) hx hb dX5_advance_87 (by decide) ?_
            refine r_put (ws' := (wcat [MJ b (upd (upd (upd z 2 (nI k1)) 3 (nI k1)) 1 1) 0, IA E (b 5) 120 tp])) hC hD hW fpX5_189 0 rfl rfl rfl (Nat.le_of_ble_eq_true rfl) rfl rfl dX5_advance_88 (fun H locs hW => ?_)
            refine lv_aload_n hx hb dX5_advance_91 rfl (lv_at hl 1 rfl) ?_
            refine lv_aload_n hx hb dX5_advance_92 rfl (lv_at hl 1 rfl) ?_
            refine r_get hC hW flX5_186 0 rfl rfl dX5_advance_93 ?_
            refine n_top (show (upd (upd (upd z 2 (nI k1)) 3 (nI k1)) 1 1) 1 = 1 from rfl) ?_
            refine lv_iconst (v := 2) hx hb dX5_advance_96 (by decide) ?_
            refine lv_icmp_ne (tgt := 104) hx hb dX5_advance_97 (by decide) (fun _ => ?_) (fun c => absurd c (by decide))
            refine lv_iload_n hx hb dX5_advance_104 rfl (lv_at hl 0 rfl) ?_
            refine r_put (ws' := (wcat [MJ b (upd (upd (upd (upd z 2 (nI k1)) 3 (nI k1)) 1 1) 4 (tBt tp tl k1)) 0, IA E (b 5) 120 tp])) hC hD hW fpX5_193 0 rfl rfl rfl (Nat.le_of_ble_eq_true rfl) rfl rfl dX5_advance_105 (fun H locs hW => ?_)
            refine lv_aload_n hx hb dX5_advance_108 rfl (lv_at hl 1 rfl) ?_
            refine r_get hC hW flX5_186 0 rfl rfl dX5_advance_109 ?_
            refine n_top (show (upd (upd (upd (upd z 2 (nI k1)) 3 (nI k1)) 1 1) 4 (tBt tp tl k1)) 1 = 1 from rfl) ?_
            refine lv_iconst (v := 3) hx hb dX5_advance_112 (by decide) ?_
            refine lv_icmp_ne (tgt := 126) hx hb dX5_advance_113 (by decide) (fun _ => ?_) (fun c => absurd c (by decide))
            have L126 : ∀ (n_ : Nat) (k : Nat) (z1 : (Nat → Int32)) (H : Heap) (locs : List Loc) (ls : Array Slot), tl - (k1 + k) < n_ → k1 + k ≤ tl → z1 0 = nI tl ∧ z1 1 = 1 ∧ z1 2 = nI k1 ∧ z1 3 = nI (k1 + k) ∧ z1 4 = tBt tp tl k1 ∧ z1 5 = z 5 ∧ z1 6 = z 6 → tRn ltP tp tl k1 = tRn ltP tp tl (k1 + k) → Wd E A s.heap (wcat [MJ b z1 (tWh tp k1 k), IA E (b 5) 120 tp]) H locs → lv_has ls 2 [(0, .ref (b 0))] → W p l e R s m args below meth c H locs 0 0 Q (F0 m 126 ls []) := by
              intro n_
              induction n_ with
              | zero => intro k z1 H locs ls hm; exact absurd hm (Nat.not_lt_zero _)
              | succ n_ ih126 =>
                intro k z1 H locs ls hm hk hz1 hr hW hl
                refine lv_aload_n hx hb dX5_advance_126 rfl (lv_at hl 0 rfl) ?_
                refine r_get hC hW flX5_186 0 rfl rfl dX5_advance_127 ?_
                refine n_top (show z1 1 = 1 from hz1.2.1) ?_
                refine lv_iconst (v := 1) hx hb dX5_advance_130 (by decide) ?_
                refine lv_icmp_ne (tgt := 207) hx hb dX5_advance_131 (by decide) (fun c => absurd c (by decide)) (fun _ => ?_)
                refine lv_aload_n hx hb dX5_advance_134 rfl (lv_at hl 0 rfl) ?_
                refine lv_aload_n hx hb dX5_advance_135 rfl (lv_at hl 0 rfl) ?_
                refine r_get hC hW flX5_171 0 rfl rfl dX5_advance_136 ?_
                refine n_top (show z1 3 = (nI (k1 + k)) from hz1.2.2.2.1) ?_
                refine r_callCi hC hD hW hA lkX5_177 (c_X5_byteAt l E b z1 (tWh tp k1 k) tp tl ht1 hB hz1.1 (k1 + k) (by omega)) rfl rfl ⟨by decide, by decide, by decide, by decide⟩ [0, 1] rfl rfl rfl (fun _ => rfl) hl.1 rfl rfl (Nat.le_of_ble_eq_true rfl) dX5_advance_139 (fun r_14 _ H locs hr_14 hW => ?_)
                have hW : Wd E A s.heap (wcat [MJ b z1 (tWh tp k1 k), IA E (b 5) 120 tp]) H locs := hW
                have hr_14 : r_14 = (tBt tp tl (k1 + k)) := hr_14
                subst hr_14
                refine r_callSi hC hD hW hA lkX5_180 (c_X5_isLetter l E (tBt tp tl (k1 + k))) ⟨by decide, by decide, by decide, by decide⟩ rfl hl.1 rfl rfl (Nat.le_of_ble_eq_true rfl) dX5_advance_142 (fun r_15 _ H locs hr_15 hW => ?_)
                have hW : Wd E A s.heap (wcat [MJ b z1 (tWh tp k1 k), IA E (b 5) 120 tp]) H locs := hW
                have hr_15 : bz (ltP (tBt tp tl (k1 + k))) r_15 := hr_15
                rcases hr_15 with ⟨rfl, b_16⟩ | ⟨rfl, b_16⟩
                · refine lv_if_eq (tgt := 207) hx hb dX5_advance_145 (by decide) (fun _ => ?_) (fun c => absurd c (by decide))
                  refine lv_aload_n hx hb dX5_advance_207 rfl (lv_at hl 0 rfl) ?_
                  refine r_get hC hW flX5_186 0 rfl rfl dX5_advance_208 ?_
                  refine n_top (show z1 1 = 1 from hz1.2.1) ?_
                  refine lv_iconst (v := 2) hx hb dX5_advance_211 (by decide) ?_
                  refine lv_icmp_ne (tgt := 281) hx hb dX5_advance_212 (by decide) (fun _ => ?_) (fun c => absurd c (by decide))
                  exact r_vret hC hQ hD hW (z1, (tWh tp k1 k)) ⟨by rw [hsk]; exact (ZT_word b_6 hr b_16 hz1.1 hz1.2.1 hz1.2.2.1 hz1.2.2.2.1 hz1.2.2.2.2.1 rfl), hz1.2.2.2.2.2.1, hz1.2.2.2.2.2.2⟩ rfl rfl dX5_advance_281
                · refine lv_if_eq (tgt := 207) hx hb dX5_advance_145 (by decide) (fun c => absurd c (by decide)) (fun _ => ?_)
                  have hlk := tBt_lt (q := ltP) nlt b_16
                  refine lv_aload_n hx hb dX5_advance_148 rfl (lv_at hl 0 rfl) ?_
                  refine lv_aload_n hx hb dX5_advance_149 rfl (lv_at hl 0 rfl) ?_
                  refine r_get hC hW flX5_171 0 rfl rfl dX5_advance_150 ?_
                  refine n_top (show z1 3 = (nI (k1 + k)) from hz1.2.2.2.1) ?_
                  refine lv_aload_n hx hb dX5_advance_153 rfl (lv_at hl 0 rfl) ?_
                  refine r_get hC hW flX5_174 0 rfl rfl dX5_advance_154 ?_
                  refine n_top (show z1 2 = (nI k1) from hz1.2.2.1) ?_
                  refine n_isub (v := (nI k)) hx hb dX5_advance_157 (nI_subk k1 k) ?_
                  refine lv_bipush (v := 12) hx hb dX5_advance_158 (by decide) ?_
                  refine lv_icmp_ge (tgt := 188) hx hb dX5_advance_160 (by decide) (fun c_17 => ?_) (fun c_17 => ?_)
                  · have c_17 : 12 ≤ k := (nI_leI (a := 12) (b := k) (by omega) (by omega)).mp c_17
                    refine r_ldc2 hC clX5_200 dX5_advance_188 ?_
                    refine r_put (ws' := (wcat [MJ b z1 (-1), IA E (b 5) 120 tp])) hC hD hW fpX5_189 0 rfl rfl rfl (Nat.le_of_ble_eq_true rfl) rfl rfl dX5_advance_191 (fun H locs hW => ?_)
                    refine lv_aload_n hx hb dX5_advance_194 rfl (lv_at hl 0 rfl) ?_
                    refine lv_dup hx hb dX5_advance_195 rfl ?_
                    refine r_get hC hW flX5_171 0 rfl rfl dX5_advance_196 ?_
                    refine n_top (show z1 3 = (nI (k1 + k)) from hz1.2.2.2.1) ?_
                    refine lv_iconst (v := 1) hx hb dX5_advance_199 (by decide) ?_
                    refine n_iadd (v := (nI (k1 + k + 1))) hx hb dX5_advance_200 (nI_add (k1 + k) 1) ?_
                    refine r_put (ws' := (wcat [MJ b (upd z1 3 (nI (k1 + k + 1))) (-1), IA E (b 5) 120 tp])) hC hD hW fpX5_171 0 rfl rfl rfl (Nat.le_of_ble_eq_true rfl) rfl rfl dX5_advance_201 (fun H locs hW => ?_)
                    refine lv_goto (tgt := 126) hx hb dX5_advance_204 (by decide) ?_
                    exact ih126 (k + 1) (upd z1 3 (nI (k1 + k + 1))) _ _ _ (by omega) (by omega) ⟨hz1.1, hz1.2.1, hz1.2.2.1, rfl, hz1.2.2.2.2.1, hz1.2.2.2.2.2.1, hz1.2.2.2.2.2.2⟩ (hr.trans (tRn_t (q := ltP) b_16 hlk)) (by have e := hW; rw [show (-1 : Int64) = tWh tp k1 (k + 1) from (tWh_n (by omega))] at e; exact e) (lv_sub hl [0] rfl)
                  · have c_17 : ¬ 12 ≤ k := fun z_ => c_17 ((nI_leI (a := 12) (b := k) (by omega) (by omega)).mpr z_)
                    refine r_ldc2 hC clX5_196 dX5_advance_163 ?_
                    refine lv_aload_n hx hb dX5_advance_166 rfl (lv_at hl 0 rfl) ?_
                    refine r_get hC hW flX5_189 0 rfl rfl dX5_advance_167 ?_
                    refine lv_lmul hx hb dX5_advance_170 ?_
                    refine lv_aload_n hx hb dX5_advance_171 rfl (lv_at hl 0 rfl) ?_
                    refine lv_aload_n hx hb dX5_advance_172 rfl (lv_at hl 0 rfl) ?_
                    refine r_get hC hW flX5_171 0 rfl rfl dX5_advance_173 ?_
                    refine n_top (show z1 3 = (nI (k1 + k)) from hz1.2.2.2.1) ?_
                    refine r_callCi hC hD hW hA lkX5_177 (c_X5_byteAt l E b z1 (tWh tp k1 k) tp tl ht1 hB hz1.1 (k1 + k) (by omega)) rfl rfl ⟨by decide, by decide, by decide, by decide⟩ [0, 1] rfl rfl rfl (fun _ => rfl) hl.1 rfl rfl (Nat.le_of_ble_eq_true rfl) dX5_advance_176 (fun r_18 _ H locs hr_18 hW => ?_)
                    have hW : Wd E A s.heap (wcat [MJ b z1 (tWh tp k1 k), IA E (b 5) 120 tp]) H locs := hW
                    have hr_18 : r_18 = (tBt tp tl (k1 + k)) := hr_18
                    subst hr_18
                    refine lv_i2l (v := (((tBt tp tl (k1 + k)) : Int32).toInt64)) hx hb dX5_advance_179 rfl ?_
                    refine lv_ladd hx hb dX5_advance_180 ?_
                    refine r_ldc2 hC clX5_198 dX5_advance_181 ?_
                    refine lv_lsub hx hb dX5_advance_184 ?_
                    refine lv_goto (tgt := 191) hx hb dX5_advance_185 (by decide) ?_
                    refine r_put (ws' := (wcat [MJ b z1 (((27 * (tWh tp k1 k)) + (((tBt tp tl (k1 + k)) : Int32).toInt64)) - 96), IA E (b 5) 120 tp])) hC hD hW fpX5_189 0 rfl rfl rfl (Nat.le_of_ble_eq_true rfl) rfl rfl dX5_advance_191 (fun H locs hW => ?_)
                    refine lv_aload_n hx hb dX5_advance_194 rfl (lv_at hl 0 rfl) ?_
                    refine lv_dup hx hb dX5_advance_195 rfl ?_
                    refine r_get hC hW flX5_171 0 rfl rfl dX5_advance_196 ?_
                    refine n_top (show z1 3 = (nI (k1 + k)) from hz1.2.2.2.1) ?_
                    refine lv_iconst (v := 1) hx hb dX5_advance_199 (by decide) ?_
                    refine n_iadd (v := (nI (k1 + k + 1))) hx hb dX5_advance_200 (nI_add (k1 + k) 1) ?_
                    refine r_put (ws' := (wcat [MJ b (upd z1 3 (nI (k1 + k + 1))) (((27 * (tWh tp k1 k)) + (((tBt tp tl (k1 + k)) : Int32).toInt64)) - 96), IA E (b 5) 120 tp])) hC hD hW fpX5_171 0 rfl rfl rfl (Nat.le_of_ble_eq_true rfl) rfl rfl dX5_advance_201 (fun H locs hW => ?_)
                    refine lv_goto (tgt := 126) hx hb dX5_advance_204 (by decide) ?_
                    exact ih126 (k + 1) (upd z1 3 (nI (k1 + k + 1))) _ _ _ (by omega) (by omega) ⟨hz1.1, hz1.2.1, hz1.2.2.1, rfl, hz1.2.2.2.2.1, hz1.2.2.2.2.2.1, hz1.2.2.2.2.2.2⟩ (hr.trans (tRn_t (q := ltP) b_16 hlk)) (by have e := hW; rw [show (((27 * (tWh tp k1 k)) + (((tBt tp tl (k1 + k)) : Int32).toInt64)) - 96) = tWh tp k1 (k + 1) from (tWh_s (by omega) hlk)] at e; exact e) (lv_sub hl [0] rfl)
            exact L126 (tl - (k1 + 0) + 1) 0 (upd (upd (upd (upd z 2 (nI k1)) 3 (nI k1)) 1 1) 4 (tBt tp tl k1)) _ _ _ (Nat.lt_succ_self _) (by omega) ⟨htl, rfl, rfl, rfl, rfl, rfl, rfl⟩ rfl hW (lv_sub hl [1] rfl)
        · refine lv_iconst (v := 0) hx hb dX5_advance_56 (by decide) ?_
          refine lv_goto (tgt := 83) hx hb dX5_advance_57 (by decide) ?_
          refine r_put (ws' := (wcat [MJ b (upd (upd (upd z 2 (nI k1)) 3 (nI k1)) 1 0) w, IA E (b 5) 120 tp])) hC hD hW fpX5_186 0 rfl rfl rfl (Nat.le_of_ble_eq_true rfl) rfl rfl dX5_advance_83 (fun H locs hW => ?_)
          refine lv_aload_n hx hb dX5_advance_86 rfl (lv_at hl 1 rfl) ?_
          refine lv_lconst (v := 0) hx hb dX5_advance_87 (by decide) ?_
          refine r_put (ws' := (wcat [MJ b (upd (upd (upd z 2 (nI k1)) 3 (nI k1)) 1 0) 0, IA E (b 5) 120 tp])) hC hD hW fpX5_189 0 rfl rfl rfl (Nat.le_of_ble_eq_true rfl) rfl rfl dX5_advance_88 (fun H locs hW => ?_)
          refine lv_aload_n hx hb dX5_advance_91 rfl (lv_at hl 1 rfl) ?_
          refine lv_aload_n hx hb dX5_advance_92 rfl (lv_at hl 1 rfl) ?_
          refine r_get hC hW flX5_186 0 rfl rfl dX5_advance_93 ?_
          refine n_top (show (upd (upd (upd z 2 (nI k1)) 3 (nI k1)) 1 0) 1 = 0 from rfl) ?_
          refine lv_iconst (v := 2) hx hb dX5_advance_96 (by decide) ?_
          refine lv_icmp_ne (tgt := 104) hx hb dX5_advance_97 (by decide) (fun _ => ?_) (fun c => absurd c (by decide))
          refine lv_iload_n hx hb dX5_advance_104 rfl (lv_at hl 0 rfl) ?_
          refine r_put (ws' := (wcat [MJ b (upd (upd (upd (upd z 2 (nI k1)) 3 (nI k1)) 1 0) 4 (tBt tp tl k1)) 0, IA E (b 5) 120 tp])) hC hD hW fpX5_193 0 rfl rfl rfl (Nat.le_of_ble_eq_true rfl) rfl rfl dX5_advance_105 (fun H locs hW => ?_)
          refine lv_aload_n hx hb dX5_advance_108 rfl (lv_at hl 1 rfl) ?_
          refine r_get hC hW flX5_186 0 rfl rfl dX5_advance_109 ?_
          refine n_top (show (upd (upd (upd (upd z 2 (nI k1)) 3 (nI k1)) 1 0) 4 (tBt tp tl k1)) 1 = 0 from rfl) ?_
          refine lv_iconst (v := 3) hx hb dX5_advance_112 (by decide) ?_
          refine lv_icmp_ne (tgt := 126) hx hb dX5_advance_113 (by decide) (fun _ => ?_) (fun c => absurd c (by decide))
          refine lv_aload_n hx hb dX5_advance_126 rfl (lv_at hl 1 rfl) ?_
          refine r_get hC hW flX5_186 0 rfl rfl dX5_advance_127 ?_
          refine n_top (show (upd (upd (upd (upd z 2 (nI k1)) 3 (nI k1)) 1 0) 4 (tBt tp tl k1)) 1 = 0 from rfl) ?_
          refine lv_iconst (v := 1) hx hb dX5_advance_130 (by decide) ?_
          refine lv_icmp_ne (tgt := 207) hx hb dX5_advance_131 (by decide) (fun _ => ?_) (fun c => absurd c (by decide))
          refine lv_aload_n hx hb dX5_advance_207 rfl (lv_at hl 1 rfl) ?_
          refine r_get hC hW flX5_186 0 rfl rfl dX5_advance_208 ?_
          refine n_top (show (upd (upd (upd (upd z 2 (nI k1)) 3 (nI k1)) 1 0) 4 (tBt tp tl k1)) 1 = 0 from rfl) ?_
          refine lv_iconst (v := 2) hx hb dX5_advance_211 (by decide) ?_
          refine lv_icmp_ne (tgt := 281) hx hb dX5_advance_212 (by decide) (fun _ => ?_) (fun c => absurd c (by decide))
          exact r_vret hC hQ hD hW (upd (upd (upd (upd z 2 (nI k1)) 3 (nI k1)) 1 0) 4 (tBt tp tl k1), 0) ⟨by rw [hsk]; exact (ZT_end ((tBt_neg hB).mp (Int32.not_le.mp c_4)) htl rfl rfl rfl rfl rfl), rfl, rfl⟩ rfl rfl dX5_advance_281
      · refine lv_aload_n hx hb dX5_advance_21 rfl (lv_at hl 0 rfl) ?_
        refine lv_dup hx hb dX5_advance_22 rfl ?_
        refine r_get hC hW flX5_174 0 rfl rfl dX5_advance_23 ?_
        refine n_top (show (upd z 2 (nI k1)) 2 = (nI k1) from rfl) ?_
        refine lv_iconst (v := 1) hx hb dX5_advance_26 (by decide) ?_
        refine n_iadd (v := (nI (k1 + 1))) hx hb dX5_advance_27 (nI_add k1 1) ?_
        refine r_put (ws' := (wcat [MJ b (upd (upd z 2 (nI k1)) 2 (nI (k1 + 1))) w, IA E (b 5) 120 tp])) hC hD hW fpX5_174 0 rfl rfl rfl (Nat.le_of_ble_eq_true rfl) rfl rfl dX5_advance_28 (fun H locs hW => ?_)
        refine lv_goto (tgt := 8) hx hb dX5_advance_31 (by decide) ?_
        exact ih (k1 + 1) _ _ _ (by have := tBt_lt (q := bkP) nbk c_2; omega) (by omega) (tBt_lt (q := bkP) nbk c_2) (hs.trans (tRn_t (q := bkP) c_2 (tBt_lt (q := bkP) nbk c_2))) (by have e := hW; rw [upd_upd] at e; exact e) (lv_sub hl [0] rfl)
  exact L8 (tl - k0 + 1) k0 _ _ _ (Nat.lt_succ_self _) (by omega) (by omega) rfl hW (lv_sub hl [0] rfl)
