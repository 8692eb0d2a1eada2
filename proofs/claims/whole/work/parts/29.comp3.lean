set_option maxHeartbeats 4000000 in
set_option maxRecDepth 100000 in
theorem c_X4_copy_b (l : Launch) (E : Ev) (o : Nat → Nat) (vl : Nat → Nat) (vt : Nat → Nat) (vk : Nat → Nat) (vy : Nat → Nat) (kp : Int32) (F : FT) (B : FT) (Z : Nat → Nat) (N : NT) (x1 : Int32) (x2 : Int32) (x3 : Int32) (x4 : Int32) (x5 : Int32) (hbs : ¬ (isN 4 x1 ∧ isN 4 x3)) : MI l E yX4_copy cX4_copy 8 .int 2 42 0 0 [.ref (o 0), .int x1, .int x2, .int x3, .int x4, .int x5] (wcat [CO o vl vt vk vy kp, IA E (o 3) 7 F]) (fun (r : Int32) (_ : Unit) => r = (mCopy F B Z N x1 x2 x3 x4 x5).1) (fun (_ : Unit) => (wcat [CO o vl vt vk vy kp, IA E (o 3) 7 ((mCopy F B Z N x1 x2 x3 x4 x5).2.1)])) := by
  refine MI_intro RX4 (by decide) rfl (Nat.le_of_ble_eq_true rfl) ?_
  intro p e R s m args below meth c A Q hQ hC hD hW hA ls hl
  have hx := hC.1
  have hb := hC.2.1
  have hW : Wd E A s.heap (wcat [CO o vl vt vk vy kp, IA E (o 3) 7 F]) s.heap [] := hW
  have hD : Dj A [o 0, o 3] := hD
  have hl : lv_has ls 8 [(0, .ref (o 0)), (1, .int x1), (2, .int x2), (3, .int x3), (4, .int x4), (5, .int x5)] := hl
  refine lv_iload_n hx hb dX4_copy_0 rfl (lv_at hl 1 rfl) ?_
  refine r_callSi hC hD hW hA lkX4_196 (c_X4_isSheet l E x1) ⟨by decide, by decide, by decide, by decide⟩ rfl hl.1 rfl rfl (Nat.le_of_ble_eq_true rfl) dX4_copy_1 (fun r_1 _ H locs hr_1 hW => ?_)
  have hW : Wd E A s.heap (wcat [CO o vl vt vk vy kp, IA E (o 3) 7 F]) H locs := hW
  have hr_1 : bz (isN 4 x1) r_1 := hr_1
  rcases hr_1 with ⟨rfl, b_2⟩ | ⟨rfl, b_2⟩
  · refine lv_if_eq (tgt := 14) hx hb dX4_copy_4 (by decide) (fun _ => ?_) (fun c => absurd c (by decide))
    refine lv_aload_n hx hb dX4_copy_14 rfl (lv_at hl 0 rfl) ?_
    refine lv_iconst (v := 0) hx hb dX4_copy_15 (by decide) ?_
    refine r_callCi hC hD hW hA lkX4_57 (c_X4_finding l E o vl vt vk vy kp F 0 (-1000000001) (by decide) (by decide)) rfl rfl ⟨by decide, by decide, by decide, by decide⟩ [0, 1] rfl rfl rfl (fun _ => rfl) hl.1 rfl rfl (Nat.le_of_ble_eq_true rfl) dX4_copy_16 (fun r_3 _ H locs hr_3 hW => ?_)
    have hW : Wd E A s.heap (wcat [CO o vl vt vk vy kp, IA E (o 3) 7 (upd F 0 (F 0 + 1))]) H locs := hW
    have hr_3 : r_3 = (-1000000001) := hr_3
    subst hr_3
    exact r_iret hC hQ hD hW () (by rw [mCopy, cif_f hbs]; first | done | rfl) (by rw [mCopy, cif_f hbs]; first | done | rfl) rfl dX4_copy_19
  · refine lv_if_eq (tgt := 14) hx hb dX4_copy_4 (by decide) (fun c => absurd c (by decide)) (fun _ => ?_)
    refine lv_iload_n hx hb dX4_copy_7 rfl (lv_at hl 3 rfl) ?_
    refine r_callSi hC hD hW hA lkX4_196 (c_X4_isSheet l E x3) ⟨by decide, by decide, by decide, by decide⟩ rfl hl.1 rfl rfl (Nat.le_of_ble_eq_true rfl) dX4_copy_8 (fun r_4 _ H locs hr_4 hW => ?_)
    have hW : Wd E A s.heap (wcat [CO o vl vt vk vy kp, IA E (o 3) 7 F]) H locs := hW
    have hr_4 : bz (isN 4 x3) r_4 := hr_4
    rcases hr_4 with ⟨rfl, b_5⟩ | ⟨rfl, b_5⟩
    · refine lv_if_ne (tgt := 20) hx hb dX4_copy_11 (by decide) (fun c => absurd c (by decide)) (fun _ => ?_)
      refine lv_aload_n hx hb dX4_copy_14 rfl (lv_at hl 0 rfl) ?_
      refine lv_iconst (v := 0) hx hb dX4_copy_15 (by decide) ?_
      refine r_callCi hC hD hW hA lkX4_57 (c_X4_finding l E o vl vt vk vy kp F 0 (-1000000001) (by decide) (by decide)) rfl rfl ⟨by decide, by decide, by decide, by decide⟩ [0, 1] rfl rfl rfl (fun _ => rfl) hl.1 rfl rfl (Nat.le_of_ble_eq_true rfl) dX4_copy_16 (fun r_6 _ H locs hr_6 hW => ?_)
      have hW : Wd E A s.heap (wcat [CO o vl vt vk vy kp, IA E (o 3) 7 (upd F 0 (F 0 + 1))]) H locs := hW
      have hr_6 : r_6 = (-1000000001) := hr_6
      subst hr_6
      exact r_iret hC hQ hD hW () (by rw [mCopy, cif_f hbs]; first | done | rfl) (by rw [mCopy, cif_f hbs]; first | done | rfl) rfl dX4_copy_19
    · refine lv_if_ne (tgt := 20) hx hb dX4_copy_11 (by decide) (fun _ => ?_) (fun c => absurd c (by decide))
      exact absurd ⟨b_2, b_5⟩ hbs
set_option maxHeartbeats 4000000 in
set_option maxRecDepth 100000 in
theorem c_X4_copy_s (l : Launch) (E : Ev) (o : Nat → Nat) (vl : Nat → Nat) (vt : Nat → Nat) (vk : Nat → Nat) (vy : Nat → Nat) (kp : Int32) (F : FT) (qf : Nat → Option Nat) (B : FT) (Z : Nat → Nat) (N : NT) (j : Nat) (hj : j < 4) (hZj : Z j ≤ 40) (a : Nat) (n : Nat) (hqj : qf j = some a) (x2 : Int32) (x4 : Int32) (x5 : Int32) : MI l E yX4_copy cX4_copy 8 .int 2 42 0 0 [.ref (o 0), .int (nI j), .int x2, .int (nI j), .int x4, .int x5] (wcat [CO o vl vt vk vy kp, IA E (o 3) 7 F, [(o 2, .inl (E.2.2.2, 4, .inr (.inr (.inr (.inr qf)))))], SHW E a n (B j) (nI (Z j)) (N j)]) (fun (r : Int32) (_ : Unit) => r = (mCopy F B Z N (nI j) x2 (nI j) x4 x5).1) (fun (_ : Unit) => (wcat [CO o vl vt vk vy kp, IA E (o 3) 7 ((mCopy F B Z N (nI j) x2 (nI j) x4 x5).2.1), [(o 2, .inl (E.2.2.2, 4, .inr (.inr (.inr (.inr qf)))))], SHW E a n (B j) (nI (Z j)) (((mCopy F B Z N (nI j) x2 (nI j) x4 x5).2.2) j)])) := by
  refine MI_intro RX4 (by decide) rfl (Nat.le_of_ble_eq_true rfl) ?_
  intro p e R s m args below meth c A Q hQ hC hD hW hA ls hl
  have hx := hC.1
  have hb := hC.2.1
  have hW : Wd E A s.heap (wcat [CO o vl vt vk vy kp, IA E (o 3) 7 F, [(o 2, .inl (E.2.2.2, 4, .inr (.inr (.inr (.inr qf)))))], SHW E a n (B j) (nI (Z j)) (N j)]) s.heap [] := hW
  have hD : Dj A [o 0, o 3, o 2, a, n] := hD
  have hl : lv_has ls 8 [(0, .ref (o 0)), (1, .int (nI j)), (2, .int x2), (3, .int (nI j)), (4, .int x4), (5, .int x5)] := hl
  refine lv_iload_n hx hb dX4_copy_0 rfl (lv_at hl 1 rfl) ?_
  refine r_callSi hC hD hW hA lkX4_196 (c_X4_isSheet l E (nI j)) ⟨by decide, by decide, by decide, by decide⟩ rfl hl.1 rfl rfl (Nat.le_of_ble_eq_true rfl) dX4_copy_1 (fun r_1 _ H locs hr_1 hW => ?_)
  have hW : Wd E A s.heap (wcat [CO o vl vt vk vy kp, IA E (o 3) 7 F, [(o 2, .inl (E.2.2.2, 4, .inr (.inr (.inr (.inr qf)))))], SHW E a n (B j) (nI (Z j)) (N j)]) H locs := hW
  have hr_1 : bz (isN 4 (nI j)) r_1 := hr_1
  rcases hr_1 with ⟨rfl, b_2⟩ | ⟨rfl, b_2⟩
  · exact absurd (show isN 4 (nI j) from ⟨j, hj, rfl⟩) b_2
  · refine lv_if_eq (tgt := 14) hx hb dX4_copy_4 (by decide) (fun c => absurd c (by decide)) (fun _ => ?_)
    refine lv_iload_n hx hb dX4_copy_7 rfl (lv_at hl 3 rfl) ?_
    refine r_callSi hC hD hW hA lkX4_196 (c_X4_isSheet l E (nI j)) ⟨by decide, by decide, by decide, by decide⟩ rfl hl.1 rfl rfl (Nat.le_of_ble_eq_true rfl) dX4_copy_8 (fun r_3 _ H locs hr_3 hW => ?_)
    have hW : Wd E A s.heap (wcat [CO o vl vt vk vy kp, IA E (o 3) 7 F, [(o 2, .inl (E.2.2.2, 4, .inr (.inr (.inr (.inr qf)))))], SHW E a n (B j) (nI (Z j)) (N j)]) H locs := hW
    have hr_3 : bz (isN 4 (nI j)) r_3 := hr_3
    rcases hr_3 with ⟨rfl, b_4⟩ | ⟨rfl, b_4⟩
    · exact absurd (show isN 4 (nI j) from ⟨j, hj, rfl⟩) b_4
    · refine lv_if_ne (tgt := 20) hx hb dX4_copy_11 (by decide) (fun _ => ?_) (fun c => absurd c (by decide))
      refine lv_aload_n hx hb dX4_copy_20 rfl (lv_at hl 0 rfl) ?_
      refine r_get hC hW flX4_44 0 rfl rfl dX4_copy_21 ?_
      refine lv_iload_n hx hb dX4_copy_24 rfl (lv_at hl 1 rfl) ?_
      refine r_aald hC hW 2 rfl j (b := a) rfl (by omega) (by decide) hqj dX4_copy_25 ?_
      refine lv_astore (lv' := [(6, .ref a), (0, .ref (o 0)), (1, .int (nI j)), (2, .int x2), (3, .int (nI j)), (4, .int x4), (5, .int x5)]) hx hb dX4_copy_26 hl (by decide) rfl (fun ls hl => ?_)
      refine lv_aload_n hx hb dX4_copy_28 rfl (lv_at hl 1 rfl) ?_
      refine r_get hC hW flX4_44 0 rfl rfl dX4_copy_29 ?_
      refine lv_iload_n hx hb dX4_copy_32 rfl (lv_at hl 4 rfl) ?_
      refine r_aald hC hW 2 rfl j (b := a) rfl (by omega) (by decide) hqj dX4_copy_33 ?_
      refine lv_astore (lv' := [(7, .ref a), (6, .ref a), (0, .ref (o 0)), (1, .int (nI j)), (2, .int x2), (3, .int (nI j)), (4, .int x4), (5, .int x5)]) hx hb dX4_copy_34 hl (by decide) rfl (fun ls hl => ?_)
      refine lv_aload hx hb dX4_copy_36 (lv_at hl 1 rfl) ?_
      refine r_callCi hC hD hW hA lkX4_215 (c_X2_isMissing l E a n (B j) (Z j) (N j)) rfl rfl ⟨by decide, by decide, by decide, by decide⟩ [3] rfl rfl rfl (fun _ => rfl) hl.1 rfl rfl (Nat.le_of_ble_eq_true rfl) dX4_copy_38 (fun r_5 _ H locs hr_5 hW => ?_)
      have hW : Wd E A s.heap (wcat [CO o vl vt vk vy kp, IA E (o 3) 7 F, [(o 2, .inl (E.2.2.2, 4, .inr (.inr (.inr (.inr qf)))))], SHW E a n (B j) (nI (Z j)) (N j)]) H locs := hW
      have hr_5 : bz ((B j) = 0) r_5 := hr_5
      rcases hr_5 with ⟨rfl, b_6⟩ | ⟨rfl, b_6⟩
      · refine lv_if_ne (tgt := 52) hx hb dX4_copy_41 (by decide) (fun c => absurd c (by decide)) (fun _ => ?_)
        refine lv_aload hx hb dX4_copy_44 (lv_at hl 0 rfl) ?_
        refine r_callCi hC hD hW hA lkX4_215 (c_X2_isMissing l E a n (B j) (Z j) (N j)) rfl rfl ⟨by decide, by decide, by decide, by decide⟩ [3] rfl rfl rfl (fun _ => rfl) hl.1 rfl rfl (Nat.le_of_ble_eq_true rfl) dX4_copy_46 (fun r_7 _ H locs hr_7 hW => ?_)
        have hW : Wd E A s.heap (wcat [CO o vl vt vk vy kp, IA E (o 3) 7 F, [(o 2, .inl (E.2.2.2, 4, .inr (.inr (.inr (.inr qf)))))], SHW E a n (B j) (nI (Z j)) (N j)]) H locs := hW
        have hr_7 : bz ((B j) = 0) r_7 := hr_7
        rcases hr_7 with ⟨rfl, b_8⟩ | ⟨rfl, b_8⟩
        · refine lv_if_eq (tgt := 58) hx hb dX4_copy_49 (by decide) (fun _ => ?_) (fun c => absurd c (by decide))
          refine lv_aload hx hb dX4_copy_58 (lv_at hl 1 rfl) ?_
          refine r_get hC hW flX4_218 3 rfl rfl dX4_copy_60 ?_
          refine lv_aload hx hb dX4_copy_63 (lv_at hl 0 rfl) ?_
          refine r_get hC hW flX4_218 3 rfl rfl dX4_copy_65 ?_
          refine lv_icmp_eq (tgt := 77) hx hb dX4_copy_68 (by decide) (fun c_9 => ?_) (fun c_9 => ?_)
          · refine lv_aload hx hb dX4_copy_77 (lv_at hl 1 rfl) ?_
            refine lv_iload_n hx hb dX4_copy_79 rfl (lv_at hl 4 rfl) ?_
            refine lv_iload hx hb dX4_copy_80 (lv_at hl 7 rfl) ?_
            refine r_callCi hC hD hW hA lkX4_221 (c_X2_hasRun l E a n (B j) (Z j) (N j) hZj x2 x5) rfl rfl ⟨by decide, by decide, by decide, by decide⟩ [3] rfl rfl rfl (fun _ => rfl) hl.1 rfl rfl (Nat.le_of_ble_eq_true rfl) dX4_copy_82 (fun r_10 _ H locs hr_10 hW => ?_)
            have hW : Wd E A s.heap (wcat [CO o vl vt vk vy kp, IA E (o 3) 7 F, [(o 2, .inl (E.2.2.2, 4, .inr (.inr (.inr (.inr qf)))))], SHW E a n (B j) (nI (Z j)) (N j)]) H locs := hW
            have hr_10 : bz (runP (Z j) x2 x5) r_10 := hr_10
            rcases hr_10 with ⟨rfl, b_11⟩ | ⟨rfl, b_11⟩
            · refine lv_if_eq (tgt := 100) hx hb dX4_copy_85 (by decide) (fun _ => ?_) (fun c => absurd c (by decide))
              refine lv_aload_n hx hb dX4_copy_100 rfl (lv_at hl 2 rfl) ?_
              refine lv_iconst (v := 0) hx hb dX4_copy_101 (by decide) ?_
              refine r_callCi hC hD hW hA lkX4_57 (c_X4_finding l E o vl vt vk vy kp F 0 (-1000000001) (by decide) (by decide)) rfl rfl ⟨by decide, by decide, by decide, by decide⟩ [0, 1] rfl rfl rfl (fun _ => rfl) hl.1 rfl rfl (Nat.le_of_ble_eq_true rfl) dX4_copy_102 (fun r_12 _ H locs hr_12 hW => ?_)
              have hW : Wd E A s.heap (wcat [CO o vl vt vk vy kp, IA E (o 3) 7 (upd F 0 (F 0 + 1)), [(o 2, .inl (E.2.2.2, 4, .inr (.inr (.inr (.inr qf)))))], SHW E a n (B j) (nI (Z j)) (N j)]) H locs := hW
              have hr_12 : r_12 = (-1000000001) := hr_12
              subst hr_12
              exact r_iret hC hQ hD hW () (by rw [mCopy, cif_t ⟨(show isN 4 (nI j) from ⟨j, hj, rfl⟩), (show isN 4 (nI j) from ⟨j, hj, rfl⟩)⟩, ix_nI (n := j) (by omega), cif_f (fun z_ => z_.elim b_6 b_8), if_pos c_9, cif_f (fun z_ => b_11 z_.1)]; first | done | rfl) (by rw [mCopy, cif_t ⟨(show isN 4 (nI j) from ⟨j, hj, rfl⟩), (show isN 4 (nI j) from ⟨j, hj, rfl⟩)⟩, ix_nI (n := j) (by omega), cif_f (fun z_ => z_.elim b_6 b_8), if_pos c_9, cif_f (fun z_ => b_11 z_.1)]; first | done | rfl) rfl dX4_copy_105
            · refine lv_if_eq (tgt := 100) hx hb dX4_copy_85 (by decide) (fun c => absurd c (by decide)) (fun _ => ?_)
              refine lv_aload hx hb dX4_copy_88 (lv_at hl 0 rfl) ?_
              refine lv_iload hx hb dX4_copy_90 (lv_at hl 6 rfl) ?_
              refine lv_iload hx hb dX4_copy_92 (lv_at hl 7 rfl) ?_
              refine r_callCi hC hD hW hA lkX4_221 (c_X2_hasRun l E a n (B j) (Z j) (N j) hZj x4 x5) rfl rfl ⟨by decide, by decide, by decide, by decide⟩ [3] rfl rfl rfl (fun _ => rfl) hl.1 rfl rfl (Nat.le_of_ble_eq_true rfl) dX4_copy_94 (fun r_13 _ H locs hr_13 hW => ?_)
              have hW : Wd E A s.heap (wcat [CO o vl vt vk vy kp, IA E (o 3) 7 F, [(o 2, .inl (E.2.2.2, 4, .inr (.inr (.inr (.inr qf)))))], SHW E a n (B j) (nI (Z j)) (N j)]) H locs := hW
              have hr_13 : bz (runP (Z j) x4 x5) r_13 := hr_13
              rcases hr_13 with ⟨rfl, b_14⟩ | ⟨rfl, b_14⟩
              · refine lv_if_ne (tgt := 106) hx hb dX4_copy_97 (by decide) (fun c => absurd c (by decide)) (fun _ => ?_)
                refine lv_aload_n hx hb dX4_copy_100 rfl (lv_at hl 2 rfl) ?_
                refine lv_iconst (v := 0) hx hb dX4_copy_101 (by decide) ?_
                refine r_callCi hC hD hW hA lkX4_57 (c_X4_finding l E o vl vt vk vy kp F 0 (-1000000001) (by decide) (by decide)) rfl rfl ⟨by decide, by decide, by decide, by decide⟩ [0, 1] rfl rfl rfl (fun _ => rfl) hl.1 rfl rfl (Nat.le_of_ble_eq_true rfl) dX4_copy_102 (fun r_15 _ H locs hr_15 hW => ?_)
                have hW : Wd E A s.heap (wcat [CO o vl vt vk vy kp, IA E (o 3) 7 (upd F 0 (F 0 + 1)), [(o 2, .inl (E.2.2.2, 4, .inr (.inr (.inr (.inr qf)))))], SHW E a n (B j) (nI (Z j)) (N j)]) H locs := hW
                have hr_15 : r_15 = (-1000000001) := hr_15
                subst hr_15
                exact r_iret hC hQ hD hW () (by rw [mCopy, cif_t ⟨(show isN 4 (nI j) from ⟨j, hj, rfl⟩), (show isN 4 (nI j) from ⟨j, hj, rfl⟩)⟩, ix_nI (n := j) (by omega), cif_f (fun z_ => z_.elim b_6 b_8), if_pos c_9, cif_f (fun z_ => b_14 z_.2)]; first | done | rfl) (by rw [mCopy, cif_t ⟨(show isN 4 (nI j) from ⟨j, hj, rfl⟩), (show isN 4 (nI j) from ⟨j, hj, rfl⟩)⟩, ix_nI (n := j) (by omega), cif_f (fun z_ => z_.elim b_6 b_8), if_pos c_9, cif_f (fun z_ => b_14 z_.2)]; first | done | rfl) rfl dX4_copy_105
              · refine lv_if_ne (tgt := 106) hx hb dX4_copy_97 (by decide) (fun _ => ?_) (fun c => absurd c (by decide))
                have q1 := b_11
                have q2 := b_14
                obtain ⟨f0, k, rfl, rfl, hak⟩ := q1
                obtain ⟨t0, k2, rfl, ek, hak2⟩ := q2
                have hk2 : k = k2 := (nI_eq (by omega) (by omega)).mp ek
                subst hk2
                refine lv_aload hx hb dX4_copy_106 (lv_at hl 1 rfl) ?_
                refine r_get hC hW flX4_207 3 rfl rfl dX4_copy_108 ?_
                refine lv_iload_n hx hb dX4_copy_111 rfl (lv_at hl 4 rfl) ?_
                refine lv_aload hx hb dX4_copy_112 (lv_at hl 0 rfl) ?_
                refine r_get hC hW flX4_207 3 rfl rfl dX4_copy_114 ?_
                refine lv_iload hx hb dX4_copy_117 (lv_at hl 6 rfl) ?_
                refine lv_iload hx hb dX4_copy_119 (lv_at hl 7 rfl) ?_
                refine r_copyl (ws' := (wcat [CO o vl vt vk vy kp, IA E (o 3) 7 F, [(o 2, .inl (E.2.2.2, 4, .inr (.inr (.inr (.inr qf)))))], SHW E a n (B j) (nI (Z j)) (va_cpy (N j) (N j) f0 t0 k)])) hC hD hW lcX4_224 hl.1 ⟨by decide, by decide⟩ (Nat.le_of_ble_eq_true rfl) 4 4 rfl rfl f0 t0 k rfl rfl rfl (by omega) (by omega) ⟨by decide, by decide⟩ (fun _ _ => rfl) rfl rfl dX4_copy_121 (fun H locs hW => ?_)
                refine lv_iload hx hb dX4_copy_124 (lv_at hl 7 rfl) ?_
                exact r_iret hC hQ hD hW () (by rw [mCopy, cif_t ⟨(show isN 4 (nI j) from ⟨j, hj, rfl⟩), (show isN 4 (nI j) from ⟨j, hj, rfl⟩)⟩, ix_nI (n := j) (by omega), cif_f (fun z_ => z_.elim b_6 b_8), if_pos c_9, cif_t ⟨b_11, b_14⟩]; first | done | rfl) (by rw [mCopy, cif_t ⟨(show isN 4 (nI j) from ⟨j, hj, rfl⟩), (show isN 4 (nI j) from ⟨j, hj, rfl⟩)⟩, ix_nI (n := j) (by omega), cif_f (fun z_ => z_.elim b_6 b_8), if_pos c_9, cif_t ⟨b_11, b_14⟩, ix_nI (n := f0) (by omega), ix_nI (n := t0) (by omega), ix_nI (n := k) (by omega)]; dsimp only; rw [up_at]; first | done | rfl) rfl dX4_copy_126
          · refine lv_aload_n hx hb dX4_copy_71 rfl (lv_at hl 2 rfl) ?_
            refine lv_iconst (v := 2) hx hb dX4_copy_72 (by decide) ?_
            refine r_callCi hC hD hW hA lkX4_57 (c_X4_finding l E o vl vt vk vy kp F 2 (-1000000003) (by decide) (by decide)) rfl rfl ⟨by decide, by decide, by decide, by decide⟩ [0, 1] rfl rfl rfl (fun _ => rfl) hl.1 rfl rfl (Nat.le_of_ble_eq_true rfl) dX4_copy_73 (fun r_16 _ H locs hr_16 hW => ?_)
            have hW : Wd E A s.heap (wcat [CO o vl vt vk vy kp, IA E (o 3) 7 (upd F 2 (F 2 + 1)), [(o 2, .inl (E.2.2.2, 4, .inr (.inr (.inr (.inr qf)))))], SHW E a n (B j) (nI (Z j)) (N j)]) H locs := hW
            have hr_16 : r_16 = (-1000000003) := hr_16
            subst hr_16
            exact r_iret hC hQ hD hW () (by rw [mCopy, cif_t ⟨(show isN 4 (nI j) from ⟨j, hj, rfl⟩), (show isN 4 (nI j) from ⟨j, hj, rfl⟩)⟩, ix_nI (n := j) (by omega), cif_f (fun z_ => z_.elim b_6 b_8), if_neg c_9]; first | done | rfl) (by rw [mCopy, cif_t ⟨(show isN 4 (nI j) from ⟨j, hj, rfl⟩), (show isN 4 (nI j) from ⟨j, hj, rfl⟩)⟩, ix_nI (n := j) (by omega), cif_f (fun z_ => z_.elim b_6 b_8), if_neg c_9]; first | done | rfl) rfl dX4_copy_76
        · refine lv_if_eq (tgt := 58) hx hb dX4_copy_49 (by decide) (fun c => absurd c (by decide)) (fun _ => ?_)
          refine lv_aload_n hx hb dX4_copy_52 rfl (lv_at hl 2 rfl) ?_
          refine lv_iconst (v := 5) hx hb dX4_copy_53 (by decide) ?_
          refine r_callCi hC hD hW hA lkX4_57 (c_X4_finding l E o vl vt vk vy kp F 5 (-1000000006) (by decide) (by decide)) rfl rfl ⟨by decide, by decide, by decide, by decide⟩ [0, 1] rfl rfl rfl (fun _ => rfl) hl.1 rfl rfl (Nat.le_of_ble_eq_true rfl) dX4_copy_54 (fun r_17 _ H locs hr_17 hW => ?_)
          have hW : Wd E A s.heap (wcat [CO o vl vt vk vy kp, IA E (o 3) 7 (upd F 5 (F 5 + 1)), [(o 2, .inl (E.2.2.2, 4, .inr (.inr (.inr (.inr qf)))))], SHW E a n (B j) (nI (Z j)) (N j)]) H locs := hW
          have hr_17 : r_17 = (-1000000006) := hr_17
          subst hr_17
          exact r_iret hC hQ hD hW () (by rw [mCopy, cif_t ⟨(show isN 4 (nI j) from ⟨j, hj, rfl⟩), (show isN 4 (nI j) from ⟨j, hj, rfl⟩)⟩, ix_nI (n := j) (by omega), cif_t (Or.inr b_8)]; first | done | rfl) (by rw [mCopy, cif_t ⟨(show isN 4 (nI j) from ⟨j, hj, rfl⟩), (show isN 4 (nI j) from ⟨j, hj, rfl⟩)⟩, ix_nI (n := j) (by omega), cif_t (Or.inr b_8)]; first | done | rfl) rfl dX4_copy_57
      · refine lv_if_ne (tgt := 52) hx hb dX4_copy_41 (by decide) (fun _ => ?_) (fun c => absurd c (by decide))
        refine lv_aload_n hx hb dX4_copy_52 rfl (lv_at hl 2 rfl) ?_
        refine lv_iconst (v := 5) hx hb dX4_copy_53 (by decide) ?_
        refine r_callCi hC hD hW hA lkX4_57 (c_X4_finding l E o vl vt vk vy kp F 5 (-1000000006) (by decide) (by decide)) rfl rfl ⟨by decide, by decide, by decide, by decide⟩ [0, 1] rfl rfl rfl (fun _ => rfl) hl.1 rfl rfl (Nat.le_of_ble_eq_true rfl) dX4_copy_54 (fun r_18 _ H locs hr_18 hW => ?_)
        have hW : Wd E A s.heap (wcat [CO o vl vt vk vy kp, IA E (o 3) 7 (upd F 5 (F 5 + 1)), [(o 2, .inl (E.2.2.2, 4, .inr (.inr (.inr (.inr qf)))))], SHW E a n (B j) (nI (Z j)) (N j)]) H locs := hW
        have hr_18 : r_18 = (-1000000006) := hr_18
        subst hr_18
        exact r_iret hC hQ hD hW () (by rw [mCopy, cif_t ⟨(show isN 4 (nI j) from ⟨j, hj, rfl⟩), (show isN 4 (nI j) from ⟨j, hj, rfl⟩)⟩, ix_nI (n := j) (by omega), cif_t (Or.inl b_6)]; first | done | rfl) (by rw [mCopy, cif_t ⟨(show isN 4 (nI j) from ⟨j, hj, rfl⟩), (show isN 4 (nI j) from ⟨j, hj, rfl⟩)⟩, ix_nI (n := j) (by omega), cif_t (Or.inl b_6)]; first | done | rfl) rfl dX4_copy_57
set_option maxHeartbeats 4000000 in
set_option maxRecDepth 100000 in
theorem c_X4_copy_d (l : Launch) (E : Ev) (o : Nat → Nat) (vl : Nat → Nat) (vt : Nat → Nat) (vk : Nat → Nat) (vy : Nat → Nat) (kp : Int32) (F : FT) (qf : Nat → Option Nat) (B : FT) (Z : Nat → Nat) (N : NT) (j : Nat) (hj : j < 4) (hZj : Z j ≤ 40) (a : Nat) (n : Nat) (hqj : qf j = some a) (j2 : Nat) (hj2 : j2 < 4) (hZj2 : Z j2 ≤ 40) (a2 : Nat) (n2 : Nat) (hqj2 : qf j2 = some a2) (hne : j ≠ j2) (x2 : Int32) (x4 : Int32) (x5 : Int32) : MI l E yX4_copy cX4_copy 8 .int 2 42 0 0 [.ref (o 0), .int (nI j), .int x2, .int (nI j2), .int x4, .int x5] (wcat [CO o vl vt vk vy kp, IA E (o 3) 7 F, [(o 2, .inl (E.2.2.2, 4, .inr (.inr (.inr (.inr qf)))))], SHW E a n (B j) (nI (Z j)) (N j), SHW E a2 n2 (B j2) (nI (Z j2)) (N j2)]) (fun (r : Int32) (_ : Unit) => r = (mCopy F B Z N (nI j) x2 (nI j2) x4 x5).1) (fun (_ : Unit) => (wcat [CO o vl vt vk vy kp, IA E (o 3) 7 ((mCopy F B Z N (nI j) x2 (nI j2) x4 x5).2.1), [(o 2, .inl (E.2.2.2, 4, .inr (.inr (.inr (.inr qf)))))], SHW E a n (B j) (nI (Z j)) (((mCopy F B Z N (nI j) x2 (nI j2) x4 x5).2.2) j), SHW E a2 n2 (B j2) (nI (Z j2)) (((mCopy F B Z N (nI j) x2 (nI j2) x4 x5).2.2) j2)])) := by
  refine MI_intro RX4 (by decide) rfl (Nat.le_of_ble_eq_true rfl) ?_
  intro p e R s m args below meth c A Q hQ hC hD hW hA ls hl
  have hx := hC.1
  have hb := hC.2.1
  have hW : Wd E A s.heap (wcat [CO o vl vt vk vy kp, IA E (o 3) 7 F, [(o 2, .inl (E.2.2.2, 4, .inr (.inr (.inr (.inr qf)))))], SHW E a n (B j) (nI (Z j)) (N j), SHW E a2 n2 (B j2) (nI (Z j2)) (N j2)]) s.heap [] := hW
  have hD : Dj A [o 0, o 3, o 2, a, n, a2, n2] := hD
  have hl : lv_has ls 8 [(0, .ref (o 0)), (1, .int (nI j)), (2, .int x2), (3, .int (nI j2)), (4, .int x4), (5, .int x5)] := hl
  refine lv_iload_n hx hb dX4_copy_0 rfl (lv_at hl 1 rfl) ?_
  refine r_callSi hC hD hW hA lkX4_196 (c_X4_isSheet l E (nI j)) ⟨by decide, by decide, by decide, by decide⟩ rfl hl.1 rfl rfl (Nat.le_of_ble_eq_true rfl) dX4_copy_1 (fun r_1 _ H locs hr_1 hW => ?_)
  have hW : Wd E A s.heap (wcat [CO o vl vt vk vy kp, IA E (o 3) 7 F, [(o 2, .inl (E.2.2.2, 4, .inr (.inr (.inr (.inr qf)))))], SHW E a n (B j) (nI (Z j)) (N j), SHW E a2 n2 (B j2) (nI (Z j2)) (N j2)]) H locs := hW
  have hr_1 : bz (isN 4 (nI j)) r_1 := hr_1
  rcases hr_1 with ⟨rfl, b_2⟩ | ⟨rfl, b_2⟩
  · exact absurd (show isN 4 (nI j) from ⟨j, hj, rfl⟩) b_2
  · refine lv_if_eq (tgt := 14) hx hb dX4_copy_4 (by decide) (fun c => absurd c (by decide)) (fun _ => ?_)
    refine lv_iload_n hx hb dX4_copy_7 rfl (lv_at hl 3 rfl) ?_
    refine r_callSi hC hD hW hA lkX4_196 (c_X4_isSheet l E (nI j2)) ⟨by decide, by decide, by decide, by decide⟩ rfl hl.1 rfl rfl (Nat.le_of_ble_eq_true rfl) dX4_copy_8 (fun r_3 _ H locs hr_3 hW => ?_)
    have hW : Wd E A s.heap (wcat [CO o vl vt vk vy kp, IA E (o 3) 7 F, [(o 2, .inl (E.2.2.2, 4, .inr (.inr (.inr (.inr qf)))))], SHW E a n (B j) (nI (Z j)) (N j), SHW E a2 n2 (B j2) (nI (Z j2)) (N j2)]) H locs := hW
    have hr_3 : bz (isN 4 (nI j2)) r_3 := hr_3
    rcases hr_3 with ⟨rfl, b_4⟩ | ⟨rfl, b_4⟩
    · exact absurd (show isN 4 (nI j2) from ⟨j2, hj2, rfl⟩) b_4
    · refine lv_if_ne (tgt := 20) hx hb dX4_copy_11 (by decide) (fun _ => ?_) (fun c => absurd c (by decide))
      refine lv_aload_n hx hb dX4_copy_20 rfl (lv_at hl 0 rfl) ?_
      refine r_get hC hW flX4_44 0 rfl rfl dX4_copy_21 ?_
      refine lv_iload_n hx hb dX4_copy_24 rfl (lv_at hl 1 rfl) ?_
      refine r_aald hC hW 2 rfl j (b := a) rfl (by omega) (by decide) hqj dX4_copy_25 ?_
      refine lv_astore (lv' := [(6, .ref a), (0, .ref (o 0)), (1, .int (nI j)), (2, .int x2), (3, .int (nI j2)), (4, .int x4), (5, .int x5)]) hx hb dX4_copy_26 hl (by decide) rfl (fun ls hl => ?_)
      refine lv_aload_n hx hb dX4_copy_28 rfl (lv_at hl 1 rfl) ?_
      refine r_get hC hW flX4_44 0 rfl rfl dX4_copy_29 ?_
      refine lv_iload_n hx hb dX4_copy_32 rfl (lv_at hl 4 rfl) ?_
      refine r_aald hC hW 2 rfl j2 (b := a2) rfl (by omega) (by decide) hqj2 dX4_copy_33 ?_
      refine lv_astore (lv' := [(7, .ref a2), (6, .ref a), (0, .ref (o 0)), (1, .int (nI j)), (2, .int x2), (3, .int (nI j2)), (4, .int x4), (5, .int x5)]) hx hb dX4_copy_34 hl (by decide) rfl (fun ls hl => ?_)
      refine lv_aload hx hb dX4_copy_36 (lv_at hl 1 rfl) ?_
      refine r_callCi hC hD hW hA lkX4_215 (c_X2_isMissing l E a n (B j) (Z j) (N j)) rfl rfl ⟨by decide, by decide, by decide, by decide⟩ [3] rfl rfl rfl (fun _ => rfl) hl.1 rfl rfl (Nat.le_of_ble_eq_true rfl) dX4_copy_38 (fun r_5 _ H locs hr_5 hW => ?_)
      have hW : Wd E A s.heap (wcat [CO o vl vt vk vy kp, IA E (o 3) 7 F, [(o 2, .inl (E.2.2.2, 4, .inr (.inr (.inr (.inr qf)))))], SHW E a n (B j) (nI (Z j)) (N j), SHW E a2 n2 (B j2) (nI (Z j2)) (N j2)]) H locs := hW
      have hr_5 : bz ((B j) = 0) r_5 := hr_5
      rcases hr_5 with ⟨rfl, b_6⟩ | ⟨rfl, b_6⟩
      · refine lv_if_ne (tgt := 52) hx hb dX4_copy_41 (by decide) (fun c => absurd c (by decide)) (fun _ => ?_)
        refine lv_aload hx hb dX4_copy_44 (lv_at hl 0 rfl) ?_
        refine r_callCi hC hD hW hA lkX4_215 (c_X2_isMissing l E a2 n2 (B j2) (Z j2) (N j2)) rfl rfl ⟨by decide, by decide, by decide, by decide⟩ [4] rfl rfl rfl (fun _ => rfl) hl.1 rfl rfl (Nat.le_of_ble_eq_true rfl) dX4_copy_46 (fun r_7 _ H locs hr_7 hW => ?_)
        have hW : Wd E A s.heap (wcat [CO o vl vt vk vy kp, IA E (o 3) 7 F, [(o 2, .inl (E.2.2.2, 4, .inr (.inr (.inr (.inr qf)))))], SHW E a n (B j) (nI (Z j)) (N j), SHW E a2 n2 (B j2) (nI (Z j2)) (N j2)]) H locs := hW
        have hr_7 : bz ((B j2) = 0) r_7 := hr_7
        rcases hr_7 with ⟨rfl, b_8⟩ | ⟨rfl, b_8⟩
        · refine lv_if_eq (tgt := 58) hx hb dX4_copy_49 (by decide) (fun _ => ?_) (fun c => absurd c (by decide))
          refine lv_aload hx hb dX4_copy_58 (lv_at hl 1 rfl) ?_
          refine r_get hC hW flX4_218 3 rfl rfl dX4_copy_60 ?_
          refine lv_aload hx hb dX4_copy_63 (lv_at hl 0 rfl) ?_
          refine r_get hC hW flX4_218 5 rfl rfl dX4_copy_65 ?_
          refine lv_icmp_eq (tgt := 77) hx hb dX4_copy_68 (by decide) (fun c_9 => ?_) (fun c_9 => ?_)
          · refine lv_aload hx hb dX4_copy_77 (lv_at hl 1 rfl) ?_
            refine lv_iload_n hx hb dX4_copy_79 rfl (lv_at hl 4 rfl) ?_
            refine lv_iload hx hb dX4_copy_80 (lv_at hl 7 rfl) ?_
            refine r_callCi hC hD hW hA lkX4_221 (c_X2_hasRun l E a n (B j) (Z j) (N j) hZj x2 x5) rfl rfl ⟨by decide, by decide, by decide, by decide⟩ [3] rfl rfl rfl (fun _ => rfl) hl.1 rfl rfl (Nat.le_of_ble_eq_true rfl) dX4_copy_82 (fun r_10 _ H locs hr_10 hW => ?_)
            have hW : Wd E A s.heap (wcat [CO o vl vt vk vy kp, IA E (o 3) 7 F, [(o 2, .inl (E.2.2.2, 4, .inr (.inr (.inr (.inr qf)))))], SHW E a n (B j) (nI (Z j)) (N j), SHW E a2 n2 (B j2) (nI (Z j2)) (N j2)]) H locs := hW
            have hr_10 : bz (runP (Z j) x2 x5) r_10 := hr_10
            rcases hr_10 with ⟨rfl, b_11⟩ | ⟨rfl, b_11⟩
            · refine lv_if_eq (tgt := 100) hx hb dX4_copy_85 (by decide) (fun _ => ?_) (fun c => absurd c (by decide))
              refine lv_aload_n hx hb dX4_copy_100 rfl (lv_at hl 2 rfl) ?_
              refine lv_iconst (v := 0) hx hb dX4_copy_101 (by decide) ?_
              refine r_callCi hC hD hW hA lkX4_57 (c_X4_finding l E o vl vt vk vy kp F 0 (-1000000001) (by decide) (by decide)) rfl rfl ⟨by decide, by decide, by decide, by decide⟩ [0, 1] rfl rfl rfl (fun _ => rfl) hl.1 rfl rfl (Nat.le_of_ble_eq_true rfl) dX4_copy_102 (fun r_12 _ H locs hr_12 hW => ?_)
              have hW : Wd E A s.heap (wcat [CO o vl vt vk vy kp, IA E (o 3) 7 (upd F 0 (F 0 + 1)), [(o 2, .inl (E.2.2.2, 4, .inr (.inr (.inr (.inr qf)))))], SHW E a n (B j) (nI (Z j)) (N j), SHW E a2 n2 (B j2) (nI (Z j2)) (N j2)]) H locs := hW
              have hr_12 : r_12 = (-1000000001) := hr_12
              subst hr_12
              exact r_iret hC hQ hD hW () (by rw [mCopy, cif_t ⟨(show isN 4 (nI j) from ⟨j, hj, rfl⟩), (show isN 4 (nI j2) from ⟨j2, hj2, rfl⟩)⟩, ix_nI (n := j) (by omega), ix_nI (n := j2) (by omega), cif_f (fun z_ => z_.elim b_6 b_8), if_pos c_9, cif_f (fun z_ => b_11 z_.1)]; first | done | rfl) (by rw [mCopy, cif_t ⟨(show isN 4 (nI j) from ⟨j, hj, rfl⟩), (show isN 4 (nI j2) from ⟨j2, hj2, rfl⟩)⟩, ix_nI (n := j) (by omega), ix_nI (n := j2) (by omega), cif_f (fun z_ => z_.elim b_6 b_8), if_pos c_9, cif_f (fun z_ => b_11 z_.1)]; first | done | rfl) rfl dX4_copy_105
            · refine lv_if_eq (tgt := 100) hx hb dX4_copy_85 (by decide) (fun c => absurd c (by decide)) (fun _ => ?_)
              refine lv_aload hx hb dX4_copy_88 (lv_at hl 0 rfl) ?_
              refine lv_iload hx hb dX4_copy_90 (lv_at hl 6 rfl) ?_
              refine lv_iload hx hb dX4_copy_92 (lv_at hl 7 rfl) ?_
              refine r_callCi hC hD hW hA lkX4_221 (c_X2_hasRun l E a2 n2 (B j2) (Z j2) (N j2) hZj2 x4 x5) rfl rfl ⟨by decide, by decide, by decide, by decide⟩ [4] rfl rfl rfl (fun _ => rfl) hl.1 rfl rfl (Nat.le_of_ble_eq_true rfl) dX4_copy_94 (fun r_13 _ H locs hr_13 hW => ?_)
              have hW : Wd E A s.heap (wcat [CO o vl vt vk vy kp, IA E (o 3) 7 F, [(o 2, .inl (E.2.2.2, 4, .inr (.inr (.inr (.inr qf)))))], SHW E a n (B j) (nI (Z j)) (N j), SHW E a2 n2 (B j2) (nI (Z j2)) (N j2)]) H locs := hW
              have hr_13 : bz (runP (Z j2) x4 x5) r_13 := hr_13
              rcases hr_13 with ⟨rfl, b_14⟩ | ⟨rfl, b_14⟩
              · refine lv_if_ne (tgt := 106) hx hb dX4_copy_97 (by decide) (fun c => absurd c (by decide)) (fun _ => ?_)
                refine lv_aload_n hx hb dX4_copy_100 rfl (lv_at hl 2 rfl) ?_
                refine lv_iconst (v := 0) hx hb dX4_copy_101 (by decide) ?_
                refine r_callCi hC hD hW hA lkX4_57 (c_X4_finding l E o vl vt vk vy kp F 0 (-1000000001) (by decide) (by decide)) rfl rfl ⟨by decide, by decide, by decide, by decide⟩ [0, 1] rfl rfl rfl (fun _ => rfl) hl.1 rfl rfl (Nat.le_of_ble_eq_true rfl) dX4_copy_102 (fun r_15 _ H locs hr_15 hW => ?_)
                have hW : Wd E A s.heap (wcat [CO o vl vt vk vy kp, IA E (o 3) 7 (upd F 0 (F 0 + 1)), [(o 2, .inl (E.2.2.2, 4, .inr (.inr (.inr (.inr qf)))))], SHW E a n (B j) (nI (Z j)) (N j), SHW E a2 n2 (B j2) (nI (Z j2)) (N j2)]) H locs := hW
                have hr_15 : r_15 = (-1000000001) := hr_15
                subst hr_15
                exact r_iret hC hQ hD hW () (by rw [mCopy, cif_t ⟨(show isN 4 (nI j) from ⟨j, hj, rfl⟩), (show isN 4 (nI j2) from ⟨j2, hj2, rfl⟩)⟩, ix_nI (n := j) (by omega), ix_nI (n := j2) (by omega), cif_f (fun z_ => z_.elim b_6 b_8), if_pos c_9, cif_f (fun z_ => b_14 z_.2)]; first | done | rfl) (by rw [mCopy, cif_t ⟨(show isN 4 (nI j) from ⟨j, hj, rfl⟩), (show isN 4 (nI j2) from ⟨j2, hj2, rfl⟩)⟩, ix_nI (n := j) (by omega), ix_nI (n := j2) (by omega), cif_f (fun z_ => z_.elim b_6 b_8), if_pos c_9, cif_f (fun z_ => b_14 z_.2)]; first | done | rfl) rfl dX4_copy_105
              · refine lv_if_ne (tgt := 106) hx hb dX4_copy_97 (by decide) (fun _ => ?_) (fun c => absurd c (by decide))
                have q1 := b_11
                have q2 := b_14
                obtain ⟨f0, k, rfl, rfl, hak⟩ := q1
                obtain ⟨t0, k2, rfl, ek, hak2⟩ := q2
                have hk2 : k = k2 := (nI_eq (by omega) (by omega)).mp ek
                subst hk2
                refine lv_aload hx hb dX4_copy_106 (lv_at hl 1 rfl) ?_
                refine r_get hC hW flX4_207 3 rfl rfl dX4_copy_108 ?_
                refine lv_iload_n hx hb dX4_copy_111 rfl (lv_at hl 4 rfl) ?_
                refine lv_aload hx hb dX4_copy_112 (lv_at hl 0 rfl) ?_
                refine r_get hC hW flX4_207 5 rfl rfl dX4_copy_114 ?_
                refine lv_iload hx hb dX4_copy_117 (lv_at hl 6 rfl) ?_
                refine lv_iload hx hb dX4_copy_119 (lv_at hl 7 rfl) ?_
                refine r_copyl (ws' := (wcat [CO o vl vt vk vy kp, IA E (o 3) 7 F, [(o 2, .inl (E.2.2.2, 4, .inr (.inr (.inr (.inr qf)))))], SHW E a n (B j) (nI (Z j)) (N j), SHW E a2 n2 (B j2) (nI (Z j2)) (va_cpy (N j) (N j2) f0 t0 k)])) hC hD hW lcX4_224 hl.1 ⟨by decide, by decide⟩ (Nat.le_of_ble_eq_true rfl) 4 6 rfl rfl f0 t0 k rfl rfl rfl (by omega) (by omega) ⟨by decide, by decide⟩ (fun _ _ => rfl) rfl rfl dX4_copy_121 (fun H locs hW => ?_)
                refine lv_iload hx hb dX4_copy_124 (lv_at hl 7 rfl) ?_
                exact r_iret hC hQ hD hW () (by rw [mCopy, cif_t ⟨(show isN 4 (nI j) from ⟨j, hj, rfl⟩), (show isN 4 (nI j2) from ⟨j2, hj2, rfl⟩)⟩, ix_nI (n := j) (by omega), ix_nI (n := j2) (by omega), cif_f (fun z_ => z_.elim b_6 b_8), if_pos c_9, cif_t ⟨b_11, b_14⟩]; first | done | rfl) (by rw [mCopy, cif_t ⟨(show isN 4 (nI j) from ⟨j, hj, rfl⟩), (show isN 4 (nI j2) from ⟨j2, hj2, rfl⟩)⟩, ix_nI (n := j) (by omega), ix_nI (n := j2) (by omega), cif_f (fun z_ => z_.elim b_6 b_8), if_pos c_9, cif_t ⟨b_11, b_14⟩, ix_nI (n := f0) (by omega), ix_nI (n := t0) (by omega), ix_nI (n := k) (by omega)]; dsimp only; rw [up_at, up_ne hne]; first | done | rfl) rfl dX4_copy_126
          · refine lv_aload_n hx hb dX4_copy_71 rfl (lv_at hl 2 rfl) ?_
            refine lv_iconst (v := 2) hx hb dX4_copy_72 (by decide) ?_
            refine r_callCi hC hD hW hA lkX4_57 (c_X4_finding l E o vl vt vk vy kp F 2 (-1000000003) (by decide) (by decide)) rfl rfl ⟨by decide, by decide, by decide, by decide⟩ [0, 1] rfl rfl rfl (fun _ => rfl) hl.1 rfl rfl (Nat.le_of_ble_eq_true rfl) dX4_copy_73 (fun r_16 _ H locs hr_16 hW => ?_)
            have hW : Wd E A s.heap (wcat [CO o vl vt vk vy kp, IA E (o 3) 7 (upd F 2 (F 2 + 1)), [(o 2, .inl (E.2.2.2, 4, .inr (.inr (.inr (.inr qf)))))], SHW E a n (B j) (nI (Z j)) (N j), SHW E a2 n2 (B j2) (nI (Z j2)) (N j2)]) H locs := hW
            have hr_16 : r_16 = (-1000000003) := hr_16
            subst hr_16
            exact r_iret hC hQ hD hW () (by rw [mCopy, cif_t ⟨(show isN 4 (nI j) from ⟨j, hj, rfl⟩), (show isN 4 (nI j2) from ⟨j2, hj2, rfl⟩)⟩, ix_nI (n := j) (by omega), ix_nI (n := j2) (by omega), cif_f (fun z_ => z_.elim b_6 b_8), if_neg c_9]; first | done | rfl) (by rw [mCopy, cif_t ⟨(show isN 4 (nI j) from ⟨j, hj, rfl⟩), (show isN 4 (nI j2) from ⟨j2, hj2, rfl⟩)⟩, ix_nI (n := j) (by omega), ix_nI (n := j2) (by omega), cif_f (fun z_ => z_.elim b_6 b_8), if_neg c_9]; first | done | rfl) rfl dX4_copy_76
        · refine lv_if_eq (tgt := 58) hx hb dX4_copy_49 (by decide) (fun c => absurd c (by decide)) (fun _ => ?_)
          refine lv_aload_n hx hb dX4_copy_52 rfl (lv_at hl 2 rfl) ?_
          refine lv_iconst (v := 5) hx hb dX4_copy_53 (by decide) ?_
          refine r_callCi hC hD hW hA lkX4_57 (c_X4_finding l E o vl vt vk vy kp F 5 (-1000000006) (by decide) (by decide)) rfl rfl ⟨by decide, by decide, by decide, by decide⟩ [0, 1] rfl rfl rfl (fun _ => rfl) hl.1 rfl rfl (Nat.le_of_ble_eq_true rfl) dX4_copy_54 (fun r_17 _ H locs hr_17 hW => ?_)
          have hW : Wd E A s.heap (wcat [CO o vl vt vk vy kp, IA E (o 3) 7 (upd F 5 (F 5 + 1)), [(o 2, .inl (E.2.2.2, 4, .inr (.inr (.inr (.inr qf)))))], SHW E a n (B j) (nI (Z j)) (N j), SHW E a2 n2 (B j2) (nI (Z j2)) (N j2)]) H locs := hW
          have hr_17 : r_17 = (-1000000006) := hr_17
          subst hr_17
          exact r_iret hC hQ hD hW () (by rw [mCopy, cif_t ⟨(show isN 4 (nI j) from ⟨j, hj, rfl⟩), (show isN 4 (nI j2) from ⟨j2, hj2, rfl⟩)⟩, ix_nI (n := j) (by omega), ix_nI (n := j2) (by omega), cif_t (Or.inr b_8)]; first | done | rfl) (by rw [mCopy, cif_t ⟨(show isN 4 (nI j) from ⟨j, hj, rfl⟩), (show isN 4 (nI j2) from ⟨j2, hj2, rfl⟩)⟩, ix_nI (n := j) (by omega), ix_nI (n := j2) (by omega), cif_t (Or.inr b_8)]; first | done | rfl) rfl dX4_copy_57
      · refine lv_if_ne (tgt := 52) hx hb dX4_copy_41 (by decide) (fun _ => ?_) (fun c => absurd c (by decide))
        refine lv_aload_n hx hb dX4_copy_52 rfl (lv_at hl 2 rfl) ?_
        refine lv_iconst (v := 5) hx hb dX4_copy_53 (by decide) ?_
        refine r_callCi hC hD hW hA lkX4_57 (c_X4_finding l E o vl vt vk vy kp F 5 (-1000000006) (by decide) (by decide)) rfl rfl ⟨by decide, by decide, by decide, by decide⟩ [0, 1] rfl rfl rfl (fun _ => rfl) hl.1 rfl rfl (Nat.le_of_ble_eq_true rfl) dX4_copy_54 (fun r_18 _ H locs hr_18 hW => ?_)
        have hW : Wd E A s.heap (wcat [CO o vl vt vk vy kp, IA E (o 3) 7 (upd F 5 (F 5 + 1)), [(o 2, .inl (E.2.2.2, 4, .inr (.inr (.inr (.inr qf)))))], SHW E a n (B j) (nI (Z j)) (N j), SHW E a2 n2 (B j2) (nI (Z j2)) (N j2)]) H locs := hW
        have hr_18 : r_18 = (-1000000006) := hr_18
        subst hr_18
        exact r_iret hC hQ hD hW () (by rw [mCopy, cif_t ⟨(show isN 4 (nI j) from ⟨j, hj, rfl⟩), (show isN 4 (nI j2) from ⟨j2, hj2, rfl⟩)⟩, ix_nI (n := j) (by omega), ix_nI (n := j2) (by omega), cif_t (Or.inl b_6)]; first | done | rfl) (by rw [mCopy, cif_t ⟨(show isN 4 (nI j) from ⟨j, hj, rfl⟩), (show isN 4 (nI j2) from ⟨j2, hj2, rfl⟩)⟩, ix_nI (n := j) (by omega), ix_nI (n := j2) (by omega), cif_t (Or.inl b_6)]; first | done | rfl) rfl dX4_copy_57
set_option maxHeartbeats 4000000 in
set_option maxRecDepth 100000 in
theorem c_X4_book_b (l : Launch) (E : Ev) (o : Nat → Nat) (vl : Nat → Nat) (vt : Nat → Nat) (vk : Nat → Nat) (vy : Nat → Nat) (kp : Int32) (S : HS) (Tl : HS) (F : FT) (P : Nat) (G : Nat) (B : FT) (Z : Nat → Nat) (N : NT) (x1 : Int32) (x2 : Int32) (hbs : ¬ isN 4 x1) : MI l E yX4_book cX4_book 5 .int 3 63 0 0 [.ref (o 0), .int x1, .int x2] (wcat [CO o vl vt vk vy kp, IA E (o 3) 7 F]) (fun (r : Int32) (_ : Unit) => r = (mBook S F P G B Z N x1 x2).1) (fun (_ : Unit) => (wcat [CO o vl vt vk vy kp, IA E (o 3) 7 ((mBook S F P G B Z N x1 x2).2.1)])) := by
  refine MI_intro RX4 (by decide) rfl (Nat.le_of_ble_eq_true rfl) ?_
  intro p e R s m args below meth c A Q hQ hC hD hW hA ls hl
  have hx := hC.1
  have hb := hC.2.1
  have hW : Wd E A s.heap (wcat [CO o vl vt vk vy kp, IA E (o 3) 7 F]) s.heap [] := hW
  have hD : Dj A [o 0, o 3] := hD
  have hl : lv_has ls 5 [(0, .ref (o 0)), (1, .int x1), (2, .int x2)] := hl
  refine lv_aload_n hx hb dX4_book_0 rfl (lv_at hl 0 rfl) ?_
  refine lv_iload_n hx hb dX4_book_1 rfl (lv_at hl 1 rfl) ?_
  refine r_callCi hC hD hW hA lkX4_204 (c_X4_findingOfSheet_b l E o vl vt vk vy kp F x1 hbs) rfl rfl ⟨by decide, by decide, by decide, by decide⟩ [0, 1] rfl rfl rfl (fun _ => rfl) hl.1 rfl rfl (Nat.le_of_ble_eq_true rfl) dX4_book_2 (fun r_1 _ H locs hr_1 hW => ?_)
  have hW : Wd E A s.heap (wcat [CO o vl vt vk vy kp, IA E (o 3) 7 (upd F 0 (F 0 + 1))]) H locs := hW
  have hr_1 : r_1 = (-1000000001) := hr_1
  subst hr_1
  refine lv_istore_n (lv' := [(3, .int (-1000000001)), (0, .ref (o 0)), (1, .int x1), (2, .int x2)]) hx hb dX4_book_5 rfl hl (by decide) rfl (fun ls hl => ?_)
  refine lv_iload_n hx hb dX4_book_6 rfl (lv_at hl 0 rfl) ?_
  refine lv_if_eq (tgt := 12) hx hb dX4_book_7 (by decide) (fun c => absurd c (by decide)) (fun _ => ?_)
  refine lv_iload_n hx hb dX4_book_10 rfl (lv_at hl 0 rfl) ?_
  exact r_iret hC hQ hD hW () (by rw [mBook, cif_f hbs]; first | done | rfl) (by rw [mBook, cif_f hbs]; first | done | rfl) rfl dX4_book_11
set_option maxHeartbeats 4000000 in
set_option maxRecDepth 100000 in
theorem c_X4_book (l : Launch) (E : Ev) (o : Nat → Nat) (vl : Nat → Nat) (vt : Nat → Nat) (vk : Nat → Nat) (vy : Nat → Nat) (kp : Int32) (S : HS) (Tl : HS) (F : FT) (P : Nat) (G : Nat) (hV : HV S P G) (St : HS) (Tt : HS) (qf : Nat → Option Nat) (B : FT) (Z : Nat → Nat) (N : NT) (j : Nat) (hj : j < 4) (hZj : Z j ≤ 40) (a : Nat) (n : Nat) (hqj : qf j = some a) (x2 : Int32) : MI l E yX4_book cX4_book 5 .int 4 89 0 0 [.ref (o 0), .int (nI j), .int x2] (wcat [CO o vl vt vk vy kp, IA E (o 3) 7 F, HW E vl S Tl, HW E vt St Tt, [(o 2, .inl (E.2.2.2, 4, .inr (.inr (.inr (.inr qf)))))], SHW E a n (B j) (nI (Z j)) (N j)]) (fun (r : Int32) (u : (HS × HS)) => r = (mBook S F P G B Z N (nI j) x2).1) (fun (u : (HS × HS)) => (wcat [CO o vl vt vk vy kp, IA E (o 3) 7 ((mBook S F P G B Z N (nI j) x2).2.1), HW E vl S Tl, HW E vt u.1 u.2, [(o 2, .inl (E.2.2.2, 4, .inr (.inr (.inr (.inr qf)))))], SHW E a n (B j) (nI (Z j)) (((mBook S F P G B Z N (nI j) x2).2.2) j)])) := by
  refine MI_intro RX4 (by decide) rfl (Nat.le_of_ble_eq_true rfl) ?_
  intro p e R s m args below meth c A Q hQ hC hD hW hA ls hl
  have hx := hC.1
  have hb := hC.2.1
  have hW : Wd E A s.heap (wcat [CO o vl vt vk vy kp, IA E (o 3) 7 F, HW E vl S Tl, HW E vt St Tt, [(o 2, .inl (E.2.2.2, 4, .inr (.inr (.inr (.inr qf)))))], SHW E a n (B j) (nI (Z j)) (N j)]) s.heap [] := hW
  have hD : Dj A [o 0, o 3, vl 0, vl 1, vl 2, vl 3, vl 4, vl 5, vl 6, vl 7, vl 8, vl 9, vl 10, vt 0, vt 1, vt 2, vt 3, vt 4, vt 5, vt 6, vt 7, vt 8, vt 9, vt 10, o 2, a, n] := hD
  have hl : lv_has ls 5 [(0, .ref (o 0)), (1, .int (nI j)), (2, .int x2)] := hl
  have hP := hV.p
  have hP1 := hV.p6
  have hG := hV.g
  have hG1 := hV.g10
  by_cases hbm : B j = 0
  · refine lv_aload_n hx hb dX4_book_0 rfl (lv_at hl 0 rfl) ?_
    refine lv_iload_n hx hb dX4_book_1 rfl (lv_at hl 1 rfl) ?_
    refine r_callCi hC hD hW hA lkX4_204 (c_X4_findingOfSheet_m l E o vl vt vk vy kp F qf B Z N j (by omega) (by omega) a n hqj hbm) rfl rfl ⟨by decide, by decide, by decide, by decide⟩ [0, 1, 4, 5] rfl rfl rfl (fun _ => rfl) hl.1 rfl rfl (Nat.le_of_ble_eq_true rfl) dX4_book_2 (fun r_1 _ H locs hr_1 hW => ?_)
    have hW : Wd E A s.heap (wcat [CO o vl vt vk vy kp, IA E (o 3) 7 (upd F 5 (F 5 + 1)), HW E vl S Tl, HW E vt St Tt, [(o 2, .inl (E.2.2.2, 4, .inr (.inr (.inr (.inr qf)))))], SHW E a n (B j) (nI (Z j)) (N j)]) H locs := hW
    have hr_1 : r_1 = (-1000000006) := hr_1
    subst hr_1
    refine lv_istore_n (lv' := [(3, .int (-1000000006)), (0, .ref (o 0)), (1, .int (nI j)), (2, .int x2)]) hx hb dX4_book_5 rfl hl (by decide) rfl (fun ls hl => ?_)
    refine lv_iload_n hx hb dX4_book_6 rfl (lv_at hl 0 rfl) ?_
    refine lv_if_eq (tgt := 12) hx hb dX4_book_7 (by decide) (fun c => absurd c (by decide)) (fun _ => ?_)
    refine lv_iload_n hx hb dX4_book_10 rfl (lv_at hl 0 rfl) ?_
    exact r_iret hC hQ hD hW (St, Tt) (by rw [mBook, cif_t (show isN 4 (nI j) from ⟨j, hj, rfl⟩), ix_nI (n := j) (by omega), if_pos hbm]; first | done | rfl) (by rw [mBook, cif_t (show isN 4 (nI j) from ⟨j, hj, rfl⟩), ix_nI (n := j) (by omega), if_pos hbm]; first | done | rfl) rfl dX4_book_11
  · refine lv_aload_n hx hb dX4_book_0 rfl (lv_at hl 0 rfl) ?_
    refine lv_iload_n hx hb dX4_book_1 rfl (lv_at hl 1 rfl) ?_
    refine r_callCi hC hD hW hA lkX4_204 (c_X4_findingOfSheet_o l E o vl vt vk vy kp F qf B Z N j (by omega) (by omega) a n hqj hbm) rfl rfl ⟨by decide, by decide, by decide, by decide⟩ [0, 1, 4, 5] rfl rfl rfl (fun _ => rfl) hl.1 rfl rfl (Nat.le_of_ble_eq_true rfl) dX4_book_2 (fun r_2 _ H locs hr_2 hW => ?_)
    have hW : Wd E A s.heap (wcat [CO o vl vt vk vy kp, IA E (o 3) 7 F, HW E vl S Tl, HW E vt St Tt, [(o 2, .inl (E.2.2.2, 4, .inr (.inr (.inr (.inr qf)))))], SHW E a n (B j) (nI (Z j)) (N j)]) H locs := hW
    have hr_2 : r_2 = 0 := hr_2
    subst hr_2
    refine lv_istore_n (lv' := [(3, .int 0), (0, .ref (o 0)), (1, .int (nI j)), (2, .int x2)]) hx hb dX4_book_5 rfl hl (by decide) rfl (fun ls hl => ?_)
    refine lv_iload_n hx hb dX4_book_6 rfl (lv_at hl 0 rfl) ?_
    refine lv_if_eq (tgt := 12) hx hb dX4_book_7 (by decide) (fun _ => ?_) (fun c => absurd c (by decide))
    refine lv_aload_n hx hb dX4_book_12 rfl (lv_at hl 1 rfl) ?_
    refine r_get hC hW flX4_10 0 rfl rfl dX4_book_13 ?_
    refine lv_iload_n hx hb dX4_book_16 rfl (lv_at hl 3 rfl) ?_
    refine r_callCi hC hD hW hA lkX4_116 (c_X0_hasGarment l E vl S Tl G hV.g hV.g10 x2) rfl rfl ⟨by decide, by decide, by decide, by decide⟩ [2] rfl rfl rfl (fun _ => rfl) hl.1 rfl rfl (Nat.le_of_ble_eq_true rfl) dX4_book_17 (fun r_3 _ H locs hr_3 hW => ?_)
    have hW : Wd E A s.heap (wcat [CO o vl vt vk vy kp, IA E (o 3) 7 F, HW E vl S Tl, HW E vt St Tt, [(o 2, .inl (E.2.2.2, 4, .inr (.inr (.inr (.inr qf)))))], SHW E a n (B j) (nI (Z j)) (N j)]) H locs := hW
    have hr_3 : bz (∃ j, j < G ∧ x2 = nI j) r_3 := hr_3
    rcases hr_3 with ⟨rfl, b_4⟩ | ⟨rfl, b_4⟩
    · refine lv_if_ne (tgt := 29) hx hb dX4_book_20 (by decide) (fun c => absurd c (by decide)) (fun _ => ?_)
      refine lv_aload_n hx hb dX4_book_23 rfl (lv_at hl 1 rfl) ?_
      refine lv_iconst (v := 0) hx hb dX4_book_24 (by decide) ?_
      refine r_callCi hC hD hW hA lkX4_57 (c_X4_finding l E o vl vt vk vy kp F 0 (-1000000001) (by decide) (by decide)) rfl rfl ⟨by decide, by decide, by decide, by decide⟩ [0, 1] rfl rfl rfl (fun _ => rfl) hl.1 rfl rfl (Nat.le_of_ble_eq_true rfl) dX4_book_25 (fun r_5 _ H locs hr_5 hW => ?_)
      have hW : Wd E A s.heap (wcat [CO o vl vt vk vy kp, IA E (o 3) 7 (upd F 0 (F 0 + 1)), HW E vl S Tl, HW E vt St Tt, [(o 2, .inl (E.2.2.2, 4, .inr (.inr (.inr (.inr qf)))))], SHW E a n (B j) (nI (Z j)) (N j)]) H locs := hW
      have hr_5 : r_5 = (-1000000001) := hr_5
      subst hr_5
      exact r_iret hC hQ hD hW (St, Tt) (by rw [mBook, cif_t (show isN 4 (nI j) from ⟨j, hj, rfl⟩), ix_nI (n := j) (by omega), if_neg hbm, cif_f b_4]; first | done | rfl) (by rw [mBook, cif_t (show isN 4 (nI j) from ⟨j, hj, rfl⟩), ix_nI (n := j) (by omega), if_neg hbm, cif_f b_4]; first | done | rfl) rfl dX4_book_28
    · have eb_4 := b_4
      obtain ⟨g, hg, rfl⟩ := eb_4
      refine lv_if_ne (tgt := 29) hx hb dX4_book_20 (by decide) (fun _ => ?_) (fun c => absurd c (by decide))
      refine lv_aload_n hx hb dX4_book_29 rfl (lv_at hl 1 rfl) ?_
      refine r_callCv hC hD hW hA lkX4_159 (c_X4_startTrial l E o vl vt vk vy kp S Tl St Tt) rfl rfl ⟨by decide, by decide, by decide, by decide⟩ [0, 2, 3] rfl rfl rfl (fun _ => rfl) hl.1 rfl rfl (Nat.le_of_ble_eq_true rfl) dX4_book_30 (fun _ H locs hr_6 hW => ?_)
      have hW : Wd E A s.heap (wcat [CO o vl vt vk vy kp, IA E (o 3) 7 F, HW E vl S Tl, HW E vt S Tt, [(o 2, .inl (E.2.2.2, 4, .inr (.inr (.inr (.inr qf)))))], SHW E a n (B j) (nI (Z j)) (N j)]) H locs := hW
      refine lv_iconst (v := 0) hx hb dX4_book_33 (by decide) ?_
      refine lv_istore (lv' := [(4, .int 0), (3, .int 0), (0, .ref (o 0)), (1, .int (nI j)), (2, .int (nI g))]) hx hb dX4_book_34 hl (by decide) rfl (fun ls hl => ?_)
      have L36 : ∀ (n_ : Nat) (i : Nat) (T1 : HS) (H : Heap) (locs : List Loc) (ls : Array Slot), 40 - i < n_ → i ≤ Z j → Wd E A s.heap (wcat [CO o vl vt vk vy kp, IA E (o 3) 7 F, HW E vl S Tl, HW E vt (wks S P G i) T1, [(o 2, .inl (E.2.2.2, 4, .inr (.inr (.inr (.inr qf)))))], SHW E a n (B j) (nI (Z j)) (fil (bkR S P G g) (N j) i)]) H locs → lv_has ls 5 [(0, .ref (o 0)), (1, .int (nI j)), (2, .int (nI g)), (4, .int (nI i))] → W p l e R s m args below meth c H locs 0 0 Q (F0 m 36 ls []) := by
        intro n_
        induction n_ with
        | zero => intro i T1 H locs ls hm; exact absurd hm (Nat.not_lt_zero _)
        | succ n_ ih =>
          intro i T1 H locs ls hm hi hW hl
          refine lv_iload hx hb dX4_book_36 (lv_at hl 3 rfl) ?_
          refine lv_aload_n hx hb dX4_book_38 rfl (lv_at hl 0 rfl) ?_
          refine r_get hC hW flX4_44 0 rfl rfl dX4_book_39 ?_
          refine lv_iload_n hx hb dX4_book_42 rfl (lv_at hl 1 rfl) ?_
          refine r_aald hC hW 24 rfl j (b := a) rfl (by omega) (by decide) hqj dX4_book_43 ?_
          refine r_get hC hW flX4_203 25 rfl rfl dX4_book_44 ?_
          refine lv_icmp_ge (tgt := 85) hx hb dX4_book_47 (by decide) (fun c_7 => ?_) (fun c_7 => ?_)
          · have c_7 : Z j ≤ i := (nI_leI (a := Z j) (b := i) (by omega) (by omega)).mp c_7
            refine lv_aload_n hx hb dX4_book_85 rfl (lv_at hl 0 rfl) ?_
            refine r_get hC hW flX4_44 0 rfl rfl dX4_book_86 ?_
            refine lv_iload_n hx hb dX4_book_89 rfl (lv_at hl 1 rfl) ?_
            refine r_aald hC hW 24 rfl j (b := a) rfl (by omega) (by decide) hqj dX4_book_90 ?_
            refine r_get hC hW flX4_203 25 rfl rfl dX4_book_91 ?_
            exact r_iret hC hQ hD hW (wks S P G i, T1) (by rw [mBook, cif_t (show isN 4 (nI j) from ⟨j, hj, rfl⟩), ix_nI (n := j) (by omega), if_neg hbm, cif_t b_4, ix_nI (n := g) (by omega)]; first | done | rfl) (by rw [mBook, cif_t (show isN 4 (nI j) from ⟨j, hj, rfl⟩), ix_nI (n := j) (by omega), if_neg hbm, cif_t b_4, ix_nI (n := g) (by omega)]; dsimp only; rw [up_at, show Z j = i by omega]; first | done | rfl) rfl dX4_book_94
          · have c_7 : ¬ Z j ≤ i := fun z_ => c_7 ((nI_leI (a := Z j) (b := i) (by omega) (by omega)).mpr z_)
            refine lv_aload_n hx hb dX4_book_50 rfl (lv_at hl 0 rfl) ?_
            refine r_get hC hW flX4_44 0 rfl rfl dX4_book_51 ?_
            refine lv_iload_n hx hb dX4_book_54 rfl (lv_at hl 1 rfl) ?_
            refine r_aald hC hW 24 rfl j (b := a) rfl (by omega) (by decide) hqj dX4_book_55 ?_
            refine lv_iload hx hb dX4_book_56 (lv_at hl 3 rfl) ?_
            refine lv_aload_n hx hb dX4_book_58 rfl (lv_at hl 0 rfl) ?_
            refine r_get hC hW flX4_16 0 rfl rfl dX4_book_59 ?_
            refine r_get hC hW flX4_145 13 rfl rfl dX4_book_62 ?_
            refine lv_iload_n hx hb dX4_book_65 rfl (lv_at hl 2 rfl) ?_
            refine r_iald hC hW 21 rfl g rfl (by omega) (by decide) dX4_book_66 ?_
            refine lv_i2l (v := ((((wks S P G i) 8 g) : Int32).toInt64)) hx hb dX4_book_67 rfl ?_
            refine r_callCv hC hD hW hA lkX4_211 (c_X2_put l E a n (B j) (Z j) (fil (bkR S P G g) (N j) i) i (by omega) ((((wks S P G i) 8 g) : Int32).toInt64)) rfl rfl ⟨by decide, by decide, by decide, by decide⟩ [5] rfl rfl rfl (fun _ => rfl) hl.1 rfl rfl (Nat.le_of_ble_eq_true rfl) dX4_book_68 (fun _ H locs hr_8 hW => ?_)
            have hW : Wd E A s.heap (wcat [CO o vl vt vk vy kp, IA E (o 3) 7 F, HW E vl S Tl, HW E vt (wks S P G i) T1, [(o 2, .inl (E.2.2.2, 4, .inr (.inr (.inr (.inr qf)))))], SHW E a n (B j) (nI (Z j)) (vp_updL (fil (bkR S P G g) (N j) i) i (nar (B j) ((((wks S P G i) 8 g) : Int32).toInt64)))]) H locs := hW
            rw [nar_hold ((HV_wks hV i).gv (show g < G by omega)).2.2.2 hP1, show vp_updL (fil (bkR S P G g) (N j) i) i (wks S P G i 8 g).toInt64 = fil (bkR S P G g) (N j) (i + 1) from fil_putL (bkR S P G g) (N j) i] at hW
            have hW : Wd E A s.heap (wcat [CO o vl vt vk vy kp, IA E (o 3) 7 F, HW E vl S Tl, HW E vt (wks S P G i) T1, [(o 2, .inl (E.2.2.2, 4, .inr (.inr (.inr (.inr qf)))))], SHW E a n (B j) (nI (Z j)) (fil (bkR S P G g) (N j) (i + 1))]) H locs := hW
            refine lv_aload_n hx hb dX4_book_71 rfl (lv_at hl 0 rfl) ?_
            refine r_get hC hW flX4_16 0 rfl rfl dX4_book_72 ?_
            refine lv_iconst (v := 1) hx hb dX4_book_75 (by decide) ?_
            refine r_callCv hC hD hW hA lkX4_155 (c_X0_goWeeks l E vt (wks S P G i) T1 P G (HV_wks hV i) 1 (by omega)) rfl rfl ⟨by decide, by decide, by decide, by decide⟩ [3] rfl rfl rfl (fun _ => rfl) hl.1 rfl rfl (Nat.le_of_ble_eq_true rfl) dX4_book_76 (fun u_10 H locs hr_9 hW => ?_)
            have hW : Wd E A s.heap (wcat [CO o vl vt vk vy kp, IA E (o 3) 7 F, HW E vl S Tl, HW E vt (wks S P G (i + 1)) u_10, [(o 2, .inl (E.2.2.2, 4, .inr (.inr (.inr (.inr qf)))))], SHW E a n (B j) (nI (Z j)) (fil (bkR S P G g) (N j) (i + 1))]) H locs := hW
            refine lv_iinc (v := (nI (i + 1))) (lv' := [(4, .int (nI (i + 1))), (0, .ref (o 0)), (1, .int (nI j)), (2, .int (nI g))]) (k := 3) hx hb dX4_book_79 hl rfl (nI_inc i 1) (by decide) rfl (fun ls hl => ?_)
            refine lv_goto (tgt := 36) hx hb dX4_book_82 (by decide) ?_
            exact ih (i + 1) u_10 _ _ _ (by omega) (by omega) hW (lv_sub hl [1, 2, 3, 0] rfl)
      exact L36 (40 - 0 + 1) 0 Tt _ _ _ (Nat.lt_succ_self _) (by omega) (by have e := hW; rw [show N j = fil (bkR S P G g) (N j) 0 from by funext q; exact (fil_at _ _ (Nat.zero_le q)).symm] at e; exact e) (lv_sub hl [2, 3, 4, 0] rfl)
set_option maxHeartbeats 4000000 in
set_option maxRecDepth 100000 in
theorem c_X4_goesAsBooked (l : Launch) (E : Ev) (o : Nat → Nat) (vl : Nat → Nat) (vt : Nat → Nat) (vk : Nat → Nat) (vy : Nat → Nat) (kp : Int32) (S : HS) (Tt : HS) (P : Nat) (G : Nat) (hV : HV S P G) (a : Nat) (n : Nat) (bt : Int32) (zn : Nat) (f : Nat → Int64) (hz40 : zn ≤ 40) (g : Nat) (hg : g < G) : MI l E yX4_goesAsBooked cX4_goesAsBooked 4 .boolean 4 89 0 0 [.ref (o 0), .ref a, .int (nI g)] (wcat [CO o vl vt vk vy kp, HW E vt S Tt, SHW E a n bt (nI zn) f]) (fun (r : Int32) (u : (HS × HS)) => bz (rdP S P G g zn f) r) (fun (u : (HS × HS)) => (wcat [CO o vl vt vk vy kp, HW E vt u.1 u.2, SHW E a n bt (nI zn) f])) := by
  refine MI_intro RX4 (by decide) rfl (Nat.le_of_ble_eq_true rfl) ?_
  intro p e R s m args below meth c A Q hQ hC hD hW hA ls hl
  have hx := hC.1
  have hb := hC.2.1
  have hW : Wd E A s.heap (wcat [CO o vl vt vk vy kp, HW E vt S Tt, SHW E a n bt (nI zn) f]) s.heap [] := hW
  have hD : Dj A [o 0, vt 0, vt 1, vt 2, vt 3, vt 4, vt 5, vt 6, vt 7, vt 8, vt 9, vt 10, a, n] := hD
  have hl : lv_has ls 4 [(0, .ref (o 0)), (1, .ref a), (2, .int (nI g))] := hl
  have hP := hV.p
  have hP1 := hV.p6
  have hG := hV.g
  have hG1 := hV.g10
  refine lv_iconst (v := 0) hx hb dX4_goesAsBooked_0 (by decide) ?_
  refine lv_istore_n (lv' := [(3, .int 0), (0, .ref (o 0)), (1, .ref a), (2, .int (nI g))]) hx hb dX4_goesAsBooked_1 rfl hl (by decide) rfl (fun ls hl => ?_)
  have L2 : ∀ (n_ : Nat) (i : Nat) (S1 : HS) (T1 : HS) (H : Heap) (locs : List Loc) (ls : Array Slot), 40 - i < n_ → i ≤ zn → (i < zn → S1 = wks S P G i) → (∀ q_, q_ < i → f q_ = (wks S P G q_ 8 g).toInt64) → Wd E A s.heap (wcat [CO o vl vt vk vy kp, HW E vt S1 T1, SHW E a n bt (nI zn) f]) H locs → lv_has ls 4 [(0, .ref (o 0)), (1, .ref a), (2, .int (nI g)), (3, .int (nI i))] → W p l e R s m args below meth c H locs 0 0 Q (F0 m 2 ls []) := by
    intro n_
    induction n_ with
    | zero => intro i S1 T1 H locs ls hm; exact absurd hm (Nat.not_lt_zero _)
    | succ n_ ih =>
      intro i S1 T1 H locs ls hm hi hs hr hW hl
      refine lv_iload_n hx hb dX4_goesAsBooked_2 rfl (lv_at hl 3 rfl) ?_
      refine lv_aload_n hx hb dX4_goesAsBooked_3 rfl (lv_at hl 1 rfl) ?_
      refine r_get hC hW flX4_203 12 rfl rfl dX4_goesAsBooked_4 ?_
      refine lv_icmp_ge (tgt := 56) hx hb dX4_goesAsBooked_7 (by decide) (fun c_1 => ?_) (fun c_1 => ?_)
      · have c_1 : zn ≤ i := (nI_leI (a := zn) (b := i) (by omega) (by omega)).mp c_1
        refine lv_iconst (v := 1) hx hb dX4_goesAsBooked_56 (by decide) ?_
        exact r_zret hC hQ hD hW (by decide) (S1, T1) (bz_t (fun q hq => hr q (by omega))) rfl rfl dX4_goesAsBooked_57
      · have c_1 : ¬ zn ≤ i := fun z_ => c_1 ((nI_leI (a := zn) (b := i) (by omega) (by omega)).mpr z_)
        obtain rfl := hs (by omega)
        refine lv_aload_n hx hb dX4_goesAsBooked_10 rfl (lv_at hl 1 rfl) ?_
        refine r_get hC hW flX4_207 12 rfl rfl dX4_goesAsBooked_11 ?_
        refine lv_iload_n hx hb dX4_goesAsBooked_14 rfl (lv_at hl 3 rfl) ?_
        refine r_lald hC hW 13 rfl i rfl (by omega) (by decide) dX4_goesAsBooked_15 ?_
        refine lv_aload_n hx hb dX4_goesAsBooked_16 rfl (lv_at hl 0 rfl) ?_
        refine r_get hC hW flX4_16 0 rfl rfl dX4_goesAsBooked_17 ?_
        refine r_get hC hW flX4_145 1 rfl rfl dX4_goesAsBooked_20 ?_
        refine lv_iload_n hx hb dX4_goesAsBooked_23 rfl (lv_at hl 2 rfl) ?_
        refine r_iald hC hW 9 rfl g rfl (by omega) (by decide) dX4_goesAsBooked_24 ?_
        refine lv_i2l (v := ((((wks S P G i) 8 g) : Int32).toInt64)) hx hb dX4_goesAsBooked_25 rfl ?_
        refine W.lcmp hx hb dX4_goesAsBooked_26 ?_
        refine lv_if_eq (tgt := 32) hx hb dX4_goesAsBooked_27 (by decide) (fun c_2 => ?_) (fun c_2 => ?_)
        · have c_2 : (f i) = ((((wks S P G i) 8 g) : Int32).toInt64) := cmp_eq c_2
          refine lv_iload_n hx hb dX4_goesAsBooked_32 rfl (lv_at hl 3 rfl) ?_
          refine lv_iconst (v := 1) hx hb dX4_goesAsBooked_33 (by decide) ?_
          refine n_iadd (v := (nI (i + 1))) hx hb dX4_goesAsBooked_34 (nI_add i 1) ?_
          refine lv_aload_n hx hb dX4_goesAsBooked_35 rfl (lv_at hl 1 rfl) ?_
          refine r_get hC hW flX4_203 12 rfl rfl dX4_goesAsBooked_36 ?_
          refine lv_icmp_ge (tgt := 50) hx hb dX4_goesAsBooked_39 (by decide) (fun c_3 => ?_) (fun c_3 => ?_)
          · have c_3 : zn ≤ i + 1 := (nI_leI (a := zn) (b := i + 1) (by omega) (by omega)).mp c_3
            refine lv_iinc (v := (nI (i + 1))) (lv' := [(3, .int (nI (i + 1))), (0, .ref (o 0)), (1, .ref a), (2, .int (nI g))]) (k := 3) hx hb dX4_goesAsBooked_50 hl rfl (nI_inc i 1) (by decide) rfl (fun ls hl => ?_)
            refine lv_goto (tgt := 2) hx hb dX4_goesAsBooked_53 (by decide) ?_
            exact ih (i + 1) (wks S P G i) T1 _ _ _ (by omega) (by omega) (fun h_ => absurd h_ (by omega)) (lt_s hr c_2) hW (lv_sub hl [1, 2, 3, 0] rfl)
          · have c_3 : ¬ zn ≤ i + 1 := fun z_ => c_3 ((nI_leI (a := zn) (b := i + 1) (by omega) (by omega)).mpr z_)
            refine lv_aload_n hx hb dX4_goesAsBooked_42 rfl (lv_at hl 0 rfl) ?_
            refine r_get hC hW flX4_16 0 rfl rfl dX4_goesAsBooked_43 ?_
            refine lv_iconst (v := 1) hx hb dX4_goesAsBooked_46 (by decide) ?_
            refine r_callCv hC hD hW hA lkX4_155 (c_X0_goWeeks l E vt (wks S P G i) T1 P G (HV_wks hV i) 1 (by omega)) rfl rfl ⟨by decide, by decide, by decide, by decide⟩ [1] rfl rfl rfl (fun _ => rfl) hl.1 rfl rfl (Nat.le_of_ble_eq_true rfl) dX4_goesAsBooked_47 (fun u_5 H locs hr_4 hW => ?_)
            have hW : Wd E A s.heap (wcat [CO o vl vt vk vy kp, HW E vt (wks S P G (i + 1)) u_5, SHW E a n bt (nI zn) f]) H locs := hW
            refine lv_iinc (v := (nI (i + 1))) (lv' := [(3, .int (nI (i + 1))), (0, .ref (o 0)), (1, .ref a), (2, .int (nI g))]) (k := 3) hx hb dX4_goesAsBooked_50 hl rfl (nI_inc i 1) (by decide) rfl (fun ls hl => ?_)
            refine lv_goto (tgt := 2) hx hb dX4_goesAsBooked_53 (by decide) ?_
            exact ih (i + 1) (wks S P G (i + 1)) u_5 _ _ _ (by omega) (by omega) (fun _ => rfl) (lt_s hr c_2) hW (lv_sub hl [1, 2, 3, 0] rfl)
        · have c_2 : ¬ (f i) = ((((wks S P G i) 8 g) : Int32).toInt64) := cmp_eqn c_2
          refine lv_iconst (v := 0) hx hb dX4_goesAsBooked_30 (by decide) ?_
          exact r_zret hC hQ hD hW (by decide) (wks S P G i, T1) (bz_f (fun z_ => c_2 (z_ i (by omega)))) rfl rfl dX4_goesAsBooked_31
  exact L2 (40 - 0 + 1) 0 S Tt _ _ _ (Nat.lt_succ_self _) (by omega) (fun _ => rfl) rdP_0 hW (lv_sub hl [1, 2, 3, 0] rfl)
set_option maxHeartbeats 4000000 in
set_option maxRecDepth 100000 in
theorem c_X4_read_b (l : Launch) (E : Ev) (o : Nat → Nat) (vl : Nat → Nat) (vt : Nat → Nat) (vk : Nat → Nat) (vy : Nat → Nat) (kp : Int32) (S : HS) (Tl : HS) (F : FT) (P : Nat) (G : Nat) (B : FT) (Z : Nat → Nat) (N : NT) (x1 : Int32) (x2 : Int32) (hbs : ¬ isN 4 x1) : MI l E yX4_read cX4_read 7 .int 3 63 0 0 [.ref (o 0), .int x1, .int x2] (wcat [CO o vl vt vk vy kp, IA E (o 3) 7 F]) (fun (r : Int32) (_ : Unit) => r = (mRead S F P G B Z N x1 x2).1) (fun (_ : Unit) => (wcat [CO o vl vt vk vy kp, IA E (o 3) 7 ((mRead S F P G B Z N x1 x2).2)])) := by
  refine MI_intro RX4 (by decide) rfl (Nat.le_of_ble_eq_true rfl) ?_
  intro p e R s m args below meth c A Q hQ hC hD hW hA ls hl
  have hx := hC.1
  have hb := hC.2.1
  have hW : Wd E A s.heap (wcat [CO o vl vt vk vy kp, IA E (o 3) 7 F]) s.heap [] := hW
  have hD : Dj A [o 0, o 3] := hD
  have hl : lv_has ls 7 [(0, .ref (o 0)), (1, .int x1), (2, .int x2)] := hl
  refine lv_aload_n hx hb dX4_read_0 rfl (lv_at hl 0 rfl) ?_
  refine lv_iload_n hx hb dX4_read_1 rfl (lv_at hl 1 rfl) ?_
  refine r_callCi hC hD hW hA lkX4_204 (c_X4_findingOfSheet_b l E o vl vt vk vy kp F x1 hbs) rfl rfl ⟨by decide, by decide, by decide, by decide⟩ [0, 1] rfl rfl rfl (fun _ => rfl) hl.1 rfl rfl (Nat.le_of_ble_eq_true rfl) dX4_read_2 (fun r_1 _ H locs hr_1 hW => ?_)
  have hW : Wd E A s.heap (wcat [CO o vl vt vk vy kp, IA E (o 3) 7 (upd F 0 (F 0 + 1))]) H locs := hW
  have hr_1 : r_1 = (-1000000001) := hr_1
  subst hr_1
  refine lv_istore_n (lv' := [(3, .int (-1000000001)), (0, .ref (o 0)), (1, .int x1), (2, .int x2)]) hx hb dX4_read_5 rfl hl (by decide) rfl (fun ls hl => ?_)
  refine lv_iload_n hx hb dX4_read_6 rfl (lv_at hl 0 rfl) ?_
  refine lv_if_eq (tgt := 12) hx hb dX4_read_7 (by decide) (fun c => absurd c (by decide)) (fun _ => ?_)
  refine lv_iload_n hx hb dX4_read_10 rfl (lv_at hl 0 rfl) ?_
  exact r_iret hC hQ hD hW () (by rw [mRead, cif_f hbs]; first | done | rfl) (by rw [mRead, cif_f hbs]; first | done | rfl) rfl dX4_read_11
set_option maxHeartbeats 4000000 in
set_option maxRecDepth 100000 in
theorem c_X4_read (l : Launch) (E : Ev) (o : Nat → Nat) (vl : Nat → Nat) (vt : Nat → Nat) (vk : Nat → Nat) (vy : Nat → Nat) (kp : Int32) (S : HS) (Tl : HS) (F : FT) (P : Nat) (G : Nat) (hV : HV S P G) (St : HS) (Tt : HS) (qf : Nat → Option Nat) (B : FT) (Z : Nat → Nat) (N : NT) (j : Nat) (hj : j < 4) (hZj : Z j ≤ 40) (a : Nat) (n : Nat) (hqj : qf j = some a) (x2 : Int32) : MI l E yX4_read cX4_read 7 .int 5 112 0 0 [.ref (o 0), .int (nI j), .int x2] (wcat [CO o vl vt vk vy kp, IA E (o 3) 7 F, HW E vl S Tl, HW E vt St Tt, [(o 2, .inl (E.2.2.2, 4, .inr (.inr (.inr (.inr qf)))))], SHW E a n (B j) (nI (Z j)) (N j)]) (fun (r : Int32) (u : (HS × HS)) => r = (mRead S F P G B Z N (nI j) x2).1) (fun (u : (HS × HS)) => (wcat [CO o vl vt vk vy kp, IA E (o 3) 7 ((mRead S F P G B Z N (nI j) x2).2), HW E vl S Tl, HW E vt u.1 u.2, [(o 2, .inl (E.2.2.2, 4, .inr (.inr (.inr (.inr qf)))))], SHW E a n (B j) (nI (Z j)) (N j)])) := by
  refine MI_intro RX4 (by decide) rfl (Nat.le_of_ble_eq_true rfl) ?_
  intro p e R s m args below meth c A Q hQ hC hD hW hA ls hl
  have hx := hC.1
  have hb := hC.2.1
  have hW : Wd E A s.heap (wcat [CO o vl vt vk vy kp, IA E (o 3) 7 F, HW E vl S Tl, HW E vt St Tt, [(o 2, .inl (E.2.2.2, 4, .inr (.inr (.inr (.inr qf)))))], SHW E a n (B j) (nI (Z j)) (N j)]) s.heap [] := hW
  have hD : Dj A [o 0, o 3, vl 0, vl 1, vl 2, vl 3, vl 4, vl 5, vl 6, vl 7, vl 8, vl 9, vl 10, vt 0, vt 1, vt 2, vt 3, vt 4, vt 5, vt 6, vt 7, vt 8, vt 9, vt 10, o 2, a, n] := hD
  have hl : lv_has ls 7 [(0, .ref (o 0)), (1, .int (nI j)), (2, .int x2)] := hl
  have hP := hV.p
  have hP1 := hV.p6
  have hG := hV.g
  have hG1 := hV.g10
  by_cases hbm : B j = 0
  · refine lv_aload_n hx hb dX4_read_0 rfl (lv_at hl 0 rfl) ?_
    refine lv_iload_n hx hb dX4_read_1 rfl (lv_at hl 1 rfl) ?_
    refine r_callCi hC hD hW hA lkX4_204 (c_X4_findingOfSheet_m l E o vl vt vk vy kp F qf B Z N j (by omega) (by omega) a n hqj hbm) rfl rfl ⟨by decide, by decide, by decide, by decide⟩ [0, 1, 4, 5] rfl rfl rfl (fun _ => rfl) hl.1 rfl rfl (Nat.le_of_ble_eq_true rfl) dX4_read_2 (fun r_1 _ H locs hr_1 hW => ?_)
    have hW : Wd E A s.heap (wcat [CO o vl vt vk vy kp, IA E (o 3) 7 (upd F 5 (F 5 + 1)), HW E vl S Tl, HW E vt St Tt, [(o 2, .inl (E.2.2.2, 4, .inr (.inr (.inr (.inr qf)))))], SHW E a n (B j) (nI (Z j)) (N j)]) H locs := hW
    have hr_1 : r_1 = (-1000000006) := hr_1
    subst hr_1
    refine lv_istore_n (lv' := [(3, .int (-1000000006)), (0, .ref (o 0)), (1, .int (nI j)), (2, .int x2)]) hx hb dX4_read_5 rfl hl (by decide) rfl (fun ls hl => ?_)
    refine lv_iload_n hx hb dX4_read_6 rfl (lv_at hl 0 rfl) ?_
    refine lv_if_eq (tgt := 12) hx hb dX4_read_7 (by decide) (fun c => absurd c (by decide)) (fun _ => ?_)
    refine lv_iload_n hx hb dX4_read_10 rfl (lv_at hl 0 rfl) ?_
    exact r_iret hC hQ hD hW (St, Tt) (by rw [mRead, cif_t (show isN 4 (nI j) from ⟨j, hj, rfl⟩), ix_nI (n := j) (by omega), if_pos hbm]; first | done | rfl) (by rw [mRead, cif_t (show isN 4 (nI j) from ⟨j, hj, rfl⟩), ix_nI (n := j) (by omega), if_pos hbm]; first | done | rfl) rfl dX4_read_11
  · refine lv_aload_n hx hb dX4_read_0 rfl (lv_at hl 0 rfl) ?_
    refine lv_iload_n hx hb dX4_read_1 rfl (lv_at hl 1 rfl) ?_
    refine r_callCi hC hD hW hA lkX4_204 (c_X4_findingOfSheet_o l E o vl vt vk vy kp F qf B Z N j (by omega) (by omega) a n hqj hbm) rfl rfl ⟨by decide, by decide, by decide, by decide⟩ [0, 1, 4, 5] rfl rfl rfl (fun _ => rfl) hl.1 rfl rfl (Nat.le_of_ble_eq_true rfl) dX4_read_2 (fun r_2 _ H locs hr_2 hW => ?_)
    have hW : Wd E A s.heap (wcat [CO o vl vt vk vy kp, IA E (o 3) 7 F, HW E vl S Tl, HW E vt St Tt, [(o 2, .inl (E.2.2.2, 4, .inr (.inr (.inr (.inr qf)))))], SHW E a n (B j) (nI (Z j)) (N j)]) H locs := hW
    have hr_2 : r_2 = 0 := hr_2
    subst hr_2
    refine lv_istore_n (lv' := [(3, .int 0), (0, .ref (o 0)), (1, .int (nI j)), (2, .int x2)]) hx hb dX4_read_5 rfl hl (by decide) rfl (fun ls hl => ?_)
    refine lv_iload_n hx hb dX4_read_6 rfl (lv_at hl 0 rfl) ?_
    refine lv_if_eq (tgt := 12) hx hb dX4_read_7 (by decide) (fun _ => ?_) (fun c => absurd c (by decide))
    refine lv_aload_n hx hb dX4_read_12 rfl (lv_at hl 1 rfl) ?_
    refine r_get hC hW flX4_10 0 rfl rfl dX4_read_13 ?_
    refine lv_iload_n hx hb dX4_read_16 rfl (lv_at hl 3 rfl) ?_
    refine r_callCi hC hD hW hA lkX4_116 (c_X0_hasGarment l E vl S Tl G hV.g hV.g10 x2) rfl rfl ⟨by decide, by decide, by decide, by decide⟩ [2] rfl rfl rfl (fun _ => rfl) hl.1 rfl rfl (Nat.le_of_ble_eq_true rfl) dX4_read_17 (fun r_3 _ H locs hr_3 hW => ?_)
    have hW : Wd E A s.heap (wcat [CO o vl vt vk vy kp, IA E (o 3) 7 F, HW E vl S Tl, HW E vt St Tt, [(o 2, .inl (E.2.2.2, 4, .inr (.inr (.inr (.inr qf)))))], SHW E a n (B j) (nI (Z j)) (N j)]) H locs := hW
    have hr_3 : bz (∃ j, j < G ∧ x2 = nI j) r_3 := hr_3
    rcases hr_3 with ⟨rfl, b_4⟩ | ⟨rfl, b_4⟩
    · refine lv_if_ne (tgt := 29) hx hb dX4_read_20 (by decide) (fun c => absurd c (by decide)) (fun _ => ?_)
      refine lv_aload_n hx hb dX4_read_23 rfl (lv_at hl 1 rfl) ?_
      refine lv_iconst (v := 0) hx hb dX4_read_24 (by decide) ?_
      refine r_callCi hC hD hW hA lkX4_57 (c_X4_finding l E o vl vt vk vy kp F 0 (-1000000001) (by decide) (by decide)) rfl rfl ⟨by decide, by decide, by decide, by decide⟩ [0, 1] rfl rfl rfl (fun _ => rfl) hl.1 rfl rfl (Nat.le_of_ble_eq_true rfl) dX4_read_25 (fun r_5 _ H locs hr_5 hW => ?_)
      have hW : Wd E A s.heap (wcat [CO o vl vt vk vy kp, IA E (o 3) 7 (upd F 0 (F 0 + 1)), HW E vl S Tl, HW E vt St Tt, [(o 2, .inl (E.2.2.2, 4, .inr (.inr (.inr (.inr qf)))))], SHW E a n (B j) (nI (Z j)) (N j)]) H locs := hW
      have hr_5 : r_5 = (-1000000001) := hr_5
      subst hr_5
      exact r_iret hC hQ hD hW (St, Tt) (by rw [mRead, cif_t (show isN 4 (nI j) from ⟨j, hj, rfl⟩), ix_nI (n := j) (by omega), if_neg hbm, cif_f b_4]; first | done | rfl) (by rw [mRead, cif_t (show isN 4 (nI j) from ⟨j, hj, rfl⟩), ix_nI (n := j) (by omega), if_neg hbm, cif_f b_4]; first | done | rfl) rfl dX4_read_28
    · have eb_4 := b_4
      obtain ⟨g, hg, rfl⟩ := eb_4
      refine lv_if_ne (tgt := 29) hx hb dX4_read_20 (by decide) (fun _ => ?_) (fun c => absurd c (by decide))
      refine lv_iconst (v := 0) hx hb dX4_read_29 (by decide) ?_
      refine lv_istore (lv' := [(4, .int 0), (3, .int 0), (0, .ref (o 0)), (1, .int (nI j)), (2, .int (nI g))]) hx hb dX4_read_30 hl (by decide) rfl (fun ls hl => ?_)
      refine lv_iconst (v := 0) hx hb dX4_read_32 (by decide) ?_
      refine lv_istore (lv' := [(5, .int 0), (4, .int 0), (3, .int 0), (0, .ref (o 0)), (1, .int (nI j)), (2, .int (nI g))]) hx hb dX4_read_33 hl (by decide) rfl (fun ls hl => ?_)
      have L35 : ∀ (n_ : Nat) (w : Nat) (S1 : HS) (T1 : HS) (H : Heap) (locs : List Loc) (ls : Array Slot), 3 - w < n_ → w ≤ 3 → Wd E A s.heap (wcat [CO o vl vt vk vy kp, IA E (o 3) 7 F, HW E vl S Tl, HW E vt S1 T1, [(o 2, .inl (E.2.2.2, 4, .inr (.inr (.inr (.inr qf)))))], SHW E a n (B j) (nI (Z j)) (N j)]) H locs → lv_has ls 7 [(0, .ref (o 0)), (1, .int (nI j)), (2, .int (nI g)), (4, .int (nI (ct (rdB S P G g (Z j) (N j)) (100 * w)))), (5, .int (nI w))] → W p l e R s m args below meth c H locs 0 0 Q (F0 m 35 ls []) := by
        intro n_
        induction n_ with
        | zero => intro w S1 T1 H locs ls hm; exact absurd hm (Nat.not_lt_zero _)
        | succ n_ ih =>
          intro w S1 T1 H locs ls hm hw hW hl
          refine lv_iload hx hb dX4_read_35 (lv_at hl 4 rfl) ?_
          refine lv_iconst (v := 3) hx hb dX4_read_37 (by decide) ?_
          refine lv_icmp_ge (tgt := 106) hx hb dX4_read_38 (by decide) (fun c_6 => ?_) (fun c_6 => ?_)
          · have c_6 : 3 ≤ w := (nI_leI (a := 3) (b := w) (by omega) (by omega)).mp c_6
            refine lv_iload hx hb dX4_read_106 (lv_at hl 3 rfl) ?_
            exact r_iret hC hQ hD hW (S1, T1) (by rw [mRead, cif_t (show isN 4 (nI j) from ⟨j, hj, rfl⟩), ix_nI (n := j) (by omega), if_neg hbm, cif_t b_4, ix_nI (n := g) (by omega), show 300 = 100 * w by omega]; first | done | rfl) (by rw [mRead, cif_t (show isN 4 (nI j) from ⟨j, hj, rfl⟩), ix_nI (n := j) (by omega), if_neg hbm, cif_t b_4, ix_nI (n := g) (by omega), show 300 = 100 * w by omega]; first | done | rfl) rfl dX4_read_108
          · have c_6 : ¬ 3 ≤ w := fun z_ => c_6 ((nI_leI (a := 3) (b := w) (by omega) (by omega)).mpr z_)
            refine lv_iconst (v := 0) hx hb dX4_read_41 (by decide) ?_
            refine lv_istore (lv' := [(6, .int 0), (0, .ref (o 0)), (1, .int (nI j)), (2, .int (nI g)), (4, .int (nI (ct (rdB S P G g (Z j) (N j)) (100 * w)))), (5, .int (nI w))]) hx hb dX4_read_42 hl (by decide) rfl (fun ls hl => ?_)
            have L44 : ∀ (n_ : Nat) (q : Nat) (S1 : HS) (T1 : HS) (H : Heap) (locs : List Loc) (ls : Array Slot), 100 - q < n_ → q ≤ 100 → Wd E A s.heap (wcat [CO o vl vt vk vy kp, IA E (o 3) 7 F, HW E vl S Tl, HW E vt S1 T1, [(o 2, .inl (E.2.2.2, 4, .inr (.inr (.inr (.inr qf)))))], SHW E a n (B j) (nI (Z j)) (N j)]) H locs → lv_has ls 7 [(0, .ref (o 0)), (1, .int (nI j)), (2, .int (nI g)), (4, .int (nI (ct (rdB S P G g (Z j) (N j)) (100 * w + q)))), (5, .int (nI w)), (6, .int (nI q))] → W p l e R s m args below meth c H locs 0 0 Q (F0 m 44 ls []) := by
              intro n_
              induction n_ with
              | zero => intro q S1 T1 H locs ls hm; exact absurd hm (Nat.not_lt_zero _)
              | succ n_ ih44 =>
                intro q S1 T1 H locs ls hm hq hW hl
                refine lv_iload hx hb dX4_read_44 (lv_at hl 5 rfl) ?_
                refine lv_bipush (v := 99) hx hb dX4_read_46 (by decide) ?_
                refine lv_icmp_gt (tgt := 100) hx hb dX4_read_48 (by decide) (fun c_7 => ?_) (fun c_7 => ?_)
                · have c_7 : 99 < q := (nI_ltI (a := 99) (b := q) (by omega) (by omega)).mp c_7
                  refine lv_iinc (v := (nI (w + 1))) (lv' := [(5, .int (nI (w + 1))), (0, .ref (o 0)), (1, .int (nI j)), (2, .int (nI g)), (4, .int (nI (ct (rdB S P G g (Z j) (N j)) (100 * w + q)))), (6, .int (nI q))]) (k := 4) hx hb dX4_read_100 hl rfl (nI_inc w 1) (by decide) rfl (fun ls hl => ?_)
                  refine lv_goto (tgt := 35) hx hb dX4_read_103 (by decide) ?_
                  exact ih (w + 1) S1 T1 _ _ _ (by omega) (by omega) hW (by rw [show 100 * (w + 1) = 100 * w + q by omega]; exact lv_sub hl [1, 2, 3, 4, 0] rfl)
                · have c_7 : ¬ 99 < q := fun z_ => c_7 ((nI_ltI (a := 99) (b := q) (by omega) (by omega)).mpr z_)
                  refine lv_aload_n hx hb dX4_read_51 rfl (lv_at hl 0 rfl) ?_
                  refine r_callCv hC hD hW hA lkX4_159 (c_X4_startTrial l E o vl vt vk vy kp S Tl S1 T1) rfl rfl ⟨by decide, by decide, by decide, by decide⟩ [0, 2, 3] rfl rfl rfl (fun _ => rfl) hl.1 rfl rfl (Nat.le_of_ble_eq_true rfl) dX4_read_52 (fun _ H locs hr_8 hW => ?_)
                  have hW : Wd E A s.heap (wcat [CO o vl vt vk vy kp, IA E (o 3) 7 F, HW E vl S Tl, HW E vt S T1, [(o 2, .inl (E.2.2.2, 4, .inr (.inr (.inr (.inr qf)))))], SHW E a n (B j) (nI (Z j)) (N j)]) H locs := hW
                  refine lv_aload_n hx hb dX4_read_55 rfl (lv_at hl 0 rfl) ?_
                  refine r_get hC hW flX4_16 0 rfl rfl dX4_read_56 ?_
                  refine r_get hC hW flX4_139 13 rfl rfl dX4_read_59 ?_
                  refine lv_iload_n hx hb dX4_read_62 rfl (lv_at hl 2 rfl) ?_
                  refine lv_iload hx hb dX4_read_63 (lv_at hl 4 rfl) ?_
                  refine r_iast (ws' := (wcat [CO o vl vt vk vy kp, IA E (o 3) 7 F, HW E vl S Tl, HW E vt (st S 6 g (nI w)) T1, [(o 2, .inl (E.2.2.2, 4, .inr (.inr (.inr (.inr qf)))))], SHW E a n (B j) (nI (Z j)) (N j)])) hC hD hW 19 rfl g rfl (by omega) (by decide) rfl rfl dX4_read_65 (fun H locs hW => ?_)
                  refine lv_aload_n hx hb dX4_read_66 rfl (lv_at hl 0 rfl) ?_
                  refine r_get hC hW flX4_16 0 rfl rfl dX4_read_67 ?_
                  refine r_get hC hW flX4_142 13 rfl rfl dX4_read_70 ?_
                  refine lv_iload_n hx hb dX4_read_73 rfl (lv_at hl 2 rfl) ?_
                  refine lv_iload hx hb dX4_read_74 (lv_at hl 5 rfl) ?_
                  refine r_iast (ws' := (wcat [CO o vl vt vk vy kp, IA E (o 3) 7 F, HW E vl S Tl, HW E vt (st (st S 6 g (nI w)) 7 g (nI q)) T1, [(o 2, .inl (E.2.2.2, 4, .inr (.inr (.inr (.inr qf)))))], SHW E a n (B j) (nI (Z j)) (N j)])) hC hD hW 20 rfl g rfl (by omega) (by decide) rfl rfl dX4_read_76 (fun H locs hW => ?_)
                  refine lv_aload_n hx hb dX4_read_77 rfl (lv_at hl 0 rfl) ?_
                  refine lv_aload_n hx hb dX4_read_78 rfl (lv_at hl 0 rfl) ?_
                  refine r_get hC hW flX4_44 0 rfl rfl dX4_read_79 ?_
                  refine lv_iload_n hx hb dX4_read_82 rfl (lv_at hl 1 rfl) ?_
                  refine r_aald hC hW 24 rfl j (b := a) rfl (by omega) (by decide) hqj dX4_read_83 ?_
                  refine lv_iload_n hx hb dX4_read_84 rfl (lv_at hl 2 rfl) ?_
                  refine r_callCi hC hD hW hA lkX4_232 (c_X4_goesAsBooked l E o vl vt vk vy kp (st (st S 6 g (nI w)) 7 g (nI q)) T1 P G (HV_7 (HV_6n hV (by omega)) (by omega)) a n (B j) (Z j) (N j) hZj g (by omega)) rfl rfl ⟨by decide, by decide, by decide, by decide⟩ [0, 3, 5] rfl rfl rfl (fun _ => rfl) hl.1 rfl rfl (Nat.le_of_ble_eq_true rfl) dX4_read_85 (fun r_9 u_10 H locs hr_9 hW => ?_)
                  have hW : Wd E A s.heap (wcat [CO o vl vt vk vy kp, IA E (o 3) 7 F, HW E vl S Tl, HW E vt u_10.1 u_10.2, [(o 2, .inl (E.2.2.2, 4, .inr (.inr (.inr (.inr qf)))))], SHW E a n (B j) (nI (Z j)) (N j)]) H locs := hW
                  have hr_9 : bz (rdP (st (st S 6 g (nI w)) 7 g (nI q)) P G g (Z j) (N j)) r_9 := hr_9
                  rcases hr_9 with ⟨rfl, b_11⟩ | ⟨rfl, b_11⟩
                  · refine lv_if_eq (tgt := 94) hx hb dX4_read_88 (by decide) (fun _ => ?_) (fun c => absurd c (by decide))
                    refine lv_iinc (v := (nI (q + 1))) (lv' := [(6, .int (nI (q + 1))), (0, .ref (o 0)), (1, .int (nI j)), (2, .int (nI g)), (4, .int (nI (ct (rdB S P G g (Z j) (N j)) (100 * w + q)))), (5, .int (nI w))]) (k := 5) hx hb dX4_read_94 hl rfl (nI_inc q 1) (by decide) rfl (fun ls hl => ?_)
                    refine lv_goto (tgt := 44) hx hb dX4_read_97 (by decide) ?_
                    exact ih44 (q + 1) u_10.1 u_10.2 _ _ _ (by omega) (by omega) hW (by rw [show ct (rdB S P G g (Z j) (N j)) (100 * w + (q + 1)) = _ from ct_n (c := rdB S P G g (Z j) (N j)) (rdB_f2 (by omega) |>.mpr b_11)]; exact lv_sub hl [1, 2, 3, 4, 5, 0] rfl)
                  · refine lv_if_eq (tgt := 94) hx hb dX4_read_88 (by decide) (fun c => absurd c (by decide)) (fun _ => ?_)
                    refine lv_iinc (v := (nI (ct (rdB S P G g (Z j) (N j)) (100 * w + q) + 1))) (lv' := [(4, .int (nI (ct (rdB S P G g (Z j) (N j)) (100 * w + q) + 1))), (0, .ref (o 0)), (1, .int (nI j)), (2, .int (nI g)), (5, .int (nI w)), (6, .int (nI q))]) (k := 3) hx hb dX4_read_91 hl rfl (nI_inc (ct (rdB S P G g (Z j) (N j)) (100 * w + q)) 1) (by decide) rfl (fun ls hl => ?_)
                    refine lv_iinc (v := (nI (q + 1))) (lv' := [(6, .int (nI (q + 1))), (4, .int (nI (ct (rdB S P G g (Z j) (N j)) (100 * w + q) + 1))), (0, .ref (o 0)), (1, .int (nI j)), (2, .int (nI g)), (5, .int (nI w))]) (k := 5) hx hb dX4_read_94 hl rfl (nI_inc q 1) (by decide) rfl (fun ls hl => ?_)
                    refine lv_goto (tgt := 44) hx hb dX4_read_97 (by decide) ?_
                    exact ih44 (q + 1) u_10.1 u_10.2 _ _ _ (by omega) (by omega) hW (by rw [show ct (rdB S P G g (Z j) (N j)) (100 * w + (q + 1)) = _ from ct_y (c := rdB S P G g (Z j) (N j)) (rdB_t2 (by omega) |>.mpr b_11)]; exact lv_sub hl [2, 3, 4, 1, 5, 0] rfl)
            exact L44 (100 - 0 + 1) 0 S1 T1 _ _ _ (Nat.lt_succ_self _) (by omega) hW (lv_sub hl [1, 2, 3, 4, 5, 0] rfl)
      exact L35 (3 - 0 + 1) 0 St Tt _ _ _ (Nat.lt_succ_self _) (by omega) hW (lv_sub hl [3, 4, 5, 1, 0] rfl)
