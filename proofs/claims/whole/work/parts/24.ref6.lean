set_option maxHeartbeats 4000000 in
set_option maxRecDepth 100000 in
theorem c_X5_isPart_ (l : Launch) (E : Ev) (b : Nat → Nat) (z : Nat → Int32) (w : Int64) (Z : Nat → Nat) (hZ : ∀ q, q < 4 → Z q ≤ 40) (j : Nat) (hj : j < 4) (x2 : Int32) (x3 : Int32) : MI l E yX5_isPart_ cX5_isPart_ 4 .boolean 0 0 0 0 [.ref (b 0), .int (nI j), .int x2, .int x3] (wcat [MJ b z w, IA E (b 7) 4 (szA Z)]) (fun (r : Int32) (_ : Unit) => bz (runP (Z j) x2 x3) r) (fun (_ : Unit) => (wcat [MJ b z w, IA E (b 7) 4 (szA Z)])) := by
  refine MI_intro RX5 (by decide) rfl (Nat.le_of_ble_eq_true rfl) ?_
  intro p e R s m args below meth c A Q hQ hC hD hW hA ls hl
  have hx := hC.1
  have hb := hC.2.1
  have hW : Wd E A s.heap (wcat [MJ b z w, IA E (b 7) 4 (szA Z)]) s.heap [] := hW
  have hD : Dj A [b 0, b 7] := hD
  have hl : lv_has ls 4 [(0, .ref (b 0)), (1, .int (nI j)), (2, .int x2), (3, .int x3)] := hl
  refine lv_iload_n hx hb dX5_isPart__0 rfl (lv_at hl 2 rfl) ?_
  refine lv_if_lt (tgt := 34) hx hb dX5_isPart__1 (by decide) (fun c_1 => ?_) (fun c_1 => ?_)
  · refine lv_iconst (v := 0) hx hb dX5_isPart__34 (by decide) ?_
    exact r_zret hC hQ hD hW (by decide) () (bz_f (fun z_ => ((runP_iff (hZ j hj)).mp z_).1 c_1)) rfl rfl dX5_isPart__35
  · refine lv_iload_n hx hb dX5_isPart__4 rfl (lv_at hl 3 rfl) ?_
    refine lv_if_lt (tgt := 34) hx hb dX5_isPart__5 (by decide) (fun c_2 => ?_) (fun c_2 => ?_)
    · refine lv_iconst (v := 0) hx hb dX5_isPart__34 (by decide) ?_
      exact r_zret hC hQ hD hW (by decide) () (bz_f (fun z_ => ((runP_iff (hZ j hj)).mp z_).2.1 c_2)) rfl rfl dX5_isPart__35
    · refine lv_iload_n hx hb dX5_isPart__8 rfl (lv_at hl 3 rfl) ?_
      refine lv_aload_n hx hb dX5_isPart__9 rfl (lv_at hl 0 rfl) ?_
      refine r_get hC hW flX5_28 0 rfl rfl dX5_isPart__10 ?_
      refine lv_iload_n hx hb dX5_isPart__13 rfl (lv_at hl 1 rfl) ?_
      refine r_iald hC hW 1 rfl j rfl (by omega) (by decide) dX5_isPart__14 ?_
      refine n_top (show szA Z j = nI (Z j) from rfl) ?_
      refine lv_icmp_gt (tgt := 34) hx hb dX5_isPart__15 (by decide) (fun c_3 => ?_) (fun c_3 => ?_)
      · refine lv_iconst (v := 0) hx hb dX5_isPart__34 (by decide) ?_
        exact r_zret hC hQ hD hW (by decide) () (bz_f (fun z_ => ((runP_iff (hZ j hj)).mp z_).2.2.1 c_3)) rfl rfl dX5_isPart__35
      · refine lv_iload_n hx hb dX5_isPart__18 rfl (lv_at hl 2 rfl) ?_
        refine lv_aload_n hx hb dX5_isPart__19 rfl (lv_at hl 0 rfl) ?_
        refine r_get hC hW flX5_28 0 rfl rfl dX5_isPart__20 ?_
        refine lv_iload_n hx hb dX5_isPart__23 rfl (lv_at hl 1 rfl) ?_
        refine r_iald hC hW 1 rfl j rfl (by omega) (by decide) dX5_isPart__24 ?_
        refine n_top (show szA Z j = nI (Z j) from rfl) ?_
        refine lv_iload_n hx hb dX5_isPart__25 rfl (lv_at hl 3 rfl) ?_
        refine n_isub (v := (nI (Z j) - x3)) hx hb dX5_isPart__26 rfl ?_
        refine lv_icmp_gt (tgt := 34) hx hb dX5_isPart__27 (by decide) (fun c_4 => ?_) (fun c_4 => ?_)
        · refine lv_iconst (v := 0) hx hb dX5_isPart__34 (by decide) ?_
          exact r_zret hC hQ hD hW (by decide) () (bz_f (fun z_ => ((runP_iff (hZ j hj)).mp z_).2.2.2 c_4)) rfl rfl dX5_isPart__35
        · refine lv_iconst (v := 1) hx hb dX5_isPart__30 (by decide) ?_
          refine lv_goto (tgt := 35) hx hb dX5_isPart__31 (by decide) ?_
          exact r_zret hC hQ hD hW (by decide) () (bz_t ((runP_iff (hZ j hj)).mpr ⟨c_1, c_2, c_3, c_4⟩)) rfl rfl dX5_isPart__35
set_option maxHeartbeats 4000000 in
set_option maxRecDepth 100000 in
theorem c_X5_copy (l : Launch) (E : Ev) (b : Nat → Nat) (z : Nat → Int32) (w : Int64) (F : FT) (B : FT) (Z : Nat → Nat) (N : NT) (hZ : ∀ q, q < 4 → Z q ≤ 40) (f9 : Nat → Int64) (x1 : Int32) (x2 : Int32) (x3 : Int32) (x4 : Int32) (x5 : Int32) : MI l E yX5_copy cX5_copy 7 .int 2 42 0 0 [.ref (b 0), .int x1, .int x2, .int x3, .int x4, .int x5] (wcat [MJ b z w, IA E (b 2) 7 F, IA E (b 6) 4 B, IA E (b 7) 4 (szA Z), LA E (b 8) 160 (en4 N), LA E (b 9) 40 f9]) (fun (r : Int32) (u : (Nat → Int64)) => r = (mCopy F B Z N x1 x2 x3 x4 x5).1) (fun (u : (Nat → Int64)) => (wcat [MJ b z w, IA E (b 2) 7 ((mCopy F B Z N x1 x2 x3 x4 x5).2.1), IA E (b 6) 4 B, IA E (b 7) 4 (szA Z), LA E (b 8) 160 (en4 ((mCopy F B Z N x1 x2 x3 x4 x5).2.2)), LA E (b 9) 40 u])) := by
  refine MI_intro RX5 (by decide) rfl (Nat.le_of_ble_eq_true rfl) ?_
  intro p e R s m args below meth c A Q hQ hC hD hW hA ls hl
  have hx := hC.1
  have hb := hC.2.1
  have hW : Wd E A s.heap (wcat [MJ b z w, IA E (b 2) 7 F, IA E (b 6) 4 B, IA E (b 7) 4 (szA Z), LA E (b 8) 160 (en4 N), LA E (b 9) 40 f9]) s.heap [] := hW
  have hD : Dj A [b 0, b 2, b 6, b 7, b 8, b 9] := hD
  have hl : lv_has ls 7 [(0, .ref (b 0)), (1, .int x1), (2, .int x2), (3, .int x3), (4, .int x4), (5, .int x5)] := hl
  refine lv_iload_n hx hb dX5_copy_0 rfl (lv_at hl 1 rfl) ?_
  refine r_callSi hC hD hW hA lkX5_263 (c_X5_isSheet l E x1) ⟨by decide, by decide, by decide, by decide⟩ rfl hl.1 rfl rfl (Nat.le_of_ble_eq_true rfl) dX5_copy_1 (fun r_1 _ H locs hr_1 hW => ?_)
  have hW : Wd E A s.heap (wcat [MJ b z w, IA E (b 2) 7 F, IA E (b 6) 4 B, IA E (b 7) 4 (szA Z), LA E (b 8) 160 (en4 N), LA E (b 9) 40 f9]) H locs := hW
  have hr_1 : bz (isN 4 x1) r_1 := hr_1
  rcases hr_1 with ⟨rfl, b_2⟩ | ⟨rfl, b_2⟩
  · refine lv_if_eq (tgt := 14) hx hb dX5_copy_4 (by decide) (fun _ => ?_) (fun c => absurd c (by decide))
    refine lv_aload_n hx hb dX5_copy_14 rfl (lv_at hl 0 rfl) ?_
    refine r_ldc hC ctX5_44 dX5_copy_15 ?_
    refine r_callVi hC hD hW hA lkX5_73 (c_X5_finds l E (b 0) (MF b z w) (b 2) rfl F (-1000000001) 0 (by decide) (by decide)) rfl ⟨by decide, by decide, by decide, by decide⟩ [0, 1] rfl rfl rfl (fun _ => rfl) hl.1 rfl rfl (Nat.le_of_ble_eq_true rfl) dX5_copy_17 (fun r_3 _ H locs hr_3 hW => ?_)
    have hW : Wd E A s.heap (wcat [MJ b z w, IA E (b 2) 7 (upd F 0 (F 0 + 1)), IA E (b 6) 4 B, IA E (b 7) 4 (szA Z), LA E (b 8) 160 (en4 N), LA E (b 9) 40 f9]) H locs := hW
    have hr_3 : r_3 = (-1000000001) := hr_3
    subst hr_3
    exact r_iret hC hQ hD hW f9 (by rw [mCopy, cif_f (fun z_ => b_2 z_.1)]; first | done | rfl) (by rw [mCopy, cif_f (fun z_ => b_2 z_.1)]; first | done | rfl) rfl dX5_copy_20
  · have eb_2 := b_2
    obtain ⟨j, hj, rfl⟩ := eb_2
    refine lv_if_eq (tgt := 14) hx hb dX5_copy_4 (by decide) (fun c => absurd c (by decide)) (fun _ => ?_)
    refine lv_iload_n hx hb dX5_copy_7 rfl (lv_at hl 3 rfl) ?_
    refine r_callSi hC hD hW hA lkX5_263 (c_X5_isSheet l E x3) ⟨by decide, by decide, by decide, by decide⟩ rfl hl.1 rfl rfl (Nat.le_of_ble_eq_true rfl) dX5_copy_8 (fun r_4 _ H locs hr_4 hW => ?_)
    have hW : Wd E A s.heap (wcat [MJ b z w, IA E (b 2) 7 F, IA E (b 6) 4 B, IA E (b 7) 4 (szA Z), LA E (b 8) 160 (en4 N), LA E (b 9) 40 f9]) H locs := hW
    have hr_4 : bz (isN 4 x3) r_4 := hr_4
    rcases hr_4 with ⟨rfl, b_5⟩ | ⟨rfl, b_5⟩
    · refine lv_if_ne (tgt := 21) hx hb dX5_copy_11 (by decide) (fun c => absurd c (by decide)) (fun _ => ?_)
      refine lv_aload_n hx hb dX5_copy_14 rfl (lv_at hl 0 rfl) ?_
      refine r_ldc hC ctX5_44 dX5_copy_15 ?_
      refine r_callVi hC hD hW hA lkX5_73 (c_X5_finds l E (b 0) (MF b z w) (b 2) rfl F (-1000000001) 0 (by decide) (by decide)) rfl ⟨by decide, by decide, by decide, by decide⟩ [0, 1] rfl rfl rfl (fun _ => rfl) hl.1 rfl rfl (Nat.le_of_ble_eq_true rfl) dX5_copy_17 (fun r_6 _ H locs hr_6 hW => ?_)
      have hW : Wd E A s.heap (wcat [MJ b z w, IA E (b 2) 7 (upd F 0 (F 0 + 1)), IA E (b 6) 4 B, IA E (b 7) 4 (szA Z), LA E (b 8) 160 (en4 N), LA E (b 9) 40 f9]) H locs := hW
      have hr_6 : r_6 = (-1000000001) := hr_6
      subst hr_6
      exact r_iret hC hQ hD hW f9 (by rw [mCopy, cif_f (fun z_ => b_5 z_.2)]; first | done | rfl) (by rw [mCopy, cif_f (fun z_ => b_5 z_.2)]; first | done | rfl) rfl dX5_copy_20
    · have eb_5 := b_5
      obtain ⟨j2, hj2, rfl⟩ := eb_5
      refine lv_if_ne (tgt := 21) hx hb dX5_copy_11 (by decide) (fun _ => ?_) (fun c => absurd c (by decide))
      refine lv_aload_n hx hb dX5_copy_21 rfl (lv_at hl 0 rfl) ?_
      refine r_get hC hW flX5_25 0 rfl rfl dX5_copy_22 ?_
      refine lv_iload_n hx hb dX5_copy_25 rfl (lv_at hl 1 rfl) ?_
      refine r_iald hC hW 2 rfl j rfl (by omega) (by decide) dX5_copy_26 ?_
      refine lv_if_eq (tgt := 39) hx hb dX5_copy_27 (by decide) (fun c_7 => ?_) (fun c_7 => ?_)
      · refine lv_aload_n hx hb dX5_copy_39 rfl (lv_at hl 0 rfl) ?_
        refine r_ldcw hC ctX5_267 dX5_copy_40 ?_
        refine r_callVi hC hD hW hA lkX5_73 (c_X5_finds l E (b 0) (MF b z w) (b 2) rfl F (-1000000006) 5 (by decide) (by decide)) rfl ⟨by decide, by decide, by decide, by decide⟩ [0, 1] rfl rfl rfl (fun _ => rfl) hl.1 rfl rfl (Nat.le_of_ble_eq_true rfl) dX5_copy_43 (fun r_8 _ H locs hr_8 hW => ?_)
        have hW : Wd E A s.heap (wcat [MJ b z w, IA E (b 2) 7 (upd F 5 (F 5 + 1)), IA E (b 6) 4 B, IA E (b 7) 4 (szA Z), LA E (b 8) 160 (en4 N), LA E (b 9) 40 f9]) H locs := hW
        have hr_8 : r_8 = (-1000000006) := hr_8
        subst hr_8
        exact r_iret hC hQ hD hW f9 (by rw [mCopy, cif_t ⟨b_2, b_5⟩, ix_nI (n := j) (by omega), ix_nI (n := j2) (by omega), cif_t (Or.inl c_7)]; first | done | rfl) (by rw [mCopy, cif_t ⟨b_2, b_5⟩, ix_nI (n := j) (by omega), ix_nI (n := j2) (by omega), cif_t (Or.inl c_7)]; first | done | rfl) rfl dX5_copy_46
      · refine lv_aload_n hx hb dX5_copy_30 rfl (lv_at hl 0 rfl) ?_
        refine r_get hC hW flX5_25 0 rfl rfl dX5_copy_31 ?_
        refine lv_iload_n hx hb dX5_copy_34 rfl (lv_at hl 3 rfl) ?_
        refine r_iald hC hW 2 rfl j2 rfl (by omega) (by decide) dX5_copy_35 ?_
        refine lv_if_ne (tgt := 47) hx hb dX5_copy_36 (by decide) (fun c_9 => ?_) (fun c_9 => ?_)
        · refine lv_aload_n hx hb dX5_copy_47 rfl (lv_at hl 0 rfl) ?_
          refine r_get hC hW flX5_25 0 rfl rfl dX5_copy_48 ?_
          refine lv_iload_n hx hb dX5_copy_51 rfl (lv_at hl 1 rfl) ?_
          refine r_iald hC hW 2 rfl j rfl (by omega) (by decide) dX5_copy_52 ?_
          refine lv_aload_n hx hb dX5_copy_53 rfl (lv_at hl 0 rfl) ?_
          refine r_get hC hW flX5_25 0 rfl rfl dX5_copy_54 ?_
          refine lv_iload_n hx hb dX5_copy_57 rfl (lv_at hl 3 rfl) ?_
          refine r_iald hC hW 2 rfl j2 rfl (by omega) (by decide) dX5_copy_58 ?_
          refine lv_icmp_eq (tgt := 69) hx hb dX5_copy_59 (by decide) (fun c_10 => ?_) (fun c_10 => ?_)
          · refine lv_aload_n hx hb dX5_copy_69 rfl (lv_at hl 0 rfl) ?_
            refine lv_iload_n hx hb dX5_copy_70 rfl (lv_at hl 1 rfl) ?_
            refine lv_iload_n hx hb dX5_copy_71 rfl (lv_at hl 2 rfl) ?_
            refine lv_iload hx hb dX5_copy_72 (lv_at hl 5 rfl) ?_
            refine r_callCi hC hD hW hA lkX5_272 (c_X5_isPart_ l E b z w (by omega) (by omega) j (by omega) x2 x5) rfl rfl ⟨by decide, by decide, by decide, by decide⟩ [0, 3] rfl rfl rfl (fun _ => rfl) hl.1 rfl rfl (Nat.le_of_ble_eq_true rfl) dX5_copy_74 (fun r_11 _ H locs hr_11 hW => ?_)
            have hW : Wd E A s.heap (wcat [MJ b z w, IA E (b 2) 7 F, IA E (b 6) 4 B, IA E (b 7) 4 (szA Z), LA E (b 8) 160 (en4 N), LA E (b 9) 40 f9]) H locs := hW
            have hr_11 : bz (runP (Z j) x2 x5) r_11 := hr_11
            rcases hr_11 with ⟨rfl, b_12⟩ | ⟨rfl, b_12⟩
            · refine lv_if_eq (tgt := 92) hx hb dX5_copy_77 (by decide) (fun _ => ?_) (fun c => absurd c (by decide))
              refine lv_aload_n hx hb dX5_copy_92 rfl (lv_at hl 0 rfl) ?_
              refine r_ldc hC ctX5_44 dX5_copy_93 ?_
              refine r_callVi hC hD hW hA lkX5_73 (c_X5_finds l E (b 0) (MF b z w) (b 2) rfl F (-1000000001) 0 (by decide) (by decide)) rfl ⟨by decide, by decide, by decide, by decide⟩ [0, 1] rfl rfl rfl (fun _ => rfl) hl.1 rfl rfl (Nat.le_of_ble_eq_true rfl) dX5_copy_95 (fun r_13 _ H locs hr_13 hW => ?_)
              have hW : Wd E A s.heap (wcat [MJ b z w, IA E (b 2) 7 (upd F 0 (F 0 + 1)), IA E (b 6) 4 B, IA E (b 7) 4 (szA Z), LA E (b 8) 160 (en4 N), LA E (b 9) 40 f9]) H locs := hW
              have hr_13 : r_13 = (-1000000001) := hr_13
              subst hr_13
              exact r_iret hC hQ hD hW f9 (by rw [mCopy, cif_t ⟨b_2, b_5⟩, ix_nI (n := j) (by omega), ix_nI (n := j2) (by omega), cif_f (fun z_ => z_.elim c_7 c_9), if_pos c_10, cif_f (fun z_ => b_12 z_.1)]; first | done | rfl) (by rw [mCopy, cif_t ⟨b_2, b_5⟩, ix_nI (n := j) (by omega), ix_nI (n := j2) (by omega), cif_f (fun z_ => z_.elim c_7 c_9), if_pos c_10, cif_f (fun z_ => b_12 z_.1)]; first | done | rfl) rfl dX5_copy_98
            · refine lv_if_eq (tgt := 92) hx hb dX5_copy_77 (by decide) (fun c => absurd c (by decide)) (fun _ => ?_)
              refine lv_aload_n hx hb dX5_copy_80 rfl (lv_at hl 0 rfl) ?_
              refine lv_iload_n hx hb dX5_copy_81 rfl (lv_at hl 3 rfl) ?_
              refine lv_iload hx hb dX5_copy_82 (lv_at hl 4 rfl) ?_
              refine lv_iload hx hb dX5_copy_84 (lv_at hl 5 rfl) ?_
              refine r_callCi hC hD hW hA lkX5_272 (c_X5_isPart_ l E b z w (by omega) (by omega) j2 (by omega) x4 x5) rfl rfl ⟨by decide, by decide, by decide, by decide⟩ [0, 3] rfl rfl rfl (fun _ => rfl) hl.1 rfl rfl (Nat.le_of_ble_eq_true rfl) dX5_copy_86 (fun r_14 _ H locs hr_14 hW => ?_)
              have hW : Wd E A s.heap (wcat [MJ b z w, IA E (b 2) 7 F, IA E (b 6) 4 B, IA E (b 7) 4 (szA Z), LA E (b 8) 160 (en4 N), LA E (b 9) 40 f9]) H locs := hW
              have hr_14 : bz (runP (Z j2) x4 x5) r_14 := hr_14
              rcases hr_14 with ⟨rfl, b_15⟩ | ⟨rfl, b_15⟩
              · refine lv_if_ne (tgt := 99) hx hb dX5_copy_89 (by decide) (fun c => absurd c (by decide)) (fun _ => ?_)
                refine lv_aload_n hx hb dX5_copy_92 rfl (lv_at hl 0 rfl) ?_
                refine r_ldc hC ctX5_44 dX5_copy_93 ?_
                refine r_callVi hC hD hW hA lkX5_73 (c_X5_finds l E (b 0) (MF b z w) (b 2) rfl F (-1000000001) 0 (by decide) (by decide)) rfl ⟨by decide, by decide, by decide, by decide⟩ [0, 1] rfl rfl rfl (fun _ => rfl) hl.1 rfl rfl (Nat.le_of_ble_eq_true rfl) dX5_copy_95 (fun r_16 _ H locs hr_16 hW => ?_)
                have hW : Wd E A s.heap (wcat [MJ b z w, IA E (b 2) 7 (upd F 0 (F 0 + 1)), IA E (b 6) 4 B, IA E (b 7) 4 (szA Z), LA E (b 8) 160 (en4 N), LA E (b 9) 40 f9]) H locs := hW
                have hr_16 : r_16 = (-1000000001) := hr_16
                subst hr_16
                exact r_iret hC hQ hD hW f9 (by rw [mCopy, cif_t ⟨b_2, b_5⟩, ix_nI (n := j) (by omega), ix_nI (n := j2) (by omega), cif_f (fun z_ => z_.elim c_7 c_9), if_pos c_10, cif_f (fun z_ => b_15 z_.2)]; first | done | rfl) (by rw [mCopy, cif_t ⟨b_2, b_5⟩, ix_nI (n := j) (by omega), ix_nI (n := j2) (by omega), cif_f (fun z_ => z_.elim c_7 c_9), if_pos c_10, cif_f (fun z_ => b_15 z_.2)]; first | done | rfl) rfl dX5_copy_98
              · refine lv_if_ne (tgt := 99) hx hb dX5_copy_89 (by decide) (fun _ => ?_) (fun c => absurd c (by decide))
                have q1 := b_12
                have q2 := b_15
                obtain ⟨a, k, rfl, rfl, hak⟩ := q1
                obtain ⟨a2, k2, rfl, ek, hak2⟩ := q2
                have hZj := hZ j (by omega)
                have hZj2 := hZ j2 (by omega)
                have hk2 : k = k2 := (nI_eq (by omega) (by omega)).mp ek
                subst hk2
                refine lv_iconst (v := 0) hx hb dX5_copy_99 (by decide) ?_
                refine lv_istore (lv' := [(6, .int 0), (0, .ref (b 0)), (1, .int (nI j)), (2, .int (nI a)), (3, .int (nI j2)), (4, .int (nI a2)), (5, .int (nI k))]) hx hb dX5_copy_100 hl (by decide) rfl (fun ls hl => ?_)
                have L102 : ∀ (n_ : Nat) (i : Nat) (H : Heap) (locs : List Loc) (ls : Array Slot), k - i < n_ → i ≤ k → Wd E A s.heap (wcat [MJ b z w, IA E (b 2) 7 F, IA E (b 6) 4 B, IA E (b 7) 4 (szA Z), LA E (b 8) 160 (en4 N), LA E (b 9) 40 (fil (fun q => N j (a + q)) f9 i)]) H locs → lv_has ls 7 [(0, .ref (b 0)), (1, .int (nI j)), (2, .int (nI a)), (3, .int (nI j2)), (4, .int (nI a2)), (5, .int (nI k)), (6, .int (nI i))] → W p l e R s m args below meth c H locs 0 0 Q (F0 m 102 ls []) := by
                  intro n_
                  induction n_ with
                  | zero => intro i H locs ls hm; exact absurd hm (Nat.not_lt_zero _)
                  | succ n_ ih =>
                    intro i H locs ls hm hi hW hl
                    refine lv_iload hx hb dX5_copy_102 (lv_at hl 6 rfl) ?_
                    refine lv_iload hx hb dX5_copy_104 (lv_at hl 5 rfl) ?_
                    refine lv_icmp_ge (tgt := 136) hx hb dX5_copy_106 (by decide) (fun c_17 => ?_) (fun c_17 => ?_)
                    · have c_17 : k ≤ i := (nI_leI (a := k) (b := i) (by omega) (by omega)).mp c_17
                      refine lv_iconst (v := 0) hx hb dX5_copy_136 (by decide) ?_
                      refine lv_istore (lv' := [(6, .int 0), (0, .ref (b 0)), (1, .int (nI j)), (2, .int (nI a)), (3, .int (nI j2)), (4, .int (nI a2)), (5, .int (nI k))]) hx hb dX5_copy_137 hl (by decide) rfl (fun ls hl => ?_)
                      have L139 : ∀ (n_ : Nat) (i : Nat) (H : Heap) (locs : List Loc) (ls : Array Slot), k - i < n_ → i ≤ k → Wd E A s.heap (wcat [MJ b z w, IA E (b 2) 7 F, IA E (b 6) 4 B, IA E (b 7) 4 (szA Z), LA E (b 8) 160 (en4 (va_up N j2 (va_cpy (N j) (N j2) a a2 i))), LA E (b 9) 40 (fil (fun q => N j (a + q)) f9 k)]) H locs → lv_has ls 7 [(0, .ref (b 0)), (1, .int (nI j)), (2, .int (nI a)), (3, .int (nI j2)), (4, .int (nI a2)), (5, .int (nI k)), (6, .int (nI i))] → W p l e R s m args below meth c H locs 0 0 Q (F0 m 139 ls []) := by
                        intro n_
                        induction n_ with
                        | zero => intro i H locs ls hm; exact absurd hm (Nat.not_lt_zero _)
                        | succ n_ ih139 =>
                          intro i H locs ls hm hi hW hl
                          refine lv_iload hx hb dX5_copy_139 (lv_at hl 6 rfl) ?_
                          refine lv_iload hx hb dX5_copy_141 (lv_at hl 5 rfl) ?_
                          refine lv_icmp_ge (tgt := 174) hx hb dX5_copy_143 (by decide) (fun c_18 => ?_) (fun c_18 => ?_)
                          · have c_18 : k ≤ i := (nI_leI (a := k) (b := i) (by omega) (by omega)).mp c_18
                            refine lv_iload hx hb dX5_copy_174 (lv_at hl 5 rfl) ?_
                            exact r_iret hC hQ hD hW (fil (fun q => N j (a + q)) f9 k) (by rw [mCopy, cif_t ⟨b_2, b_5⟩, ix_nI (n := j) (by omega), ix_nI (n := j2) (by omega), cif_f (fun z_ => z_.elim c_7 c_9), if_pos c_10, cif_t ⟨b_12, b_15⟩, ix_nI (n := a) (by omega), ix_nI (n := a2) (by omega), ix_nI (n := k) (by omega), show k = i by omega]; first | done | rfl) (by rw [mCopy, cif_t ⟨b_2, b_5⟩, ix_nI (n := j) (by omega), ix_nI (n := j2) (by omega), cif_f (fun z_ => z_.elim c_7 c_9), if_pos c_10, cif_t ⟨b_12, b_15⟩, ix_nI (n := a) (by omega), ix_nI (n := a2) (by omega), ix_nI (n := k) (by omega), show k = i by omega]; first | done | rfl) rfl dX5_copy_176
                          · have c_18 : ¬ k ≤ i := fun z_ => c_18 ((nI_leI (a := k) (b := i) (by omega) (by omega)).mpr z_)
                            refine lv_aload_n hx hb dX5_copy_146 rfl (lv_at hl 0 rfl) ?_
                            refine r_get hC hW flX5_31 0 rfl rfl dX5_copy_147 ?_
                            refine lv_bipush (v := 40) hx hb dX5_copy_150 (by decide) ?_
                            refine lv_iload_n hx hb dX5_copy_152 rfl (lv_at hl 3 rfl) ?_
                            refine n_imul (v := (nI (40 * j2))) hx hb dX5_copy_153 (pk_mul 40 j2) ?_
                            refine lv_iload hx hb dX5_copy_154 (lv_at hl 4 rfl) ?_
                            refine n_iadd (v := (nI (40 * j2 + a2))) hx hb dX5_copy_156 (nI_add (40 * j2) a2) ?_
                            refine lv_iload hx hb dX5_copy_157 (lv_at hl 6 rfl) ?_
                            refine n_iadd (v := (nI (40 * j2 + a2 + i))) hx hb dX5_copy_159 (nI_add (40 * j2 + a2) i) ?_
                            refine lv_aload_n hx hb dX5_copy_160 rfl (lv_at hl 0 rfl) ?_
                            refine r_get hC hW flX5_35 0 rfl rfl dX5_copy_161 ?_
                            refine lv_iload hx hb dX5_copy_164 (lv_at hl 6 rfl) ?_
                            refine r_lald hC hW 5 rfl i rfl (by omega) (by decide) dX5_copy_166 ?_
                            refine n_topl (show fil (fun q => N j (a + q)) f9 k i = N j (a + i) from if_pos (by omega)) ?_
                            refine r_last (ws' := (wcat [MJ b z w, IA E (b 2) 7 F, IA E (b 6) 4 B, IA E (b 7) 4 (szA Z), LA E (b 8) 160 (en4 (va_up N j2 (va_cpy (N j) (N j2) a a2 (i + 1)))), LA E (b 9) 40 (fil (fun q => N j (a + q)) f9 k)])) hC hD hW 4 rfl (40 * j2 + a2 + i) rfl (by omega) (by decide) rfl (by rw [en4_put2 _ (show 40 * j2 + a2 + i = 40 * j2 + (a2 + i) by omega) (by omega), up_at, cpy_step, upup]; rfl) dX5_copy_167 (fun H locs hW => ?_)
                            refine lv_iinc (v := (nI (i + 1))) (lv' := [(6, .int (nI (i + 1))), (0, .ref (b 0)), (1, .int (nI j)), (2, .int (nI a)), (3, .int (nI j2)), (4, .int (nI a2)), (5, .int (nI k))]) (k := 6) hx hb dX5_copy_168 hl rfl (nI_inc i 1) (by decide) rfl (fun ls hl => ?_)
                            refine lv_goto (tgt := 139) hx hb dX5_copy_171 (by decide) ?_
                            exact ih139 (i + 1) _ _ _ (by omega) (by omega) hW (lv_sub hl [1, 2, 3, 4, 5, 6, 0] rfl)
                      exact L139 (k - 0 + 1) 0 _ _ _ (Nat.lt_succ_self _) (by omega) (by have e := hW; rw [show i = k by omega, show en4 N = en4 (va_up N j2 (va_cpy (N j) (N j2) a a2 0)) from congrArg en4 (up_self (cpy_0 _ _ _ _).symm).symm] at e; exact e) (lv_sub hl [1, 2, 3, 4, 5, 6, 0] rfl)
                    · have c_17 : ¬ k ≤ i := fun z_ => c_17 ((nI_leI (a := k) (b := i) (by omega) (by omega)).mpr z_)
                      refine lv_aload_n hx hb dX5_copy_109 rfl (lv_at hl 0 rfl) ?_
                      refine r_get hC hW flX5_35 0 rfl rfl dX5_copy_110 ?_
                      refine lv_iload hx hb dX5_copy_113 (lv_at hl 6 rfl) ?_
                      refine lv_aload_n hx hb dX5_copy_115 rfl (lv_at hl 0 rfl) ?_
                      refine r_get hC hW flX5_31 0 rfl rfl dX5_copy_116 ?_
                      refine lv_bipush (v := 40) hx hb dX5_copy_119 (by decide) ?_
                      refine lv_iload_n hx hb dX5_copy_121 rfl (lv_at hl 1 rfl) ?_
                      refine n_imul (v := (nI (40 * j))) hx hb dX5_copy_122 (pk_mul 40 j) ?_
                      refine lv_iload_n hx hb dX5_copy_123 rfl (lv_at hl 2 rfl) ?_
                      refine n_iadd (v := (nI (40 * j + a))) hx hb dX5_copy_124 (nI_add (40 * j) a) ?_
                      refine lv_iload hx hb dX5_copy_125 (lv_at hl 6 rfl) ?_
                      refine n_iadd (v := (nI (40 * j + a + i))) hx hb dX5_copy_127 (nI_add (40 * j + a) i) ?_
                      refine r_lald hC hW 4 rfl (40 * j + a + i) rfl (by omega) (by decide) dX5_copy_128 ?_
                      refine n_topl (en4_at2 N (show 40 * j + a + i = 40 * j + (a + i) by omega) (by omega)) ?_
                      refine r_last (ws' := (wcat [MJ b z w, IA E (b 2) 7 F, IA E (b 6) 4 B, IA E (b 7) 4 (szA Z), LA E (b 8) 160 (en4 N), LA E (b 9) 40 (fil (fun q => N j (a + q)) f9 (i + 1))])) hC hD hW 5 rfl i rfl (by omega) (by decide) rfl (by rw [show vp_updL (fil (fun q => N j (a + q)) f9 i) i (N j (a + i)) = fil (fun q => N j (a + q)) f9 (i + 1) from fil_putL (fun q => N j (a + q)) f9 i]; rfl) dX5_copy_129 (fun H locs hW => ?_)
                      refine lv_iinc (v := (nI (i + 1))) (lv' := [(6, .int (nI (i + 1))), (0, .ref (b 0)), (1, .int (nI j)), (2, .int (nI a)), (3, .int (nI j2)), (4, .int (nI a2)), (5, .int (nI k))]) (k := 6) hx hb dX5_copy_130 hl rfl (nI_inc i 1) (by decide) rfl (fun ls hl => ?_)
                      refine lv_goto (tgt := 102) hx hb dX5_copy_133 (by decide) ?_
                      exact ih (i + 1) _ _ _ (by omega) (by omega) hW (lv_sub hl [1, 2, 3, 4, 5, 6, 0] rfl)
                exact L102 (k - 0 + 1) 0 _ _ _ (Nat.lt_succ_self _) (by omega) hW (lv_sub hl [1, 2, 3, 4, 5, 6, 0] rfl)
          · refine lv_aload_n hx hb dX5_copy_62 rfl (lv_at hl 0 rfl) ?_
            refine r_ldc hC ctX5_117 dX5_copy_63 ?_
            refine r_callVi hC hD hW hA lkX5_73 (c_X5_finds l E (b 0) (MF b z w) (b 2) rfl F (-1000000003) 2 (by decide) (by decide)) rfl ⟨by decide, by decide, by decide, by decide⟩ [0, 1] rfl rfl rfl (fun _ => rfl) hl.1 rfl rfl (Nat.le_of_ble_eq_true rfl) dX5_copy_65 (fun r_19 _ H locs hr_19 hW => ?_)
            have hW : Wd E A s.heap (wcat [MJ b z w, IA E (b 2) 7 (upd F 2 (F 2 + 1)), IA E (b 6) 4 B, IA E (b 7) 4 (szA Z), LA E (b 8) 160 (en4 N), LA E (b 9) 40 f9]) H locs := hW
            have hr_19 : r_19 = (-1000000003) := hr_19
            subst hr_19
            exact r_iret hC hQ hD hW f9 (by rw [mCopy, cif_t ⟨b_2, b_5⟩, ix_nI (n := j) (by omega), ix_nI (n := j2) (by omega), cif_f (fun z_ => z_.elim c_7 c_9), if_neg c_10]; first | done | rfl) (by rw [mCopy, cif_t ⟨b_2, b_5⟩, ix_nI (n := j) (by omega), ix_nI (n := j2) (by omega), cif_f (fun z_ => z_.elim c_7 c_9), if_neg c_10]; first | done | rfl) rfl dX5_copy_68
        · refine lv_aload_n hx hb dX5_copy_39 rfl (lv_at hl 0 rfl) ?_
          refine r_ldcw hC ctX5_267 dX5_copy_40 ?_
          refine r_callVi hC hD hW hA lkX5_73 (c_X5_finds l E (b 0) (MF b z w) (b 2) rfl F (-1000000006) 5 (by decide) (by decide)) rfl ⟨by decide, by decide, by decide, by decide⟩ [0, 1] rfl rfl rfl (fun _ => rfl) hl.1 rfl rfl (Nat.le_of_ble_eq_true rfl) dX5_copy_43 (fun r_20 _ H locs hr_20 hW => ?_)
          have hW : Wd E A s.heap (wcat [MJ b z w, IA E (b 2) 7 (upd F 5 (F 5 + 1)), IA E (b 6) 4 B, IA E (b 7) 4 (szA Z), LA E (b 8) 160 (en4 N), LA E (b 9) 40 f9]) H locs := hW
          have hr_20 : r_20 = (-1000000006) := hr_20
          subst hr_20
          exact r_iret hC hQ hD hW f9 (by rw [mCopy, cif_t ⟨b_2, b_5⟩, ix_nI (n := j) (by omega), ix_nI (n := j2) (by omega), cif_t (Or.inr c_9)]; first | done | rfl) (by rw [mCopy, cif_t ⟨b_2, b_5⟩, ix_nI (n := j) (by omega), ix_nI (n := j2) (by omega), cif_t (Or.inr c_9)]; first | done | rfl) rfl dX5_copy_46
set_option maxHeartbeats 4000000 in
set_option maxRecDepth 100000 in
theorem c_X5_badSheet_b (l : Launch) (E : Ev) (b : Nat → Nat) (z : Nat → Int32) (w : Int64) (B : FT) (x1 : Int32) (hbs : ¬ isN 4 x1) : MI l E yX5_badSheet cX5_badSheet 2 .int 2 42 0 0 [.ref (b 0), .int x1] (wcat [MJ b z w, IA E (b 6) 4 B]) (fun (r : Int32) (_ : Unit) => r = (-1000000001)) (fun (_ : Unit) => (wcat [MJ b z w, IA E (b 6) 4 B])) := by
  refine MI_intro RX5 (by decide) rfl (Nat.le_of_ble_eq_true rfl) ?_
  intro p e R s m args below meth c A Q hQ hC hD hW hA ls hl
  have hx := hC.1
  have hb := hC.2.1
  have hW : Wd E A s.heap (wcat [MJ b z w, IA E (b 6) 4 B]) s.heap [] := hW
  have hD : Dj A [b 0, b 6] := hD
  have hl : lv_has ls 2 [(0, .ref (b 0)), (1, .int x1)] := hl
  refine lv_iload_n hx hb dX5_badSheet_0 rfl (lv_at hl 1 rfl) ?_
  refine r_callSi hC hD hW hA lkX5_263 (c_X5_isSheet l E x1) ⟨by decide, by decide, by decide, by decide⟩ rfl hl.1 rfl rfl (Nat.le_of_ble_eq_true rfl) dX5_badSheet_1 (fun r_1 _ H locs hr_1 hW => ?_)
  have hW : Wd E A s.heap (wcat [MJ b z w, IA E (b 6) 4 B]) H locs := hW
  have hr_1 : bz (isN 4 x1) r_1 := hr_1
  rcases hr_1 with ⟨rfl, b_2⟩ | ⟨rfl, b_2⟩
  · refine lv_if_ne (tgt := 12) hx hb dX5_badSheet_4 (by decide) (fun c => absurd c (by decide)) (fun _ => ?_)
    refine r_ldc hC ctX5_44 dX5_badSheet_7 ?_
    refine lv_goto (tgt := 28) hx hb dX5_badSheet_9 (by decide) ?_
    exact r_iret hC hQ hD hW () rfl rfl rfl dX5_badSheet_28
  · exact absurd b_2 hbs
set_option maxHeartbeats 4000000 in
set_option maxRecDepth 100000 in
theorem c_X5_badSheet_m (l : Launch) (E : Ev) (b : Nat → Nat) (z : Nat → Int32) (w : Int64) (B : FT) (j : Nat) (hj : j < 4) (hbm : B j = 0) : MI l E yX5_badSheet cX5_badSheet 2 .int 2 42 0 0 [.ref (b 0), .int (nI j)] (wcat [MJ b z w, IA E (b 6) 4 B]) (fun (r : Int32) (_ : Unit) => r = (-1000000006)) (fun (_ : Unit) => (wcat [MJ b z w, IA E (b 6) 4 B])) := by
  refine MI_intro RX5 (by decide) rfl (Nat.le_of_ble_eq_true rfl) ?_
  intro p e R s m args below meth c A Q hQ hC hD hW hA ls hl
  have hx := hC.1
  have hb := hC.2.1
  have hW : Wd E A s.heap (wcat [MJ b z w, IA E (b 6) 4 B]) s.heap [] := hW
  have hD : Dj A [b 0, b 6] := hD
  have hl : lv_has ls 2 [(0, .ref (b 0)), (1, .int (nI j))] := hl
  refine lv_iload_n hx hb dX5_badSheet_0 rfl (lv_at hl 1 rfl) ?_
  refine r_callSi hC hD hW hA lkX5_263 (c_X5_isSheet l E (nI j)) ⟨by decide, by decide, by decide, by decide⟩ rfl hl.1 rfl rfl (Nat.le_of_ble_eq_true rfl) dX5_badSheet_1 (fun r_1 _ H locs hr_1 hW => ?_)
  have hW : Wd E A s.heap (wcat [MJ b z w, IA E (b 6) 4 B]) H locs := hW
  have hr_1 : bz (isN 4 (nI j)) r_1 := hr_1
  rcases hr_1 with ⟨rfl, b_2⟩ | ⟨rfl, b_2⟩
  · exact absurd (show isN 4 (nI j) from ⟨j, hj, rfl⟩) b_2
  · refine lv_if_ne (tgt := 12) hx hb dX5_badSheet_4 (by decide) (fun _ => ?_) (fun c => absurd c (by decide))
    refine lv_aload_n hx hb dX5_badSheet_12 rfl (lv_at hl 0 rfl) ?_
    refine r_get hC hW flX5_25 0 rfl rfl dX5_badSheet_13 ?_
    refine lv_iload_n hx hb dX5_badSheet_16 rfl (lv_at hl 1 rfl) ?_
    refine r_iald hC hW 1 rfl j rfl (by omega) (by decide) dX5_badSheet_17 ?_
    refine lv_if_ne (tgt := 27) hx hb dX5_badSheet_18 (by decide) (fun c_3 => absurd c_3 (fun z => z hbm)) (fun c_3 => ?_)
    refine r_ldcw hC ctX5_267 dX5_badSheet_21 ?_
    refine lv_goto (tgt := 28) hx hb dX5_badSheet_24 (by decide) ?_
    exact r_iret hC hQ hD hW () rfl rfl rfl dX5_badSheet_28
set_option maxHeartbeats 4000000 in
set_option maxRecDepth 100000 in
theorem c_X5_badSheet_o (l : Launch) (E : Ev) (b : Nat → Nat) (z : Nat → Int32) (w : Int64) (B : FT) (j : Nat) (hj : j < 4) (hbm : ¬ B j = 0) : MI l E yX5_badSheet cX5_badSheet 2 .int 2 42 0 0 [.ref (b 0), .int (nI j)] (wcat [MJ b z w, IA E (b 6) 4 B]) (fun (r : Int32) (_ : Unit) => r = 0) (fun (_ : Unit) => (wcat [MJ b z w, IA E (b 6) 4 B])) := by
  refine MI_intro RX5 (by decide) rfl (Nat.le_of_ble_eq_true rfl) ?_
  intro p e R s m args below meth c A Q hQ hC hD hW hA ls hl
  have hx := hC.1
  have hb := hC.2.1
  have hW : Wd E A s.heap (wcat [MJ b z w, IA E (b 6) 4 B]) s.heap [] := hW
  have hD : Dj A [b 0, b 6] := hD
  have hl : lv_has ls 2 [(0, .ref (b 0)), (1, .int (nI j))] := hl
  refine lv_iload_n hx hb dX5_badSheet_0 rfl (lv_at hl 1 rfl) ?_
  refine r_callSi hC hD hW hA lkX5_263 (c_X5_isSheet l E (nI j)) ⟨by decide, by decide, by decide, by decide⟩ rfl hl.1 rfl rfl (Nat.le_of_ble_eq_true rfl) dX5_badSheet_1 (fun r_1 _ H locs hr_1 hW => ?_)
  have hW : Wd E A s.heap (wcat [MJ b z w, IA E (b 6) 4 B]) H locs := hW
  have hr_1 : bz (isN 4 (nI j)) r_1 := hr_1
  rcases hr_1 with ⟨rfl, b_2⟩ | ⟨rfl, b_2⟩
  · exact absurd (show isN 4 (nI j) from ⟨j, hj, rfl⟩) b_2
  · refine lv_if_ne (tgt := 12) hx hb dX5_badSheet_4 (by decide) (fun _ => ?_) (fun c => absurd c (by decide))
    refine lv_aload_n hx hb dX5_badSheet_12 rfl (lv_at hl 0 rfl) ?_
    refine r_get hC hW flX5_25 0 rfl rfl dX5_badSheet_13 ?_
    refine lv_iload_n hx hb dX5_badSheet_16 rfl (lv_at hl 1 rfl) ?_
    refine r_iald hC hW 1 rfl j rfl (by omega) (by decide) dX5_badSheet_17 ?_
    refine lv_if_ne (tgt := 27) hx hb dX5_badSheet_18 (by decide) (fun c_3 => ?_) (fun c_3 => absurd c_3 hbm)
    refine lv_iconst (v := 0) hx hb dX5_badSheet_27 (by decide) ?_
    exact r_iret hC hQ hD hW () rfl rfl rfl dX5_badSheet_28
set_option maxHeartbeats 4000000 in
set_option maxRecDepth 100000 in
theorem c_X5_lays (l : Launch) (E : Ev) (b : Nat → Nat) (z : Nat → Int32) (w : Int64) (S : HS) (F : FT) (P : Nat) (G : Nat) (hV : HV S P G) (B : FT) (Z : Nat → Nat) (N : NT) (hZ : ∀ q, q < 4 → Z q ≤ 40) (x1 : Int32) : MI l E yX5_lays cX5_lays 7 .int 3 63 0 0 [.ref (b 0), .int x1] (wcat [MJ b z w, IA E (b 1) 68 (enc S), IA E (b 2) 7 F, IA E (b 6) 4 B, IA E (b 7) 4 (szA Z), LA E (b 8) 160 (en4 N)]) (fun (r : Int32) (_ : Unit) => r = (mLays S F G B Z N x1).1) (fun (_ : Unit) => (wcat [MJ b z w, IA E (b 1) 68 (enc ((mLays S F G B Z N x1).2.1)), IA E (b 2) 7 ((mLays S F G B Z N x1).2.2), IA E (b 6) 4 B, IA E (b 7) 4 (szA Z), LA E (b 8) 160 (en4 N)])) := by
  refine MI_intro RX5 (by decide) rfl (Nat.le_of_ble_eq_true rfl) ?_
  intro p e R s m args below meth c A Q hQ hC hD hW hA ls hl
  have hx := hC.1
  have hb := hC.2.1
  have hW : Wd E A s.heap (wcat [MJ b z w, IA E (b 1) 68 (enc S), IA E (b 2) 7 F, IA E (b 6) 4 B, IA E (b 7) 4 (szA Z), LA E (b 8) 160 (en4 N)]) s.heap [] := hW
  have hD : Dj A [b 0, b 1, b 2, b 6, b 7, b 8] := hD
  have hl : lv_has ls 7 [(0, .ref (b 0)), (1, .int x1)] := hl
  have hP := hV.p
  have hP1 := hV.p6
  have hG := hV.g
  have hG1 := hV.g10
  by_cases hbs : isN 4 x1
  · have ebs := hbs
    obtain ⟨j, hj, rfl⟩ := ebs
    have hZj := hZ j hj
    by_cases hbm : B j = 0
    · refine lv_aload_n hx hb dX5_lays_0 rfl (lv_at hl 0 rfl) ?_
      refine lv_iload_n hx hb dX5_lays_1 rfl (lv_at hl 1 rfl) ?_
      refine r_callCi hC hD hW hA lkX5_274 (c_X5_badSheet_m l E b z w B j (by omega) hbm) rfl rfl ⟨by decide, by decide, by decide, by decide⟩ [0, 3] rfl rfl rfl (fun _ => rfl) hl.1 rfl rfl (Nat.le_of_ble_eq_true rfl) dX5_lays_2 (fun r_1 _ H locs hr_1 hW => ?_)
      have hW : Wd E A s.heap (wcat [MJ b z w, IA E (b 1) 68 (enc S), IA E (b 2) 7 F, IA E (b 6) 4 B, IA E (b 7) 4 (szA Z), LA E (b 8) 160 (en4 N)]) H locs := hW
      have hr_1 : r_1 = (-1000000006) := hr_1
      subst hr_1
      refine lv_istore_n (lv' := [(2, .int (-1000000006)), (0, .ref (b 0)), (1, .int (nI j))]) hx hb dX5_lays_5 rfl hl (by decide) rfl (fun ls hl => ?_)
      refine lv_iload_n hx hb dX5_lays_6 rfl (lv_at hl 0 rfl) ?_
      refine lv_if_eq (tgt := 16) hx hb dX5_lays_7 (by decide) (fun c => absurd c (by decide)) (fun _ => ?_)
      refine lv_aload_n hx hb dX5_lays_10 rfl (lv_at hl 1 rfl) ?_
      refine lv_iload_n hx hb dX5_lays_11 rfl (lv_at hl 0 rfl) ?_
      refine r_callVi hC hD hW hA lkX5_73 (c_X5_finds l E (b 0) (MF b z w) (b 2) rfl F (-1000000006) 5 (by decide) (by decide)) rfl ⟨by decide, by decide, by decide, by decide⟩ [0, 2] rfl rfl rfl (fun _ => rfl) hl.1 rfl rfl (Nat.le_of_ble_eq_true rfl) dX5_lays_12 (fun r_2 _ H locs hr_2 hW => ?_)
      have hW : Wd E A s.heap (wcat [MJ b z w, IA E (b 1) 68 (enc S), IA E (b 2) 7 (upd F 5 (F 5 + 1)), IA E (b 6) 4 B, IA E (b 7) 4 (szA Z), LA E (b 8) 160 (en4 N)]) H locs := hW
      have hr_2 : r_2 = (-1000000006) := hr_2
      subst hr_2
      exact r_iret hC hQ hD hW () (by rw [mLays, cif_t hbs, ix_nI (n := j) (by omega), if_pos hbm]; first | done | rfl) (by rw [mLays, cif_t hbs, ix_nI (n := j) (by omega), if_pos hbm]; first | done | rfl) rfl dX5_lays_15
    · refine lv_aload_n hx hb dX5_lays_0 rfl (lv_at hl 0 rfl) ?_
      refine lv_iload_n hx hb dX5_lays_1 rfl (lv_at hl 1 rfl) ?_
      refine r_callCi hC hD hW hA lkX5_274 (c_X5_badSheet_o l E b z w B j (by omega) hbm) rfl rfl ⟨by decide, by decide, by decide, by decide⟩ [0, 3] rfl rfl rfl (fun _ => rfl) hl.1 rfl rfl (Nat.le_of_ble_eq_true rfl) dX5_lays_2 (fun r_3 _ H locs hr_3 hW => ?_)
      have hW : Wd E A s.heap (wcat [MJ b z w, IA E (b 1) 68 (enc S), IA E (b 2) 7 F, IA E (b 6) 4 B, IA E (b 7) 4 (szA Z), LA E (b 8) 160 (en4 N)]) H locs := hW
      have hr_3 : r_3 = 0 := hr_3
      subst hr_3
      refine lv_istore_n (lv' := [(2, .int 0), (0, .ref (b 0)), (1, .int (nI j))]) hx hb dX5_lays_5 rfl hl (by decide) rfl (fun ls hl => ?_)
      refine lv_iload_n hx hb dX5_lays_6 rfl (lv_at hl 0 rfl) ?_
      refine lv_if_eq (tgt := 16) hx hb dX5_lays_7 (by decide) (fun _ => ?_) (fun c => absurd c (by decide))
      refine lv_iconst (v := 0) hx hb dX5_lays_16 (by decide) ?_
      refine lv_istore_n (lv' := [(3, .int 0), (2, .int 0), (0, .ref (b 0)), (1, .int (nI j))]) hx hb dX5_lays_17 rfl hl (by decide) rfl (fun ls hl => ?_)
      refine lv_iconst (v := 0) hx hb dX5_lays_18 (by decide) ?_
      refine lv_istore (lv' := [(4, .int 0), (3, .int 0), (2, .int 0), (0, .ref (b 0)), (1, .int (nI j))]) hx hb dX5_lays_19 hl (by decide) rfl (fun ls hl => ?_)
      have L21 : ∀ (n_ : Nat) (i : Nat) (H : Heap) (locs : List Loc) (ls : Array Slot), 40 - i < n_ → i ≤ Z j → i ≤ G → Wd E A s.heap (wcat [MJ b z w, IA E (b 1) 68 (enc (lyS S (N j) i)), IA E (b 2) 7 F, IA E (b 6) 4 B, IA E (b 7) 4 (szA Z), LA E (b 8) 160 (en4 N)]) H locs → lv_has ls 7 [(0, .ref (b 0)), (1, .int (nI j)), (3, .int (nI (lyC (N j) i))), (4, .int (nI i))] → W p l e R s m args below meth c H locs 0 0 Q (F0 m 21 ls []) := by
        intro n_
        induction n_ with
        | zero => intro i H locs ls hm; exact absurd hm (Nat.not_lt_zero _)
        | succ n_ ih =>
          intro i H locs ls hm hi hi2 hW hl
          refine lv_iload hx hb dX5_lays_21 (lv_at hl 3 rfl) ?_
          refine lv_aload_n hx hb dX5_lays_23 rfl (lv_at hl 0 rfl) ?_
          refine r_get hC hW flX5_28 0 rfl rfl dX5_lays_24 ?_
          refine lv_iload_n hx hb dX5_lays_27 rfl (lv_at hl 1 rfl) ?_
          refine r_iald hC hW 4 rfl j rfl (by omega) (by decide) dX5_lays_28 ?_
          refine n_top (show szA Z j = nI (Z j) from rfl) ?_
          refine lv_icmp_ge (tgt := 92) hx hb dX5_lays_29 (by decide) (fun c_4 => ?_) (fun c_4 => ?_)
          · have c_4 : Z j ≤ i := (nI_leI (a := Z j) (b := i) (by omega) (by omega)).mp c_4
            refine lv_iload_n hx hb dX5_lays_92 rfl (lv_at hl 2 rfl) ?_
            exact r_iret hC hQ hD hW () (by rw [mLays, cif_t hbs, ix_nI (n := j) (by omega), if_neg hbm, show min (Z j) G = i by omega]; first | done | rfl) (by rw [mLays, cif_t hbs, ix_nI (n := j) (by omega), if_neg hbm, show min (Z j) G = i by omega]; first | done | rfl) rfl dX5_lays_93
          · have c_4 : ¬ Z j ≤ i := fun z_ => c_4 ((nI_leI (a := Z j) (b := i) (by omega) (by omega)).mpr z_)
            refine lv_iload hx hb dX5_lays_32 (lv_at hl 3 rfl) ?_
            refine lv_aload_n hx hb dX5_lays_34 rfl (lv_at hl 0 rfl) ?_
            refine r_get hC hW flX5_7 0 rfl rfl dX5_lays_35 ?_
            refine lv_iconst (v := 3) hx hb dX5_lays_38 (by decide) ?_
            refine r_iald hC hW 1 rfl 3 rfl (by omega) (by decide) dX5_lays_39 ?_
            refine n_top (enc_0 (lyS S (N j) i) (by decide)) ?_
            refine n_top (HV_lyS hV i).g ?_
            refine lv_icmp_ge (tgt := 92) hx hb dX5_lays_40 (by decide) (fun c_5 => ?_) (fun c_5 => ?_)
            · have c_5 : G ≤ i := (nI_leI (a := G) (b := i) (by omega) (by omega)).mp c_5
              refine lv_iload_n hx hb dX5_lays_92 rfl (lv_at hl 2 rfl) ?_
              exact r_iret hC hQ hD hW () (by rw [mLays, cif_t hbs, ix_nI (n := j) (by omega), if_neg hbm, show min (Z j) G = i by omega]; first | done | rfl) (by rw [mLays, cif_t hbs, ix_nI (n := j) (by omega), if_neg hbm, show min (Z j) G = i by omega]; first | done | rfl) rfl dX5_lays_93
            · have c_5 : ¬ G ≤ i := fun z_ => c_5 ((nI_leI (a := G) (b := i) (by omega) (by omega)).mpr z_)
              refine lv_aload_n hx hb dX5_lays_43 rfl (lv_at hl 0 rfl) ?_
              refine r_get hC hW flX5_31 0 rfl rfl dX5_lays_44 ?_
              refine lv_bipush (v := 40) hx hb dX5_lays_47 (by decide) ?_
              refine lv_iload_n hx hb dX5_lays_49 rfl (lv_at hl 1 rfl) ?_
              refine n_imul (v := (nI (40 * j))) hx hb dX5_lays_50 (pk_mul 40 j) ?_
              refine lv_iload hx hb dX5_lays_51 (lv_at hl 3 rfl) ?_
              refine n_iadd (v := (nI (40 * j + i))) hx hb dX5_lays_53 (nI_add (40 * j) i) ?_
              refine r_lald hC hW 5 rfl (40 * j + i) rfl (by omega) (by decide) dX5_lays_54 ?_
              refine n_topl (en4_at N (s := j) (k := i) (by omega)) ?_
              refine lv_lstore (lv' := [(5, .long (N j i)), (0, .ref (b 0)), (1, .int (nI j)), (3, .int (nI (lyC (N j) i))), (4, .int (nI i))]) hx hb dX5_lays_55 hl (by decide) rfl (fun ls hl => ?_)
              refine lv_lload hx hb dX5_lays_57 (lv_at hl 0 rfl) ?_
              refine lv_lconst (v := 0) hx hb dX5_lays_59 (by decide) ?_
              refine W.lcmp hx hb dX5_lays_60 ?_
              refine lv_if_lt (tgt := 86) hx hb dX5_lays_61 (by decide) (fun c_6 => ?_) (fun c_6 => ?_)
              · have c_6 : (N j i) < 0 := cmp_lt c_6
                refine lv_iinc (v := (nI (i + 1))) (lv' := [(4, .int (nI (i + 1))), (5, .long (N j i)), (0, .ref (b 0)), (1, .int (nI j)), (3, .int (nI (lyC (N j) i)))]) (k := 4) hx hb dX5_lays_86 hl rfl (nI_inc i 1) (by decide) rfl (fun ls hl => ?_)
                refine lv_goto (tgt := 21) hx hb dX5_lays_89 (by decide) ?_
                exact ih (i + 1) _ _ _ (by omega) (by omega) (by omega) (by rw [lyS_f (show ¬ lyP (N j i) from fun z_ => absurd z_.1 (Int64.not_le.mpr c_6))]; exact hW) (by rw [lyC_f (show ¬ lyP (N j i) from fun z_ => absurd z_.1 (Int64.not_le.mpr c_6))]; exact lv_sub hl [2, 3, 4, 0] rfl)
              · have c_6 : ¬ (N j i) < 0 := cmp_ltn c_6
                refine lv_lload hx hb dX5_lays_64 (lv_at hl 0 rfl) ?_
                refine r_ldc2 hC clX5_277 dX5_lays_66 ?_
                refine W.lcmp hx hb dX5_lays_69 ?_
                refine lv_if_gt (tgt := 86) hx hb dX5_lays_70 (by decide) (fun c_7 => ?_) (fun c_7 => ?_)
                · have c_7 : 99 < (N j i) := cmp_gt c_7
                  refine lv_iinc (v := (nI (i + 1))) (lv' := [(4, .int (nI (i + 1))), (5, .long (N j i)), (0, .ref (b 0)), (1, .int (nI j)), (3, .int (nI (lyC (N j) i)))]) (k := 4) hx hb dX5_lays_86 hl rfl (nI_inc i 1) (by decide) rfl (fun ls hl => ?_)
                  refine lv_goto (tgt := 21) hx hb dX5_lays_89 (by decide) ?_
                  exact ih (i + 1) _ _ _ (by omega) (by omega) (by omega) (by rw [lyS_f (show ¬ lyP (N j i) from fun z_ => absurd z_.2 (Int64.not_le.mpr c_7))]; exact hW) (by rw [lyC_f (show ¬ lyP (N j i) from fun z_ => absurd z_.2 (Int64.not_le.mpr c_7))]; exact lv_sub hl [2, 3, 4, 0] rfl)
                · have c_7 : ¬ 99 < (N j i) := cmp_gtn c_7
                  refine lv_aload_n hx hb dX5_lays_73 rfl (lv_at hl 1 rfl) ?_
                  refine lv_iload hx hb dX5_lays_74 (lv_at hl 4 rfl) ?_
                  refine lv_iconst (v := 2) hx hb dX5_lays_76 (by decide) ?_
                  refine lv_lload hx hb dX5_lays_77 (lv_at hl 0 rfl) ?_
                  refine lv_l2i (v := (((N j i) : Int64).toInt32)) hx hb dX5_lays_79 rfl ?_
                  refine r_callVv hC hD hW hA lkX5_118 (c_X5_sews l E (b 0) (b 1) (MF b z w) rfl (lyS S (N j) i) i 2 (((N j i) : Int64).toInt32) (by omega) (by omega)) rfl ⟨by decide, by decide, by decide, by decide⟩ [0, 1] rfl rfl rfl (fun _ => rfl) hl.1 rfl rfl (Nat.le_of_ble_eq_true rfl) dX5_lays_80 (fun _ H locs hr_8 hW => ?_)
                  have hW : Wd E A s.heap (wcat [MJ b z w, IA E (b 1) 68 (enc (st (lyS S (N j) i) 7 i (((N j i) : Int64).toInt32))), IA E (b 2) 7 F, IA E (b 6) 4 B, IA E (b 7) 4 (szA Z), LA E (b 8) 160 (en4 N)]) H locs := hW
                  refine lv_iinc (v := (nI (lyC (N j) i + 1))) (lv' := [(3, .int (nI (lyC (N j) i + 1))), (5, .long (N j i)), (0, .ref (b 0)), (1, .int (nI j)), (4, .int (nI i))]) (k := 3) hx hb dX5_lays_83 hl rfl (nI_inc (lyC (N j) i) 1) (by decide) rfl (fun ls hl => ?_)
                  refine lv_iinc (v := (nI (i + 1))) (lv' := [(4, .int (nI (i + 1))), (3, .int (nI (lyC (N j) i + 1))), (5, .long (N j i)), (0, .ref (b 0)), (1, .int (nI j))]) (k := 4) hx hb dX5_lays_86 hl rfl (nI_inc i 1) (by decide) rfl (fun ls hl => ?_)
                  refine lv_goto (tgt := 21) hx hb dX5_lays_89 (by decide) ?_
                  exact ih (i + 1) _ _ _ (by omega) (by omega) (by omega) (by rw [lyS_t (show lyP (N j i) from ⟨Int64.not_lt.mp c_6, Int64.not_lt.mp c_7⟩)]; exact hW) (by rw [lyC_t (show lyP (N j i) from ⟨Int64.not_lt.mp c_6, Int64.not_lt.mp c_7⟩)]; exact lv_sub hl [3, 4, 1, 0] rfl)
      exact L21 (40 - 0 + 1) 0 _ _ _ (Nat.lt_succ_self _) (by omega) (by omega) hW (lv_sub hl [3, 4, 1, 0] rfl)
  · refine lv_aload_n hx hb dX5_lays_0 rfl (lv_at hl 0 rfl) ?_
    refine lv_iload_n hx hb dX5_lays_1 rfl (lv_at hl 1 rfl) ?_
    refine r_callCi hC hD hW hA lkX5_274 (c_X5_badSheet_b l E b z w B x1 hbs) rfl rfl ⟨by decide, by decide, by decide, by decide⟩ [0, 3] rfl rfl rfl (fun _ => rfl) hl.1 rfl rfl (Nat.le_of_ble_eq_true rfl) dX5_lays_2 (fun r_9 _ H locs hr_9 hW => ?_)
    have hW : Wd E A s.heap (wcat [MJ b z w, IA E (b 1) 68 (enc S), IA E (b 2) 7 F, IA E (b 6) 4 B, IA E (b 7) 4 (szA Z), LA E (b 8) 160 (en4 N)]) H locs := hW
    have hr_9 : r_9 = (-1000000001) := hr_9
    subst hr_9
    refine lv_istore_n (lv' := [(2, .int (-1000000001)), (0, .ref (b 0)), (1, .int x1)]) hx hb dX5_lays_5 rfl hl (by decide) rfl (fun ls hl => ?_)
    refine lv_iload_n hx hb dX5_lays_6 rfl (lv_at hl 0 rfl) ?_
    refine lv_if_eq (tgt := 16) hx hb dX5_lays_7 (by decide) (fun c => absurd c (by decide)) (fun _ => ?_)
    refine lv_aload_n hx hb dX5_lays_10 rfl (lv_at hl 1 rfl) ?_
    refine lv_iload_n hx hb dX5_lays_11 rfl (lv_at hl 0 rfl) ?_
    refine r_callVi hC hD hW hA lkX5_73 (c_X5_finds l E (b 0) (MF b z w) (b 2) rfl F (-1000000001) 0 (by decide) (by decide)) rfl ⟨by decide, by decide, by decide, by decide⟩ [0, 2] rfl rfl rfl (fun _ => rfl) hl.1 rfl rfl (Nat.le_of_ble_eq_true rfl) dX5_lays_12 (fun r_10 _ H locs hr_10 hW => ?_)
    have hW : Wd E A s.heap (wcat [MJ b z w, IA E (b 1) 68 (enc S), IA E (b 2) 7 (upd F 0 (F 0 + 1)), IA E (b 6) 4 B, IA E (b 7) 4 (szA Z), LA E (b 8) 160 (en4 N)]) H locs := hW
    have hr_10 : r_10 = (-1000000001) := hr_10
    subst hr_10
    exact r_iret hC hQ hD hW () (by rw [mLays, cif_f hbs]; first | done | rfl) (by rw [mLays, cif_f hbs]; first | done | rfl) rfl dX5_lays_15
set_option maxHeartbeats 4000000 in
set_option maxRecDepth 100000 in
theorem c_X5_book (l : Launch) (E : Ev) (b : Nat → Nat) (z : Nat → Int32) (w : Int64) (S : HS) (F : FT) (P : Nat) (G : Nat) (hV : HV S P G) (B : FT) (Z : Nat → Nat) (N : NT) (hZ : ∀ q, q < 4 → Z q ≤ 40) (f3 : Nat → Int32) (x1 : Int32) (x2 : Int32) : MI l E yX5_book cX5_book 5 .int 5 113 0 0 [.ref (b 0), .int x1, .int x2] (wcat [MJ b z w, IA E (b 1) 68 (enc S), IA E (b 2) 7 F, IA E (b 3) 68 f3, IA E (b 6) 4 B, IA E (b 7) 4 (szA Z), LA E (b 8) 160 (en4 N)]) (fun (r : Int32) (u : (Nat → Int32)) => r = (mBook S F P G B Z N x1 x2).1) (fun (u : (Nat → Int32)) => (wcat [MJ b z w, IA E (b 1) 68 (enc S), IA E (b 2) 7 ((mBook S F P G B Z N x1 x2).2.1), IA E (b 3) 68 u, IA E (b 6) 4 B, IA E (b 7) 4 (szA Z), LA E (b 8) 160 (en4 ((mBook S F P G B Z N x1 x2).2.2))])) := by
  refine MI_intro RX5 (by decide) rfl (Nat.le_of_ble_eq_true rfl) ?_
  intro p e R s m args below meth c A Q hQ hC hD hW hA ls hl
  have hx := hC.1
  have hb := hC.2.1
  have hW : Wd E A s.heap (wcat [MJ b z w, IA E (b 1) 68 (enc S), IA E (b 2) 7 F, IA E (b 3) 68 f3, IA E (b 6) 4 B, IA E (b 7) 4 (szA Z), LA E (b 8) 160 (en4 N)]) s.heap [] := hW
  have hD : Dj A [b 0, b 1, b 2, b 3, b 6, b 7, b 8] := hD
  have hl : lv_has ls 5 [(0, .ref (b 0)), (1, .int x1), (2, .int x2)] := hl
  have hP := hV.p
  have hP1 := hV.p6
  have hG := hV.g
  have hG1 := hV.g10
  by_cases hbs : isN 4 x1
  · have ebs := hbs
    obtain ⟨j, hj, rfl⟩ := ebs
    have hZj := hZ j hj
    by_cases hbm : B j = 0
    · refine lv_aload_n hx hb dX5_book_0 rfl (lv_at hl 0 rfl) ?_
      refine lv_iload_n hx hb dX5_book_1 rfl (lv_at hl 1 rfl) ?_
      refine r_callCi hC hD hW hA lkX5_274 (c_X5_badSheet_m l E b z w B j (by omega) hbm) rfl rfl ⟨by decide, by decide, by decide, by decide⟩ [0, 4] rfl rfl rfl (fun _ => rfl) hl.1 rfl rfl (Nat.le_of_ble_eq_true rfl) dX5_book_2 (fun r_1 _ H locs hr_1 hW => ?_)
      have hW : Wd E A s.heap (wcat [MJ b z w, IA E (b 1) 68 (enc S), IA E (b 2) 7 F, IA E (b 3) 68 f3, IA E (b 6) 4 B, IA E (b 7) 4 (szA Z), LA E (b 8) 160 (en4 N)]) H locs := hW
      have hr_1 : r_1 = (-1000000006) := hr_1
      subst hr_1
      refine lv_istore_n (lv' := [(3, .int (-1000000006)), (0, .ref (b 0)), (1, .int (nI j)), (2, .int x2)]) hx hb dX5_book_5 rfl hl (by decide) rfl (fun ls hl => ?_)
      refine lv_iload_n hx hb dX5_book_6 rfl (lv_at hl 0 rfl) ?_
      refine lv_if_eq (tgt := 16) hx hb dX5_book_7 (by decide) (fun c => absurd c (by decide)) (fun _ => ?_)
      refine lv_aload_n hx hb dX5_book_10 rfl (lv_at hl 1 rfl) ?_
      refine lv_iload_n hx hb dX5_book_11 rfl (lv_at hl 0 rfl) ?_
      refine r_callVi hC hD hW hA lkX5_73 (c_X5_finds l E (b 0) (MF b z w) (b 2) rfl F (-1000000006) 5 (by decide) (by decide)) rfl ⟨by decide, by decide, by decide, by decide⟩ [0, 2] rfl rfl rfl (fun _ => rfl) hl.1 rfl rfl (Nat.le_of_ble_eq_true rfl) dX5_book_12 (fun r_2 _ H locs hr_2 hW => ?_)
      have hW : Wd E A s.heap (wcat [MJ b z w, IA E (b 1) 68 (enc S), IA E (b 2) 7 (upd F 5 (F 5 + 1)), IA E (b 3) 68 f3, IA E (b 6) 4 B, IA E (b 7) 4 (szA Z), LA E (b 8) 160 (en4 N)]) H locs := hW
      have hr_2 : r_2 = (-1000000006) := hr_2
      subst hr_2
      exact r_iret hC hQ hD hW f3 (by rw [mBook, cif_t hbs, ix_nI (n := j) (by omega), if_pos hbm]; first | done | rfl) (by rw [mBook, cif_t hbs, ix_nI (n := j) (by omega), if_pos hbm]; first | done | rfl) rfl dX5_book_15
    · refine lv_aload_n hx hb dX5_book_0 rfl (lv_at hl 0 rfl) ?_
      refine lv_iload_n hx hb dX5_book_1 rfl (lv_at hl 1 rfl) ?_
      refine r_callCi hC hD hW hA lkX5_274 (c_X5_badSheet_o l E b z w B j (by omega) hbm) rfl rfl ⟨by decide, by decide, by decide, by decide⟩ [0, 4] rfl rfl rfl (fun _ => rfl) hl.1 rfl rfl (Nat.le_of_ble_eq_true rfl) dX5_book_2 (fun r_3 _ H locs hr_3 hW => ?_)
      have hW : Wd E A s.heap (wcat [MJ b z w, IA E (b 1) 68 (enc S), IA E (b 2) 7 F, IA E (b 3) 68 f3, IA E (b 6) 4 B, IA E (b 7) 4 (szA Z), LA E (b 8) 160 (en4 N)]) H locs := hW
      have hr_3 : r_3 = 0 := hr_3
      subst hr_3
      refine lv_istore_n (lv' := [(3, .int 0), (0, .ref (b 0)), (1, .int (nI j)), (2, .int x2)]) hx hb dX5_book_5 rfl hl (by decide) rfl (fun ls hl => ?_)
      refine lv_iload_n hx hb dX5_book_6 rfl (lv_at hl 0 rfl) ?_
      refine lv_if_eq (tgt := 16) hx hb dX5_book_7 (by decide) (fun _ => ?_) (fun c => absurd c (by decide))
      refine lv_aload_n hx hb dX5_book_16 rfl (lv_at hl 1 rfl) ?_
      refine lv_iload_n hx hb dX5_book_17 rfl (lv_at hl 3 rfl) ?_
      refine r_callVi hC hD hW hA lkX5_108 (c_X5_isGarment l E (b 0) (b 1) (MF b z w) rfl S G hV.g hV.g10 x2) rfl ⟨by decide, by decide, by decide, by decide⟩ [0, 1] rfl rfl rfl (fun _ => rfl) hl.1 rfl rfl (Nat.le_of_ble_eq_true rfl) dX5_book_18 (fun r_4 _ H locs hr_4 hW => ?_)
      have hW : Wd E A s.heap (wcat [MJ b z w, IA E (b 1) 68 (enc S), IA E (b 2) 7 F, IA E (b 3) 68 f3, IA E (b 6) 4 B, IA E (b 7) 4 (szA Z), LA E (b 8) 160 (en4 N)]) H locs := hW
      have hr_4 : bz (∃ j, j < G ∧ x2 = nI j) r_4 := hr_4
      rcases hr_4 with ⟨rfl, b_5⟩ | ⟨rfl, b_5⟩
      · refine lv_if_ne (tgt := 31) hx hb dX5_book_21 (by decide) (fun c => absurd c (by decide)) (fun _ => ?_)
        refine lv_aload_n hx hb dX5_book_24 rfl (lv_at hl 1 rfl) ?_
        refine r_ldc hC ctX5_44 dX5_book_25 ?_
        refine r_callVi hC hD hW hA lkX5_73 (c_X5_finds l E (b 0) (MF b z w) (b 2) rfl F (-1000000001) 0 (by decide) (by decide)) rfl ⟨by decide, by decide, by decide, by decide⟩ [0, 2] rfl rfl rfl (fun _ => rfl) hl.1 rfl rfl (Nat.le_of_ble_eq_true rfl) dX5_book_27 (fun r_6 _ H locs hr_6 hW => ?_)
        have hW : Wd E A s.heap (wcat [MJ b z w, IA E (b 1) 68 (enc S), IA E (b 2) 7 (upd F 0 (F 0 + 1)), IA E (b 3) 68 f3, IA E (b 6) 4 B, IA E (b 7) 4 (szA Z), LA E (b 8) 160 (en4 N)]) H locs := hW
        have hr_6 : r_6 = (-1000000001) := hr_6
        subst hr_6
        exact r_iret hC hQ hD hW f3 (by rw [mBook, cif_t hbs, ix_nI (n := j) (by omega), if_neg hbm, cif_f b_5]; first | done | rfl) (by rw [mBook, cif_t hbs, ix_nI (n := j) (by omega), if_neg hbm, cif_f b_5]; first | done | rfl) rfl dX5_book_30
      · have eb_5 := b_5
        obtain ⟨g, hg, rfl⟩ := eb_5
        refine lv_if_ne (tgt := 31) hx hb dX5_book_21 (by decide) (fun _ => ?_) (fun c => absurd c (by decide))
        refine lv_aload_n hx hb dX5_book_31 rfl (lv_at hl 1 rfl) ?_
        refine lv_iconst (v := 1) hx hb dX5_book_32 (by decide) ?_
        refine lv_aload_n hx hb dX5_book_33 rfl (lv_at hl 1 rfl) ?_
        refine r_get hC hW flX5_16 0 rfl rfl dX5_book_34 ?_
        refine r_callVv hC hD hW hA lkX5_153 (c_X5_moveAll_k l E (b 0) (b 1) (MF b z w) rfl (enc S) (b 3) f3) rfl ⟨by decide, by decide, by decide, by decide⟩ [0, 1, 3] rfl rfl rfl (fun _ => rfl) hl.1 rfl rfl (Nat.le_of_ble_eq_true rfl) dX5_book_37 (fun _ H locs hr_7 hW => ?_)
        have hW : Wd E A s.heap (wcat [MJ b z w, IA E (b 1) 68 (enc S), IA E (b 2) 7 F, IA E (b 3) 68 (enc S), IA E (b 6) 4 B, IA E (b 7) 4 (szA Z), LA E (b 8) 160 (en4 N)]) H locs := hW
        refine lv_iconst (v := 0) hx hb dX5_book_40 (by decide) ?_
        refine lv_istore (lv' := [(4, .int 0), (3, .int 0), (0, .ref (b 0)), (1, .int (nI j)), (2, .int (nI g))]) hx hb dX5_book_41 hl (by decide) rfl (fun ls hl => ?_)
        have L43 : ∀ (n_ : Nat) (i : Nat) (H : Heap) (locs : List Loc) (ls : Array Slot), 40 - i < n_ → i ≤ Z j → Wd E A s.heap (wcat [MJ b z w, IA E (b 1) 68 (enc (wks S P G i)), IA E (b 2) 7 F, IA E (b 3) 68 (enc S), IA E (b 6) 4 B, IA E (b 7) 4 (szA Z), LA E (b 8) 160 (en4 (va_up N j (fil (bkR S P G g) (N j) i)))]) H locs → lv_has ls 5 [(0, .ref (b 0)), (1, .int (nI j)), (2, .int (nI g)), (4, .int (nI i))] → W p l e R s m args below meth c H locs 0 0 Q (F0 m 43 ls []) := by
          intro n_
          induction n_ with
          | zero => intro i H locs ls hm; exact absurd hm (Nat.not_lt_zero _)
          | succ n_ ih =>
            intro i H locs ls hm hi hW hl
            refine lv_iload hx hb dX5_book_43 (lv_at hl 3 rfl) ?_
            refine lv_aload_n hx hb dX5_book_45 rfl (lv_at hl 0 rfl) ?_
            refine r_get hC hW flX5_28 0 rfl rfl dX5_book_46 ?_
            refine lv_iload_n hx hb dX5_book_49 rfl (lv_at hl 1 rfl) ?_
            refine r_iald hC hW 5 rfl j rfl (by omega) (by decide) dX5_book_50 ?_
            refine n_top (show szA Z j = nI (Z j) from rfl) ?_
            refine lv_icmp_ge (tgt := 83) hx hb dX5_book_51 (by decide) (fun c_8 => ?_) (fun c_8 => ?_)
            · have c_8 : Z j ≤ i := (nI_leI (a := Z j) (b := i) (by omega) (by omega)).mp c_8
              refine lv_aload_n hx hb dX5_book_83 rfl (lv_at hl 0 rfl) ?_
              refine lv_iconst (v := 0) hx hb dX5_book_84 (by decide) ?_
              refine lv_aload_n hx hb dX5_book_85 rfl (lv_at hl 0 rfl) ?_
              refine r_get hC hW flX5_16 0 rfl rfl dX5_book_86 ?_
              refine r_callVv hC hD hW hA lkX5_153 (c_X5_moveAll_r l E (b 0) (b 1) (MF b z w) rfl (enc (wks S P G i)) (b 3) (enc S)) rfl ⟨by decide, by decide, by decide, by decide⟩ [0, 1, 3] rfl rfl rfl (fun _ => rfl) hl.1 rfl rfl (Nat.le_of_ble_eq_true rfl) dX5_book_89 (fun _ H locs hr_9 hW => ?_)
              have hW : Wd E A s.heap (wcat [MJ b z w, IA E (b 1) 68 (enc S), IA E (b 2) 7 F, IA E (b 3) 68 (enc S), IA E (b 6) 4 B, IA E (b 7) 4 (szA Z), LA E (b 8) 160 (en4 (va_up N j (fil (bkR S P G g) (N j) i)))]) H locs := hW
              refine lv_aload_n hx hb dX5_book_92 rfl (lv_at hl 0 rfl) ?_
              refine r_get hC hW flX5_28 0 rfl rfl dX5_book_93 ?_
              refine lv_iload_n hx hb dX5_book_96 rfl (lv_at hl 1 rfl) ?_
              refine r_iald hC hW 5 rfl j rfl (by omega) (by decide) dX5_book_97 ?_
              refine n_top (show szA Z j = nI (Z j) from rfl) ?_
              exact r_iret hC hQ hD hW (enc S) (by rw [mBook, cif_t hbs, ix_nI (n := j) (by omega), if_neg hbm, cif_t b_5, ix_nI (n := g) (by omega), show Z j = i by omega]; first | done | rfl) (by rw [mBook, cif_t hbs, ix_nI (n := j) (by omega), if_neg hbm, cif_t b_5, ix_nI (n := g) (by omega), show Z j = i by omega]; first | done | rfl) rfl dX5_book_98
            · have c_8 : ¬ Z j ≤ i := fun z_ => c_8 ((nI_leI (a := Z j) (b := i) (by omega) (by omega)).mpr z_)
              refine lv_aload_n hx hb dX5_book_54 rfl (lv_at hl 0 rfl) ?_
              refine r_get hC hW flX5_31 0 rfl rfl dX5_book_55 ?_
              refine lv_bipush (v := 40) hx hb dX5_book_58 (by decide) ?_
              refine lv_iload_n hx hb dX5_book_60 rfl (lv_at hl 1 rfl) ?_
              refine n_imul (v := (nI (40 * j))) hx hb dX5_book_61 (pk_mul 40 j) ?_
              refine lv_iload hx hb dX5_book_62 (lv_at hl 3 rfl) ?_
              refine n_iadd (v := (nI (40 * j + i))) hx hb dX5_book_64 (nI_add (40 * j) i) ?_
              refine lv_aload_n hx hb dX5_book_65 rfl (lv_at hl 0 rfl) ?_
              refine lv_iload_n hx hb dX5_book_66 rfl (lv_at hl 2 rfl) ?_
              refine lv_iconst (v := 3) hx hb dX5_book_67 (by decide) ?_
              refine r_callVi hC hD hW hA lkX5_49 (c_X5_worn l E (b 0) (b 1) (MF b z w) rfl (wks S P G i) g 3 (by omega) (by omega)) rfl ⟨by decide, by decide, by decide, by decide⟩ [0, 1] rfl rfl rfl (fun _ => rfl) hl.1 rfl rfl (Nat.le_of_ble_eq_true rfl) dX5_book_68 (fun r_10 _ H locs hr_10 hW => ?_)
              have hW : Wd E A s.heap (wcat [MJ b z w, IA E (b 1) 68 (enc (wks S P G i)), IA E (b 2) 7 F, IA E (b 3) 68 (enc S), IA E (b 6) 4 B, IA E (b 7) 4 (szA Z), LA E (b 8) 160 (en4 (va_up N j (fil (bkR S P G g) (N j) i)))]) H locs := hW
              have hr_10 : r_10 = ((wks S P G i) 8 g) := hr_10
              subst hr_10
              refine lv_i2l (v := ((((wks S P G i) 8 g) : Int32).toInt64)) hx hb dX5_book_71 rfl ?_
              refine r_last (ws' := (wcat [MJ b z w, IA E (b 1) 68 (enc (wks S P G i)), IA E (b 2) 7 F, IA E (b 3) 68 (enc S), IA E (b 6) 4 B, IA E (b 7) 4 (szA Z), LA E (b 8) 160 (en4 (va_up N j (fil (bkR S P G g) (N j) (i + 1))))])) hC hD hW 6 rfl (40 * j + i) rfl (by omega) (by decide) rfl (by rw [en4_put _ (by omega), up_at, show vp_updL (fil (bkR S P G g) (N j) i) i (wks S P G i 8 g).toInt64 = fil (bkR S P G g) (N j) (i + 1) from fil_putL (bkR S P G g) (N j) i, upup]; rfl) dX5_book_72 (fun H locs hW => ?_)
              refine lv_aload_n hx hb dX5_book_73 rfl (lv_at hl 0 rfl) ?_
              refine r_callVv hC hD hW hA lkX5_145 (c_X5_oneWeek l E (b 0) (b 1) (MF b z w) rfl (wks S P G i) P G (HV_wks hV i)) rfl ⟨by decide, by decide, by decide, by decide⟩ [0, 1] rfl rfl rfl (fun _ => rfl) hl.1 rfl rfl (Nat.le_of_ble_eq_true rfl) dX5_book_74 (fun _ H locs hr_11 hW => ?_)
              have hW : Wd E A s.heap (wcat [MJ b z w, IA E (b 1) 68 (enc (wks S P G (i + 1))), IA E (b 2) 7 F, IA E (b 3) 68 (enc S), IA E (b 6) 4 B, IA E (b 7) 4 (szA Z), LA E (b 8) 160 (en4 (va_up N j (fil (bkR S P G g) (N j) (i + 1))))]) H locs := hW
              refine lv_iinc (v := (nI (i + 1))) (lv' := [(4, .int (nI (i + 1))), (0, .ref (b 0)), (1, .int (nI j)), (2, .int (nI g))]) (k := 3) hx hb dX5_book_77 hl rfl (nI_inc i 1) (by decide) rfl (fun ls hl => ?_)
              refine lv_goto (tgt := 43) hx hb dX5_book_80 (by decide) ?_
              exact ih (i + 1) _ _ _ (by omega) (by omega) hW (lv_sub hl [1, 2, 3, 0] rfl)
        exact L43 (40 - 0 + 1) 0 _ _ _ (Nat.lt_succ_self _) (by omega) (by have e := hW; rw [show N = va_up N j (fil (bkR S P G g) (N j) 0) from (up_self (by funext q; exact (fil_at _ _ (Nat.zero_le q)).symm)).symm] at e; exact e) (lv_sub hl [2, 3, 4, 0] rfl)
  · refine lv_aload_n hx hb dX5_book_0 rfl (lv_at hl 0 rfl) ?_
    refine lv_iload_n hx hb dX5_book_1 rfl (lv_at hl 1 rfl) ?_
    refine r_callCi hC hD hW hA lkX5_274 (c_X5_badSheet_b l E b z w B x1 hbs) rfl rfl ⟨by decide, by decide, by decide, by decide⟩ [0, 4] rfl rfl rfl (fun _ => rfl) hl.1 rfl rfl (Nat.le_of_ble_eq_true rfl) dX5_book_2 (fun r_12 _ H locs hr_12 hW => ?_)
    have hW : Wd E A s.heap (wcat [MJ b z w, IA E (b 1) 68 (enc S), IA E (b 2) 7 F, IA E (b 3) 68 f3, IA E (b 6) 4 B, IA E (b 7) 4 (szA Z), LA E (b 8) 160 (en4 N)]) H locs := hW
    have hr_12 : r_12 = (-1000000001) := hr_12
    subst hr_12
    refine lv_istore_n (lv' := [(3, .int (-1000000001)), (0, .ref (b 0)), (1, .int x1), (2, .int x2)]) hx hb dX5_book_5 rfl hl (by decide) rfl (fun ls hl => ?_)
    refine lv_iload_n hx hb dX5_book_6 rfl (lv_at hl 0 rfl) ?_
    refine lv_if_eq (tgt := 16) hx hb dX5_book_7 (by decide) (fun c => absurd c (by decide)) (fun _ => ?_)
    refine lv_aload_n hx hb dX5_book_10 rfl (lv_at hl 1 rfl) ?_
    refine lv_iload_n hx hb dX5_book_11 rfl (lv_at hl 0 rfl) ?_
    refine r_callVi hC hD hW hA lkX5_73 (c_X5_finds l E (b 0) (MF b z w) (b 2) rfl F (-1000000001) 0 (by decide) (by decide)) rfl ⟨by decide, by decide, by decide, by decide⟩ [0, 2] rfl rfl rfl (fun _ => rfl) hl.1 rfl rfl (Nat.le_of_ble_eq_true rfl) dX5_book_12 (fun r_13 _ H locs hr_13 hW => ?_)
    have hW : Wd E A s.heap (wcat [MJ b z w, IA E (b 1) 68 (enc S), IA E (b 2) 7 (upd F 0 (F 0 + 1)), IA E (b 3) 68 f3, IA E (b 6) 4 B, IA E (b 7) 4 (szA Z), LA E (b 8) 160 (en4 N)]) H locs := hW
    have hr_13 : r_13 = (-1000000001) := hr_13
    subst hr_13
    exact r_iret hC hQ hD hW f3 (by rw [mBook, cif_f hbs]; first | done | rfl) (by rw [mBook, cif_f hbs]; first | done | rfl) rfl dX5_book_15
set_option maxHeartbeats 4000000 in
set_option maxRecDepth 100000 in
theorem c_X5_isSo (l : Launch) (E : Ev) (b : Nat → Nat) (z : Nat → Int32) (w : Int64) (S : HS) (P : Nat) (G : Nat) (hV : HV S P G) (Z : Nat → Nat) (N : NT) (hZ : ∀ q, q < 4 → Z q ≤ 40) (j : Nat) (hj : j < 4) (g : Nat) (hg : g < G) : MI l E yX5_isSo cX5_isSo 5 .boolean 5 113 0 0 [.ref (b 0), .int (nI j), .int (nI g)] (wcat [MJ b z w, IA E (b 1) 68 (enc S), IA E (b 7) 4 (szA Z), LA E (b 8) 160 (en4 N)]) (fun (r : Int32) (u : HS) => bz (rdP S P G g (Z j) (N j)) r) (fun (u : HS) => (wcat [MJ b z w, IA E (b 1) 68 (enc u), IA E (b 7) 4 (szA Z), LA E (b 8) 160 (en4 N)])) := by
  refine MI_intro RX5 (by decide) rfl (Nat.le_of_ble_eq_true rfl) ?_
  intro p e R s m args below meth c A Q hQ hC hD hW hA ls hl
  have hx := hC.1
  have hb := hC.2.1
  have hW : Wd E A s.heap (wcat [MJ b z w, IA E (b 1) 68 (enc S), IA E (b 7) 4 (szA Z), LA E (b 8) 160 (en4 N)]) s.heap [] := hW
  have hD : Dj A [b 0, b 1, b 7, b 8] := hD
  have hl : lv_has ls 5 [(0, .ref (b 0)), (1, .int (nI j)), (2, .int (nI g))] := hl
  have hP := hV.p
  have hP1 := hV.p6
  have hG := hV.g
  have hG1 := hV.g10
  have hZj := hZ j hj
  refine lv_iconst (v := 1) hx hb dX5_isSo_0 (by decide) ?_
  refine lv_istore_n (lv' := [(3, .int 1), (0, .ref (b 0)), (1, .int (nI j)), (2, .int (nI g))]) hx hb dX5_isSo_1 rfl hl (by decide) rfl (fun ls hl => ?_)
  refine lv_iconst (v := 0) hx hb dX5_isSo_2 (by decide) ?_
  refine lv_istore (lv' := [(4, .int 0), (3, .int 1), (0, .ref (b 0)), (1, .int (nI j)), (2, .int (nI g))]) hx hb dX5_isSo_3 hl (by decide) rfl (fun ls hl => ?_)
  have L5 : ∀ (n_ : Nat) (i : Nat) (H : Heap) (locs : List Loc) (ls : Array Slot), 40 - i < n_ → i ≤ Z j → (∀ q_, q_ < i → N j q_ = (wks S P G q_ 8 g).toInt64) → Wd E A s.heap (wcat [MJ b z w, IA E (b 1) 68 (enc (wks S P G i)), IA E (b 7) 4 (szA Z), LA E (b 8) 160 (en4 N)]) H locs → lv_has ls 5 [(0, .ref (b 0)), (1, .int (nI j)), (2, .int (nI g)), (3, .int 1), (4, .int (nI i))] → W p l e R s m args below meth c H locs 0 0 Q (F0 m 5 ls []) := by
    intro n_
    induction n_ with
    | zero => intro i H locs ls hm; exact absurd hm (Nat.not_lt_zero _)
    | succ n_ ih =>
      intro i H locs ls hm hi hr hW hl
      refine lv_iload hx hb dX5_isSo_5 (lv_at hl 4 rfl) ?_
      refine lv_aload_n hx hb dX5_isSo_7 rfl (lv_at hl 0 rfl) ?_
      refine r_get hC hW flX5_28 0 rfl rfl dX5_isSo_8 ?_
      refine lv_iload_n hx hb dX5_isSo_11 rfl (lv_at hl 1 rfl) ?_
      refine r_iald hC hW 2 rfl j rfl (by omega) (by decide) dX5_isSo_12 ?_
      refine n_top (show szA Z j = nI (Z j) from rfl) ?_
      refine lv_icmp_ge (tgt := 59) hx hb dX5_isSo_13 (by decide) (fun c_1 => ?_) (fun c_1 => ?_)
      · have c_1 : Z j ≤ i := (nI_leI (a := Z j) (b := i) (by omega) (by omega)).mp c_1
        refine lv_iload_n hx hb dX5_isSo_59 rfl (lv_at hl 3 rfl) ?_
        exact r_zret hC hQ hD hW (by decide) (wks S P G i) (bz_t (fun q hq => hr q (by omega))) rfl rfl dX5_isSo_60
      · have c_1 : ¬ Z j ≤ i := fun z_ => c_1 ((nI_leI (a := Z j) (b := i) (by omega) (by omega)).mpr z_)
        refine lv_iload_n hx hb dX5_isSo_16 rfl (lv_at hl 3 rfl) ?_
        refine lv_if_eq (tgt := 59) hx hb dX5_isSo_17 (by decide) (fun c => absurd c (by decide)) (fun _ => ?_)
        refine lv_aload_n hx hb dX5_isSo_20 rfl (lv_at hl 0 rfl) ?_
        refine r_get hC hW flX5_31 0 rfl rfl dX5_isSo_21 ?_
        refine lv_bipush (v := 40) hx hb dX5_isSo_24 (by decide) ?_
        refine lv_iload_n hx hb dX5_isSo_26 rfl (lv_at hl 1 rfl) ?_
        refine n_imul (v := (nI (40 * j))) hx hb dX5_isSo_27 (pk_mul 40 j) ?_
        refine lv_iload hx hb dX5_isSo_28 (lv_at hl 4 rfl) ?_
        refine n_iadd (v := (nI (40 * j + i))) hx hb dX5_isSo_30 (nI_add (40 * j) i) ?_
        refine r_lald hC hW 3 rfl (40 * j + i) rfl (by omega) (by decide) dX5_isSo_31 ?_
        refine n_topl (en4_at N (s := j) (k := i) (by omega)) ?_
        refine lv_aload_n hx hb dX5_isSo_32 rfl (lv_at hl 0 rfl) ?_
        refine lv_iload_n hx hb dX5_isSo_33 rfl (lv_at hl 2 rfl) ?_
        refine lv_iconst (v := 3) hx hb dX5_isSo_34 (by decide) ?_
        refine r_callVi hC hD hW hA lkX5_49 (c_X5_worn l E (b 0) (b 1) (MF b z w) rfl (wks S P G i) g 3 (by omega) (by omega)) rfl ⟨by decide, by decide, by decide, by decide⟩ [0, 1] rfl rfl rfl (fun _ => rfl) hl.1 rfl rfl (Nat.le_of_ble_eq_true rfl) dX5_isSo_35 (fun r_2 _ H locs hr_2 hW => ?_)
        have hW : Wd E A s.heap (wcat [MJ b z w, IA E (b 1) 68 (enc (wks S P G i)), IA E (b 7) 4 (szA Z), LA E (b 8) 160 (en4 N)]) H locs := hW
        have hr_2 : r_2 = ((wks S P G i) 8 g) := hr_2
        subst hr_2
        refine lv_i2l (v := ((((wks S P G i) 8 g) : Int32).toInt64)) hx hb dX5_isSo_38 rfl ?_
        refine W.lcmp hx hb dX5_isSo_39 ?_
        refine lv_if_ne (tgt := 47) hx hb dX5_isSo_40 (by decide) (fun c_3 => ?_) (fun c_3 => ?_)
        · have c_3 : ¬ (N j i) = ((((wks S P G i) 8 g) : Int32).toInt64) := cmp_ne c_3
          refine lv_iconst (v := 0) hx hb dX5_isSo_47 (by decide) ?_
          refine lv_istore_n (lv' := [(3, .int 0), (0, .ref (b 0)), (1, .int (nI j)), (2, .int (nI g)), (4, .int (nI i))]) hx hb dX5_isSo_48 rfl hl (by decide) rfl (fun ls hl => ?_)
          refine lv_aload_n hx hb dX5_isSo_49 rfl (lv_at hl 1 rfl) ?_
          refine r_callVv hC hD hW hA lkX5_145 (c_X5_oneWeek l E (b 0) (b 1) (MF b z w) rfl (wks S P G i) P G (HV_wks hV i)) rfl ⟨by decide, by decide, by decide, by decide⟩ [0, 1] rfl rfl rfl (fun _ => rfl) hl.1 rfl rfl (Nat.le_of_ble_eq_true rfl) dX5_isSo_50 (fun _ H locs hr_4 hW => ?_)
          have hW : Wd E A s.heap (wcat [MJ b z w, IA E (b 1) 68 (enc (wks S P G (i + 1))), IA E (b 7) 4 (szA Z), LA E (b 8) 160 (en4 N)]) H locs := hW
          refine lv_iinc (v := (nI (i + 1))) (lv' := [(4, .int (nI (i + 1))), (3, .int 0), (0, .ref (b 0)), (1, .int (nI j)), (2, .int (nI g))]) (k := 4) hx hb dX5_isSo_53 hl rfl (nI_inc i 1) (by decide) rfl (fun ls hl => ?_)
          refine lv_goto (tgt := 5) hx hb dX5_isSo_56 (by decide) ?_
          refine lv_iload hx hb dX5_isSo_5 (lv_at hl 0 rfl) ?_
          refine lv_aload_n hx hb dX5_isSo_7 rfl (lv_at hl 2 rfl) ?_
          refine r_get hC hW flX5_28 0 rfl rfl dX5_isSo_8 ?_
          refine lv_iload_n hx hb dX5_isSo_11 rfl (lv_at hl 3 rfl) ?_
          refine r_iald hC hW 2 rfl j rfl (by omega) (by decide) dX5_isSo_12 ?_
          refine n_top (show szA Z j = nI (Z j) from rfl) ?_
          refine lv_icmp_ge (tgt := 59) hx hb dX5_isSo_13 (by decide) (fun c_5 => ?_) (fun c_5 => ?_)
          · have c_5 : Z j ≤ i + 1 := (nI_leI (a := Z j) (b := i + 1) (by omega) (by omega)).mp c_5
            refine lv_iload_n hx hb dX5_isSo_59 rfl (lv_at hl 1 rfl) ?_
            exact r_zret hC hQ hD hW (by decide) (wks S P G (i + 1)) (bz_f (fun z_ => c_3 (z_ i (by omega)))) rfl rfl dX5_isSo_60
          · have c_5 : ¬ Z j ≤ i + 1 := fun z_ => c_5 ((nI_leI (a := Z j) (b := i + 1) (by omega) (by omega)).mpr z_)
            refine lv_iload_n hx hb dX5_isSo_16 rfl (lv_at hl 1 rfl) ?_
            refine lv_if_eq (tgt := 59) hx hb dX5_isSo_17 (by decide) (fun _ => ?_) (fun c => absurd c (by decide))
            refine lv_iload_n hx hb dX5_isSo_59 rfl (lv_at hl 1 rfl) ?_
            exact r_zret hC hQ hD hW (by decide) (wks S P G (i + 1)) (bz_f (fun z_ => c_3 (z_ i (by omega)))) rfl rfl dX5_isSo_60
        · have c_3 : (N j i) = ((((wks S P G i) 8 g) : Int32).toInt64) := cmp_nen c_3
          refine lv_iconst (v := 1) hx hb dX5_isSo_43 (by decide) ?_
          refine lv_goto (tgt := 48) hx hb dX5_isSo_44 (by decide) ?_
          refine lv_istore_n (lv' := [(3, .int 1), (0, .ref (b 0)), (1, .int (nI j)), (2, .int (nI g)), (4, .int (nI i))]) hx hb dX5_isSo_48 rfl hl (by decide) rfl (fun ls hl => ?_)
          refine lv_aload_n hx hb dX5_isSo_49 rfl (lv_at hl 1 rfl) ?_
          refine r_callVv hC hD hW hA lkX5_145 (c_X5_oneWeek l E (b 0) (b 1) (MF b z w) rfl (wks S P G i) P G (HV_wks hV i)) rfl ⟨by decide, by decide, by decide, by decide⟩ [0, 1] rfl rfl rfl (fun _ => rfl) hl.1 rfl rfl (Nat.le_of_ble_eq_true rfl) dX5_isSo_50 (fun _ H locs hr_6 hW => ?_)
          have hW : Wd E A s.heap (wcat [MJ b z w, IA E (b 1) 68 (enc (wks S P G (i + 1))), IA E (b 7) 4 (szA Z), LA E (b 8) 160 (en4 N)]) H locs := hW
          refine lv_iinc (v := (nI (i + 1))) (lv' := [(4, .int (nI (i + 1))), (3, .int 1), (0, .ref (b 0)), (1, .int (nI j)), (2, .int (nI g))]) (k := 4) hx hb dX5_isSo_53 hl rfl (nI_inc i 1) (by decide) rfl (fun ls hl => ?_)
          refine lv_goto (tgt := 5) hx hb dX5_isSo_56 (by decide) ?_
          exact ih (i + 1) _ _ _ (by omega) (by omega) (lt_s hr c_3) hW (lv_sub hl [2, 3, 4, 1, 0] rfl)
  exact L5 (40 - 0 + 1) 0 _ _ _ (Nat.lt_succ_self _) (by omega) rdP_0 hW (lv_sub hl [2, 3, 4, 1, 0] rfl)
set_option maxHeartbeats 4000000 in
set_option maxRecDepth 100000 in
theorem c_X5_read (l : Launch) (E : Ev) (b : Nat → Nat) (z : Nat → Int32) (w : Int64) (S : HS) (F : FT) (P : Nat) (G : Nat) (hV : HV S P G) (B : FT) (Z : Nat → Nat) (N : NT) (hZ : ∀ q, q < 4 → Z q ≤ 40) (f4 : Nat → Int32) (x1 : Int32) (x2 : Int32) : MI l E yX5_read cX5_read 6 .int 6 137 0 0 [.ref (b 0), .int x1, .int x2] (wcat [MJ b z w, IA E (b 1) 68 (enc S), IA E (b 2) 7 F, IA E (b 4) 68 f4, IA E (b 6) 4 B, IA E (b 7) 4 (szA Z), LA E (b 8) 160 (en4 N)]) (fun (r : Int32) (u : (Nat → Int32)) => r = (mRead S F P G B Z N x1 x2).1) (fun (u : (Nat → Int32)) => (wcat [MJ b z w, IA E (b 1) 68 (enc S), IA E (b 2) 7 ((mRead S F P G B Z N x1 x2).2), IA E (b 4) 68 u, IA E (b 6) 4 B, IA E (b 7) 4 (szA Z), LA E (b 8) 160 (en4 N)])) := by
  refine MI_intro RX5 (by decide) rfl (Nat.le_of_ble_eq_true rfl) ?_
  intro p e R s m args below meth c A Q hQ hC hD hW hA ls hl
  have hx := hC.1
  have hb := hC.2.1
  have hW : Wd E A s.heap (wcat [MJ b z w, IA E (b 1) 68 (enc S), IA E (b 2) 7 F, IA E (b 4) 68 f4, IA E (b 6) 4 B, IA E (b 7) 4 (szA Z), LA E (b 8) 160 (en4 N)]) s.heap [] := hW
  have hD : Dj A [b 0, b 1, b 2, b 4, b 6, b 7, b 8] := hD
  have hl : lv_has ls 6 [(0, .ref (b 0)), (1, .int x1), (2, .int x2)] := hl
  have hP := hV.p
  have hP1 := hV.p6
  have hG := hV.g
  have hG1 := hV.g10
  by_cases hbs : isN 4 x1
  · have ebs := hbs
    obtain ⟨j, hj, rfl⟩ := ebs
    have hZj := hZ j hj
    by_cases hbm : B j = 0
    · refine lv_aload_n hx hb dX5_read_0 rfl (lv_at hl 0 rfl) ?_
      refine lv_iload_n hx hb dX5_read_1 rfl (lv_at hl 1 rfl) ?_
      refine r_callCi hC hD hW hA lkX5_274 (c_X5_badSheet_m l E b z w B j (by omega) hbm) rfl rfl ⟨by decide, by decide, by decide, by decide⟩ [0, 4] rfl rfl rfl (fun _ => rfl) hl.1 rfl rfl (Nat.le_of_ble_eq_true rfl) dX5_read_2 (fun r_1 _ H locs hr_1 hW => ?_)
      have hW : Wd E A s.heap (wcat [MJ b z w, IA E (b 1) 68 (enc S), IA E (b 2) 7 F, IA E (b 4) 68 f4, IA E (b 6) 4 B, IA E (b 7) 4 (szA Z), LA E (b 8) 160 (en4 N)]) H locs := hW
      have hr_1 : r_1 = (-1000000006) := hr_1
      subst hr_1
      refine lv_istore_n (lv' := [(3, .int (-1000000006)), (0, .ref (b 0)), (1, .int (nI j)), (2, .int x2)]) hx hb dX5_read_5 rfl hl (by decide) rfl (fun ls hl => ?_)
      refine lv_iload_n hx hb dX5_read_6 rfl (lv_at hl 0 rfl) ?_
      refine lv_if_eq (tgt := 16) hx hb dX5_read_7 (by decide) (fun c => absurd c (by decide)) (fun _ => ?_)
      refine lv_aload_n hx hb dX5_read_10 rfl (lv_at hl 1 rfl) ?_
      refine lv_iload_n hx hb dX5_read_11 rfl (lv_at hl 0 rfl) ?_
      refine r_callVi hC hD hW hA lkX5_73 (c_X5_finds l E (b 0) (MF b z w) (b 2) rfl F (-1000000006) 5 (by decide) (by decide)) rfl ⟨by decide, by decide, by decide, by decide⟩ [0, 2] rfl rfl rfl (fun _ => rfl) hl.1 rfl rfl (Nat.le_of_ble_eq_true rfl) dX5_read_12 (fun r_2 _ H locs hr_2 hW => ?_)
      have hW : Wd E A s.heap (wcat [MJ b z w, IA E (b 1) 68 (enc S), IA E (b 2) 7 (upd F 5 (F 5 + 1)), IA E (b 4) 68 f4, IA E (b 6) 4 B, IA E (b 7) 4 (szA Z), LA E (b 8) 160 (en4 N)]) H locs := hW
      have hr_2 : r_2 = (-1000000006) := hr_2
      subst hr_2
      exact r_iret hC hQ hD hW f4 (by rw [mRead, cif_t hbs, ix_nI (n := j) (by omega), if_pos hbm]; first | done | rfl) (by rw [mRead, cif_t hbs, ix_nI (n := j) (by omega), if_pos hbm]; first | done | rfl) rfl dX5_read_15
    · refine lv_aload_n hx hb dX5_read_0 rfl (lv_at hl 0 rfl) ?_
      refine lv_iload_n hx hb dX5_read_1 rfl (lv_at hl 1 rfl) ?_
      refine r_callCi hC hD hW hA lkX5_274 (c_X5_badSheet_o l E b z w B j (by omega) hbm) rfl rfl ⟨by decide, by decide, by decide, by decide⟩ [0, 4] rfl rfl rfl (fun _ => rfl) hl.1 rfl rfl (Nat.le_of_ble_eq_true rfl) dX5_read_2 (fun r_3 _ H locs hr_3 hW => ?_)
      have hW : Wd E A s.heap (wcat [MJ b z w, IA E (b 1) 68 (enc S), IA E (b 2) 7 F, IA E (b 4) 68 f4, IA E (b 6) 4 B, IA E (b 7) 4 (szA Z), LA E (b 8) 160 (en4 N)]) H locs := hW
      have hr_3 : r_3 = 0 := hr_3
      subst hr_3
      refine lv_istore_n (lv' := [(3, .int 0), (0, .ref (b 0)), (1, .int (nI j)), (2, .int x2)]) hx hb dX5_read_5 rfl hl (by decide) rfl (fun ls hl => ?_)
      refine lv_iload_n hx hb dX5_read_6 rfl (lv_at hl 0 rfl) ?_
      refine lv_if_eq (tgt := 16) hx hb dX5_read_7 (by decide) (fun _ => ?_) (fun c => absurd c (by decide))
      refine lv_aload_n hx hb dX5_read_16 rfl (lv_at hl 1 rfl) ?_
      refine lv_iload_n hx hb dX5_read_17 rfl (lv_at hl 3 rfl) ?_
      refine r_callVi hC hD hW hA lkX5_108 (c_X5_isGarment l E (b 0) (b 1) (MF b z w) rfl S G hV.g hV.g10 x2) rfl ⟨by decide, by decide, by decide, by decide⟩ [0, 1] rfl rfl rfl (fun _ => rfl) hl.1 rfl rfl (Nat.le_of_ble_eq_true rfl) dX5_read_18 (fun r_4 _ H locs hr_4 hW => ?_)
      have hW : Wd E A s.heap (wcat [MJ b z w, IA E (b 1) 68 (enc S), IA E (b 2) 7 F, IA E (b 4) 68 f4, IA E (b 6) 4 B, IA E (b 7) 4 (szA Z), LA E (b 8) 160 (en4 N)]) H locs := hW
      have hr_4 : bz (∃ j, j < G ∧ x2 = nI j) r_4 := hr_4
      rcases hr_4 with ⟨rfl, b_5⟩ | ⟨rfl, b_5⟩
      · refine lv_if_ne (tgt := 31) hx hb dX5_read_21 (by decide) (fun c => absurd c (by decide)) (fun _ => ?_)
        refine lv_aload_n hx hb dX5_read_24 rfl (lv_at hl 1 rfl) ?_
        refine r_ldc hC ctX5_44 dX5_read_25 ?_
        refine r_callVi hC hD hW hA lkX5_73 (c_X5_finds l E (b 0) (MF b z w) (b 2) rfl F (-1000000001) 0 (by decide) (by decide)) rfl ⟨by decide, by decide, by decide, by decide⟩ [0, 2] rfl rfl rfl (fun _ => rfl) hl.1 rfl rfl (Nat.le_of_ble_eq_true rfl) dX5_read_27 (fun r_6 _ H locs hr_6 hW => ?_)
        have hW : Wd E A s.heap (wcat [MJ b z w, IA E (b 1) 68 (enc S), IA E (b 2) 7 (upd F 0 (F 0 + 1)), IA E (b 4) 68 f4, IA E (b 6) 4 B, IA E (b 7) 4 (szA Z), LA E (b 8) 160 (en4 N)]) H locs := hW
        have hr_6 : r_6 = (-1000000001) := hr_6
        subst hr_6
        exact r_iret hC hQ hD hW f4 (by rw [mRead, cif_t hbs, ix_nI (n := j) (by omega), if_neg hbm, cif_f b_5]; first | done | rfl) (by rw [mRead, cif_t hbs, ix_nI (n := j) (by omega), if_neg hbm, cif_f b_5]; first | done | rfl) rfl dX5_read_30
      · have eb_5 := b_5
        obtain ⟨g, hg, rfl⟩ := eb_5
        refine lv_if_ne (tgt := 31) hx hb dX5_read_21 (by decide) (fun _ => ?_) (fun c => absurd c (by decide))
        refine lv_iconst (v := 0) hx hb dX5_read_31 (by decide) ?_
        refine lv_istore (lv' := [(4, .int 0), (3, .int 0), (0, .ref (b 0)), (1, .int (nI j)), (2, .int (nI g))]) hx hb dX5_read_32 hl (by decide) rfl (fun ls hl => ?_)
        refine lv_aload_n hx hb dX5_read_34 rfl (lv_at hl 2 rfl) ?_
        refine lv_iconst (v := 1) hx hb dX5_read_35 (by decide) ?_
        refine lv_aload_n hx hb dX5_read_36 rfl (lv_at hl 2 rfl) ?_
        refine r_get hC hW flX5_19 0 rfl rfl dX5_read_37 ?_
        refine r_callVv hC hD hW hA lkX5_153 (c_X5_moveAll_k l E (b 0) (b 1) (MF b z w) rfl (enc S) (b 4) f4) rfl ⟨by decide, by decide, by decide, by decide⟩ [0, 1, 3] rfl rfl rfl (fun _ => rfl) hl.1 rfl rfl (Nat.le_of_ble_eq_true rfl) dX5_read_40 (fun _ H locs hr_7 hW => ?_)
        have hW : Wd E A s.heap (wcat [MJ b z w, IA E (b 1) 68 (enc S), IA E (b 2) 7 F, IA E (b 4) 68 (enc S), IA E (b 6) 4 B, IA E (b 7) 4 (szA Z), LA E (b 8) 160 (en4 N)]) H locs := hW
        refine lv_iconst (v := 0) hx hb dX5_read_43 (by decide) ?_
        refine lv_istore (lv' := [(5, .int 0), (4, .int 0), (3, .int 0), (0, .ref (b 0)), (1, .int (nI j)), (2, .int (nI g))]) hx hb dX5_read_44 hl (by decide) rfl (fun ls hl => ?_)
        have L46 : ∀ (n_ : Nat) (k : Nat) (H : Heap) (locs : List Loc) (ls : Array Slot), 300 - k < n_ → k ≤ 300 → Wd E A s.heap (wcat [MJ b z w, IA E (b 1) 68 (enc S), IA E (b 2) 7 F, IA E (b 4) 68 (enc S), IA E (b 6) 4 B, IA E (b 7) 4 (szA Z), LA E (b 8) 160 (en4 N)]) H locs → lv_has ls 6 [(0, .ref (b 0)), (1, .int (nI j)), (2, .int (nI g)), (4, .int (nI (ct (rdB S P G g (Z j) (N j)) k))), (5, .int (nI k))] → W p l e R s m args below meth c H locs 0 0 Q (F0 m 46 ls []) := by
          intro n_
          induction n_ with
          | zero => intro k H locs ls hm; exact absurd hm (Nat.not_lt_zero _)
          | succ n_ ih =>
            intro k H locs ls hm hk hW hl
            refine lv_iload hx hb dX5_read_46 (lv_at hl 4 rfl) ?_
            refine lv_sipush (v := 300) hx hb dX5_read_48 (by decide) ?_
            refine lv_icmp_ge (tgt := 110) hx hb dX5_read_51 (by decide) (fun c_8 => ?_) (fun c_8 => ?_)
            · have c_8 : 300 ≤ k := (nI_leI (a := 300) (b := k) (by omega) (by omega)).mp c_8
              refine lv_iload hx hb dX5_read_110 (lv_at hl 3 rfl) ?_
              exact r_iret hC hQ hD hW (enc S) (by rw [mRead, cif_t hbs, ix_nI (n := j) (by omega), if_neg hbm, cif_t b_5, ix_nI (n := g) (by omega), show 300 = k by omega]; first | done | rfl) (by rw [mRead, cif_t hbs, ix_nI (n := j) (by omega), if_neg hbm, cif_t b_5, ix_nI (n := g) (by omega), show 300 = k by omega]; first | done | rfl) rfl dX5_read_112
            · have c_8 : ¬ 300 ≤ k := fun z_ => c_8 ((nI_leI (a := 300) (b := k) (by omega) (by omega)).mpr z_)
              refine lv_aload_n hx hb dX5_read_54 rfl (lv_at hl 0 rfl) ?_
              refine lv_iload_n hx hb dX5_read_55 rfl (lv_at hl 2 rfl) ?_
              refine lv_iconst (v := 1) hx hb dX5_read_56 (by decide) ?_
              refine lv_iload hx hb dX5_read_57 (lv_at hl 4 rfl) ?_
              refine lv_bipush (v := 100) hx hb dX5_read_59 (by decide) ?_
              refine n_idiv (v := (nI (k / 100))) hx hb dX5_read_61 (by decide) (pk_div (a := k) (d := 100) (by omega) (by decide) (by decide)) ?_
              refine r_callVv hC hD hW hA lkX5_118 (c_X5_sews l E (b 0) (b 1) (MF b z w) rfl S g 1 (nI (k / 100)) (by omega) (by omega)) rfl ⟨by decide, by decide, by decide, by decide⟩ [0, 1] rfl rfl rfl (fun _ => rfl) hl.1 rfl rfl (Nat.le_of_ble_eq_true rfl) dX5_read_62 (fun _ H locs hr_9 hW => ?_)
              have hW : Wd E A s.heap (wcat [MJ b z w, IA E (b 1) 68 (enc (st S 6 g (nI (k / 100)))), IA E (b 2) 7 F, IA E (b 4) 68 (enc S), IA E (b 6) 4 B, IA E (b 7) 4 (szA Z), LA E (b 8) 160 (en4 N)]) H locs := hW
              refine lv_aload_n hx hb dX5_read_65 rfl (lv_at hl 0 rfl) ?_
              refine lv_iload_n hx hb dX5_read_66 rfl (lv_at hl 2 rfl) ?_
              refine lv_iconst (v := 2) hx hb dX5_read_67 (by decide) ?_
              refine lv_iload hx hb dX5_read_68 (lv_at hl 4 rfl) ?_
              refine lv_bipush (v := 100) hx hb dX5_read_70 (by decide) ?_
              refine n_irem (v := (nI (k % 100))) hx hb dX5_read_72 (by decide) (pk_rem (a := k) (d := 100) (by omega) (by decide) (by decide)) ?_
              refine r_callVv hC hD hW hA lkX5_118 (c_X5_sews l E (b 0) (b 1) (MF b z w) rfl (st S 6 g (nI (k / 100))) g 2 (nI (k % 100)) (by omega) (by omega)) rfl ⟨by decide, by decide, by decide, by decide⟩ [0, 1] rfl rfl rfl (fun _ => rfl) hl.1 rfl rfl (Nat.le_of_ble_eq_true rfl) dX5_read_73 (fun _ H locs hr_10 hW => ?_)
              have hW : Wd E A s.heap (wcat [MJ b z w, IA E (b 1) 68 (enc (st (st S 6 g (nI (k / 100))) 7 g (nI (k % 100)))), IA E (b 2) 7 F, IA E (b 4) 68 (enc S), IA E (b 6) 4 B, IA E (b 7) 4 (szA Z), LA E (b 8) 160 (en4 N)]) H locs := hW
              refine lv_iload hx hb dX5_read_76 (lv_at hl 3 rfl) ?_
              refine lv_aload_n hx hb dX5_read_78 rfl (lv_at hl 0 rfl) ?_
              refine lv_iload_n hx hb dX5_read_79 rfl (lv_at hl 1 rfl) ?_
              refine lv_iload_n hx hb dX5_read_80 rfl (lv_at hl 2 rfl) ?_
              refine r_callCi hC hD hW hA lkX5_279 (c_X5_isSo l E b z w (st (st S 6 g (nI (k / 100))) 7 g (nI (k % 100))) P G (HV_7 (HV_6n hV (by omega)) (by omega)) (by omega) (by omega) (by omega) j (by omega) g (by omega)) rfl rfl ⟨by decide, by decide, by decide, by decide⟩ [0, 1, 5, 6] rfl rfl rfl (fun _ => rfl) hl.1 rfl rfl (Nat.le_of_ble_eq_true rfl) dX5_read_81 (fun r_11 u_12 H locs hr_11 hW => ?_)
              have hW : Wd E A s.heap (wcat [MJ b z w, IA E (b 1) 68 (enc u_12), IA E (b 2) 7 F, IA E (b 4) 68 (enc S), IA E (b 6) 4 B, IA E (b 7) 4 (szA Z), LA E (b 8) 160 (en4 N)]) H locs := hW
              have hr_11 : bz (rdP (st (st S 6 g (nI (k / 100))) 7 g (nI (k % 100))) P G g (Z j) (N j)) r_11 := hr_11
              rcases hr_11 with ⟨rfl, b_13⟩ | ⟨rfl, b_13⟩
              · refine lv_if_eq (tgt := 91) hx hb dX5_read_84 (by decide) (fun _ => ?_) (fun c => absurd c (by decide))
                refine lv_iconst (v := 0) hx hb dX5_read_91 (by decide) ?_
                refine n_iadd (v := (nI (ct (rdB S P G g (Z j) (N j)) k))) hx hb dX5_read_92 (Int32.add_zero _) ?_
                refine lv_istore (lv' := [(4, .int (nI (ct (rdB S P G g (Z j) (N j)) k))), (0, .ref (b 0)), (1, .int (nI j)), (2, .int (nI g)), (5, .int (nI k))]) hx hb dX5_read_93 hl (by decide) rfl (fun ls hl => ?_)
                refine lv_aload_n hx hb dX5_read_95 rfl (lv_at hl 1 rfl) ?_
                refine lv_iconst (v := 0) hx hb dX5_read_96 (by decide) ?_
                refine lv_aload_n hx hb dX5_read_97 rfl (lv_at hl 1 rfl) ?_
                refine r_get hC hW flX5_19 0 rfl rfl dX5_read_98 ?_
                refine r_callVv hC hD hW hA lkX5_153 (c_X5_moveAll_r l E (b 0) (b 1) (MF b z w) rfl (enc u_12) (b 4) (enc S)) rfl ⟨by decide, by decide, by decide, by decide⟩ [0, 1, 3] rfl rfl rfl (fun _ => rfl) hl.1 rfl rfl (Nat.le_of_ble_eq_true rfl) dX5_read_101 (fun _ H locs hr_14 hW => ?_)
                have hW : Wd E A s.heap (wcat [MJ b z w, IA E (b 1) 68 (enc S), IA E (b 2) 7 F, IA E (b 4) 68 (enc S), IA E (b 6) 4 B, IA E (b 7) 4 (szA Z), LA E (b 8) 160 (en4 N)]) H locs := hW
                refine lv_iinc (v := (nI (k + 1))) (lv' := [(5, .int (nI (k + 1))), (4, .int (nI (ct (rdB S P G g (Z j) (N j)) k))), (0, .ref (b 0)), (1, .int (nI j)), (2, .int (nI g))]) (k := 4) hx hb dX5_read_104 hl rfl (nI_inc k 1) (by decide) rfl (fun ls hl => ?_)
                refine lv_goto (tgt := 46) hx hb dX5_read_107 (by decide) ?_
                exact ih (k + 1) _ _ _ (by omega) (by omega) hW (by rw [ct_n (c := rdB S P G g (Z j) (N j)) (rdB_f.mpr b_13)]; exact lv_sub hl [2, 3, 4, 1, 0] rfl)
              · refine lv_if_eq (tgt := 91) hx hb dX5_read_84 (by decide) (fun c => absurd c (by decide)) (fun _ => ?_)
                refine lv_iconst (v := 1) hx hb dX5_read_87 (by decide) ?_
                refine lv_goto (tgt := 92) hx hb dX5_read_88 (by decide) ?_
                refine n_iadd (v := (nI (ct (rdB S P G g (Z j) (N j)) k + 1))) hx hb dX5_read_92 (nI_1 _) ?_
                refine lv_istore (lv' := [(4, .int (nI (ct (rdB S P G g (Z j) (N j)) k + 1))), (0, .ref (b 0)), (1, .int (nI j)), (2, .int (nI g)), (5, .int (nI k))]) hx hb dX5_read_93 hl (by decide) rfl (fun ls hl => ?_)
                refine lv_aload_n hx hb dX5_read_95 rfl (lv_at hl 1 rfl) ?_
                refine lv_iconst (v := 0) hx hb dX5_read_96 (by decide) ?_
                refine lv_aload_n hx hb dX5_read_97 rfl (lv_at hl 1 rfl) ?_
                refine r_get hC hW flX5_19 0 rfl rfl dX5_read_98 ?_
                refine r_callVv hC hD hW hA lkX5_153 (c_X5_moveAll_r l E (b 0) (b 1) (MF b z w) rfl (enc u_12) (b 4) (enc S)) rfl ⟨by decide, by decide, by decide, by decide⟩ [0, 1, 3] rfl rfl rfl (fun _ => rfl) hl.1 rfl rfl (Nat.le_of_ble_eq_true rfl) dX5_read_101 (fun _ H locs hr_15 hW => ?_)
                have hW : Wd E A s.heap (wcat [MJ b z w, IA E (b 1) 68 (enc S), IA E (b 2) 7 F, IA E (b 4) 68 (enc S), IA E (b 6) 4 B, IA E (b 7) 4 (szA Z), LA E (b 8) 160 (en4 N)]) H locs := hW
                refine lv_iinc (v := (nI (k + 1))) (lv' := [(5, .int (nI (k + 1))), (4, .int (nI (ct (rdB S P G g (Z j) (N j)) k + 1))), (0, .ref (b 0)), (1, .int (nI j)), (2, .int (nI g))]) (k := 4) hx hb dX5_read_104 hl rfl (nI_inc k 1) (by decide) rfl (fun ls hl => ?_)
                refine lv_goto (tgt := 46) hx hb dX5_read_107 (by decide) ?_
                exact ih (k + 1) _ _ _ (by omega) (by omega) hW (by rw [ct_y (c := rdB S P G g (Z j) (N j)) (rdB_t.mpr b_13)]; exact lv_sub hl [2, 3, 4, 1, 0] rfl)
        exact L46 (300 - 0 + 1) 0 _ _ _ (Nat.lt_succ_self _) (by omega) hW (lv_sub hl [3, 4, 5, 1, 0] rfl)
  · refine lv_aload_n hx hb dX5_read_0 rfl (lv_at hl 0 rfl) ?_
    refine lv_iload_n hx hb dX5_read_1 rfl (lv_at hl 1 rfl) ?_
    refine r_callCi hC hD hW hA lkX5_274 (c_X5_badSheet_b l E b z w B x1 hbs) rfl rfl ⟨by decide, by decide, by decide, by decide⟩ [0, 4] rfl rfl rfl (fun _ => rfl) hl.1 rfl rfl (Nat.le_of_ble_eq_true rfl) dX5_read_2 (fun r_16 _ H locs hr_16 hW => ?_)
    have hW : Wd E A s.heap (wcat [MJ b z w, IA E (b 1) 68 (enc S), IA E (b 2) 7 F, IA E (b 4) 68 f4, IA E (b 6) 4 B, IA E (b 7) 4 (szA Z), LA E (b 8) 160 (en4 N)]) H locs := hW
    have hr_16 : r_16 = (-1000000001) := hr_16
    subst hr_16
    refine lv_istore_n (lv' := [(3, .int (-1000000001)), (0, .ref (b 0)), (1, .int x1), (2, .int x2)]) hx hb dX5_read_5 rfl hl (by decide) rfl (fun ls hl => ?_)
    refine lv_iload_n hx hb dX5_read_6 rfl (lv_at hl 0 rfl) ?_
    refine lv_if_eq (tgt := 16) hx hb dX5_read_7 (by decide) (fun c => absurd c (by decide)) (fun _ => ?_)
    refine lv_aload_n hx hb dX5_read_10 rfl (lv_at hl 1 rfl) ?_
    refine lv_iload_n hx hb dX5_read_11 rfl (lv_at hl 0 rfl) ?_
    refine r_callVi hC hD hW hA lkX5_73 (c_X5_finds l E (b 0) (MF b z w) (b 2) rfl F (-1000000001) 0 (by decide) (by decide)) rfl ⟨by decide, by decide, by decide, by decide⟩ [0, 2] rfl rfl rfl (fun _ => rfl) hl.1 rfl rfl (Nat.le_of_ble_eq_true rfl) dX5_read_12 (fun r_17 _ H locs hr_17 hW => ?_)
    have hW : Wd E A s.heap (wcat [MJ b z w, IA E (b 1) 68 (enc S), IA E (b 2) 7 (upd F 0 (F 0 + 1)), IA E (b 4) 68 f4, IA E (b 6) 4 B, IA E (b 7) 4 (szA Z), LA E (b 8) 160 (en4 N)]) H locs := hW
    have hr_17 : r_17 = (-1000000001) := hr_17
    subst hr_17
    exact r_iret hC hQ hD hW f4 (by rw [mRead, cif_f hbs]; first | done | rfl) (by rw [mRead, cif_f hbs]; first | done | rfl) rfl dX5_read_15
