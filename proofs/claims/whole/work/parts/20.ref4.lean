set_option maxHeartbeats 4000000 in
set_option maxRecDepth 100000 in
theorem c_X5_lost (l : Launch) (E : Ev) (b : Nat → Nat) (z : Nat → Int32) (w : Int64) (S : HS) (F : FT) (P : Nat) (G : Nat) (hV : HV S P G) (f3 : Nat → Int32) (x1 : Int32) : MI l E yX5_lost cX5_lost 3 .int 5 113 0 0 [.ref (b 0), .int x1] (wcat [MJ b z w, IA E (b 1) 68 (enc S), IA E (b 2) 7 F, IA E (b 3) 68 f3]) (fun (r : Int32) (u : (Nat → Int32)) => r = (mLost S F P G x1).1) (fun (u : (Nat → Int32)) => (wcat [MJ b z w, IA E (b 1) 68 (enc S), IA E (b 2) 7 ((mLost S F P G x1).2), IA E (b 3) 68 u])) := by
  refine MI_intro RX5 (by decide) rfl (Nat.le_of_ble_eq_true rfl) ?_
  intro p e R s m args below meth c A Q hQ hC hD hW hA ls hl
  have hx := hC.1
  have hb := hC.2.1
  have hW : Wd E A s.heap (wcat [MJ b z w, IA E (b 1) 68 (enc S), IA E (b 2) 7 F, IA E (b 3) 68 f3]) s.heap [] := hW
  have hD : Dj A [b 0, b 1, b 2, b 3] := hD
  have hl : lv_has ls 3 [(0, .ref (b 0)), (1, .int x1)] := hl
  have hP := hV.p
  have hP1 := hV.p6
  have hG := hV.g
  have hG1 := hV.g10
  refine lv_aload_n hx hb dX5_lost_0 rfl (lv_at hl 0 rfl) ?_
  refine lv_iload_n hx hb dX5_lost_1 rfl (lv_at hl 1 rfl) ?_
  refine r_callVi hC hD hW hA lkX5_108 (c_X5_isGarment l E (b 0) (b 1) (MF b z w) rfl S G hV.g hV.g10 x1) rfl ⟨by decide, by decide, by decide, by decide⟩ [0, 1] rfl rfl rfl (fun _ => rfl) hl.1 rfl rfl (Nat.le_of_ble_eq_true rfl) dX5_lost_2 (fun r_1 _ H locs hr_1 hW => ?_)
  have hW : Wd E A s.heap (wcat [MJ b z w, IA E (b 1) 68 (enc S), IA E (b 2) 7 F, IA E (b 3) 68 f3]) H locs := hW
  have hr_1 : bz (∃ j, j < G ∧ x1 = nI j) r_1 := hr_1
  rcases hr_1 with ⟨rfl, b_2⟩ | ⟨rfl, b_2⟩
  · refine lv_if_ne (tgt := 15) hx hb dX5_lost_5 (by decide) (fun c => absurd c (by decide)) (fun _ => ?_)
    refine lv_aload_n hx hb dX5_lost_8 rfl (lv_at hl 0 rfl) ?_
    refine r_ldc hC ctX5_44 dX5_lost_9 ?_
    refine r_callVi hC hD hW hA lkX5_73 (c_X5_finds l E (b 0) (MF b z w) (b 2) rfl F (-1000000001) 0 (by decide) (by decide)) rfl ⟨by decide, by decide, by decide, by decide⟩ [0, 2] rfl rfl rfl (fun _ => rfl) hl.1 rfl rfl (Nat.le_of_ble_eq_true rfl) dX5_lost_11 (fun r_3 _ H locs hr_3 hW => ?_)
    have hW : Wd E A s.heap (wcat [MJ b z w, IA E (b 1) 68 (enc S), IA E (b 2) 7 (upd F 0 (F 0 + 1)), IA E (b 3) 68 f3]) H locs := hW
    have hr_3 : r_3 = (-1000000001) := hr_3
    subst hr_3
    exact r_iret hC hQ hD hW f3 (by rw [mLost, cif_f b_2]; first | done | rfl) (by rw [mLost, cif_f b_2]; first | done | rfl) rfl dX5_lost_14
  · have eb_2 := b_2
    obtain ⟨g, hg, rfl⟩ := eb_2
    refine lv_if_ne (tgt := 15) hx hb dX5_lost_5 (by decide) (fun _ => ?_) (fun c => absurd c (by decide))
    refine lv_aload_n hx hb dX5_lost_15 rfl (lv_at hl 0 rfl) ?_
    refine lv_iconst (v := 1) hx hb dX5_lost_16 (by decide) ?_
    refine lv_aload_n hx hb dX5_lost_17 rfl (lv_at hl 0 rfl) ?_
    refine r_get hC hW flX5_16 0 rfl rfl dX5_lost_18 ?_
    refine r_callVv hC hD hW hA lkX5_153 (c_X5_moveAll_k l E (b 0) (b 1) (MF b z w) rfl (enc S) (b 3) f3) rfl ⟨by decide, by decide, by decide, by decide⟩ [0, 1, 3] rfl rfl rfl (fun _ => rfl) hl.1 rfl rfl (Nat.le_of_ble_eq_true rfl) dX5_lost_21 (fun _ H locs hr_4 hW => ?_)
    have hW : Wd E A s.heap (wcat [MJ b z w, IA E (b 1) 68 (enc S), IA E (b 2) 7 F, IA E (b 3) 68 (enc S)]) H locs := hW
    refine lv_iconst (v := 0) hx hb dX5_lost_24 (by decide) ?_
    refine lv_istore_n (lv' := [(2, .int 0), (0, .ref (b 0)), (1, .int (nI g))]) hx hb dX5_lost_25 rfl hl (by decide) rfl (fun ls hl => ?_)
    have L26 : ∀ (n_ : Nat) (k : Nat) (H : Heap) (locs : List Loc) (ls : Array Slot), 101 - k < n_ → k ≤ 101 → (∀ q_, q_ < k → cLost S P G g q_ = false) → Wd E A s.heap (wcat [MJ b z w, IA E (b 1) 68 (enc (wks S P G k)), IA E (b 2) 7 F, IA E (b 3) 68 (enc S)]) H locs → lv_has ls 3 [(0, .ref (b 0)), (1, .int (nI g)), (2, .int (nI k))] → W p l e R s m args below meth c H locs 0 0 Q (F0 m 26 ls []) := by
      intro n_
      induction n_ with
      | zero => intro k H locs ls hm; exact absurd hm (Nat.not_lt_zero _)
      | succ n_ ih =>
        intro k H locs ls hm hk hno hW hl
        refine lv_iload_n hx hb dX5_lost_26 rfl (lv_at hl 2 rfl) ?_
        refine lv_bipush (v := 100) hx hb dX5_lost_27 (by decide) ?_
        refine lv_icmp_gt (tgt := 50) hx hb dX5_lost_29 (by decide) (fun c_5 => ?_) (fun c_5 => ?_)
        · have c_5 : 100 < k := (nI_ltI (a := 100) (b := k) (by omega) (by omega)).mp c_5
          refine lv_aload_n hx hb dX5_lost_50 rfl (lv_at hl 0 rfl) ?_
          refine lv_iconst (v := 0) hx hb dX5_lost_51 (by decide) ?_
          refine lv_aload_n hx hb dX5_lost_52 rfl (lv_at hl 0 rfl) ?_
          refine r_get hC hW flX5_16 0 rfl rfl dX5_lost_53 ?_
          refine r_callVv hC hD hW hA lkX5_153 (c_X5_moveAll_r l E (b 0) (b 1) (MF b z w) rfl (enc (wks S P G k)) (b 3) (enc S)) rfl ⟨by decide, by decide, by decide, by decide⟩ [0, 1, 3] rfl rfl rfl (fun _ => rfl) hl.1 rfl rfl (Nat.le_of_ble_eq_true rfl) dX5_lost_56 (fun _ H locs hr_6 hW => ?_)
          have hW : Wd E A s.heap (wcat [MJ b z w, IA E (b 1) 68 (enc S), IA E (b 2) 7 F, IA E (b 3) 68 (enc S)]) H locs := hW
          refine lv_iload_n hx hb dX5_lost_59 rfl (lv_at hl 2 rfl) ?_
          refine lv_bipush (v := 100) hx hb dX5_lost_60 (by decide) ?_
          refine lv_icmp_le (tgt := 74) hx hb dX5_lost_62 (by decide) (fun c_7 => ?_) (fun c_7 => ?_)
          · have c_7 : k ≤ 100 := (nI_leI (a := k) (b := 100) (by omega) (by omega)).mp c_7
            refine lv_iload_n hx hb dX5_lost_74 rfl (lv_at hl 2 rfl) ?_
            exact r_iret hC hQ hD hW (enc S) (by rw [mLost, cif_t b_2, ix_nI (n := g) (by omega), fs1_hit (by exfalso; omega) hno (show k < 101 by omega), if_pos (show k < 101 by omega)]; first | done | rfl) (by rw [mLost, cif_t b_2, ix_nI (n := g) (by omega), fs1_hit (by exfalso; omega) hno (show k < 101 by omega), if_pos (show k < 101 by omega)]; first | done | rfl) rfl dX5_lost_75
          · have c_7 : ¬ k ≤ 100 := fun z_ => c_7 ((nI_leI (a := k) (b := 100) (by omega) (by omega)).mpr z_)
            refine lv_aload_n hx hb dX5_lost_65 rfl (lv_at hl 0 rfl) ?_
            refine r_ldc hC ctX5_160 dX5_lost_66 ?_
            refine r_callVi hC hD hW hA lkX5_73 (c_X5_finds l E (b 0) (MF b z w) (b 2) rfl F (-1000000004) 3 (by decide) (by decide)) rfl ⟨by decide, by decide, by decide, by decide⟩ [0, 2] rfl rfl rfl (fun _ => rfl) hl.1 rfl rfl (Nat.le_of_ble_eq_true rfl) dX5_lost_68 (fun r_8 _ H locs hr_8 hW => ?_)
            have hW : Wd E A s.heap (wcat [MJ b z w, IA E (b 1) 68 (enc S), IA E (b 2) 7 (upd F 3 (F 3 + 1)), IA E (b 3) 68 (enc S)]) H locs := hW
            have hr_8 : r_8 = (-1000000004) := hr_8
            subst hr_8
            refine lv_goto (tgt := 75) hx hb dX5_lost_71 (by decide) ?_
            exact r_iret hC hQ hD hW (enc S) (by rw [mLost, cif_t b_2, ix_nI (n := g) (by omega), fs1_none (fun j hj => hno j (by omega)), if_neg (by decide)]; first | done | rfl) (by rw [mLost, cif_t b_2, ix_nI (n := g) (by omega), fs1_none (fun j hj => hno j (by omega)), if_neg (by decide)]; first | done | rfl) rfl dX5_lost_75
        · have c_5 : ¬ 100 < k := fun z_ => c_5 ((nI_ltI (a := 100) (b := k) (by omega) (by omega)).mpr z_)
          refine lv_aload_n hx hb dX5_lost_32 rfl (lv_at hl 0 rfl) ?_
          refine lv_iload_n hx hb dX5_lost_33 rfl (lv_at hl 1 rfl) ?_
          refine r_callVi hC hD hW hA lkX5_53 (c_X5_isRight l E (b 0) (b 1) (MF b z w) rfl (wks S P G k) g (by omega)) rfl ⟨by decide, by decide, by decide, by decide⟩ [0, 1] rfl rfl rfl (fun _ => rfl) hl.1 rfl rfl (Nat.le_of_ble_eq_true rfl) dX5_lost_34 (fun r_9 _ H locs hr_9 hW => ?_)
          have hW : Wd E A s.heap (wcat [MJ b z w, IA E (b 1) 68 (enc (wks S P G k)), IA E (b 2) 7 F, IA E (b 3) 68 (enc S)]) H locs := hW
          have hr_9 : bz ((wks S P G k) 8 g = (wks S P G k) 5 g) r_9 := hr_9
          rcases hr_9 with ⟨rfl, b_10⟩ | ⟨rfl, b_10⟩
          · refine lv_if_eq (tgt := 50) hx hb dX5_lost_37 (by decide) (fun _ => ?_) (fun c => absurd c (by decide))
            refine lv_aload_n hx hb dX5_lost_50 rfl (lv_at hl 0 rfl) ?_
            refine lv_iconst (v := 0) hx hb dX5_lost_51 (by decide) ?_
            refine lv_aload_n hx hb dX5_lost_52 rfl (lv_at hl 0 rfl) ?_
            refine r_get hC hW flX5_16 0 rfl rfl dX5_lost_53 ?_
            refine r_callVv hC hD hW hA lkX5_153 (c_X5_moveAll_r l E (b 0) (b 1) (MF b z w) rfl (enc (wks S P G k)) (b 3) (enc S)) rfl ⟨by decide, by decide, by decide, by decide⟩ [0, 1, 3] rfl rfl rfl (fun _ => rfl) hl.1 rfl rfl (Nat.le_of_ble_eq_true rfl) dX5_lost_56 (fun _ H locs hr_11 hW => ?_)
            have hW : Wd E A s.heap (wcat [MJ b z w, IA E (b 1) 68 (enc S), IA E (b 2) 7 F, IA E (b 3) 68 (enc S)]) H locs := hW
            refine lv_iload_n hx hb dX5_lost_59 rfl (lv_at hl 2 rfl) ?_
            refine lv_bipush (v := 100) hx hb dX5_lost_60 (by decide) ?_
            refine lv_icmp_le (tgt := 74) hx hb dX5_lost_62 (by decide) (fun c_12 => ?_) (fun c_12 => ?_)
            · have c_12 : k ≤ 100 := (nI_leI (a := k) (b := 100) (by omega) (by omega)).mp c_12
              refine lv_iload_n hx hb dX5_lost_74 rfl (lv_at hl 2 rfl) ?_
              exact r_iret hC hQ hD hW (enc S) (by rw [mLost, cif_t b_2, ix_nI (n := g) (by omega), fs1_hit (cLost_t b_10) hno (show k < 101 by omega), if_pos (show k < 101 by omega)]; first | done | rfl) (by rw [mLost, cif_t b_2, ix_nI (n := g) (by omega), fs1_hit (cLost_t b_10) hno (show k < 101 by omega), if_pos (show k < 101 by omega)]; first | done | rfl) rfl dX5_lost_75
            · have c_12 : ¬ k ≤ 100 := fun z_ => c_12 ((nI_leI (a := k) (b := 100) (by omega) (by omega)).mpr z_)
              refine lv_aload_n hx hb dX5_lost_65 rfl (lv_at hl 0 rfl) ?_
              refine r_ldc hC ctX5_160 dX5_lost_66 ?_
              refine r_callVi hC hD hW hA lkX5_73 (c_X5_finds l E (b 0) (MF b z w) (b 2) rfl F (-1000000004) 3 (by decide) (by decide)) rfl ⟨by decide, by decide, by decide, by decide⟩ [0, 2] rfl rfl rfl (fun _ => rfl) hl.1 rfl rfl (Nat.le_of_ble_eq_true rfl) dX5_lost_68 (fun r_13 _ H locs hr_13 hW => ?_)
              have hW : Wd E A s.heap (wcat [MJ b z w, IA E (b 1) 68 (enc S), IA E (b 2) 7 (upd F 3 (F 3 + 1)), IA E (b 3) 68 (enc S)]) H locs := hW
              have hr_13 : r_13 = (-1000000004) := hr_13
              subst hr_13
              refine lv_goto (tgt := 75) hx hb dX5_lost_71 (by decide) ?_
              exact r_iret hC hQ hD hW (enc S) (by rw [mLost, cif_t b_2, ix_nI (n := g) (by omega), fs1_none (fun j hj => hno j (by omega)), if_neg (by decide)]; first | done | rfl) (by rw [mLost, cif_t b_2, ix_nI (n := g) (by omega), fs1_none (fun j hj => hno j (by omega)), if_neg (by decide)]; first | done | rfl) rfl dX5_lost_75
          · refine lv_if_eq (tgt := 50) hx hb dX5_lost_37 (by decide) (fun c => absurd c (by decide)) (fun _ => ?_)
            refine lv_aload_n hx hb dX5_lost_40 rfl (lv_at hl 0 rfl) ?_
            refine r_callVv hC hD hW hA lkX5_145 (c_X5_oneWeek l E (b 0) (b 1) (MF b z w) rfl (wks S P G k) P G (HV_wks hV k)) rfl ⟨by decide, by decide, by decide, by decide⟩ [0, 1] rfl rfl rfl (fun _ => rfl) hl.1 rfl rfl (Nat.le_of_ble_eq_true rfl) dX5_lost_41 (fun _ H locs hr_14 hW => ?_)
            have hW : Wd E A s.heap (wcat [MJ b z w, IA E (b 1) 68 (enc (wks S P G (k + 1))), IA E (b 2) 7 F, IA E (b 3) 68 (enc S)]) H locs := hW
            refine lv_iinc (v := (nI (k + 1))) (lv' := [(2, .int (nI (k + 1))), (0, .ref (b 0)), (1, .int (nI g))]) (k := 2) hx hb dX5_lost_44 hl rfl (nI_inc k 1) (by decide) rfl (fun ls hl => ?_)
            refine lv_goto (tgt := 26) hx hb dX5_lost_47 (by decide) ?_
            exact ih (k + 1) _ _ _ (by omega) (by omega) (lt_s hno (cLost_f b_10)) hW (lv_sub hl [1, 2, 0] rfl)
    exact L26 (101 - 0 + 1) 0 _ _ _ (Nat.lt_succ_self _) (by omega) lt_0 hW (lv_sub hl [1, 2, 0] rfl)
set_option maxHeartbeats 4000000 in
set_option maxRecDepth 100000 in
theorem c_X5_comes (l : Launch) (E : Ev) (b : Nat → Nat) (z : Nat → Int32) (w : Int64) (S : HS) (F : FT) (P : Nat) (G : Nat) (hV : HV S P G) (f3 : Nat → Int32) (x1 : Int32) (x2 : Int32) : MI l E yX5_comes cX5_comes 4 .int 5 113 0 0 [.ref (b 0), .int x1, .int x2] (wcat [MJ b z w, IA E (b 1) 68 (enc S), IA E (b 2) 7 F, IA E (b 3) 68 f3]) (fun (r : Int32) (u : (Nat → Int32)) => r = (mComes S F P G x1 x2).1) (fun (u : (Nat → Int32)) => (wcat [MJ b z w, IA E (b 1) 68 (enc S), IA E (b 2) 7 ((mComes S F P G x1 x2).2), IA E (b 3) 68 u])) := by
  refine MI_intro RX5 (by decide) rfl (Nat.le_of_ble_eq_true rfl) ?_
  intro p e R s m args below meth c A Q hQ hC hD hW hA ls hl
  have hx := hC.1
  have hb := hC.2.1
  have hW : Wd E A s.heap (wcat [MJ b z w, IA E (b 1) 68 (enc S), IA E (b 2) 7 F, IA E (b 3) 68 f3]) s.heap [] := hW
  have hD : Dj A [b 0, b 1, b 2, b 3] := hD
  have hl : lv_has ls 4 [(0, .ref (b 0)), (1, .int x1), (2, .int x2)] := hl
  have hP := hV.p
  have hP1 := hV.p6
  have hG := hV.g
  have hG1 := hV.g10
  refine lv_aload_n hx hb dX5_comes_0 rfl (lv_at hl 0 rfl) ?_
  refine lv_iload_n hx hb dX5_comes_1 rfl (lv_at hl 1 rfl) ?_
  refine r_callVi hC hD hW hA lkX5_108 (c_X5_isGarment l E (b 0) (b 1) (MF b z w) rfl S G hV.g hV.g10 x1) rfl ⟨by decide, by decide, by decide, by decide⟩ [0, 1] rfl rfl rfl (fun _ => rfl) hl.1 rfl rfl (Nat.le_of_ble_eq_true rfl) dX5_comes_2 (fun r_1 _ H locs hr_1 hW => ?_)
  have hW : Wd E A s.heap (wcat [MJ b z w, IA E (b 1) 68 (enc S), IA E (b 2) 7 F, IA E (b 3) 68 f3]) H locs := hW
  have hr_1 : bz (∃ j, j < G ∧ x1 = nI j) r_1 := hr_1
  rcases hr_1 with ⟨rfl, b_2⟩ | ⟨rfl, b_2⟩
  · refine lv_if_eq (tgt := 16) hx hb dX5_comes_5 (by decide) (fun _ => ?_) (fun c => absurd c (by decide))
    refine lv_aload_n hx hb dX5_comes_16 rfl (lv_at hl 0 rfl) ?_
    refine r_ldc hC ctX5_44 dX5_comes_17 ?_
    refine r_callVi hC hD hW hA lkX5_73 (c_X5_finds l E (b 0) (MF b z w) (b 2) rfl F (-1000000001) 0 (by decide) (by decide)) rfl ⟨by decide, by decide, by decide, by decide⟩ [0, 2] rfl rfl rfl (fun _ => rfl) hl.1 rfl rfl (Nat.le_of_ble_eq_true rfl) dX5_comes_19 (fun r_3 _ H locs hr_3 hW => ?_)
    have hW : Wd E A s.heap (wcat [MJ b z w, IA E (b 1) 68 (enc S), IA E (b 2) 7 (upd F 0 (F 0 + 1)), IA E (b 3) 68 f3]) H locs := hW
    have hr_3 : r_3 = (-1000000001) := hr_3
    subst hr_3
    exact r_iret hC hQ hD hW f3 (by rw [mComes, cif_f (fun z_ => b_2 z_.1)]; first | done | rfl) (by rw [mComes, cif_f (fun z_ => b_2 z_.1)]; first | done | rfl) rfl dX5_comes_22
  · have eb_2 := b_2
    obtain ⟨g, hg, rfl⟩ := eb_2
    refine lv_if_eq (tgt := 16) hx hb dX5_comes_5 (by decide) (fun c => absurd c (by decide)) (fun _ => ?_)
    refine lv_aload_n hx hb dX5_comes_8 rfl (lv_at hl 0 rfl) ?_
    refine lv_iload_n hx hb dX5_comes_9 rfl (lv_at hl 2 rfl) ?_
    refine r_callVi hC hD hW hA lkX5_98 (c_X5_isOne l E (b 0) (b 1) (MF b z w) rfl S P hV.p hV.p6 x2) rfl ⟨by decide, by decide, by decide, by decide⟩ [0, 1] rfl rfl rfl (fun _ => rfl) hl.1 rfl rfl (Nat.le_of_ble_eq_true rfl) dX5_comes_10 (fun r_4 _ H locs hr_4 hW => ?_)
    have hW : Wd E A s.heap (wcat [MJ b z w, IA E (b 1) 68 (enc S), IA E (b 2) 7 F, IA E (b 3) 68 f3]) H locs := hW
    have hr_4 : bz (∃ j, j < P ∧ x2 = nI j) r_4 := hr_4
    rcases hr_4 with ⟨rfl, b_5⟩ | ⟨rfl, b_5⟩
    · refine lv_if_ne (tgt := 23) hx hb dX5_comes_13 (by decide) (fun c => absurd c (by decide)) (fun _ => ?_)
      refine lv_aload_n hx hb dX5_comes_16 rfl (lv_at hl 0 rfl) ?_
      refine r_ldc hC ctX5_44 dX5_comes_17 ?_
      refine r_callVi hC hD hW hA lkX5_73 (c_X5_finds l E (b 0) (MF b z w) (b 2) rfl F (-1000000001) 0 (by decide) (by decide)) rfl ⟨by decide, by decide, by decide, by decide⟩ [0, 2] rfl rfl rfl (fun _ => rfl) hl.1 rfl rfl (Nat.le_of_ble_eq_true rfl) dX5_comes_19 (fun r_6 _ H locs hr_6 hW => ?_)
      have hW : Wd E A s.heap (wcat [MJ b z w, IA E (b 1) 68 (enc S), IA E (b 2) 7 (upd F 0 (F 0 + 1)), IA E (b 3) 68 f3]) H locs := hW
      have hr_6 : r_6 = (-1000000001) := hr_6
      subst hr_6
      exact r_iret hC hQ hD hW f3 (by rw [mComes, cif_f (fun z_ => b_5 z_.2)]; first | done | rfl) (by rw [mComes, cif_f (fun z_ => b_5 z_.2)]; first | done | rfl) rfl dX5_comes_22
    · have eb_5 := b_5
      obtain ⟨j, hj, rfl⟩ := eb_5
      refine lv_if_ne (tgt := 23) hx hb dX5_comes_13 (by decide) (fun _ => ?_) (fun c => absurd c (by decide))
      refine lv_aload_n hx hb dX5_comes_23 rfl (lv_at hl 0 rfl) ?_
      refine lv_iconst (v := 1) hx hb dX5_comes_24 (by decide) ?_
      refine lv_aload_n hx hb dX5_comes_25 rfl (lv_at hl 0 rfl) ?_
      refine r_get hC hW flX5_16 0 rfl rfl dX5_comes_26 ?_
      refine r_callVv hC hD hW hA lkX5_153 (c_X5_moveAll_k l E (b 0) (b 1) (MF b z w) rfl (enc S) (b 3) f3) rfl ⟨by decide, by decide, by decide, by decide⟩ [0, 1, 3] rfl rfl rfl (fun _ => rfl) hl.1 rfl rfl (Nat.le_of_ble_eq_true rfl) dX5_comes_29 (fun _ H locs hr_7 hW => ?_)
      have hW : Wd E A s.heap (wcat [MJ b z w, IA E (b 1) 68 (enc S), IA E (b 2) 7 F, IA E (b 3) 68 (enc S)]) H locs := hW
      refine lv_iconst (v := 0) hx hb dX5_comes_32 (by decide) ?_
      refine lv_istore_n (lv' := [(3, .int 0), (0, .ref (b 0)), (1, .int (nI g)), (2, .int (nI j))]) hx hb dX5_comes_33 rfl hl (by decide) rfl (fun ls hl => ?_)
      have L34 : ∀ (n_ : Nat) (k : Nat) (H : Heap) (locs : List Loc) (ls : Array Slot), 101 - k < n_ → k ≤ 101 → (∀ q_, q_ < k → cCome S P G g (nI j) q_ = false) → Wd E A s.heap (wcat [MJ b z w, IA E (b 1) 68 (enc (wks S P G k)), IA E (b 2) 7 F, IA E (b 3) 68 (enc S)]) H locs → lv_has ls 4 [(0, .ref (b 0)), (1, .int (nI g)), (2, .int (nI j)), (3, .int (nI k))] → W p l e R s m args below meth c H locs 0 0 Q (F0 m 34 ls []) := by
        intro n_
        induction n_ with
        | zero => intro k H locs ls hm; exact absurd hm (Nat.not_lt_zero _)
        | succ n_ ih =>
          intro k H locs ls hm hk hno hW hl
          refine lv_iload_n hx hb dX5_comes_34 rfl (lv_at hl 3 rfl) ?_
          refine lv_bipush (v := 100) hx hb dX5_comes_35 (by decide) ?_
          refine lv_icmp_gt (tgt := 60) hx hb dX5_comes_37 (by decide) (fun c_8 => ?_) (fun c_8 => ?_)
          · have c_8 : 100 < k := (nI_ltI (a := 100) (b := k) (by omega) (by omega)).mp c_8
            refine lv_aload_n hx hb dX5_comes_60 rfl (lv_at hl 0 rfl) ?_
            refine lv_iconst (v := 0) hx hb dX5_comes_61 (by decide) ?_
            refine lv_aload_n hx hb dX5_comes_62 rfl (lv_at hl 0 rfl) ?_
            refine r_get hC hW flX5_16 0 rfl rfl dX5_comes_63 ?_
            refine r_callVv hC hD hW hA lkX5_153 (c_X5_moveAll_r l E (b 0) (b 1) (MF b z w) rfl (enc (wks S P G k)) (b 3) (enc S)) rfl ⟨by decide, by decide, by decide, by decide⟩ [0, 1, 3] rfl rfl rfl (fun _ => rfl) hl.1 rfl rfl (Nat.le_of_ble_eq_true rfl) dX5_comes_66 (fun _ H locs hr_9 hW => ?_)
            have hW : Wd E A s.heap (wcat [MJ b z w, IA E (b 1) 68 (enc S), IA E (b 2) 7 F, IA E (b 3) 68 (enc S)]) H locs := hW
            refine lv_iload_n hx hb dX5_comes_69 rfl (lv_at hl 3 rfl) ?_
            refine lv_bipush (v := 100) hx hb dX5_comes_70 (by decide) ?_
            refine lv_icmp_le (tgt := 84) hx hb dX5_comes_72 (by decide) (fun c_10 => ?_) (fun c_10 => ?_)
            · have c_10 : k ≤ 100 := (nI_leI (a := k) (b := 100) (by omega) (by omega)).mp c_10
              refine lv_iload_n hx hb dX5_comes_84 rfl (lv_at hl 3 rfl) ?_
              exact r_iret hC hQ hD hW (enc S) (by rw [mComes, cif_t ⟨b_2, b_5⟩, ix_nI (n := g) (by omega), fs1_hit (by exfalso; omega) hno (show k < 101 by omega), if_pos (show k < 101 by omega)]; first | done | rfl) (by rw [mComes, cif_t ⟨b_2, b_5⟩, ix_nI (n := g) (by omega), fs1_hit (by exfalso; omega) hno (show k < 101 by omega), if_pos (show k < 101 by omega)]; first | done | rfl) rfl dX5_comes_85
            · have c_10 : ¬ k ≤ 100 := fun z_ => c_10 ((nI_leI (a := k) (b := 100) (by omega) (by omega)).mpr z_)
              refine lv_aload_n hx hb dX5_comes_75 rfl (lv_at hl 0 rfl) ?_
              refine r_ldc hC ctX5_160 dX5_comes_76 ?_
              refine r_callVi hC hD hW hA lkX5_73 (c_X5_finds l E (b 0) (MF b z w) (b 2) rfl F (-1000000004) 3 (by decide) (by decide)) rfl ⟨by decide, by decide, by decide, by decide⟩ [0, 2] rfl rfl rfl (fun _ => rfl) hl.1 rfl rfl (Nat.le_of_ble_eq_true rfl) dX5_comes_78 (fun r_11 _ H locs hr_11 hW => ?_)
              have hW : Wd E A s.heap (wcat [MJ b z w, IA E (b 1) 68 (enc S), IA E (b 2) 7 (upd F 3 (F 3 + 1)), IA E (b 3) 68 (enc S)]) H locs := hW
              have hr_11 : r_11 = (-1000000004) := hr_11
              subst hr_11
              refine lv_goto (tgt := 85) hx hb dX5_comes_81 (by decide) ?_
              exact r_iret hC hQ hD hW (enc S) (by rw [mComes, cif_t ⟨b_2, b_5⟩, ix_nI (n := g) (by omega), fs1_none (fun j hj => hno j (by omega)), if_neg (by decide)]; first | done | rfl) (by rw [mComes, cif_t ⟨b_2, b_5⟩, ix_nI (n := g) (by omega), fs1_none (fun j hj => hno j (by omega)), if_neg (by decide)]; first | done | rfl) rfl dX5_comes_85
          · have c_8 : ¬ 100 < k := fun z_ => c_8 ((nI_ltI (a := 100) (b := k) (by omega) (by omega)).mpr z_)
            refine lv_aload_n hx hb dX5_comes_40 rfl (lv_at hl 0 rfl) ?_
            refine lv_iload_n hx hb dX5_comes_41 rfl (lv_at hl 1 rfl) ?_
            refine lv_iconst (v := 3) hx hb dX5_comes_42 (by decide) ?_
            refine r_callVi hC hD hW hA lkX5_49 (c_X5_worn l E (b 0) (b 1) (MF b z w) rfl (wks S P G k) g 3 (by omega) (by omega)) rfl ⟨by decide, by decide, by decide, by decide⟩ [0, 1] rfl rfl rfl (fun _ => rfl) hl.1 rfl rfl (Nat.le_of_ble_eq_true rfl) dX5_comes_43 (fun r_12 _ H locs hr_12 hW => ?_)
            have hW : Wd E A s.heap (wcat [MJ b z w, IA E (b 1) 68 (enc (wks S P G k)), IA E (b 2) 7 F, IA E (b 3) 68 (enc S)]) H locs := hW
            have hr_12 : r_12 = ((wks S P G k) 8 g) := hr_12
            subst hr_12
            refine lv_iload_n hx hb dX5_comes_46 rfl (lv_at hl 2 rfl) ?_
            refine lv_icmp_eq (tgt := 60) hx hb dX5_comes_47 (by decide) (fun c_13 => ?_) (fun c_13 => ?_)
            · refine lv_aload_n hx hb dX5_comes_60 rfl (lv_at hl 0 rfl) ?_
              refine lv_iconst (v := 0) hx hb dX5_comes_61 (by decide) ?_
              refine lv_aload_n hx hb dX5_comes_62 rfl (lv_at hl 0 rfl) ?_
              refine r_get hC hW flX5_16 0 rfl rfl dX5_comes_63 ?_
              refine r_callVv hC hD hW hA lkX5_153 (c_X5_moveAll_r l E (b 0) (b 1) (MF b z w) rfl (enc (wks S P G k)) (b 3) (enc S)) rfl ⟨by decide, by decide, by decide, by decide⟩ [0, 1, 3] rfl rfl rfl (fun _ => rfl) hl.1 rfl rfl (Nat.le_of_ble_eq_true rfl) dX5_comes_66 (fun _ H locs hr_14 hW => ?_)
              have hW : Wd E A s.heap (wcat [MJ b z w, IA E (b 1) 68 (enc S), IA E (b 2) 7 F, IA E (b 3) 68 (enc S)]) H locs := hW
              refine lv_iload_n hx hb dX5_comes_69 rfl (lv_at hl 3 rfl) ?_
              refine lv_bipush (v := 100) hx hb dX5_comes_70 (by decide) ?_
              refine lv_icmp_le (tgt := 84) hx hb dX5_comes_72 (by decide) (fun c_15 => ?_) (fun c_15 => ?_)
              · have c_15 : k ≤ 100 := (nI_leI (a := k) (b := 100) (by omega) (by omega)).mp c_15
                refine lv_iload_n hx hb dX5_comes_84 rfl (lv_at hl 3 rfl) ?_
                exact r_iret hC hQ hD hW (enc S) (by rw [mComes, cif_t ⟨b_2, b_5⟩, ix_nI (n := g) (by omega), fs1_hit (cCome_t c_13) hno (show k < 101 by omega), if_pos (show k < 101 by omega)]; first | done | rfl) (by rw [mComes, cif_t ⟨b_2, b_5⟩, ix_nI (n := g) (by omega), fs1_hit (cCome_t c_13) hno (show k < 101 by omega), if_pos (show k < 101 by omega)]; first | done | rfl) rfl dX5_comes_85
              · have c_15 : ¬ k ≤ 100 := fun z_ => c_15 ((nI_leI (a := k) (b := 100) (by omega) (by omega)).mpr z_)
                refine lv_aload_n hx hb dX5_comes_75 rfl (lv_at hl 0 rfl) ?_
                refine r_ldc hC ctX5_160 dX5_comes_76 ?_
                refine r_callVi hC hD hW hA lkX5_73 (c_X5_finds l E (b 0) (MF b z w) (b 2) rfl F (-1000000004) 3 (by decide) (by decide)) rfl ⟨by decide, by decide, by decide, by decide⟩ [0, 2] rfl rfl rfl (fun _ => rfl) hl.1 rfl rfl (Nat.le_of_ble_eq_true rfl) dX5_comes_78 (fun r_16 _ H locs hr_16 hW => ?_)
                have hW : Wd E A s.heap (wcat [MJ b z w, IA E (b 1) 68 (enc S), IA E (b 2) 7 (upd F 3 (F 3 + 1)), IA E (b 3) 68 (enc S)]) H locs := hW
                have hr_16 : r_16 = (-1000000004) := hr_16
                subst hr_16
                refine lv_goto (tgt := 85) hx hb dX5_comes_81 (by decide) ?_
                exact r_iret hC hQ hD hW (enc S) (by rw [mComes, cif_t ⟨b_2, b_5⟩, ix_nI (n := g) (by omega), fs1_none (fun j hj => hno j (by omega)), if_neg (by decide)]; first | done | rfl) (by rw [mComes, cif_t ⟨b_2, b_5⟩, ix_nI (n := g) (by omega), fs1_none (fun j hj => hno j (by omega)), if_neg (by decide)]; first | done | rfl) rfl dX5_comes_85
            · refine lv_aload_n hx hb dX5_comes_50 rfl (lv_at hl 0 rfl) ?_
              refine r_callVv hC hD hW hA lkX5_145 (c_X5_oneWeek l E (b 0) (b 1) (MF b z w) rfl (wks S P G k) P G (HV_wks hV k)) rfl ⟨by decide, by decide, by decide, by decide⟩ [0, 1] rfl rfl rfl (fun _ => rfl) hl.1 rfl rfl (Nat.le_of_ble_eq_true rfl) dX5_comes_51 (fun _ H locs hr_17 hW => ?_)
              have hW : Wd E A s.heap (wcat [MJ b z w, IA E (b 1) 68 (enc (wks S P G (k + 1))), IA E (b 2) 7 F, IA E (b 3) 68 (enc S)]) H locs := hW
              refine lv_iinc (v := (nI (k + 1))) (lv' := [(3, .int (nI (k + 1))), (0, .ref (b 0)), (1, .int (nI g)), (2, .int (nI j))]) (k := 3) hx hb dX5_comes_54 hl rfl (nI_inc k 1) (by decide) rfl (fun ls hl => ?_)
              refine lv_goto (tgt := 34) hx hb dX5_comes_57 (by decide) ?_
              exact ih (k + 1) _ _ _ (by omega) (by omega) (lt_s hno (cCome_f c_13)) hW (lv_sub hl [1, 2, 3, 0] rfl)
      exact L34 (101 - 0 + 1) 0 _ _ _ (Nat.lt_succ_self _) (by omega) lt_0 hW (lv_sub hl [1, 2, 3, 0] rfl)
set_option maxHeartbeats 4000000 in
set_option maxRecDepth 100000 in
theorem c_X5_rightIn (l : Launch) (E : Ev) (b : Nat → Nat) (z : Nat → Int32) (w : Int64) (S : HS) (P : Nat) (G : Nat) (hV : HV S P G) (f3 : Nat → Int32) (g : Nat) (hg : g < G) (n : Nat) (hn : n ≤ 40) : MI l E yX5_rightIn cX5_rightIn 5 .int 5 113 0 0 [.ref (b 0), .int (nI g), .int (nI n)] (wcat [MJ b z w, IA E (b 1) 68 (enc S), IA E (b 3) 68 f3]) (fun (r : Int32) (_ : Unit) => r = nI (ct (fun q => rgt (wks S P G (q + 1)) g) n)) (fun (_ : Unit) => (wcat [MJ b z w, IA E (b 1) 68 f3, IA E (b 3) 68 f3])) := by
  refine MI_intro RX5 (by decide) rfl (Nat.le_of_ble_eq_true rfl) ?_
  intro p e R s m args below meth c A Q hQ hC hD hW hA ls hl
  have hx := hC.1
  have hb := hC.2.1
  have hW : Wd E A s.heap (wcat [MJ b z w, IA E (b 1) 68 (enc S), IA E (b 3) 68 f3]) s.heap [] := hW
  have hD : Dj A [b 0, b 1, b 3] := hD
  have hl : lv_has ls 5 [(0, .ref (b 0)), (1, .int (nI g)), (2, .int (nI n))] := hl
  have hP := hV.p
  have hP1 := hV.p6
  have hG := hV.g
  have hG1 := hV.g10
  refine lv_iconst (v := 0) hx hb dX5_rightIn_0 (by decide) ?_
  refine lv_istore_n (lv' := [(3, .int 0), (0, .ref (b 0)), (1, .int (nI g)), (2, .int (nI n))]) hx hb dX5_rightIn_1 rfl hl (by decide) rfl (fun ls hl => ?_)
  refine lv_iconst (v := 0) hx hb dX5_rightIn_2 (by decide) ?_
  refine lv_istore (lv' := [(4, .int 0), (3, .int 0), (0, .ref (b 0)), (1, .int (nI g)), (2, .int (nI n))]) hx hb dX5_rightIn_3 hl (by decide) rfl (fun ls hl => ?_)
  have L5 : ∀ (n_ : Nat) (k : Nat) (H : Heap) (locs : List Loc) (ls : Array Slot), n - k < n_ → k ≤ n → Wd E A s.heap (wcat [MJ b z w, IA E (b 1) 68 (enc (wks S P G k)), IA E (b 3) 68 f3]) H locs → lv_has ls 5 [(0, .ref (b 0)), (1, .int (nI g)), (2, .int (nI n)), (3, .int (nI (ct (fun q => rgt (wks S P G (q + 1)) g) k))), (4, .int (nI k))] → W p l e R s m args below meth c H locs 0 0 Q (F0 m 5 ls []) := by
    intro n_
    induction n_ with
    | zero => intro k H locs ls hm; exact absurd hm (Nat.not_lt_zero _)
    | succ n_ ih =>
      intro k H locs ls hm hk hW hl
      refine lv_iload hx hb dX5_rightIn_5 (lv_at hl 4 rfl) ?_
      refine lv_iload_n hx hb dX5_rightIn_7 rfl (lv_at hl 2 rfl) ?_
      refine lv_icmp_ge (tgt := 37) hx hb dX5_rightIn_8 (by decide) (fun c_1 => ?_) (fun c_1 => ?_)
      · have c_1 : n ≤ k := (nI_leI (a := n) (b := k) (by omega) (by omega)).mp c_1
        refine lv_aload_n hx hb dX5_rightIn_37 rfl (lv_at hl 0 rfl) ?_
        refine lv_iconst (v := 0) hx hb dX5_rightIn_38 (by decide) ?_
        refine lv_aload_n hx hb dX5_rightIn_39 rfl (lv_at hl 0 rfl) ?_
        refine r_get hC hW flX5_16 0 rfl rfl dX5_rightIn_40 ?_
        refine r_callVv hC hD hW hA lkX5_153 (c_X5_moveAll_r l E (b 0) (b 1) (MF b z w) rfl (enc (wks S P G k)) (b 3) f3) rfl ⟨by decide, by decide, by decide, by decide⟩ [0, 1, 2] rfl rfl rfl (fun _ => rfl) hl.1 rfl rfl (Nat.le_of_ble_eq_true rfl) dX5_rightIn_43 (fun _ H locs hr_2 hW => ?_)
        have hW : Wd E A s.heap (wcat [MJ b z w, IA E (b 1) 68 f3, IA E (b 3) 68 f3]) H locs := hW
        refine lv_iload_n hx hb dX5_rightIn_46 rfl (lv_at hl 3 rfl) ?_
        exact r_iret hC hQ hD hW () (by rw [show k = n by omega]) rfl rfl dX5_rightIn_47
      · have c_1 : ¬ n ≤ k := fun z_ => c_1 ((nI_leI (a := n) (b := k) (by omega) (by omega)).mpr z_)
        refine lv_aload_n hx hb dX5_rightIn_11 rfl (lv_at hl 0 rfl) ?_
        refine r_callVv hC hD hW hA lkX5_145 (c_X5_oneWeek l E (b 0) (b 1) (MF b z w) rfl (wks S P G k) P G (HV_wks hV k)) rfl ⟨by decide, by decide, by decide, by decide⟩ [0, 1] rfl rfl rfl (fun _ => rfl) hl.1 rfl rfl (Nat.le_of_ble_eq_true rfl) dX5_rightIn_12 (fun _ H locs hr_3 hW => ?_)
        have hW : Wd E A s.heap (wcat [MJ b z w, IA E (b 1) 68 (enc (wks S P G (k + 1))), IA E (b 3) 68 f3]) H locs := hW
        refine lv_iload_n hx hb dX5_rightIn_15 rfl (lv_at hl 3 rfl) ?_
        refine lv_aload_n hx hb dX5_rightIn_16 rfl (lv_at hl 0 rfl) ?_
        refine lv_iload_n hx hb dX5_rightIn_17 rfl (lv_at hl 1 rfl) ?_
        refine r_callVi hC hD hW hA lkX5_53 (c_X5_isRight l E (b 0) (b 1) (MF b z w) rfl (wks S P G (k + 1)) g (by omega)) rfl ⟨by decide, by decide, by decide, by decide⟩ [0, 1] rfl rfl rfl (fun _ => rfl) hl.1 rfl rfl (Nat.le_of_ble_eq_true rfl) dX5_rightIn_18 (fun r_4 _ H locs hr_4 hW => ?_)
        have hW : Wd E A s.heap (wcat [MJ b z w, IA E (b 1) 68 (enc (wks S P G (k + 1))), IA E (b 3) 68 f3]) H locs := hW
        have hr_4 : bz ((wks S P G (k + 1)) 8 g = (wks S P G (k + 1)) 5 g) r_4 := hr_4
        rcases hr_4 with ⟨rfl, b_5⟩ | ⟨rfl, b_5⟩
        · refine lv_if_eq (tgt := 28) hx hb dX5_rightIn_21 (by decide) (fun _ => ?_) (fun c => absurd c (by decide))
          refine lv_iconst (v := 0) hx hb dX5_rightIn_28 (by decide) ?_
          refine n_iadd (v := (nI (ct (fun q => rgt (wks S P G (q + 1)) g) k))) hx hb dX5_rightIn_29 (Int32.add_zero _) ?_
          refine lv_istore_n (lv' := [(3, .int (nI (ct (fun q => rgt (wks S P G (q + 1)) g) k))), (0, .ref (b 0)), (1, .int (nI g)), (2, .int (nI n)), (4, .int (nI k))]) hx hb dX5_rightIn_30 rfl hl (by decide) rfl (fun ls hl => ?_)
          refine lv_iinc (v := (nI (k + 1))) (lv' := [(4, .int (nI (k + 1))), (3, .int (nI (ct (fun q => rgt (wks S P G (q + 1)) g) k))), (0, .ref (b 0)), (1, .int (nI g)), (2, .int (nI n))]) (k := 4) hx hb dX5_rightIn_31 hl rfl (nI_inc k 1) (by decide) rfl (fun ls hl => ?_)
          refine lv_goto (tgt := 5) hx hb dX5_rightIn_34 (by decide) ?_
          exact ih (k + 1) _ _ _ (by omega) (by omega) hW (by rw [ct_n (c := fun q => rgt (wks S P G (q + 1)) g) (decide_eq_false b_5)]; exact lv_sub hl [2, 3, 4, 1, 0] rfl)
        · refine lv_if_eq (tgt := 28) hx hb dX5_rightIn_21 (by decide) (fun c => absurd c (by decide)) (fun _ => ?_)
          refine lv_iconst (v := 1) hx hb dX5_rightIn_24 (by decide) ?_
          refine lv_goto (tgt := 29) hx hb dX5_rightIn_25 (by decide) ?_
          refine n_iadd (v := (nI (ct (fun q => rgt (wks S P G (q + 1)) g) k + 1))) hx hb dX5_rightIn_29 (nI_1 _) ?_
          refine lv_istore_n (lv' := [(3, .int (nI (ct (fun q => rgt (wks S P G (q + 1)) g) k + 1))), (0, .ref (b 0)), (1, .int (nI g)), (2, .int (nI n)), (4, .int (nI k))]) hx hb dX5_rightIn_30 rfl hl (by decide) rfl (fun ls hl => ?_)
          refine lv_iinc (v := (nI (k + 1))) (lv' := [(4, .int (nI (k + 1))), (3, .int (nI (ct (fun q => rgt (wks S P G (q + 1)) g) k + 1))), (0, .ref (b 0)), (1, .int (nI g)), (2, .int (nI n))]) (k := 4) hx hb dX5_rightIn_31 hl rfl (nI_inc k 1) (by decide) rfl (fun ls hl => ?_)
          refine lv_goto (tgt := 5) hx hb dX5_rightIn_34 (by decide) ?_
          exact ih (k + 1) _ _ _ (by omega) (by omega) hW (by rw [ct_y (c := fun q => rgt (wks S P G (q + 1)) g) (decide_eq_true b_5)]; exact lv_sub hl [2, 3, 4, 1, 0] rfl)
  exact L5 (n - 0 + 1) 0 _ _ _ (Nat.lt_succ_self _) (by omega) hW (lv_sub hl [2, 3, 4, 1, 0] rfl)
set_option maxHeartbeats 4000000 in
set_option maxRecDepth 100000 in
theorem c_X5_mark (l : Launch) (E : Ev) (b : Nat → Nat) (z : Nat → Int32) (w : Int64) (S : HS) (F : FT) (P : Nat) (G : Nat) (hV : HV S P G) (f3 : Nat → Int32) (x1 : Int32) (x2 : Int32) : MI l E yX5_mark cX5_mark 7 .int 6 137 0 0 [.ref (b 0), .int x1, .int x2] (wcat [MJ b z w, IA E (b 1) 68 (enc S), IA E (b 2) 7 F, IA E (b 3) 68 f3]) (fun (r : Int32) (u : (Nat → Int32)) => r = (mMark S F P G x1 x2).1) (fun (u : (Nat → Int32)) => (wcat [MJ b z w, IA E (b 1) 68 (enc S), IA E (b 2) 7 ((mMark S F P G x1 x2).2), IA E (b 3) 68 u])) := by
  refine MI_intro RX5 (by decide) rfl (Nat.le_of_ble_eq_true rfl) ?_
  intro p e R s m args below meth c A Q hQ hC hD hW hA ls hl
  have hx := hC.1
  have hb := hC.2.1
  have hW : Wd E A s.heap (wcat [MJ b z w, IA E (b 1) 68 (enc S), IA E (b 2) 7 F, IA E (b 3) 68 f3]) s.heap [] := hW
  have hD : Dj A [b 0, b 1, b 2, b 3] := hD
  have hl : lv_has ls 7 [(0, .ref (b 0)), (1, .int x1), (2, .int x2)] := hl
  have hP := hV.p
  have hP1 := hV.p6
  have hG := hV.g
  have hG1 := hV.g10
  refine lv_aload_n hx hb dX5_mark_0 rfl (lv_at hl 0 rfl) ?_
  refine lv_iload_n hx hb dX5_mark_1 rfl (lv_at hl 1 rfl) ?_
  refine r_callVi hC hD hW hA lkX5_108 (c_X5_isGarment l E (b 0) (b 1) (MF b z w) rfl S G hV.g hV.g10 x1) rfl ⟨by decide, by decide, by decide, by decide⟩ [0, 1] rfl rfl rfl (fun _ => rfl) hl.1 rfl rfl (Nat.le_of_ble_eq_true rfl) dX5_mark_2 (fun r_1 _ H locs hr_1 hW => ?_)
  have hW : Wd E A s.heap (wcat [MJ b z w, IA E (b 1) 68 (enc S), IA E (b 2) 7 F, IA E (b 3) 68 f3]) H locs := hW
  have hr_1 : bz (∃ j, j < G ∧ x1 = nI j) r_1 := hr_1
  rcases hr_1 with ⟨rfl, b_2⟩ | ⟨rfl, b_2⟩
  · refine lv_if_eq (tgt := 18) hx hb dX5_mark_5 (by decide) (fun _ => ?_) (fun c => absurd c (by decide))
    refine lv_aload_n hx hb dX5_mark_18 rfl (lv_at hl 0 rfl) ?_
    refine r_ldc hC ctX5_44 dX5_mark_19 ?_
    refine r_callVi hC hD hW hA lkX5_73 (c_X5_finds l E (b 0) (MF b z w) (b 2) rfl F (-1000000001) 0 (by decide) (by decide)) rfl ⟨by decide, by decide, by decide, by decide⟩ [0, 2] rfl rfl rfl (fun _ => rfl) hl.1 rfl rfl (Nat.le_of_ble_eq_true rfl) dX5_mark_21 (fun r_3 _ H locs hr_3 hW => ?_)
    have hW : Wd E A s.heap (wcat [MJ b z w, IA E (b 1) 68 (enc S), IA E (b 2) 7 (upd F 0 (F 0 + 1)), IA E (b 3) 68 f3]) H locs := hW
    have hr_3 : r_3 = (-1000000001) := hr_3
    subst hr_3
    exact r_iret hC hQ hD hW f3 (by rw [mMark, cif_f (fun z_ => b_2 z_.1)]; first | done | rfl) (by rw [mMark, cif_f (fun z_ => b_2 z_.1)]; first | done | rfl) rfl dX5_mark_24
  · have eb_2 := b_2
    obtain ⟨g, hg, rfl⟩ := eb_2
    refine lv_if_eq (tgt := 18) hx hb dX5_mark_5 (by decide) (fun c => absurd c (by decide)) (fun _ => ?_)
    refine lv_iload_n hx hb dX5_mark_8 rfl (lv_at hl 2 rfl) ?_
    refine lv_iconst (v := 1) hx hb dX5_mark_9 (by decide) ?_
    refine lv_bipush (v := 40) hx hb dX5_mark_10 (by decide) ?_
    refine r_callSi hC hD hW hA lkX5_45 (c_X5_in l E x2 1 40) ⟨by decide, by decide, by decide, by decide⟩ rfl hl.1 rfl rfl (Nat.le_of_ble_eq_true rfl) dX5_mark_12 (fun r_4 _ H locs hr_4 hW => ?_)
    have hW : Wd E A s.heap (wcat [MJ b z w, IA E (b 1) 68 (enc S), IA E (b 2) 7 F, IA E (b 3) 68 f3]) H locs := hW
    have hr_4 : bz (1 ≤ x2 ∧ x2 ≤ 40) r_4 := hr_4
    rcases hr_4 with ⟨rfl, b_5⟩ | ⟨rfl, b_5⟩
    · refine lv_if_ne (tgt := 25) hx hb dX5_mark_15 (by decide) (fun c => absurd c (by decide)) (fun _ => ?_)
      refine lv_aload_n hx hb dX5_mark_18 rfl (lv_at hl 0 rfl) ?_
      refine r_ldc hC ctX5_44 dX5_mark_19 ?_
      refine r_callVi hC hD hW hA lkX5_73 (c_X5_finds l E (b 0) (MF b z w) (b 2) rfl F (-1000000001) 0 (by decide) (by decide)) rfl ⟨by decide, by decide, by decide, by decide⟩ [0, 2] rfl rfl rfl (fun _ => rfl) hl.1 rfl rfl (Nat.le_of_ble_eq_true rfl) dX5_mark_21 (fun r_6 _ H locs hr_6 hW => ?_)
      have hW : Wd E A s.heap (wcat [MJ b z w, IA E (b 1) 68 (enc S), IA E (b 2) 7 (upd F 0 (F 0 + 1)), IA E (b 3) 68 f3]) H locs := hW
      have hr_6 : r_6 = (-1000000001) := hr_6
      subst hr_6
      exact r_iret hC hQ hD hW f3 (by rw [mMark, cif_f (fun z_ => b_5 z_.2)]; first | done | rfl) (by rw [mMark, cif_f (fun z_ => b_5 z_.2)]; first | done | rfl) rfl dX5_mark_24
    · have eb_5 := rng1 (k := 40) (by decide) b_5
      obtain ⟨n, hn, rfl⟩ := eb_5
      refine lv_if_ne (tgt := 25) hx hb dX5_mark_15 (by decide) (fun _ => ?_) (fun c => absurd c (by decide))
      refine lv_aload_n hx hb dX5_mark_25 rfl (lv_at hl 0 rfl) ?_
      refine lv_iconst (v := 1) hx hb dX5_mark_26 (by decide) ?_
      refine lv_aload_n hx hb dX5_mark_27 rfl (lv_at hl 0 rfl) ?_
      refine r_get hC hW flX5_16 0 rfl rfl dX5_mark_28 ?_
      refine r_callVv hC hD hW hA lkX5_153 (c_X5_moveAll_k l E (b 0) (b 1) (MF b z w) rfl (enc S) (b 3) f3) rfl ⟨by decide, by decide, by decide, by decide⟩ [0, 1, 3] rfl rfl rfl (fun _ => rfl) hl.1 rfl rfl (Nat.le_of_ble_eq_true rfl) dX5_mark_31 (fun _ H locs hr_7 hW => ?_)
      have hW : Wd E A s.heap (wcat [MJ b z w, IA E (b 1) 68 (enc S), IA E (b 2) 7 F, IA E (b 3) 68 (enc S)]) H locs := hW
      refine lv_iconst (v := 0) hx hb dX5_mark_34 (by decide) ?_
      refine lv_istore_n (lv' := [(3, .int 0), (0, .ref (b 0)), (1, .int (nI g)), (2, .int (nI n))]) hx hb dX5_mark_35 rfl hl (by decide) rfl (fun ls hl => ?_)
      refine lv_iconst (v := (-1)) hx hb dX5_mark_36 (by decide) ?_
      refine lv_istore (lv' := [(4, .int (-1)), (3, .int 0), (0, .ref (b 0)), (1, .int (nI g)), (2, .int (nI n))]) hx hb dX5_mark_37 hl (by decide) rfl (fun ls hl => ?_)
      refine lv_iconst (v := 0) hx hb dX5_mark_39 (by decide) ?_
      refine lv_istore (lv' := [(5, .int 0), (4, .int (-1)), (3, .int 0), (0, .ref (b 0)), (1, .int (nI g)), (2, .int (nI n))]) hx hb dX5_mark_40 hl (by decide) rfl (fun ls hl => ?_)
      have L42 : ∀ (n_ : Nat) (k : Nat) (H : Heap) (locs : List Loc) (ls : Array Slot), 3 - k < n_ → k ≤ 3 → Wd E A s.heap (wcat [MJ b z w, IA E (b 1) 68 (enc S), IA E (b 2) 7 F, IA E (b 3) 68 (enc S)]) H locs → lv_has ls 7 [(0, .ref (b 0)), (1, .int (nI g)), (2, .int (nI n)), (3, .int (nI (bx (vMark S P G g n) k))), (4, .int (mst (vMark S P G g n) k)), (5, .int (nI k))] → W p l e R s m args below meth c H locs 0 0 Q (F0 m 42 ls []) := by
        intro n_
        induction n_ with
        | zero => intro k H locs ls hm; exact absurd hm (Nat.not_lt_zero _)
        | succ n_ ih =>
          intro k H locs ls hm hk hW hl
          refine lv_iload hx hb dX5_mark_42 (lv_at hl 5 rfl) ?_
          refine lv_iconst (v := 3) hx hb dX5_mark_44 (by decide) ?_
          refine lv_icmp_ge (tgt := 100) hx hb dX5_mark_45 (by decide) (fun c_8 => ?_) (fun c_8 => ?_)
          · have c_8 : 3 ≤ k := (nI_leI (a := 3) (b := k) (by omega) (by omega)).mp c_8
            refine lv_iload_n hx hb dX5_mark_100 rfl (lv_at hl 3 rfl) ?_
            exact r_iret hC hQ hD hW (enc S) (by rw [mMark, cif_t ⟨b_2, b_5⟩, ix_nI (n := g) (by omega), ix_nI (n := n) (by omega), show 3 = k by omega]; first | done | rfl) (by rw [mMark, cif_t ⟨b_2, b_5⟩, ix_nI (n := g) (by omega), ix_nI (n := n) (by omega), show 3 = k by omega]; first | done | rfl) rfl dX5_mark_101
          · have c_8 : ¬ 3 ≤ k := fun z_ => c_8 ((nI_leI (a := 3) (b := k) (by omega) (by omega)).mpr z_)
            refine lv_aload_n hx hb dX5_mark_48 rfl (lv_at hl 0 rfl) ?_
            refine lv_iload_n hx hb dX5_mark_49 rfl (lv_at hl 1 rfl) ?_
            refine lv_iconst (v := 1) hx hb dX5_mark_50 (by decide) ?_
            refine lv_iload hx hb dX5_mark_51 (lv_at hl 5 rfl) ?_
            refine r_callVv hC hD hW hA lkX5_118 (c_X5_sews l E (b 0) (b 1) (MF b z w) rfl S g 1 (nI k) (by omega) (by omega)) rfl ⟨by decide, by decide, by decide, by decide⟩ [0, 1] rfl rfl rfl (fun _ => rfl) hl.1 rfl rfl (Nat.le_of_ble_eq_true rfl) dX5_mark_53 (fun _ H locs hr_9 hW => ?_)
            have hW : Wd E A s.heap (wcat [MJ b z w, IA E (b 1) 68 (enc (st S 6 g (nI k))), IA E (b 2) 7 F, IA E (b 3) 68 (enc S)]) H locs := hW
            refine lv_aload_n hx hb dX5_mark_56 rfl (lv_at hl 0 rfl) ?_
            refine lv_iload_n hx hb dX5_mark_57 rfl (lv_at hl 1 rfl) ?_
            refine lv_iload_n hx hb dX5_mark_58 rfl (lv_at hl 2 rfl) ?_
            refine r_callCi hC hD hW hA lkX5_161 (c_X5_rightIn l E b z w (st S 6 g (nI k)) P G (HV_6n hV (by omega)) (enc S) g (by omega) n (by omega)) rfl rfl ⟨by decide, by decide, by decide, by decide⟩ [0, 1, 3] rfl rfl rfl (fun _ => rfl) hl.1 rfl rfl (Nat.le_of_ble_eq_true rfl) dX5_mark_59 (fun r_10 _ H locs hr_10 hW => ?_)
            have hW : Wd E A s.heap (wcat [MJ b z w, IA E (b 1) 68 (enc S), IA E (b 2) 7 F, IA E (b 3) 68 (enc S)]) H locs := hW
            have hr_10 : r_10 = (nI (ct (fun q => rgt (wks (st S 6 g (nI k)) P G (q + 1)) g) n)) := hr_10
            subst hr_10
            refine n_top rfl ?_
            refine lv_istore (lv' := [(6, .int (vMark S P G g n k)), (0, .ref (b 0)), (1, .int (nI g)), (2, .int (nI n)), (3, .int (nI (bx (vMark S P G g n) k))), (4, .int (mst (vMark S P G g n) k)), (5, .int (nI k))]) hx hb dX5_mark_62 hl (by decide) rfl (fun ls hl => ?_)
            refine lv_iload hx hb dX5_mark_64 (lv_at hl 0 rfl) ?_
            refine lv_iload hx hb dX5_mark_66 (lv_at hl 5 rfl) ?_
            refine lv_icmp_le (tgt := 76) hx hb dX5_mark_68 (by decide) (fun c_11 => ?_) (fun c_11 => ?_)
            · refine lv_iload_n hx hb dX5_mark_76 rfl (lv_at hl 4 rfl) ?_
              refine lv_istore_n (lv' := [(3, .int (nI (bx (vMark S P G g n) k))), (6, .int (vMark S P G g n k)), (0, .ref (b 0)), (1, .int (nI g)), (2, .int (nI n)), (4, .int (mst (vMark S P G g n) k)), (5, .int (nI k))]) hx hb dX5_mark_77 rfl hl (by decide) rfl (fun ls hl => ?_)
              refine lv_iload hx hb dX5_mark_78 (lv_at hl 1 rfl) ?_
              refine lv_iload hx hb dX5_mark_80 (lv_at hl 5 rfl) ?_
              refine lv_icmp_le (tgt := 90) hx hb dX5_mark_82 (by decide) (fun c_12 => ?_) (fun c_12 => absurd c_12 (fun z => z c_11))
              refine lv_iload hx hb dX5_mark_90 (lv_at hl 5 rfl) ?_
              refine lv_istore (lv' := [(4, .int (mst (vMark S P G g n) k)), (3, .int (nI (bx (vMark S P G g n) k))), (6, .int (vMark S P G g n k)), (0, .ref (b 0)), (1, .int (nI g)), (2, .int (nI n)), (5, .int (nI k))]) hx hb dX5_mark_92 hl (by decide) rfl (fun ls hl => ?_)
              refine lv_iinc (v := (nI (k + 1))) (lv' := [(5, .int (nI (k + 1))), (4, .int (mst (vMark S P G g n) k)), (3, .int (nI (bx (vMark S P G g n) k))), (6, .int (vMark S P G g n k)), (0, .ref (b 0)), (1, .int (nI g)), (2, .int (nI n))]) (k := 6) hx hb dX5_mark_94 hl rfl (nI_inc k 1) (by decide) rfl (fun ls hl => ?_)
              refine lv_goto (tgt := 42) hx hb dX5_mark_97 (by decide) ?_
              exact ih (k + 1) _ _ _ (by omega) (by omega) hW (by rw [(mst_f (vMark_pos S P G g n k (by omega)) (Int32.not_lt.mpr c_11)).1, (mst_f (vMark_pos S P G g n k (by omega)) (Int32.not_lt.mpr c_11)).2.1]; exact lv_sub hl [4, 5, 6, 2, 1, 0] rfl)
            · refine lv_iload hx hb dX5_mark_71 (lv_at hl 6 rfl) ?_
              refine lv_goto (tgt := 77) hx hb dX5_mark_73 (by decide) ?_
              refine lv_istore_n (lv' := [(3, .int (nI k)), (6, .int (vMark S P G g n k)), (0, .ref (b 0)), (1, .int (nI g)), (2, .int (nI n)), (4, .int (mst (vMark S P G g n) k)), (5, .int (nI k))]) hx hb dX5_mark_77 rfl hl (by decide) rfl (fun ls hl => ?_)
              refine lv_iload hx hb dX5_mark_78 (lv_at hl 1 rfl) ?_
              refine lv_iload hx hb dX5_mark_80 (lv_at hl 5 rfl) ?_
              refine lv_icmp_le (tgt := 90) hx hb dX5_mark_82 (by decide) (fun c_13 => absurd c_13 c_11) (fun c_13 => ?_)
              refine lv_iload hx hb dX5_mark_85 (lv_at hl 1 rfl) ?_
              refine lv_goto (tgt := 92) hx hb dX5_mark_87 (by decide) ?_
              refine lv_istore (lv' := [(4, .int (vMark S P G g n k)), (3, .int (nI k)), (6, .int (vMark S P G g n k)), (0, .ref (b 0)), (1, .int (nI g)), (2, .int (nI n)), (5, .int (nI k))]) hx hb dX5_mark_92 hl (by decide) rfl (fun ls hl => ?_)
              refine lv_iinc (v := (nI (k + 1))) (lv' := [(5, .int (nI (k + 1))), (4, .int (vMark S P G g n k)), (3, .int (nI k)), (6, .int (vMark S P G g n k)), (0, .ref (b 0)), (1, .int (nI g)), (2, .int (nI n))]) (k := 6) hx hb dX5_mark_94 hl rfl (nI_inc k 1) (by decide) rfl (fun ls hl => ?_)
              refine lv_goto (tgt := 42) hx hb dX5_mark_97 (by decide) ?_
              exact ih (k + 1) _ _ _ (by omega) (by omega) hW (by rw [(mst_t (Int32.not_le.mp c_11)).1, (mst_t (Int32.not_le.mp c_11)).2]; exact lv_sub hl [4, 5, 6, 2, 1, 0] rfl)
      exact L42 (3 - 0 + 1) 0 _ _ _ (Nat.lt_succ_self _) (by omega) hW (lv_sub hl [3, 4, 5, 2, 1, 0] rfl)
set_option maxHeartbeats 4000000 in
set_option maxRecDepth 100000 in
theorem c_X5_kind (l : Launch) (E : Ev) (b : Nat → Nat) (z : Nat → Int32) (w : Int64) (S : HS) (F : FT) (P : Nat) (G : Nat) (hV : HV S P G) (f3 : Nat → Int32) (x1 : Int32) (x2 : Int32) : MI l E yX5_kind cX5_kind 7 .int 6 135 0 0 [.ref (b 0), .int x1, .int x2] (wcat [MJ b z w, IA E (b 1) 68 (enc S), IA E (b 2) 7 F, IA E (b 3) 68 f3]) (fun (r : Int32) (u : (Nat → Int32)) => r = (mKind S F P G x1 x2).1) (fun (u : (Nat → Int32)) => (wcat [MJ b z w, IA E (b 1) 68 (enc S), IA E (b 2) 7 ((mKind S F P G x1 x2).2), IA E (b 3) 68 u])) := by
  refine MI_intro RX5 (by decide) rfl (Nat.le_of_ble_eq_true rfl) ?_
  intro p e R s m args below meth c A Q hQ hC hD hW hA ls hl
  have hx := hC.1
  have hb := hC.2.1
  have hW : Wd E A s.heap (wcat [MJ b z w, IA E (b 1) 68 (enc S), IA E (b 2) 7 F, IA E (b 3) 68 f3]) s.heap [] := hW
  have hD : Dj A [b 0, b 1, b 2, b 3] := hD
  have hl : lv_has ls 7 [(0, .ref (b 0)), (1, .int x1), (2, .int x2)] := hl
  have hP := hV.p
  have hP1 := hV.p6
  have hG := hV.g
  have hG1 := hV.g10
  refine lv_aload_n hx hb dX5_kind_0 rfl (lv_at hl 0 rfl) ?_
  refine lv_iload_n hx hb dX5_kind_1 rfl (lv_at hl 1 rfl) ?_
  refine r_callVi hC hD hW hA lkX5_98 (c_X5_isOne l E (b 0) (b 1) (MF b z w) rfl S P hV.p hV.p6 x1) rfl ⟨by decide, by decide, by decide, by decide⟩ [0, 1] rfl rfl rfl (fun _ => rfl) hl.1 rfl rfl (Nat.le_of_ble_eq_true rfl) dX5_kind_2 (fun r_1 _ H locs hr_1 hW => ?_)
  have hW : Wd E A s.heap (wcat [MJ b z w, IA E (b 1) 68 (enc S), IA E (b 2) 7 F, IA E (b 3) 68 f3]) H locs := hW
  have hr_1 : bz (∃ j, j < P ∧ x1 = nI j) r_1 := hr_1
  rcases hr_1 with ⟨rfl, b_2⟩ | ⟨rfl, b_2⟩
  · refine lv_if_eq (tgt := 18) hx hb dX5_kind_5 (by decide) (fun _ => ?_) (fun c => absurd c (by decide))
    refine lv_aload_n hx hb dX5_kind_18 rfl (lv_at hl 0 rfl) ?_
    refine r_ldc hC ctX5_44 dX5_kind_19 ?_
    refine r_callVi hC hD hW hA lkX5_73 (c_X5_finds l E (b 0) (MF b z w) (b 2) rfl F (-1000000001) 0 (by decide) (by decide)) rfl ⟨by decide, by decide, by decide, by decide⟩ [0, 2] rfl rfl rfl (fun _ => rfl) hl.1 rfl rfl (Nat.le_of_ble_eq_true rfl) dX5_kind_21 (fun r_3 _ H locs hr_3 hW => ?_)
    have hW : Wd E A s.heap (wcat [MJ b z w, IA E (b 1) 68 (enc S), IA E (b 2) 7 (upd F 0 (F 0 + 1)), IA E (b 3) 68 f3]) H locs := hW
    have hr_3 : r_3 = (-1000000001) := hr_3
    subst hr_3
    exact r_iret hC hQ hD hW f3 (by rw [mKind, cif_f (fun z_ => b_2 z_.1)]; first | done | rfl) (by rw [mKind, cif_f (fun z_ => b_2 z_.1)]; first | done | rfl) rfl dX5_kind_24
  · have eb_2 := b_2
    obtain ⟨j, hj, rfl⟩ := eb_2
    refine lv_if_eq (tgt := 18) hx hb dX5_kind_5 (by decide) (fun c => absurd c (by decide)) (fun _ => ?_)
    refine lv_iload_n hx hb dX5_kind_8 rfl (lv_at hl 2 rfl) ?_
    refine lv_iconst (v := 1) hx hb dX5_kind_9 (by decide) ?_
    refine lv_bipush (v := 60) hx hb dX5_kind_10 (by decide) ?_
    refine r_callSi hC hD hW hA lkX5_45 (c_X5_in l E x2 1 60) ⟨by decide, by decide, by decide, by decide⟩ rfl hl.1 rfl rfl (Nat.le_of_ble_eq_true rfl) dX5_kind_12 (fun r_4 _ H locs hr_4 hW => ?_)
    have hW : Wd E A s.heap (wcat [MJ b z w, IA E (b 1) 68 (enc S), IA E (b 2) 7 F, IA E (b 3) 68 f3]) H locs := hW
    have hr_4 : bz (1 ≤ x2 ∧ x2 ≤ 60) r_4 := hr_4
    rcases hr_4 with ⟨rfl, b_5⟩ | ⟨rfl, b_5⟩
    · refine lv_if_ne (tgt := 25) hx hb dX5_kind_15 (by decide) (fun c => absurd c (by decide)) (fun _ => ?_)
      refine lv_aload_n hx hb dX5_kind_18 rfl (lv_at hl 0 rfl) ?_
      refine r_ldc hC ctX5_44 dX5_kind_19 ?_
      refine r_callVi hC hD hW hA lkX5_73 (c_X5_finds l E (b 0) (MF b z w) (b 2) rfl F (-1000000001) 0 (by decide) (by decide)) rfl ⟨by decide, by decide, by decide, by decide⟩ [0, 2] rfl rfl rfl (fun _ => rfl) hl.1 rfl rfl (Nat.le_of_ble_eq_true rfl) dX5_kind_21 (fun r_6 _ H locs hr_6 hW => ?_)
      have hW : Wd E A s.heap (wcat [MJ b z w, IA E (b 1) 68 (enc S), IA E (b 2) 7 (upd F 0 (F 0 + 1)), IA E (b 3) 68 f3]) H locs := hW
      have hr_6 : r_6 = (-1000000001) := hr_6
      subst hr_6
      exact r_iret hC hQ hD hW f3 (by rw [mKind, cif_f (fun z_ => b_5 z_.2)]; first | done | rfl) (by rw [mKind, cif_f (fun z_ => b_5 z_.2)]; first | done | rfl) rfl dX5_kind_24
    · have eb_5 := rng1 (k := 60) (by decide) b_5
      obtain ⟨n, hn, rfl⟩ := eb_5
      refine lv_if_ne (tgt := 25) hx hb dX5_kind_15 (by decide) (fun _ => ?_) (fun c => absurd c (by decide))
      refine lv_aload_n hx hb dX5_kind_25 rfl (lv_at hl 0 rfl) ?_
      refine lv_iconst (v := 1) hx hb dX5_kind_26 (by decide) ?_
      refine lv_aload_n hx hb dX5_kind_27 rfl (lv_at hl 0 rfl) ?_
      refine r_get hC hW flX5_16 0 rfl rfl dX5_kind_28 ?_
      refine r_callVv hC hD hW hA lkX5_153 (c_X5_moveAll_k l E (b 0) (b 1) (MF b z w) rfl (enc S) (b 3) f3) rfl ⟨by decide, by decide, by decide, by decide⟩ [0, 1, 3] rfl rfl rfl (fun _ => rfl) hl.1 rfl rfl (Nat.le_of_ble_eq_true rfl) dX5_kind_31 (fun _ H locs hr_7 hW => ?_)
      have hW : Wd E A s.heap (wcat [MJ b z w, IA E (b 1) 68 (enc S), IA E (b 2) 7 F, IA E (b 3) 68 (enc S)]) H locs := hW
      refine lv_iconst (v := 0) hx hb dX5_kind_34 (by decide) ?_
      refine lv_istore_n (lv' := [(3, .int 0), (0, .ref (b 0)), (1, .int (nI j)), (2, .int (nI n))]) hx hb dX5_kind_35 rfl hl (by decide) rfl (fun ls hl => ?_)
      refine lv_iconst (v := (-1)) hx hb dX5_kind_36 (by decide) ?_
      refine lv_istore (lv' := [(4, .int (-1)), (3, .int 0), (0, .ref (b 0)), (1, .int (nI j)), (2, .int (nI n))]) hx hb dX5_kind_37 hl (by decide) rfl (fun ls hl => ?_)
      refine lv_iconst (v := 0) hx hb dX5_kind_39 (by decide) ?_
      refine lv_istore (lv' := [(5, .int 0), (4, .int (-1)), (3, .int 0), (0, .ref (b 0)), (1, .int (nI j)), (2, .int (nI n))]) hx hb dX5_kind_40 hl (by decide) rfl (fun ls hl => ?_)
      have L42 : ∀ (n_ : Nat) (k : Nat) (H : Heap) (locs : List Loc) (ls : Array Slot), 6 - k < n_ → k ≤ 6 → Wd E A s.heap (wcat [MJ b z w, IA E (b 1) 68 (enc S), IA E (b 2) 7 F, IA E (b 3) 68 (enc S)]) H locs → lv_has ls 7 [(0, .ref (b 0)), (1, .int (nI j)), (2, .int (nI n)), (3, .int (nI (bx (vKind S P G j n) k))), (4, .int (mst (vKind S P G j n) k)), (5, .int (nI k))] → W p l e R s m args below meth c H locs 0 0 Q (F0 m 42 ls []) := by
        intro n_
        induction n_ with
        | zero => intro k H locs ls hm; exact absurd hm (Nat.not_lt_zero _)
        | succ n_ ih =>
          intro k H locs ls hm hk hW hl
          refine lv_iload hx hb dX5_kind_42 (lv_at hl 5 rfl) ?_
          refine lv_bipush (v := 6) hx hb dX5_kind_44 (by decide) ?_
          refine lv_icmp_ge (tgt := 123) hx hb dX5_kind_46 (by decide) (fun c_8 => ?_) (fun c_8 => ?_)
          · have c_8 : 6 ≤ k := (nI_leI (a := 6) (b := k) (by omega) (by omega)).mp c_8
            refine lv_iload_n hx hb dX5_kind_123 rfl (lv_at hl 3 rfl) ?_
            exact r_iret hC hQ hD hW (enc S) (by rw [mKind, cif_t ⟨b_2, b_5⟩, ix_nI (n := j) (by omega), ix_nI (n := n) (by omega), show 6 = k by omega]; first | done | rfl) (by rw [mKind, cif_t ⟨b_2, b_5⟩, ix_nI (n := j) (by omega), ix_nI (n := n) (by omega), show 6 = k by omega]; first | done | rfl) rfl dX5_kind_124
          · have c_8 : ¬ 6 ≤ k := fun z_ => c_8 ((nI_leI (a := 6) (b := k) (by omega) (by omega)).mpr z_)
            refine lv_aload_n hx hb dX5_kind_49 rfl (lv_at hl 0 rfl) ?_
            refine lv_iload_n hx hb dX5_kind_50 rfl (lv_at hl 1 rfl) ?_
            refine lv_iconst (v := 0) hx hb dX5_kind_51 (by decide) ?_
            refine lv_iload hx hb dX5_kind_52 (lv_at hl 5 rfl) ?_
            refine r_callVv hC hD hW hA lkX5_86 (c_X5_puts l E (b 0) (b 1) (MF b z w) rfl S j 0 (nI k) (by omega) (by omega)) rfl ⟨by decide, by decide, by decide, by decide⟩ [0, 1] rfl rfl rfl (fun _ => rfl) hl.1 rfl rfl (Nat.le_of_ble_eq_true rfl) dX5_kind_54 (fun _ H locs hr_9 hW => ?_)
            have hW : Wd E A s.heap (wcat [MJ b z w, IA E (b 1) 68 (enc (st S 1 j (nI k))), IA E (b 2) 7 F, IA E (b 3) 68 (enc S)]) H locs := hW
            refine lv_aload_n hx hb dX5_kind_57 rfl (lv_at hl 0 rfl) ?_
            refine lv_iload_n hx hb dX5_kind_58 rfl (lv_at hl 2 rfl) ?_
            refine r_callVv hC hD hW hA lkX5_150 (c_X5_passes l E (b 0) (b 1) (MF b z w) rfl (st S 1 j (nI k)) P G (HV_1 1 j (nI k) hV (by decide) (by decide)) n (by omega)) rfl ⟨by decide, by decide, by decide, by decide⟩ [0, 1] rfl rfl rfl (fun _ => rfl) hl.1 rfl rfl (Nat.le_of_ble_eq_true rfl) dX5_kind_59 (fun _ H locs hr_10 hW => ?_)
            have hW : Wd E A s.heap (wcat [MJ b z w, IA E (b 1) 68 (enc (wks (st S 1 j (nI k)) P G n)), IA E (b 2) 7 F, IA E (b 3) 68 (enc S)]) H locs := hW
            refine lv_aload_n hx hb dX5_kind_62 rfl (lv_at hl 0 rfl) ?_
            refine lv_iload_n hx hb dX5_kind_63 rfl (lv_at hl 1 rfl) ?_
            refine r_callVi hC hD hW hA lkX5_60 (c_X5_withWhom l E (b 0) (b 1) (MF b z w) rfl (wks (st S 1 j (nI k)) P G n) G (HV_wks (HV_1 1 j (nI k) hV (by decide) (by decide)) n).g (HV_wks (HV_1 1 j (nI k) hV (by decide) (by decide)) n).g10 (nI j)) rfl ⟨by decide, by decide, by decide, by decide⟩ [0, 1] rfl rfl rfl (fun _ => rfl) hl.1 rfl rfl (Nat.le_of_ble_eq_true rfl) dX5_kind_64 (fun r_11 _ H locs hr_11 hW => ?_)
            have hW : Wd E A s.heap (wcat [MJ b z w, IA E (b 1) 68 (enc (wks (st S 1 j (nI k)) P G n)), IA E (b 2) 7 F, IA E (b 3) 68 (enc S)]) H locs := hW
            have hr_11 : r_11 = (nI (mset (wth (wks (st S 1 j (nI k)) P G n) (nI j)) G)) := hr_11
            subst hr_11
            refine lv_aload_n hx hb dX5_kind_67 rfl (lv_at hl 0 rfl) ?_
            refine lv_iload_n hx hb dX5_kind_68 rfl (lv_at hl 1 rfl) ?_
            refine r_callVi hC hD hW hA lkX5_64 (c_X5_ownedBy l E (b 0) (b 1) (MF b z w) rfl (wks (st S 1 j (nI k)) P G n) G (HV_wks (HV_1 1 j (nI k) hV (by decide) (by decide)) n).g (HV_wks (HV_1 1 j (nI k) hV (by decide) (by decide)) n).g10 (nI j)) rfl ⟨by decide, by decide, by decide, by decide⟩ [0, 1] rfl rfl rfl (fun _ => rfl) hl.1 rfl rfl (Nat.le_of_ble_eq_true rfl) dX5_kind_69 (fun r_12 _ H locs hr_12 hW => ?_)
            have hW : Wd E A s.heap (wcat [MJ b z w, IA E (b 1) 68 (enc (wks (st S 1 j (nI k)) P G n)), IA E (b 2) 7 F, IA E (b 3) 68 (enc S)]) H locs := hW
            have hr_12 : r_12 = (nI (mset (owd (wks (st S 1 j (nI k)) P G n) (nI j)) G)) := hr_12
            subst hr_12
            refine n_iand (v := (nI (mset (own1 (wks (st S 1 j (nI k)) P G n) j) G))) hx hb dX5_kind_72 ((nI_and _ _).trans (congrArg nI (mset_and _ _ _))) ?_
            refine r_callSi hC hD hW hA lkX5_67 (c_X5_bits l E (mset (own1 (wks (st S 1 j (nI k)) P G n) j) G) (mset_lt10 _ hG1)) ⟨by decide, by decide, by decide, by decide⟩ rfl hl.1 rfl rfl (Nat.le_of_ble_eq_true rfl) dX5_kind_73 (fun r_13 _ H locs hr_13 hW => ?_)
            have hW : Wd E A s.heap (wcat [MJ b z w, IA E (b 1) 68 (enc (wks (st S 1 j (nI k)) P G n)), IA E (b 2) 7 F, IA E (b 3) 68 (enc S)]) H locs := hW
            have hr_13 : r_13 = (nI (pcN (mset (own1 (wks (st S 1 j (nI k)) P G n) j) G))) := hr_13
            subst hr_13
            refine n_top (congrArg nI (pcN_mset _ hG1)) ?_
            refine lv_istore (lv' := [(6, .int (vKind S P G j n k)), (0, .ref (b 0)), (1, .int (nI j)), (2, .int (nI n)), (3, .int (nI (bx (vKind S P G j n) k))), (4, .int (mst (vKind S P G j n) k)), (5, .int (nI k))]) hx hb dX5_kind_76 hl (by decide) rfl (fun ls hl => ?_)
            refine lv_aload_n hx hb dX5_kind_78 rfl (lv_at hl 1 rfl) ?_
            refine lv_iconst (v := 0) hx hb dX5_kind_79 (by decide) ?_
            refine lv_aload_n hx hb dX5_kind_80 rfl (lv_at hl 1 rfl) ?_
            refine r_get hC hW flX5_16 0 rfl rfl dX5_kind_81 ?_
            refine r_callVv hC hD hW hA lkX5_153 (c_X5_moveAll_r l E (b 0) (b 1) (MF b z w) rfl (enc (wks (st S 1 j (nI k)) P G n)) (b 3) (enc S)) rfl ⟨by decide, by decide, by decide, by decide⟩ [0, 1, 3] rfl rfl rfl (fun _ => rfl) hl.1 rfl rfl (Nat.le_of_ble_eq_true rfl) dX5_kind_84 (fun _ H locs hr_14 hW => ?_)
            have hW : Wd E A s.heap (wcat [MJ b z w, IA E (b 1) 68 (enc S), IA E (b 2) 7 F, IA E (b 3) 68 (enc S)]) H locs := hW
            refine lv_iload hx hb dX5_kind_87 (lv_at hl 0 rfl) ?_
            refine lv_iload hx hb dX5_kind_89 (lv_at hl 5 rfl) ?_
            refine lv_icmp_le (tgt := 99) hx hb dX5_kind_91 (by decide) (fun c_15 => ?_) (fun c_15 => ?_)
            · refine lv_iload_n hx hb dX5_kind_99 rfl (lv_at hl 4 rfl) ?_
              refine lv_istore_n (lv' := [(3, .int (nI (bx (vKind S P G j n) k))), (6, .int (vKind S P G j n k)), (0, .ref (b 0)), (1, .int (nI j)), (2, .int (nI n)), (4, .int (mst (vKind S P G j n) k)), (5, .int (nI k))]) hx hb dX5_kind_100 rfl hl (by decide) rfl (fun ls hl => ?_)
              refine lv_iload hx hb dX5_kind_101 (lv_at hl 1 rfl) ?_
              refine lv_iload hx hb dX5_kind_103 (lv_at hl 5 rfl) ?_
              refine lv_icmp_le (tgt := 113) hx hb dX5_kind_105 (by decide) (fun c_16 => ?_) (fun c_16 => absurd c_16 (fun z => z c_15))
              refine lv_iload hx hb dX5_kind_113 (lv_at hl 5 rfl) ?_
              refine lv_istore (lv' := [(4, .int (mst (vKind S P G j n) k)), (3, .int (nI (bx (vKind S P G j n) k))), (6, .int (vKind S P G j n k)), (0, .ref (b 0)), (1, .int (nI j)), (2, .int (nI n)), (5, .int (nI k))]) hx hb dX5_kind_115 hl (by decide) rfl (fun ls hl => ?_)
              refine lv_iinc (v := (nI (k + 1))) (lv' := [(5, .int (nI (k + 1))), (4, .int (mst (vKind S P G j n) k)), (3, .int (nI (bx (vKind S P G j n) k))), (6, .int (vKind S P G j n k)), (0, .ref (b 0)), (1, .int (nI j)), (2, .int (nI n))]) (k := 6) hx hb dX5_kind_117 hl rfl (nI_inc k 1) (by decide) rfl (fun ls hl => ?_)
              refine lv_goto (tgt := 42) hx hb dX5_kind_120 (by decide) ?_
              exact ih (k + 1) _ _ _ (by omega) (by omega) hW (by rw [(mst_f (vKind_pos S P G j n k hG1) (Int32.not_lt.mpr c_15)).1, (mst_f (vKind_pos S P G j n k hG1) (Int32.not_lt.mpr c_15)).2.1]; exact lv_sub hl [4, 5, 6, 2, 1, 0] rfl)
            · refine lv_iload hx hb dX5_kind_94 (lv_at hl 6 rfl) ?_
              refine lv_goto (tgt := 100) hx hb dX5_kind_96 (by decide) ?_
              refine lv_istore_n (lv' := [(3, .int (nI k)), (6, .int (vKind S P G j n k)), (0, .ref (b 0)), (1, .int (nI j)), (2, .int (nI n)), (4, .int (mst (vKind S P G j n) k)), (5, .int (nI k))]) hx hb dX5_kind_100 rfl hl (by decide) rfl (fun ls hl => ?_)
              refine lv_iload hx hb dX5_kind_101 (lv_at hl 1 rfl) ?_
              refine lv_iload hx hb dX5_kind_103 (lv_at hl 5 rfl) ?_
              refine lv_icmp_le (tgt := 113) hx hb dX5_kind_105 (by decide) (fun c_17 => absurd c_17 c_15) (fun c_17 => ?_)
              refine lv_iload hx hb dX5_kind_108 (lv_at hl 1 rfl) ?_
              refine lv_goto (tgt := 115) hx hb dX5_kind_110 (by decide) ?_
              refine lv_istore (lv' := [(4, .int (vKind S P G j n k)), (3, .int (nI k)), (6, .int (vKind S P G j n k)), (0, .ref (b 0)), (1, .int (nI j)), (2, .int (nI n)), (5, .int (nI k))]) hx hb dX5_kind_115 hl (by decide) rfl (fun ls hl => ?_)
              refine lv_iinc (v := (nI (k + 1))) (lv' := [(5, .int (nI (k + 1))), (4, .int (vKind S P G j n k)), (3, .int (nI k)), (6, .int (vKind S P G j n k)), (0, .ref (b 0)), (1, .int (nI j)), (2, .int (nI n))]) (k := 6) hx hb dX5_kind_117 hl rfl (nI_inc k 1) (by decide) rfl (fun ls hl => ?_)
              refine lv_goto (tgt := 42) hx hb dX5_kind_120 (by decide) ?_
              exact ih (k + 1) _ _ _ (by omega) (by omega) hW (by rw [(mst_t (Int32.not_le.mp c_15)).1, (mst_t (Int32.not_le.mp c_15)).2]; exact lv_sub hl [4, 5, 6, 2, 1, 0] rfl)
      exact L42 (6 - 0 + 1) 0 _ _ _ (Nat.lt_succ_self _) (by omega) hW (lv_sub hl [3, 4, 5, 2, 1, 0] rfl)
set_option maxHeartbeats 4000000 in
set_option maxRecDepth 100000 in
theorem c_X5_isRightBehind (l : Launch) (E : Ev) (b : Nat → Nat) (z : Nat → Int32) (w : Int64) (S : HS) (P : Nat) (G : Nat) (hV : HV S P G) (f3 : Nat → Int32) (g : Nat) (hg : g < G) (n : Nat) (hn : n ≤ 60) : MI l E yX5_isRightBehind cX5_isRightBehind 4 .boolean 6 135 0 0 [.ref (b 0), .int (nI g), .int (nI n)] (wcat [MJ b z w, IA E (b 1) 68 (enc S), IA E (b 3) 68 f3]) (fun (r : Int32) (_ : Unit) => bz (wks S P G n 8 g = wks S P G n 5 g) r) (fun (_ : Unit) => (wcat [MJ b z w, IA E (b 1) 68 f3, IA E (b 3) 68 f3])) := by
  refine MI_intro RX5 (by decide) rfl (Nat.le_of_ble_eq_true rfl) ?_
  intro p e R s m args below meth c A Q hQ hC hD hW hA ls hl
  have hx := hC.1
  have hb := hC.2.1
  have hW : Wd E A s.heap (wcat [MJ b z w, IA E (b 1) 68 (enc S), IA E (b 3) 68 f3]) s.heap [] := hW
  have hD : Dj A [b 0, b 1, b 3] := hD
  have hl : lv_has ls 4 [(0, .ref (b 0)), (1, .int (nI g)), (2, .int (nI n))] := hl
  have hP := hV.p
  have hP1 := hV.p6
  have hG := hV.g
  have hG1 := hV.g10
  refine lv_aload_n hx hb dX5_isRightBehind_0 rfl (lv_at hl 0 rfl) ?_
  refine lv_iload_n hx hb dX5_isRightBehind_1 rfl (lv_at hl 2 rfl) ?_
  refine r_callVv hC hD hW hA lkX5_150 (c_X5_passes l E (b 0) (b 1) (MF b z w) rfl S P G hV n (by omega)) rfl ⟨by decide, by decide, by decide, by decide⟩ [0, 1] rfl rfl rfl (fun _ => rfl) hl.1 rfl rfl (Nat.le_of_ble_eq_true rfl) dX5_isRightBehind_2 (fun _ H locs hr_1 hW => ?_)
  have hW : Wd E A s.heap (wcat [MJ b z w, IA E (b 1) 68 (enc (wks S P G n)), IA E (b 3) 68 f3]) H locs := hW
  refine lv_aload_n hx hb dX5_isRightBehind_5 rfl (lv_at hl 0 rfl) ?_
  refine lv_iload_n hx hb dX5_isRightBehind_6 rfl (lv_at hl 1 rfl) ?_
  refine r_callVi hC hD hW hA lkX5_53 (c_X5_isRight l E (b 0) (b 1) (MF b z w) rfl (wks S P G n) g (by omega)) rfl ⟨by decide, by decide, by decide, by decide⟩ [0, 1] rfl rfl rfl (fun _ => rfl) hl.1 rfl rfl (Nat.le_of_ble_eq_true rfl) dX5_isRightBehind_7 (fun r_2 _ H locs hr_2 hW => ?_)
  have hW : Wd E A s.heap (wcat [MJ b z w, IA E (b 1) 68 (enc (wks S P G n)), IA E (b 3) 68 f3]) H locs := hW
  have hr_2 : bz ((wks S P G n) 8 g = (wks S P G n) 5 g) r_2 := hr_2
  refine lv_istore_n (lv' := [(3, .int r_2), (0, .ref (b 0)), (1, .int (nI g)), (2, .int (nI n))]) hx hb dX5_isRightBehind_10 rfl hl (by decide) rfl (fun ls hl => ?_)
  refine lv_aload_n hx hb dX5_isRightBehind_11 rfl (lv_at hl 1 rfl) ?_
  refine lv_iconst (v := 0) hx hb dX5_isRightBehind_12 (by decide) ?_
  refine lv_aload_n hx hb dX5_isRightBehind_13 rfl (lv_at hl 1 rfl) ?_
  refine r_get hC hW flX5_16 0 rfl rfl dX5_isRightBehind_14 ?_
  refine r_callVv hC hD hW hA lkX5_153 (c_X5_moveAll_r l E (b 0) (b 1) (MF b z w) rfl (enc (wks S P G n)) (b 3) f3) rfl ⟨by decide, by decide, by decide, by decide⟩ [0, 1, 2] rfl rfl rfl (fun _ => rfl) hl.1 rfl rfl (Nat.le_of_ble_eq_true rfl) dX5_isRightBehind_17 (fun _ H locs hr_4 hW => ?_)
  have hW : Wd E A s.heap (wcat [MJ b z w, IA E (b 1) 68 f3, IA E (b 3) 68 f3]) H locs := hW
  refine lv_iload_n hx hb dX5_isRightBehind_20 rfl (lv_at hl 0 rfl) ?_
  exact r_zret hC hQ hD hW (bz_01 hr_2) () hr_2 rfl rfl dX5_isRightBehind_21
set_option maxHeartbeats 4000000 in
set_option maxRecDepth 100000 in
theorem c_X5_warmest (l : Launch) (E : Ev) (b : Nat → Nat) (z : Nat → Int32) (w : Int64) (S : HS) (F : FT) (P : Nat) (G : Nat) (hV : HV S P G) (f3 : Nat → Int32) (x1 : Int32) (x2 : Int32) : MI l E yX5_warmest cX5_warmest 5 .int 7 158 0 0 [.ref (b 0), .int x1, .int x2] (wcat [MJ b z w, IA E (b 1) 68 (enc S), IA E (b 2) 7 F, IA E (b 3) 68 f3]) (fun (r : Int32) (u : (Nat → Int32)) => r = (mWarm S F P G x1 x2).1) (fun (u : (Nat → Int32)) => (wcat [MJ b z w, IA E (b 1) 68 (enc S), IA E (b 2) 7 ((mWarm S F P G x1 x2).2), IA E (b 3) 68 u])) := by
  refine MI_intro RX5 (by decide) rfl (Nat.le_of_ble_eq_true rfl) ?_
  intro p e R s m args below meth c A Q hQ hC hD hW hA ls hl
  have hx := hC.1
  have hb := hC.2.1
  have hW : Wd E A s.heap (wcat [MJ b z w, IA E (b 1) 68 (enc S), IA E (b 2) 7 F, IA E (b 3) 68 f3]) s.heap [] := hW
  have hD : Dj A [b 0, b 1, b 2, b 3] := hD
  have hl : lv_has ls 5 [(0, .ref (b 0)), (1, .int x1), (2, .int x2)] := hl
  have hP := hV.p
  have hP1 := hV.p6
  have hG := hV.g
  have hG1 := hV.g10
  refine lv_aload_n hx hb dX5_warmest_0 rfl (lv_at hl 0 rfl) ?_
  refine lv_iload_n hx hb dX5_warmest_1 rfl (lv_at hl 1 rfl) ?_
  refine r_callVi hC hD hW hA lkX5_108 (c_X5_isGarment l E (b 0) (b 1) (MF b z w) rfl S G hV.g hV.g10 x1) rfl ⟨by decide, by decide, by decide, by decide⟩ [0, 1] rfl rfl rfl (fun _ => rfl) hl.1 rfl rfl (Nat.le_of_ble_eq_true rfl) dX5_warmest_2 (fun r_1 _ H locs hr_1 hW => ?_)
  have hW : Wd E A s.heap (wcat [MJ b z w, IA E (b 1) 68 (enc S), IA E (b 2) 7 F, IA E (b 3) 68 f3]) H locs := hW
  have hr_1 : bz (∃ j, j < G ∧ x1 = nI j) r_1 := hr_1
  rcases hr_1 with ⟨rfl, b_2⟩ | ⟨rfl, b_2⟩
  · refine lv_if_eq (tgt := 18) hx hb dX5_warmest_5 (by decide) (fun _ => ?_) (fun c => absurd c (by decide))
    refine lv_aload_n hx hb dX5_warmest_18 rfl (lv_at hl 0 rfl) ?_
    refine r_ldc hC ctX5_44 dX5_warmest_19 ?_
    refine r_callVi hC hD hW hA lkX5_73 (c_X5_finds l E (b 0) (MF b z w) (b 2) rfl F (-1000000001) 0 (by decide) (by decide)) rfl ⟨by decide, by decide, by decide, by decide⟩ [0, 2] rfl rfl rfl (fun _ => rfl) hl.1 rfl rfl (Nat.le_of_ble_eq_true rfl) dX5_warmest_21 (fun r_3 _ H locs hr_3 hW => ?_)
    have hW : Wd E A s.heap (wcat [MJ b z w, IA E (b 1) 68 (enc S), IA E (b 2) 7 (upd F 0 (F 0 + 1)), IA E (b 3) 68 f3]) H locs := hW
    have hr_3 : r_3 = (-1000000001) := hr_3
    subst hr_3
    exact r_iret hC hQ hD hW f3 (by rw [mWarm, cif_f (fun z_ => b_2 z_.1)]; first | done | rfl) (by rw [mWarm, cif_f (fun z_ => b_2 z_.1)]; first | done | rfl) rfl dX5_warmest_24
  · have eb_2 := b_2
    obtain ⟨g, hg, rfl⟩ := eb_2
    refine lv_if_eq (tgt := 18) hx hb dX5_warmest_5 (by decide) (fun c => absurd c (by decide)) (fun _ => ?_)
    refine lv_iload_n hx hb dX5_warmest_8 rfl (lv_at hl 2 rfl) ?_
    refine lv_iconst (v := 1) hx hb dX5_warmest_9 (by decide) ?_
    refine lv_bipush (v := 40) hx hb dX5_warmest_10 (by decide) ?_
    refine r_callSi hC hD hW hA lkX5_45 (c_X5_in l E x2 1 40) ⟨by decide, by decide, by decide, by decide⟩ rfl hl.1 rfl rfl (Nat.le_of_ble_eq_true rfl) dX5_warmest_12 (fun r_4 _ H locs hr_4 hW => ?_)
    have hW : Wd E A s.heap (wcat [MJ b z w, IA E (b 1) 68 (enc S), IA E (b 2) 7 F, IA E (b 3) 68 f3]) H locs := hW
    have hr_4 : bz (1 ≤ x2 ∧ x2 ≤ 40) r_4 := hr_4
    rcases hr_4 with ⟨rfl, b_5⟩ | ⟨rfl, b_5⟩
    · refine lv_if_ne (tgt := 25) hx hb dX5_warmest_15 (by decide) (fun c => absurd c (by decide)) (fun _ => ?_)
      refine lv_aload_n hx hb dX5_warmest_18 rfl (lv_at hl 0 rfl) ?_
      refine r_ldc hC ctX5_44 dX5_warmest_19 ?_
      refine r_callVi hC hD hW hA lkX5_73 (c_X5_finds l E (b 0) (MF b z w) (b 2) rfl F (-1000000001) 0 (by decide) (by decide)) rfl ⟨by decide, by decide, by decide, by decide⟩ [0, 2] rfl rfl rfl (fun _ => rfl) hl.1 rfl rfl (Nat.le_of_ble_eq_true rfl) dX5_warmest_21 (fun r_6 _ H locs hr_6 hW => ?_)
      have hW : Wd E A s.heap (wcat [MJ b z w, IA E (b 1) 68 (enc S), IA E (b 2) 7 (upd F 0 (F 0 + 1)), IA E (b 3) 68 f3]) H locs := hW
      have hr_6 : r_6 = (-1000000001) := hr_6
      subst hr_6
      exact r_iret hC hQ hD hW f3 (by rw [mWarm, cif_f (fun z_ => b_5 z_.2)]; first | done | rfl) (by rw [mWarm, cif_f (fun z_ => b_5 z_.2)]; first | done | rfl) rfl dX5_warmest_24
    · have eb_5 := rng1 (k := 40) (by decide) b_5
      obtain ⟨n, hn, rfl⟩ := eb_5
      refine lv_if_ne (tgt := 25) hx hb dX5_warmest_15 (by decide) (fun _ => ?_) (fun c => absurd c (by decide))
      refine lv_aload_n hx hb dX5_warmest_25 rfl (lv_at hl 0 rfl) ?_
      refine lv_iconst (v := 1) hx hb dX5_warmest_26 (by decide) ?_
      refine lv_aload_n hx hb dX5_warmest_27 rfl (lv_at hl 0 rfl) ?_
      refine r_get hC hW flX5_16 0 rfl rfl dX5_warmest_28 ?_
      refine r_callVv hC hD hW hA lkX5_153 (c_X5_moveAll_k l E (b 0) (b 1) (MF b z w) rfl (enc S) (b 3) f3) rfl ⟨by decide, by decide, by decide, by decide⟩ [0, 1, 3] rfl rfl rfl (fun _ => rfl) hl.1 rfl rfl (Nat.le_of_ble_eq_true rfl) dX5_warmest_31 (fun _ H locs hr_7 hW => ?_)
      have hW : Wd E A s.heap (wcat [MJ b z w, IA E (b 1) 68 (enc S), IA E (b 2) 7 F, IA E (b 3) 68 (enc S)]) H locs := hW
      refine lv_bipush (v := 91) hx hb dX5_warmest_34 (by decide) ?_
      refine lv_istore_n (lv' := [(3, .int 91), (0, .ref (b 0)), (1, .int (nI g)), (2, .int (nI n))]) hx hb dX5_warmest_36 rfl hl (by decide) rfl (fun ls hl => ?_)
      refine lv_iconst (v := 0) hx hb dX5_warmest_37 (by decide) ?_
      refine lv_istore (lv' := [(4, .int 0), (3, .int 91), (0, .ref (b 0)), (1, .int (nI g)), (2, .int (nI n))]) hx hb dX5_warmest_38 hl (by decide) rfl (fun ls hl => ?_)
      have L40 : ∀ (n_ : Nat) (k : Nat) (H : Heap) (locs : List Loc) (ls : Array Slot), 71 - k < n_ → k ≤ 71 → (∀ j, j < k → cWarm S P G g n j = false) → Wd E A s.heap (wcat [MJ b z w, IA E (b 1) 68 (enc S), IA E (b 2) 7 F, IA E (b 3) 68 (enc S)]) H locs → lv_has ls 5 [(0, .ref (b 0)), (1, .int (nI g)), (2, .int (nI n)), (3, .int (nI (91 - k))), (4, .int 0)] → W p l e R s m args below meth c H locs 0 0 Q (F0 m 40 ls []) := by
        intro n_
        induction n_ with
        | zero => intro k H locs ls hm; exact absurd hm (Nat.not_lt_zero _)
        | succ n_ ih =>
          intro k H locs ls hm hk hno hW hl
          refine lv_iload_n hx hb dX5_warmest_40 rfl (lv_at hl 3 rfl) ?_
          refine lv_bipush (v := 20) hx hb dX5_warmest_41 (by decide) ?_
          refine lv_icmp_le (tgt := 72) hx hb dX5_warmest_43 (by decide) (fun c_8 => ?_) (fun c_8 => ?_)
          · have c_8 : 91 - k ≤ 20 := (nI_leI (a := 91 - k) (b := 20) (by omega) (by omega)).mp c_8
            refine lv_iload hx hb dX5_warmest_72 (lv_at hl 4 rfl) ?_
            refine lv_if_eq (tgt := 81) hx hb dX5_warmest_74 (by decide) (fun _ => ?_) (fun c => absurd c (by decide))
            refine lv_aload_n hx hb dX5_warmest_81 rfl (lv_at hl 0 rfl) ?_
            refine r_ldc hC ctX5_160 dX5_warmest_82 ?_
            refine r_callVi hC hD hW hA lkX5_73 (c_X5_finds l E (b 0) (MF b z w) (b 2) rfl F (-1000000004) 3 (by decide) (by decide)) rfl ⟨by decide, by decide, by decide, by decide⟩ [0, 2] rfl rfl rfl (fun _ => rfl) hl.1 rfl rfl (Nat.le_of_ble_eq_true rfl) dX5_warmest_84 (fun r_9 _ H locs hr_9 hW => ?_)
            have hW : Wd E A s.heap (wcat [MJ b z w, IA E (b 1) 68 (enc S), IA E (b 2) 7 (upd F 3 (F 3 + 1)), IA E (b 3) 68 (enc S)]) H locs := hW
            have hr_9 : r_9 = (-1000000004) := hr_9
            subst hr_9
            exact r_iret hC hQ hD hW (enc S) (by rw [mWarm, cif_t ⟨b_2, b_5⟩, ix_nI (n := g) (by omega), ix_nI (n := n) (by omega), fs1_none (fun j hj => hno j (by omega)), if_neg (by decide)]; first | done | rfl) (by rw [mWarm, cif_t ⟨b_2, b_5⟩, ix_nI (n := g) (by omega), ix_nI (n := n) (by omega), fs1_none (fun j hj => hno j (by omega)), if_neg (by decide)]; first | done | rfl) rfl dX5_warmest_87
          · have c_8 : ¬ 91 - k ≤ 20 := fun z_ => c_8 ((nI_leI (a := 91 - k) (b := 20) (by omega) (by omega)).mpr z_)
            refine lv_iload hx hb dX5_warmest_46 (lv_at hl 4 rfl) ?_
            refine lv_if_ne (tgt := 72) hx hb dX5_warmest_48 (by decide) (fun c => absurd c (by decide)) (fun _ => ?_)
            refine lv_iinc (v := (nI (90 - k))) (lv' := [(3, .int (nI (90 - k))), (0, .ref (b 0)), (1, .int (nI g)), (2, .int (nI n)), (4, .int 0)]) (k := 3) hx hb dX5_warmest_51 hl rfl ((nI_dec _).trans ((nI_1sub (by omega)).trans (congrArg nI (by omega)))) (by decide) rfl (fun ls hl => ?_)
            refine lv_aload_n hx hb dX5_warmest_54 rfl (lv_at hl 1 rfl) ?_
            refine r_get hC hW flX5_7 0 rfl rfl dX5_warmest_55 ?_
            refine lv_iconst (v := 1) hx hb dX5_warmest_58 (by decide) ?_
            refine lv_iload_n hx hb dX5_warmest_59 rfl (lv_at hl 0 rfl) ?_
            refine r_iast (ws' := (wcat [MJ b z w, IA E (b 1) 68 (enc (st S 0 1 (nI (90 - k)))), IA E (b 2) 7 F, IA E (b 3) 68 (enc S)])) hC hD hW 1 rfl 1 rfl (by omega) (by decide) rfl (by rw [upd_0 _ (by decide)]; rfl) dX5_warmest_60 (fun H locs hW => ?_)
            refine lv_aload_n hx hb dX5_warmest_61 rfl (lv_at hl 1 rfl) ?_
            refine lv_iload_n hx hb dX5_warmest_62 rfl (lv_at hl 2 rfl) ?_
            refine lv_iload_n hx hb dX5_warmest_63 rfl (lv_at hl 3 rfl) ?_
            refine r_callCi hC hD hW hA lkX5_164 (c_X5_isRightBehind l E b z w (st S 0 1 (nI (90 - k))) P G (HV_01 hV (by omega) (by omega)) (enc S) g (by omega) n (by omega)) rfl rfl ⟨by decide, by decide, by decide, by decide⟩ [0, 1, 3] rfl rfl rfl (fun _ => rfl) hl.1 rfl rfl (Nat.le_of_ble_eq_true rfl) dX5_warmest_64 (fun r_10 _ H locs hr_10 hW => ?_)
            have hW : Wd E A s.heap (wcat [MJ b z w, IA E (b 1) 68 (enc S), IA E (b 2) 7 F, IA E (b 3) 68 (enc S)]) H locs := hW
            have hr_10 : bz (wks (st S 0 1 (nI (90 - k))) P G n 8 g = wks (st S 0 1 (nI (90 - k))) P G n 5 g) r_10 := hr_10
            rcases hr_10 with ⟨rfl, b_11⟩ | ⟨rfl, b_11⟩
            · refine lv_istore (lv' := [(4, .int 0), (3, .int (nI (90 - k))), (0, .ref (b 0)), (1, .int (nI g)), (2, .int (nI n))]) hx hb dX5_warmest_67 hl (by decide) rfl (fun ls hl => ?_)
              refine lv_goto (tgt := 40) hx hb dX5_warmest_69 (by decide) ?_
              exact ih (k + 1) _ _ _ (by omega) (by omega) (lt_s hno (decide_eq_false b_11)) hW (by rw [show 91 - (k + 1) = 90 - k by omega]; exact lv_sub hl [2, 3, 4, 1, 0] rfl)
            · refine lv_istore (lv' := [(4, .int 1), (3, .int (nI (90 - k))), (0, .ref (b 0)), (1, .int (nI g)), (2, .int (nI n))]) hx hb dX5_warmest_67 hl (by decide) rfl (fun ls hl => ?_)
              refine lv_goto (tgt := 40) hx hb dX5_warmest_69 (by decide) ?_
              refine lv_iload_n hx hb dX5_warmest_40 rfl (lv_at hl 1 rfl) ?_
              refine lv_bipush (v := 20) hx hb dX5_warmest_41 (by decide) ?_
              refine lv_icmp_le (tgt := 72) hx hb dX5_warmest_43 (by decide) (fun c_12 => ?_) (fun c_12 => ?_)
              · have c_12 : 90 - k ≤ 20 := (nI_leI (a := 90 - k) (b := 20) (by omega) (by omega)).mp c_12
                refine lv_iload hx hb dX5_warmest_72 (lv_at hl 0 rfl) ?_
                refine lv_if_eq (tgt := 81) hx hb dX5_warmest_74 (by decide) (fun c => absurd c (by decide)) (fun _ => ?_)
                refine lv_iload_n hx hb dX5_warmest_77 rfl (lv_at hl 1 rfl) ?_
                refine lv_goto (tgt := 87) hx hb dX5_warmest_78 (by decide) ?_
                exact r_iret hC hQ hD hW (enc S) (by rw [mWarm, cif_t ⟨b_2, b_5⟩, ix_nI (n := g) (by omega), ix_nI (n := n) (by omega), fs1_hit (show cWarm S P G g n k = true from decide_eq_true b_11) hno (show k < 71 by omega), if_pos (show k < 71 by omega)]; first | done | rfl) (by rw [mWarm, cif_t ⟨b_2, b_5⟩, ix_nI (n := g) (by omega), ix_nI (n := n) (by omega), fs1_hit (show cWarm S P G g n k = true from decide_eq_true b_11) hno (show k < 71 by omega), if_pos (show k < 71 by omega)]; first | done | rfl) rfl dX5_warmest_87
              · have c_12 : ¬ 90 - k ≤ 20 := fun z_ => c_12 ((nI_leI (a := 90 - k) (b := 20) (by omega) (by omega)).mpr z_)
                refine lv_iload hx hb dX5_warmest_46 (lv_at hl 0 rfl) ?_
                refine lv_if_ne (tgt := 72) hx hb dX5_warmest_48 (by decide) (fun _ => ?_) (fun c => absurd c (by decide))
                refine lv_iload hx hb dX5_warmest_72 (lv_at hl 0 rfl) ?_
                refine lv_if_eq (tgt := 81) hx hb dX5_warmest_74 (by decide) (fun c => absurd c (by decide)) (fun _ => ?_)
                refine lv_iload_n hx hb dX5_warmest_77 rfl (lv_at hl 1 rfl) ?_
                refine lv_goto (tgt := 87) hx hb dX5_warmest_78 (by decide) ?_
                exact r_iret hC hQ hD hW (enc S) (by rw [mWarm, cif_t ⟨b_2, b_5⟩, ix_nI (n := g) (by omega), ix_nI (n := n) (by omega), fs1_hit (show cWarm S P G g n k = true from decide_eq_true b_11) hno (show k < 71 by omega), if_pos (show k < 71 by omega)]; first | done | rfl) (by rw [mWarm, cif_t ⟨b_2, b_5⟩, ix_nI (n := g) (by omega), ix_nI (n := n) (by omega), fs1_hit (show cWarm S P G g n k = true from decide_eq_true b_11) hno (show k < 71 by omega), if_pos (show k < 71 by omega)]; first | done | rfl) rfl dX5_warmest_87
      exact L40 (71 - 0 + 1) 0 _ _ _ (Nat.lt_succ_self _) (by omega) lt_0 hW (lv_sub hl [2, 3, 4, 1, 0] rfl)
set_option maxHeartbeats 4000000 in
set_option maxRecDepth 100000 in
theorem c_X5_plain (l : Launch) (E : Ev) (b : Nat → Nat) (z : Nat → Int32) (w : Int64) (S : HS) (F : FT) (P : Nat) (G : Nat) (hV : HV S P G) (f3 : Nat → Int32) (x1 : Int32) (x2 : Int32) : MI l E yX5_plain cX5_plain 5 .int 7 158 0 0 [.ref (b 0), .int x1, .int x2] (wcat [MJ b z w, IA E (b 1) 68 (enc S), IA E (b 2) 7 F, IA E (b 3) 68 f3]) (fun (r : Int32) (u : (Nat → Int32)) => r = (mPlain S F P G x1 x2).1) (fun (u : (Nat → Int32)) => (wcat [MJ b z w, IA E (b 1) 68 (enc S), IA E (b 2) 7 ((mPlain S F P G x1 x2).2), IA E (b 3) 68 u])) := by
  refine MI_intro RX5 (by decide) rfl (Nat.le_of_ble_eq_true rfl) ?_
  intro p e R s m args below meth c A Q hQ hC hD hW hA ls hl
  have hx := hC.1
  have hb := hC.2.1
  have hW : Wd E A s.heap (wcat [MJ b z w, IA E (b 1) 68 (enc S), IA E (b 2) 7 F, IA E (b 3) 68 f3]) s.heap [] := hW
  have hD : Dj A [b 0, b 1, b 2, b 3] := hD
  have hl : lv_has ls 5 [(0, .ref (b 0)), (1, .int x1), (2, .int x2)] := hl
  have hP := hV.p
  have hP1 := hV.p6
  have hG := hV.g
  have hG1 := hV.g10
  refine lv_aload_n hx hb dX5_plain_0 rfl (lv_at hl 0 rfl) ?_
  refine lv_iload_n hx hb dX5_plain_1 rfl (lv_at hl 1 rfl) ?_
  refine r_callVi hC hD hW hA lkX5_108 (c_X5_isGarment l E (b 0) (b 1) (MF b z w) rfl S G hV.g hV.g10 x1) rfl ⟨by decide, by decide, by decide, by decide⟩ [0, 1] rfl rfl rfl (fun _ => rfl) hl.1 rfl rfl (Nat.le_of_ble_eq_true rfl) dX5_plain_2 (fun r_1 _ H locs hr_1 hW => ?_)
  have hW : Wd E A s.heap (wcat [MJ b z w, IA E (b 1) 68 (enc S), IA E (b 2) 7 F, IA E (b 3) 68 f3]) H locs := hW
  have hr_1 : bz (∃ j, j < G ∧ x1 = nI j) r_1 := hr_1
  rcases hr_1 with ⟨rfl, b_2⟩ | ⟨rfl, b_2⟩
  · refine lv_if_eq (tgt := 18) hx hb dX5_plain_5 (by decide) (fun _ => ?_) (fun c => absurd c (by decide))
    refine lv_aload_n hx hb dX5_plain_18 rfl (lv_at hl 0 rfl) ?_
    refine r_ldc hC ctX5_44 dX5_plain_19 ?_
    refine r_callVi hC hD hW hA lkX5_73 (c_X5_finds l E (b 0) (MF b z w) (b 2) rfl F (-1000000001) 0 (by decide) (by decide)) rfl ⟨by decide, by decide, by decide, by decide⟩ [0, 2] rfl rfl rfl (fun _ => rfl) hl.1 rfl rfl (Nat.le_of_ble_eq_true rfl) dX5_plain_21 (fun r_3 _ H locs hr_3 hW => ?_)
    have hW : Wd E A s.heap (wcat [MJ b z w, IA E (b 1) 68 (enc S), IA E (b 2) 7 (upd F 0 (F 0 + 1)), IA E (b 3) 68 f3]) H locs := hW
    have hr_3 : r_3 = (-1000000001) := hr_3
    subst hr_3
    exact r_iret hC hQ hD hW f3 (by rw [mPlain, cif_f (fun z_ => b_2 z_.1)]; first | done | rfl) (by rw [mPlain, cif_f (fun z_ => b_2 z_.1)]; first | done | rfl) rfl dX5_plain_24
  · have eb_2 := b_2
    obtain ⟨g, hg, rfl⟩ := eb_2
    refine lv_if_eq (tgt := 18) hx hb dX5_plain_5 (by decide) (fun c => absurd c (by decide)) (fun _ => ?_)
    refine lv_iload_n hx hb dX5_plain_8 rfl (lv_at hl 2 rfl) ?_
    refine lv_iconst (v := 1) hx hb dX5_plain_9 (by decide) ?_
    refine lv_bipush (v := 60) hx hb dX5_plain_10 (by decide) ?_
    refine r_callSi hC hD hW hA lkX5_45 (c_X5_in l E x2 1 60) ⟨by decide, by decide, by decide, by decide⟩ rfl hl.1 rfl rfl (Nat.le_of_ble_eq_true rfl) dX5_plain_12 (fun r_4 _ H locs hr_4 hW => ?_)
    have hW : Wd E A s.heap (wcat [MJ b z w, IA E (b 1) 68 (enc S), IA E (b 2) 7 F, IA E (b 3) 68 f3]) H locs := hW
    have hr_4 : bz (1 ≤ x2 ∧ x2 ≤ 60) r_4 := hr_4
    rcases hr_4 with ⟨rfl, b_5⟩ | ⟨rfl, b_5⟩
    · refine lv_if_ne (tgt := 25) hx hb dX5_plain_15 (by decide) (fun c => absurd c (by decide)) (fun _ => ?_)
      refine lv_aload_n hx hb dX5_plain_18 rfl (lv_at hl 0 rfl) ?_
      refine r_ldc hC ctX5_44 dX5_plain_19 ?_
      refine r_callVi hC hD hW hA lkX5_73 (c_X5_finds l E (b 0) (MF b z w) (b 2) rfl F (-1000000001) 0 (by decide) (by decide)) rfl ⟨by decide, by decide, by decide, by decide⟩ [0, 2] rfl rfl rfl (fun _ => rfl) hl.1 rfl rfl (Nat.le_of_ble_eq_true rfl) dX5_plain_21 (fun r_6 _ H locs hr_6 hW => ?_)
      have hW : Wd E A s.heap (wcat [MJ b z w, IA E (b 1) 68 (enc S), IA E (b 2) 7 (upd F 0 (F 0 + 1)), IA E (b 3) 68 f3]) H locs := hW
      have hr_6 : r_6 = (-1000000001) := hr_6
      subst hr_6
      exact r_iret hC hQ hD hW f3 (by rw [mPlain, cif_f (fun z_ => b_5 z_.2)]; first | done | rfl) (by rw [mPlain, cif_f (fun z_ => b_5 z_.2)]; first | done | rfl) rfl dX5_plain_24
    · have eb_5 := rng1 (k := 60) (by decide) b_5
      obtain ⟨n, hn, rfl⟩ := eb_5
      refine lv_if_ne (tgt := 25) hx hb dX5_plain_15 (by decide) (fun _ => ?_) (fun c => absurd c (by decide))
      refine lv_aload_n hx hb dX5_plain_25 rfl (lv_at hl 0 rfl) ?_
      refine lv_iconst (v := 1) hx hb dX5_plain_26 (by decide) ?_
      refine lv_aload_n hx hb dX5_plain_27 rfl (lv_at hl 0 rfl) ?_
      refine r_get hC hW flX5_16 0 rfl rfl dX5_plain_28 ?_
      refine r_callVv hC hD hW hA lkX5_153 (c_X5_moveAll_k l E (b 0) (b 1) (MF b z w) rfl (enc S) (b 3) f3) rfl ⟨by decide, by decide, by decide, by decide⟩ [0, 1, 3] rfl rfl rfl (fun _ => rfl) hl.1 rfl rfl (Nat.le_of_ble_eq_true rfl) dX5_plain_31 (fun _ H locs hr_7 hW => ?_)
      have hW : Wd E A s.heap (wcat [MJ b z w, IA E (b 1) 68 (enc S), IA E (b 2) 7 F, IA E (b 3) 68 (enc S)]) H locs := hW
      refine lv_iconst (v := (-1)) hx hb dX5_plain_34 (by decide) ?_
      refine lv_istore_n (lv' := [(3, .int (-1)), (0, .ref (b 0)), (1, .int (nI g)), (2, .int (nI n))]) hx hb dX5_plain_35 rfl hl (by decide) rfl (fun ls hl => ?_)
      refine lv_iconst (v := 0) hx hb dX5_plain_36 (by decide) ?_
      refine lv_istore (lv' := [(4, .int 0), (3, .int (-1)), (0, .ref (b 0)), (1, .int (nI g)), (2, .int (nI n))]) hx hb dX5_plain_37 hl (by decide) rfl (fun ls hl => ?_)
      have L39 : ∀ (n_ : Nat) (k : Nat) (H : Heap) (locs : List Loc) (ls : Array Slot), 100 - k < n_ → k ≤ 100 → (∀ j, j < k → cPlain S P G g n j = false) → Wd E A s.heap (wcat [MJ b z w, IA E (b 1) 68 (enc S), IA E (b 2) 7 F, IA E (b 3) 68 (enc S)]) H locs → lv_has ls 5 [(0, .ref (b 0)), (1, .int (nI g)), (2, .int (nI n)), (3, .int (nI k - 1)), (4, .int 0)] → W p l e R s m args below meth c H locs 0 0 Q (F0 m 39 ls []) := by
        intro n_
        induction n_ with
        | zero => intro k H locs ls hm; exact absurd hm (Nat.not_lt_zero _)
        | succ n_ ih =>
          intro k H locs ls hm hk hno hW hl
          refine lv_iload_n hx hb dX5_plain_39 rfl (lv_at hl 3 rfl) ?_
          refine lv_bipush (v := 99) hx hb dX5_plain_40 (by decide) ?_
          refine lv_icmp_ge (tgt := 71) hx hb dX5_plain_42 (by decide) (fun c_8 => ?_) (fun c_8 => ?_)
          · have c_8 : 100 ≤ k := (ge99 (by omega)).mp c_8
            refine lv_iload hx hb dX5_plain_71 (lv_at hl 4 rfl) ?_
            refine lv_if_eq (tgt := 80) hx hb dX5_plain_73 (by decide) (fun _ => ?_) (fun c => absurd c (by decide))
            refine lv_aload_n hx hb dX5_plain_80 rfl (lv_at hl 0 rfl) ?_
            refine r_ldc hC ctX5_160 dX5_plain_81 ?_
            refine r_callVi hC hD hW hA lkX5_73 (c_X5_finds l E (b 0) (MF b z w) (b 2) rfl F (-1000000004) 3 (by decide) (by decide)) rfl ⟨by decide, by decide, by decide, by decide⟩ [0, 2] rfl rfl rfl (fun _ => rfl) hl.1 rfl rfl (Nat.le_of_ble_eq_true rfl) dX5_plain_83 (fun r_9 _ H locs hr_9 hW => ?_)
            have hW : Wd E A s.heap (wcat [MJ b z w, IA E (b 1) 68 (enc S), IA E (b 2) 7 (upd F 3 (F 3 + 1)), IA E (b 3) 68 (enc S)]) H locs := hW
            have hr_9 : r_9 = (-1000000004) := hr_9
            subst hr_9
            exact r_iret hC hQ hD hW (enc S) (by rw [mPlain, cif_t ⟨b_2, b_5⟩, ix_nI (n := g) (by omega), ix_nI (n := n) (by omega), fs1_none (fun j hj => hno j (by omega)), if_neg (by decide)]; first | done | rfl) (by rw [mPlain, cif_t ⟨b_2, b_5⟩, ix_nI (n := g) (by omega), ix_nI (n := n) (by omega), fs1_none (fun j hj => hno j (by omega)), if_neg (by decide)]; first | done | rfl) rfl dX5_plain_86
          · have c_8 : ¬ 100 ≤ k := fun z_ => c_8 ((ge99 (by omega)).mpr z_)
            refine lv_iload hx hb dX5_plain_45 (lv_at hl 4 rfl) ?_
            refine lv_if_ne (tgt := 71) hx hb dX5_plain_47 (by decide) (fun c => absurd c (by decide)) (fun _ => ?_)
            refine lv_iinc (v := (nI k)) (lv' := [(3, .int (nI k)), (0, .ref (b 0)), (1, .int (nI g)), (2, .int (nI n)), (4, .int 0)]) (k := 3) hx hb dX5_plain_50 hl rfl (inc_pd k) (by decide) rfl (fun ls hl => ?_)
            refine lv_aload_n hx hb dX5_plain_53 rfl (lv_at hl 1 rfl) ?_
            refine lv_iload_n hx hb dX5_plain_54 rfl (lv_at hl 2 rfl) ?_
            refine lv_iconst (v := 2) hx hb dX5_plain_55 (by decide) ?_
            refine lv_iload_n hx hb dX5_plain_56 rfl (lv_at hl 0 rfl) ?_
            refine r_callVv hC hD hW hA lkX5_118 (c_X5_sews l E (b 0) (b 1) (MF b z w) rfl S g 2 (nI k) (by omega) (by omega)) rfl ⟨by decide, by decide, by decide, by decide⟩ [0, 1] rfl rfl rfl (fun _ => rfl) hl.1 rfl rfl (Nat.le_of_ble_eq_true rfl) dX5_plain_57 (fun _ H locs hr_10 hW => ?_)
            have hW : Wd E A s.heap (wcat [MJ b z w, IA E (b 1) 68 (enc (st S 7 g (nI k))), IA E (b 2) 7 F, IA E (b 3) 68 (enc S)]) H locs := hW
            refine lv_aload_n hx hb dX5_plain_60 rfl (lv_at hl 1 rfl) ?_
            refine lv_iload_n hx hb dX5_plain_61 rfl (lv_at hl 2 rfl) ?_
            refine lv_iload_n hx hb dX5_plain_62 rfl (lv_at hl 3 rfl) ?_
            refine r_callCi hC hD hW hA lkX5_164 (c_X5_isRightBehind l E b z w (st S 7 g (nI k)) P G (HV_7 hV (by omega)) (enc S) g (by omega) n (by omega)) rfl rfl ⟨by decide, by decide, by decide, by decide⟩ [0, 1, 3] rfl rfl rfl (fun _ => rfl) hl.1 rfl rfl (Nat.le_of_ble_eq_true rfl) dX5_plain_63 (fun r_11 _ H locs hr_11 hW => ?_)
            have hW : Wd E A s.heap (wcat [MJ b z w, IA E (b 1) 68 (enc S), IA E (b 2) 7 F, IA E (b 3) 68 (enc S)]) H locs := hW
            have hr_11 : bz (wks (st S 7 g (nI k)) P G n 8 g = wks (st S 7 g (nI k)) P G n 5 g) r_11 := hr_11
            rcases hr_11 with ⟨rfl, b_12⟩ | ⟨rfl, b_12⟩
            · refine lv_istore (lv' := [(4, .int 0), (3, .int (nI k)), (0, .ref (b 0)), (1, .int (nI g)), (2, .int (nI n))]) hx hb dX5_plain_66 hl (by decide) rfl (fun ls hl => ?_)
              refine lv_goto (tgt := 39) hx hb dX5_plain_68 (by decide) ?_
              exact ih (k + 1) _ _ _ (by omega) (by omega) (lt_s hno (decide_eq_false b_12)) hW (by rw [show nI (k + 1) - 1 = nI k from nI_pred k]; exact lv_sub hl [2, 3, 4, 1, 0] rfl)
            · refine lv_istore (lv' := [(4, .int 1), (3, .int (nI k)), (0, .ref (b 0)), (1, .int (nI g)), (2, .int (nI n))]) hx hb dX5_plain_66 hl (by decide) rfl (fun ls hl => ?_)
              refine lv_goto (tgt := 39) hx hb dX5_plain_68 (by decide) ?_
              refine lv_iload_n hx hb dX5_plain_39 rfl (lv_at hl 1 rfl) ?_
              refine lv_bipush (v := 99) hx hb dX5_plain_40 (by decide) ?_
              refine lv_icmp_ge (tgt := 71) hx hb dX5_plain_42 (by decide) (fun c_13 => ?_) (fun c_13 => ?_)
              · have c_13 : 99 ≤ k := (nI_leI (a := 99) (b := k) (by omega) (by omega)).mp c_13
                refine lv_iload hx hb dX5_plain_71 (lv_at hl 0 rfl) ?_
                refine lv_if_eq (tgt := 80) hx hb dX5_plain_73 (by decide) (fun c => absurd c (by decide)) (fun _ => ?_)
                refine lv_iload_n hx hb dX5_plain_76 rfl (lv_at hl 1 rfl) ?_
                refine lv_goto (tgt := 86) hx hb dX5_plain_77 (by decide) ?_
                exact r_iret hC hQ hD hW (enc S) (by rw [mPlain, cif_t ⟨b_2, b_5⟩, ix_nI (n := g) (by omega), ix_nI (n := n) (by omega), fs1_hit (show cPlain S P G g n k = true from decide_eq_true b_12) hno (show k < 100 by omega), if_pos (show k < 100 by omega)]; first | done | rfl) (by rw [mPlain, cif_t ⟨b_2, b_5⟩, ix_nI (n := g) (by omega), ix_nI (n := n) (by omega), fs1_hit (show cPlain S P G g n k = true from decide_eq_true b_12) hno (show k < 100 by omega), if_pos (show k < 100 by omega)]; first | done | rfl) rfl dX5_plain_86
              · have c_13 : ¬ 99 ≤ k := fun z_ => c_13 ((nI_leI (a := 99) (b := k) (by omega) (by omega)).mpr z_)
                refine lv_iload hx hb dX5_plain_45 (lv_at hl 0 rfl) ?_
                refine lv_if_ne (tgt := 71) hx hb dX5_plain_47 (by decide) (fun _ => ?_) (fun c => absurd c (by decide))
                refine lv_iload hx hb dX5_plain_71 (lv_at hl 0 rfl) ?_
                refine lv_if_eq (tgt := 80) hx hb dX5_plain_73 (by decide) (fun c => absurd c (by decide)) (fun _ => ?_)
                refine lv_iload_n hx hb dX5_plain_76 rfl (lv_at hl 1 rfl) ?_
                refine lv_goto (tgt := 86) hx hb dX5_plain_77 (by decide) ?_
                exact r_iret hC hQ hD hW (enc S) (by rw [mPlain, cif_t ⟨b_2, b_5⟩, ix_nI (n := g) (by omega), ix_nI (n := n) (by omega), fs1_hit (show cPlain S P G g n k = true from decide_eq_true b_12) hno (show k < 100 by omega), if_pos (show k < 100 by omega)]; first | done | rfl) (by rw [mPlain, cif_t ⟨b_2, b_5⟩, ix_nI (n := g) (by omega), ix_nI (n := n) (by omega), fs1_hit (show cPlain S P G g n k = true from decide_eq_true b_12) hno (show k < 100 by omega), if_pos (show k < 100 by omega)]; first | done | rfl) rfl dX5_plain_86
      exact L39 (100 - 0 + 1) 0 _ _ _ (Nat.lt_succ_self _) (by omega) lt_0 hW (lv_sub hl [2, 3, 4, 1, 0] rfl)
set_option maxHeartbeats 4000000 in
set_option maxRecDepth 100000 in
theorem c_X5_teach (l : Launch) (E : Ev) (b : Nat → Nat) (z : Nat → Int32) (w : Int64) (S : HS) (F : FT) (P : Nat) (G : Nat) (hV : HV S P G) (f3 : Nat → Int32) (x1 : Int32) : MI l E yX5_teach cX5_teach 6 .int 6 135 0 0 [.ref (b 0), .int x1] (wcat [MJ b z w, IA E (b 1) 68 (enc S), IA E (b 2) 7 F, IA E (b 3) 68 f3]) (fun (r : Int32) (u : (Nat → Int32)) => r = (mTeach S F P G x1).1) (fun (u : (Nat → Int32)) => (wcat [MJ b z w, IA E (b 1) 68 (enc S), IA E (b 2) 7 ((mTeach S F P G x1).2), IA E (b 3) 68 u])) := by
  refine MI_intro RX5 (by decide) rfl (Nat.le_of_ble_eq_true rfl) ?_
  intro p e R s m args below meth c A Q hQ hC hD hW hA ls hl
  have hx := hC.1
  have hb := hC.2.1
  have hW : Wd E A s.heap (wcat [MJ b z w, IA E (b 1) 68 (enc S), IA E (b 2) 7 F, IA E (b 3) 68 f3]) s.heap [] := hW
  have hD : Dj A [b 0, b 1, b 2, b 3] := hD
  have hl : lv_has ls 6 [(0, .ref (b 0)), (1, .int x1)] := hl
  have hP := hV.p
  have hP1 := hV.p6
  have hG := hV.g
  have hG1 := hV.g10
  refine lv_iload_n hx hb dX5_teach_0 rfl (lv_at hl 1 rfl) ?_
  refine lv_iconst (v := 1) hx hb dX5_teach_1 (by decide) ?_
  refine lv_bipush (v := 60) hx hb dX5_teach_2 (by decide) ?_
  refine r_callSi hC hD hW hA lkX5_45 (c_X5_in l E x1 1 60) ⟨by decide, by decide, by decide, by decide⟩ rfl hl.1 rfl rfl (Nat.le_of_ble_eq_true rfl) dX5_teach_4 (fun r_1 _ H locs hr_1 hW => ?_)
  have hW : Wd E A s.heap (wcat [MJ b z w, IA E (b 1) 68 (enc S), IA E (b 2) 7 F, IA E (b 3) 68 f3]) H locs := hW
  have hr_1 : bz (1 ≤ x1 ∧ x1 ≤ 60) r_1 := hr_1
  rcases hr_1 with ⟨rfl, b_2⟩ | ⟨rfl, b_2⟩
  · refine lv_if_ne (tgt := 17) hx hb dX5_teach_7 (by decide) (fun c => absurd c (by decide)) (fun _ => ?_)
    refine lv_aload_n hx hb dX5_teach_10 rfl (lv_at hl 0 rfl) ?_
    refine r_ldc hC ctX5_44 dX5_teach_11 ?_
    refine r_callVi hC hD hW hA lkX5_73 (c_X5_finds l E (b 0) (MF b z w) (b 2) rfl F (-1000000001) 0 (by decide) (by decide)) rfl ⟨by decide, by decide, by decide, by decide⟩ [0, 2] rfl rfl rfl (fun _ => rfl) hl.1 rfl rfl (Nat.le_of_ble_eq_true rfl) dX5_teach_13 (fun r_3 _ H locs hr_3 hW => ?_)
    have hW : Wd E A s.heap (wcat [MJ b z w, IA E (b 1) 68 (enc S), IA E (b 2) 7 (upd F 0 (F 0 + 1)), IA E (b 3) 68 f3]) H locs := hW
    have hr_3 : r_3 = (-1000000001) := hr_3
    subst hr_3
    exact r_iret hC hQ hD hW f3 (by rw [mTeach, cif_f b_2]; first | done | rfl) (by rw [mTeach, cif_f b_2]; first | done | rfl) rfl dX5_teach_16
  · have eb_2 := rng1 (k := 60) (by decide) b_2
    obtain ⟨n, hn, rfl⟩ := eb_2
    refine lv_if_ne (tgt := 17) hx hb dX5_teach_7 (by decide) (fun _ => ?_) (fun c => absurd c (by decide))
    refine lv_aload_n hx hb dX5_teach_17 rfl (lv_at hl 0 rfl) ?_
    refine lv_iconst (v := 1) hx hb dX5_teach_18 (by decide) ?_
    refine lv_aload_n hx hb dX5_teach_19 rfl (lv_at hl 0 rfl) ?_
    refine r_get hC hW flX5_16 0 rfl rfl dX5_teach_20 ?_
    refine r_callVv hC hD hW hA lkX5_153 (c_X5_moveAll_k l E (b 0) (b 1) (MF b z w) rfl (enc S) (b 3) f3) rfl ⟨by decide, by decide, by decide, by decide⟩ [0, 1, 3] rfl rfl rfl (fun _ => rfl) hl.1 rfl rfl (Nat.le_of_ble_eq_true rfl) dX5_teach_23 (fun _ H locs hr_4 hW => ?_)
    have hW : Wd E A s.heap (wcat [MJ b z w, IA E (b 1) 68 (enc S), IA E (b 2) 7 F, IA E (b 3) 68 (enc S)]) H locs := hW
    refine lv_iconst (v := (-1)) hx hb dX5_teach_26 (by decide) ?_
    refine lv_istore_n (lv' := [(2, .int (-1)), (0, .ref (b 0)), (1, .int (nI n))]) hx hb dX5_teach_27 rfl hl (by decide) rfl (fun ls hl => ?_)
    refine lv_iconst (v := (-1)) hx hb dX5_teach_28 (by decide) ?_
    refine lv_istore_n (lv' := [(3, .int (-1)), (2, .int (-1)), (0, .ref (b 0)), (1, .int (nI n))]) hx hb dX5_teach_29 rfl hl (by decide) rfl (fun ls hl => ?_)
    refine lv_iconst (v := 0) hx hb dX5_teach_30 (by decide) ?_
    refine lv_istore (lv' := [(4, .int 0), (3, .int (-1)), (2, .int (-1)), (0, .ref (b 0)), (1, .int (nI n))]) hx hb dX5_teach_31 hl (by decide) rfl (fun ls hl => ?_)
    have L33 : ∀ (n_ : Nat) (k : Nat) (H : Heap) (locs : List Loc) (ls : Array Slot), P - k < n_ → k ≤ P → Wd E A s.heap (wcat [MJ b z w, IA E (b 1) 68 (enc S), IA E (b 2) 7 F, IA E (b 3) 68 (enc S)]) H locs → lv_has ls 6 [(0, .ref (b 0)), (1, .int (nI n)), (2, .int (bst (vTeach S P G n) k)), (3, .int (mst (vTeach S P G n) k)), (4, .int (nI k))] → W p l e R s m args below meth c H locs 0 0 Q (F0 m 33 ls []) := by
      intro n_
      induction n_ with
      | zero => intro k H locs ls hm; exact absurd hm (Nat.not_lt_zero _)
      | succ n_ ih =>
        intro k H locs ls hm hk hW hl
        refine lv_iload hx hb dX5_teach_33 (lv_at hl 4 rfl) ?_
        refine lv_aload_n hx hb dX5_teach_35 rfl (lv_at hl 0 rfl) ?_
        refine r_get hC hW flX5_7 0 rfl rfl dX5_teach_36 ?_
        refine lv_iconst (v := 2) hx hb dX5_teach_39 (by decide) ?_
        refine r_iald hC hW 1 rfl 2 rfl (by omega) (by decide) dX5_teach_40 ?_
        refine n_top (enc_0 S (by decide)) ?_
        refine n_top hV.p ?_
        refine lv_icmp_ge (tgt := 107) hx hb dX5_teach_41 (by decide) (fun c_5 => ?_) (fun c_5 => ?_)
        · have c_5 : P ≤ k := (nI_leI (a := P) (b := k) (by omega) (by omega)).mp c_5
          by_cases hP0 : P = 0
          · have hl : lv_has ls 6 [(0, .ref (b 0)), (1, .int (nI n)), (2, .int (-1)), (3, .int (mst (vTeach S P G n) k)), (4, .int (nI k))] := by have e := hl; rw [bst_0 (show k = 0 by omega)] at e; exact e
            refine lv_iload_n hx hb dX5_teach_107 rfl (lv_at hl 2 rfl) ?_
            refine lv_if_ge (tgt := 120) hx hb dX5_teach_108 (by decide) (fun c => absurd c (by decide)) (fun _ => ?_)
            refine lv_aload_n hx hb dX5_teach_111 rfl (lv_at hl 0 rfl) ?_
            refine r_ldc hC ctX5_160 dX5_teach_112 ?_
            refine r_callVi hC hD hW hA lkX5_73 (c_X5_finds l E (b 0) (MF b z w) (b 2) rfl F (-1000000004) 3 (by decide) (by decide)) rfl ⟨by decide, by decide, by decide, by decide⟩ [0, 2] rfl rfl rfl (fun _ => rfl) hl.1 rfl rfl (Nat.le_of_ble_eq_true rfl) dX5_teach_114 (fun r_6 _ H locs hr_6 hW => ?_)
            have hW : Wd E A s.heap (wcat [MJ b z w, IA E (b 1) 68 (enc S), IA E (b 2) 7 (upd F 3 (F 3 + 1)), IA E (b 3) 68 (enc S)]) H locs := hW
            have hr_6 : r_6 = (-1000000004) := hr_6
            subst hr_6
            refine lv_goto (tgt := 121) hx hb dX5_teach_117 (by decide) ?_
            exact r_iret hC hQ hD hW (enc S) (by rw [mTeach, cif_t b_2, if_pos hP0]; first | done | rfl) (by rw [mTeach, cif_t b_2, if_pos hP0]; first | done | rfl) rfl dX5_teach_121
          · have hl : lv_has ls 6 [(0, .ref (b 0)), (1, .int (nI n)), (2, .int (nI (bx (vTeach S P G n) k))), (3, .int (mst (vTeach S P G n) k)), (4, .int (nI k))] := by have e := hl; rw [bst_s (show k ≠ 0 by omega)] at e; exact e
            have hbl := bx_lt (vTeach S P G n) k (by omega)
            refine lv_iload_n hx hb dX5_teach_107 rfl (lv_at hl 2 rfl) ?_
            refine lv_if_ge (tgt := 120) hx hb dX5_teach_108 (by decide) (fun c_7 => ?_) (fun c_7 => absurd c_7 (fun z => z (nI_pos' (by omega))))
            have c_7 : 0 ≤ bx (vTeach S P G n) k := (nI_leI (a := 0) (b := bx (vTeach S P G n) k) (by omega) (by omega)).mp c_7
            refine lv_iload_n hx hb dX5_teach_120 rfl (lv_at hl 2 rfl) ?_
            exact r_iret hC hQ hD hW (enc S) (by rw [mTeach, cif_t b_2, if_neg hP0, ix_nI (n := n) (by omega), show P = k by omega]; first | done | rfl) (by rw [mTeach, cif_t b_2, if_neg hP0, ix_nI (n := n) (by omega), show P = k by omega]; first | done | rfl) rfl dX5_teach_121
        · have c_5 : ¬ P ≤ k := fun z_ => c_5 ((nI_leI (a := P) (b := k) (by omega) (by omega)).mpr z_)
          refine lv_aload_n hx hb dX5_teach_44 rfl (lv_at hl 0 rfl) ?_
          refine lv_iload hx hb dX5_teach_45 (lv_at hl 4 rfl) ?_
          refine lv_iconst (v := 0) hx hb dX5_teach_47 (by decide) ?_
          refine lv_iconst (v := 1) hx hb dX5_teach_48 (by decide) ?_
          refine r_callVv hC hD hW hA lkX5_86 (c_X5_puts l E (b 0) (b 1) (MF b z w) rfl S k 0 1 (by omega) (by omega)) rfl ⟨by decide, by decide, by decide, by decide⟩ [0, 1] rfl rfl rfl (fun _ => rfl) hl.1 rfl rfl (Nat.le_of_ble_eq_true rfl) dX5_teach_49 (fun _ H locs hr_8 hW => ?_)
          have hW : Wd E A s.heap (wcat [MJ b z w, IA E (b 1) 68 (enc (st S 1 k 1)), IA E (b 2) 7 F, IA E (b 3) 68 (enc S)]) H locs := hW
          refine lv_aload_n hx hb dX5_teach_52 rfl (lv_at hl 0 rfl) ?_
          refine lv_iload_n hx hb dX5_teach_53 rfl (lv_at hl 1 rfl) ?_
          refine r_callVv hC hD hW hA lkX5_150 (c_X5_passes l E (b 0) (b 1) (MF b z w) rfl (st S 1 k 1) P G (HV_1 1 k 1 hV (by decide) (by decide)) n (by omega)) rfl ⟨by decide, by decide, by decide, by decide⟩ [0, 1] rfl rfl rfl (fun _ => rfl) hl.1 rfl rfl (Nat.le_of_ble_eq_true rfl) dX5_teach_54 (fun _ H locs hr_9 hW => ?_)
          have hW : Wd E A s.heap (wcat [MJ b z w, IA E (b 1) 68 (enc (wks (st S 1 k 1) P G n)), IA E (b 2) 7 F, IA E (b 3) 68 (enc S)]) H locs := hW
          refine lv_aload_n hx hb dX5_teach_57 rfl (lv_at hl 0 rfl) ?_
          refine r_callVi hC hD hW hA lkX5_76 (c_X5_rights l E (b 0) (b 1) (MF b z w) rfl (wks (st S 1 k 1) P G n) G (HV_wks (HV_1 1 k 1 hV (by decide) (by decide)) n).g (HV_wks (HV_1 1 k 1 hV (by decide) (by decide)) n).g10) rfl ⟨by decide, by decide, by decide, by decide⟩ [0, 1] rfl rfl rfl (fun _ => rfl) hl.1 rfl rfl (Nat.le_of_ble_eq_true rfl) dX5_teach_58 (fun r_10 _ H locs hr_10 hW => ?_)
          have hW : Wd E A s.heap (wcat [MJ b z w, IA E (b 1) 68 (enc (wks (st S 1 k 1) P G n)), IA E (b 2) 7 F, IA E (b 3) 68 (enc S)]) H locs := hW
          have hr_10 : r_10 = (nI (mset (rgt (wks (st S 1 k 1) P G n)) G)) := hr_10
          subst hr_10
          refine r_callSi hC hD hW hA lkX5_67 (c_X5_bits l E (mset (rgt (wks (st S 1 k 1) P G n)) G) (mset_lt10 _ hG1)) ⟨by decide, by decide, by decide, by decide⟩ rfl hl.1 rfl rfl (Nat.le_of_ble_eq_true rfl) dX5_teach_61 (fun r_11 _ H locs hr_11 hW => ?_)
          have hW : Wd E A s.heap (wcat [MJ b z w, IA E (b 1) 68 (enc (wks (st S 1 k 1) P G n)), IA E (b 2) 7 F, IA E (b 3) 68 (enc S)]) H locs := hW
          have hr_11 : r_11 = (nI (pcN (mset (rgt (wks (st S 1 k 1) P G n)) G))) := hr_11
          subst hr_11
          refine n_top (congrArg nI (pcN_mset _ hG1)) ?_
          refine lv_istore (lv' := [(5, .int (vTeach S P G n k)), (0, .ref (b 0)), (1, .int (nI n)), (2, .int (bst (vTeach S P G n) k)), (3, .int (mst (vTeach S P G n) k)), (4, .int (nI k))]) hx hb dX5_teach_64 hl (by decide) rfl (fun ls hl => ?_)
          refine lv_aload_n hx hb dX5_teach_66 rfl (lv_at hl 1 rfl) ?_
          refine lv_iconst (v := 0) hx hb dX5_teach_67 (by decide) ?_
          refine lv_aload_n hx hb dX5_teach_68 rfl (lv_at hl 1 rfl) ?_
          refine r_get hC hW flX5_16 0 rfl rfl dX5_teach_69 ?_
          refine r_callVv hC hD hW hA lkX5_153 (c_X5_moveAll_r l E (b 0) (b 1) (MF b z w) rfl (enc (wks (st S 1 k 1) P G n)) (b 3) (enc S)) rfl ⟨by decide, by decide, by decide, by decide⟩ [0, 1, 3] rfl rfl rfl (fun _ => rfl) hl.1 rfl rfl (Nat.le_of_ble_eq_true rfl) dX5_teach_72 (fun _ H locs hr_12 hW => ?_)
          have hW : Wd E A s.heap (wcat [MJ b z w, IA E (b 1) 68 (enc S), IA E (b 2) 7 F, IA E (b 3) 68 (enc S)]) H locs := hW
          refine lv_iload hx hb dX5_teach_75 (lv_at hl 0 rfl) ?_
          refine lv_iload_n hx hb dX5_teach_77 rfl (lv_at hl 4 rfl) ?_
          refine lv_icmp_le (tgt := 86) hx hb dX5_teach_78 (by decide) (fun c_13 => ?_) (fun c_13 => ?_)
          · refine lv_iload_n hx hb dX5_teach_86 rfl (lv_at hl 3 rfl) ?_
            refine lv_istore_n (lv' := [(2, .int (bst (vTeach S P G n) k)), (5, .int (vTeach S P G n k)), (0, .ref (b 0)), (1, .int (nI n)), (3, .int (mst (vTeach S P G n) k)), (4, .int (nI k))]) hx hb dX5_teach_87 rfl hl (by decide) rfl (fun ls hl => ?_)
            refine lv_iload hx hb dX5_teach_88 (lv_at hl 1 rfl) ?_
            refine lv_iload_n hx hb dX5_teach_90 rfl (lv_at hl 4 rfl) ?_
            refine lv_icmp_le (tgt := 99) hx hb dX5_teach_91 (by decide) (fun c_14 => ?_) (fun c_14 => absurd c_14 (fun z => z c_13))
            refine lv_iload_n hx hb dX5_teach_99 rfl (lv_at hl 4 rfl) ?_
            refine lv_istore_n (lv' := [(3, .int (mst (vTeach S P G n) k)), (2, .int (bst (vTeach S P G n) k)), (5, .int (vTeach S P G n k)), (0, .ref (b 0)), (1, .int (nI n)), (4, .int (nI k))]) hx hb dX5_teach_100 rfl hl (by decide) rfl (fun ls hl => ?_)
            refine lv_iinc (v := (nI (k + 1))) (lv' := [(4, .int (nI (k + 1))), (3, .int (mst (vTeach S P G n) k)), (2, .int (bst (vTeach S P G n) k)), (5, .int (vTeach S P G n k)), (0, .ref (b 0)), (1, .int (nI n))]) (k := 5) hx hb dX5_teach_101 hl rfl (nI_inc k 1) (by decide) rfl (fun ls hl => ?_)
            refine lv_goto (tgt := 33) hx hb dX5_teach_104 (by decide) ?_
            exact ih (k + 1) _ _ _ (by omega) (by omega) hW (by rw [bst_s (Nat.succ_ne_zero k), (mst_f (vTeach_pos S P G n k hG1) (Int32.not_lt.mpr c_13)).1, (mst_f (vTeach_pos S P G n k hG1) (Int32.not_lt.mpr c_13)).2.1, ← bst_s (mst_f (vTeach_pos S P G n k hG1) (Int32.not_lt.mpr c_13)).2.2]; exact lv_sub hl [4, 5, 2, 1, 0] rfl)
          · refine lv_iload hx hb dX5_teach_81 (lv_at hl 5 rfl) ?_
            refine lv_goto (tgt := 87) hx hb dX5_teach_83 (by decide) ?_
            refine lv_istore_n (lv' := [(2, .int (nI k)), (5, .int (vTeach S P G n k)), (0, .ref (b 0)), (1, .int (nI n)), (3, .int (mst (vTeach S P G n) k)), (4, .int (nI k))]) hx hb dX5_teach_87 rfl hl (by decide) rfl (fun ls hl => ?_)
            refine lv_iload hx hb dX5_teach_88 (lv_at hl 1 rfl) ?_
            refine lv_iload_n hx hb dX5_teach_90 rfl (lv_at hl 4 rfl) ?_
            refine lv_icmp_le (tgt := 99) hx hb dX5_teach_91 (by decide) (fun c_15 => absurd c_15 c_13) (fun c_15 => ?_)
            refine lv_iload hx hb dX5_teach_94 (lv_at hl 1 rfl) ?_
            refine lv_goto (tgt := 100) hx hb dX5_teach_96 (by decide) ?_
            refine lv_istore_n (lv' := [(3, .int (vTeach S P G n k)), (2, .int (nI k)), (5, .int (vTeach S P G n k)), (0, .ref (b 0)), (1, .int (nI n)), (4, .int (nI k))]) hx hb dX5_teach_100 rfl hl (by decide) rfl (fun ls hl => ?_)
            refine lv_iinc (v := (nI (k + 1))) (lv' := [(4, .int (nI (k + 1))), (3, .int (vTeach S P G n k)), (2, .int (nI k)), (5, .int (vTeach S P G n k)), (0, .ref (b 0)), (1, .int (nI n))]) (k := 5) hx hb dX5_teach_101 hl rfl (nI_inc k 1) (by decide) rfl (fun ls hl => ?_)
            refine lv_goto (tgt := 33) hx hb dX5_teach_104 (by decide) ?_
            exact ih (k + 1) _ _ _ (by omega) (by omega) hW (by rw [bst_s (Nat.succ_ne_zero k), (mst_t (Int32.not_le.mp c_13)).1, (mst_t (Int32.not_le.mp c_13)).2]; exact lv_sub hl [4, 5, 2, 1, 0] rfl)
    exact L33 (P - 0 + 1) 0 _ _ _ (Nat.lt_succ_self _) (by omega) hW (lv_sub hl [3, 4, 2, 1, 0] rfl)
set_option maxHeartbeats 4000000 in
set_option maxRecDepth 100000 in
theorem c_X5_best (l : Launch) (E : Ev) (b : Nat → Nat) (z : Nat → Int32) (w : Int64) (S : HS) (F : FT) (P : Nat) (G : Nat) (hV : HV S P G) (f3 : Nat → Int32) (x1 : Int32) : MI l E yX5_best cX5_best 4 .int 6 135 0 0 [.ref (b 0), .int x1] (wcat [MJ b z w, IA E (b 1) 68 (enc S), IA E (b 2) 7 F, IA E (b 3) 68 f3]) (fun (r : Int32) (u : (Nat → Int32)) => r = (mBest S F P G x1).1) (fun (u : (Nat → Int32)) => (wcat [MJ b z w, IA E (b 1) 68 (enc S), IA E (b 2) 7 ((mBest S F P G x1).2), IA E (b 3) 68 u])) := by
  refine MI_intro RX5 (by decide) rfl (Nat.le_of_ble_eq_true rfl) ?_
  intro p e R s m args below meth c A Q hQ hC hD hW hA ls hl
  have hx := hC.1
  have hb := hC.2.1
  have hW : Wd E A s.heap (wcat [MJ b z w, IA E (b 1) 68 (enc S), IA E (b 2) 7 F, IA E (b 3) 68 f3]) s.heap [] := hW
  have hD : Dj A [b 0, b 1, b 2, b 3] := hD
  have hl : lv_has ls 4 [(0, .ref (b 0)), (1, .int x1)] := hl
  have hP := hV.p
  have hP1 := hV.p6
  have hG := hV.g
  have hG1 := hV.g10
  refine lv_iload_n hx hb dX5_best_0 rfl (lv_at hl 1 rfl) ?_
  refine lv_iconst (v := 0) hx hb dX5_best_1 (by decide) ?_
  refine lv_bipush (v := 100) hx hb dX5_best_2 (by decide) ?_
  refine r_callSi hC hD hW hA lkX5_45 (c_X5_in l E x1 0 100) ⟨by decide, by decide, by decide, by decide⟩ rfl hl.1 rfl rfl (Nat.le_of_ble_eq_true rfl) dX5_best_4 (fun r_1 _ H locs hr_1 hW => ?_)
  have hW : Wd E A s.heap (wcat [MJ b z w, IA E (b 1) 68 (enc S), IA E (b 2) 7 F, IA E (b 3) 68 f3]) H locs := hW
  have hr_1 : bz (0 ≤ x1 ∧ x1 ≤ 100) r_1 := hr_1
  rcases hr_1 with ⟨rfl, b_2⟩ | ⟨rfl, b_2⟩
  · refine lv_if_ne (tgt := 17) hx hb dX5_best_7 (by decide) (fun c => absurd c (by decide)) (fun _ => ?_)
    refine lv_aload_n hx hb dX5_best_10 rfl (lv_at hl 0 rfl) ?_
    refine r_ldc hC ctX5_44 dX5_best_11 ?_
    refine r_callVi hC hD hW hA lkX5_73 (c_X5_finds l E (b 0) (MF b z w) (b 2) rfl F (-1000000001) 0 (by decide) (by decide)) rfl ⟨by decide, by decide, by decide, by decide⟩ [0, 2] rfl rfl rfl (fun _ => rfl) hl.1 rfl rfl (Nat.le_of_ble_eq_true rfl) dX5_best_13 (fun r_3 _ H locs hr_3 hW => ?_)
    have hW : Wd E A s.heap (wcat [MJ b z w, IA E (b 1) 68 (enc S), IA E (b 2) 7 (upd F 0 (F 0 + 1)), IA E (b 3) 68 f3]) H locs := hW
    have hr_3 : r_3 = (-1000000001) := hr_3
    subst hr_3
    exact r_iret hC hQ hD hW f3 (by rw [mBest, cif_f b_2]; first | done | rfl) (by rw [mBest, cif_f b_2]; first | done | rfl) rfl dX5_best_16
  · have eb_2 := rng (k := 100) (by decide) b_2
    obtain ⟨n, hn, rfl⟩ := eb_2
    refine lv_if_ne (tgt := 17) hx hb dX5_best_7 (by decide) (fun _ => ?_) (fun c => absurd c (by decide))
    refine lv_aload_n hx hb dX5_best_17 rfl (lv_at hl 0 rfl) ?_
    refine lv_iconst (v := 1) hx hb dX5_best_18 (by decide) ?_
    refine lv_aload_n hx hb dX5_best_19 rfl (lv_at hl 0 rfl) ?_
    refine r_get hC hW flX5_16 0 rfl rfl dX5_best_20 ?_
    refine r_callVv hC hD hW hA lkX5_153 (c_X5_moveAll_k l E (b 0) (b 1) (MF b z w) rfl (enc S) (b 3) f3) rfl ⟨by decide, by decide, by decide, by decide⟩ [0, 1, 3] rfl rfl rfl (fun _ => rfl) hl.1 rfl rfl (Nat.le_of_ble_eq_true rfl) dX5_best_23 (fun _ H locs hr_4 hW => ?_)
    have hW : Wd E A s.heap (wcat [MJ b z w, IA E (b 1) 68 (enc S), IA E (b 2) 7 F, IA E (b 3) 68 (enc S)]) H locs := hW
    refine lv_aload_n hx hb dX5_best_26 rfl (lv_at hl 0 rfl) ?_
    refine lv_iload_n hx hb dX5_best_27 rfl (lv_at hl 1 rfl) ?_
    refine r_callVv hC hD hW hA lkX5_150 (c_X5_passes l E (b 0) (b 1) (MF b z w) rfl S P G hV n (by omega)) rfl ⟨by decide, by decide, by decide, by decide⟩ [0, 1] rfl rfl rfl (fun _ => rfl) hl.1 rfl rfl (Nat.le_of_ble_eq_true rfl) dX5_best_28 (fun _ H locs hr_5 hW => ?_)
    have hW : Wd E A s.heap (wcat [MJ b z w, IA E (b 1) 68 (enc (wks S P G n)), IA E (b 2) 7 F, IA E (b 3) 68 (enc S)]) H locs := hW
    refine lv_iconst (v := (-1)) hx hb dX5_best_31 (by decide) ?_
    refine lv_istore_n (lv' := [(2, .int (-1)), (0, .ref (b 0)), (1, .int (nI n))]) hx hb dX5_best_32 rfl hl (by decide) rfl (fun ls hl => ?_)
    refine lv_iconst (v := 0) hx hb dX5_best_33 (by decide) ?_
    refine lv_istore_n (lv' := [(3, .int 0), (2, .int (-1)), (0, .ref (b 0)), (1, .int (nI n))]) hx hb dX5_best_34 rfl hl (by decide) rfl (fun ls hl => ?_)
    have L35 : ∀ (n_ : Nat) (k : Nat) (H : Heap) (locs : List Loc) (ls : Array Slot), P - k < n_ → k ≤ P → Wd E A s.heap (wcat [MJ b z w, IA E (b 1) 68 (enc (wks S P G n)), IA E (b 2) 7 F, IA E (b 3) 68 (enc S)]) H locs → lv_has ls 4 [(0, .ref (b 0)), (1, .int (nI n)), (2, .int (bst (wks S P G n 3) k)), (3, .int (nI k))] → W p l e R s m args below meth c H locs 0 0 Q (F0 m 35 ls []) := by
      intro n_
      induction n_ with
      | zero => intro k H locs ls hm; exact absurd hm (Nat.not_lt_zero _)
      | succ n_ ih =>
        intro k H locs ls hm hk hW hl
        refine lv_iload_n hx hb dX5_best_35 rfl (lv_at hl 3 rfl) ?_
        refine lv_aload_n hx hb dX5_best_36 rfl (lv_at hl 0 rfl) ?_
        refine r_get hC hW flX5_7 0 rfl rfl dX5_best_37 ?_
        refine lv_iconst (v := 2) hx hb dX5_best_40 (by decide) ?_
        refine r_iald hC hW 1 rfl 2 rfl (by omega) (by decide) dX5_best_41 ?_
        refine n_top (enc_0 (wks S P G n) (by decide)) ?_
        refine n_top (HV_wks hV n).p ?_
        refine lv_icmp_ge (tgt := 76) hx hb dX5_best_42 (by decide) (fun c_6 => ?_) (fun c_6 => ?_)
        · have c_6 : P ≤ k := (nI_leI (a := P) (b := k) (by omega) (by omega)).mp c_6
          by_cases hP0 : P = 0
          · have hl : lv_has ls 4 [(0, .ref (b 0)), (1, .int (nI n)), (2, .int (-1)), (3, .int (nI k))] := by have e := hl; rw [bst_0 (show k = 0 by omega)] at e; exact e
            refine lv_aload_n hx hb dX5_best_76 rfl (lv_at hl 0 rfl) ?_
            refine lv_iconst (v := 0) hx hb dX5_best_77 (by decide) ?_
            refine lv_aload_n hx hb dX5_best_78 rfl (lv_at hl 0 rfl) ?_
            refine r_get hC hW flX5_16 0 rfl rfl dX5_best_79 ?_
            refine r_callVv hC hD hW hA lkX5_153 (c_X5_moveAll_r l E (b 0) (b 1) (MF b z w) rfl (enc (wks S P G n)) (b 3) (enc S)) rfl ⟨by decide, by decide, by decide, by decide⟩ [0, 1, 3] rfl rfl rfl (fun _ => rfl) hl.1 rfl rfl (Nat.le_of_ble_eq_true rfl) dX5_best_82 (fun _ H locs hr_7 hW => ?_)
            have hW : Wd E A s.heap (wcat [MJ b z w, IA E (b 1) 68 (enc S), IA E (b 2) 7 F, IA E (b 3) 68 (enc S)]) H locs := hW
            refine lv_iload_n hx hb dX5_best_85 rfl (lv_at hl 2 rfl) ?_
            refine lv_if_ge (tgt := 98) hx hb dX5_best_86 (by decide) (fun c => absurd c (by decide)) (fun _ => ?_)
            refine lv_aload_n hx hb dX5_best_89 rfl (lv_at hl 0 rfl) ?_
            refine r_ldc hC ctX5_160 dX5_best_90 ?_
            refine r_callVi hC hD hW hA lkX5_73 (c_X5_finds l E (b 0) (MF b z w) (b 2) rfl F (-1000000004) 3 (by decide) (by decide)) rfl ⟨by decide, by decide, by decide, by decide⟩ [0, 2] rfl rfl rfl (fun _ => rfl) hl.1 rfl rfl (Nat.le_of_ble_eq_true rfl) dX5_best_92 (fun r_8 _ H locs hr_8 hW => ?_)
            have hW : Wd E A s.heap (wcat [MJ b z w, IA E (b 1) 68 (enc S), IA E (b 2) 7 (upd F 3 (F 3 + 1)), IA E (b 3) 68 (enc S)]) H locs := hW
            have hr_8 : r_8 = (-1000000004) := hr_8
            subst hr_8
            refine lv_goto (tgt := 99) hx hb dX5_best_95 (by decide) ?_
            exact r_iret hC hQ hD hW (enc S) (by rw [mBest, cif_t b_2, if_pos hP0]; first | done | rfl) (by rw [mBest, cif_t b_2, if_pos hP0]; first | done | rfl) rfl dX5_best_99
          · have hl : lv_has ls 4 [(0, .ref (b 0)), (1, .int (nI n)), (2, .int (nI (bx (wks S P G n 3) k))), (3, .int (nI k))] := by have e := hl; rw [bst_s (show k ≠ 0 by omega)] at e; exact e
            have hbl := bx_lt (wks S P G n 3) k (by omega)
            refine lv_aload_n hx hb dX5_best_76 rfl (lv_at hl 0 rfl) ?_
            refine lv_iconst (v := 0) hx hb dX5_best_77 (by decide) ?_
            refine lv_aload_n hx hb dX5_best_78 rfl (lv_at hl 0 rfl) ?_
            refine r_get hC hW flX5_16 0 rfl rfl dX5_best_79 ?_
            refine r_callVv hC hD hW hA lkX5_153 (c_X5_moveAll_r l E (b 0) (b 1) (MF b z w) rfl (enc (wks S P G n)) (b 3) (enc S)) rfl ⟨by decide, by decide, by decide, by decide⟩ [0, 1, 3] rfl rfl rfl (fun _ => rfl) hl.1 rfl rfl (Nat.le_of_ble_eq_true rfl) dX5_best_82 (fun _ H locs hr_9 hW => ?_)
            have hW : Wd E A s.heap (wcat [MJ b z w, IA E (b 1) 68 (enc S), IA E (b 2) 7 F, IA E (b 3) 68 (enc S)]) H locs := hW
            refine lv_iload_n hx hb dX5_best_85 rfl (lv_at hl 2 rfl) ?_
            refine lv_if_ge (tgt := 98) hx hb dX5_best_86 (by decide) (fun c_10 => ?_) (fun c_10 => absurd c_10 (fun z => z (nI_pos' (by omega))))
            have c_10 : 0 ≤ bx (wks S P G n 3) k := (nI_leI (a := 0) (b := bx (wks S P G n 3) k) (by omega) (by omega)).mp c_10
            refine lv_iload_n hx hb dX5_best_98 rfl (lv_at hl 2 rfl) ?_
            exact r_iret hC hQ hD hW (enc S) (by rw [mBest, cif_t b_2, if_neg hP0, ix_nI (n := n) (by omega), show P = k by omega]; first | done | rfl) (by rw [mBest, cif_t b_2, if_neg hP0, ix_nI (n := n) (by omega), show P = k by omega]; first | done | rfl) rfl dX5_best_99
        · have c_6 : ¬ P ≤ k := fun z_ => c_6 ((nI_leI (a := P) (b := k) (by omega) (by omega)).mpr z_)
          by_cases hk0 : k = 0
          · have hl : lv_has ls 4 [(0, .ref (b 0)), (1, .int (nI n)), (2, .int (-1)), (3, .int (nI k))] := by have e := hl; rw [bst_0 hk0] at e; exact e
            refine lv_iload_n hx hb dX5_best_45 rfl (lv_at hl 2 rfl) ?_
            refine lv_if_lt (tgt := 64) hx hb dX5_best_46 (by decide) (fun _ => ?_) (fun c => absurd c (by decide))
            refine lv_iload_n hx hb dX5_best_64 rfl (lv_at hl 3 rfl) ?_
            refine lv_goto (tgt := 69) hx hb dX5_best_65 (by decide) ?_
            refine lv_istore_n (lv' := [(2, .int (nI k)), (0, .ref (b 0)), (1, .int (nI n)), (3, .int (nI k))]) hx hb dX5_best_69 rfl hl (by decide) rfl (fun ls hl => ?_)
            refine lv_iinc (v := (nI (k + 1))) (lv' := [(3, .int (nI (k + 1))), (2, .int (nI k)), (0, .ref (b 0)), (1, .int (nI n))]) (k := 3) hx hb dX5_best_70 hl rfl (nI_inc k 1) (by decide) rfl (fun ls hl => ?_)
            refine lv_goto (tgt := 35) hx hb dX5_best_73 (by decide) ?_
            exact ih (k + 1) _ _ _ (by omega) (by omega) hW (by rw [bst_s (Nat.succ_ne_zero k), bx_1 _ hk0]; exact lv_sub hl [2, 3, 1, 0] rfl)
          · have hl : lv_has ls 4 [(0, .ref (b 0)), (1, .int (nI n)), (2, .int (nI (bx (wks S P G n 3) k))), (3, .int (nI k))] := by have e := hl; rw [bst_s hk0] at e; exact e
            have hbl := bx_lt (wks S P G n 3) k (by omega)
            refine lv_iload_n hx hb dX5_best_45 rfl (lv_at hl 2 rfl) ?_
            refine lv_if_lt (tgt := 64) hx hb dX5_best_46 (by decide) (fun c_11 => absurd c_11 (nI_pos (by omega))) (fun c_11 => ?_)
            have c_11 : ¬ bx (wks S P G n 3) k < 0 := fun z_ => c_11 ((nI_ltI (a := bx (wks S P G n 3) k) (b := 0) (by omega) (by omega)).mpr z_)
            refine lv_aload_n hx hb dX5_best_49 rfl (lv_at hl 0 rfl) ?_
            refine lv_iload_n hx hb dX5_best_50 rfl (lv_at hl 3 rfl) ?_
            refine lv_iconst (v := 2) hx hb dX5_best_51 (by decide) ?_
            refine r_callVi hC hD hW hA lkX5_57 (c_X5_its l E (b 0) (b 1) (MF b z w) rfl (wks S P G n) k 2 (by omega) (by omega)) rfl ⟨by decide, by decide, by decide, by decide⟩ [0, 1] rfl rfl rfl (fun _ => rfl) hl.1 rfl rfl (Nat.le_of_ble_eq_true rfl) dX5_best_52 (fun r_12 _ H locs hr_12 hW => ?_)
            have hW : Wd E A s.heap (wcat [MJ b z w, IA E (b 1) 68 (enc (wks S P G n)), IA E (b 2) 7 F, IA E (b 3) 68 (enc S)]) H locs := hW
            have hr_12 : r_12 = ((wks S P G n) 3 k) := hr_12
            subst hr_12
            refine lv_aload_n hx hb dX5_best_55 rfl (lv_at hl 0 rfl) ?_
            refine lv_iload_n hx hb dX5_best_56 rfl (lv_at hl 2 rfl) ?_
            refine lv_iconst (v := 2) hx hb dX5_best_57 (by decide) ?_
            refine r_callVi hC hD hW hA lkX5_57 (c_X5_its l E (b 0) (b 1) (MF b z w) rfl (wks S P G n) (bx (wks S P G n 3) k) 2 (by omega) (by omega)) rfl ⟨by decide, by decide, by decide, by decide⟩ [0, 1] rfl rfl rfl (fun _ => rfl) hl.1 rfl rfl (Nat.le_of_ble_eq_true rfl) dX5_best_58 (fun r_13 _ H locs hr_13 hW => ?_)
            have hW : Wd E A s.heap (wcat [MJ b z w, IA E (b 1) 68 (enc (wks S P G n)), IA E (b 2) 7 F, IA E (b 3) 68 (enc S)]) H locs := hW
            have hr_13 : r_13 = ((wks S P G n) 3 (bx (wks S P G n 3) k)) := hr_13
            subst hr_13
            refine lv_icmp_le (tgt := 68) hx hb dX5_best_61 (by decide) (fun c_14 => ?_) (fun c_14 => ?_)
            · refine lv_iload_n hx hb dX5_best_68 rfl (lv_at hl 2 rfl) ?_
              refine lv_istore_n (lv' := [(2, .int (nI (bx (wks S P G n 3) k))), (0, .ref (b 0)), (1, .int (nI n)), (3, .int (nI k))]) hx hb dX5_best_69 rfl hl (by decide) rfl (fun ls hl => ?_)
              refine lv_iinc (v := (nI (k + 1))) (lv' := [(3, .int (nI (k + 1))), (2, .int (nI (bx (wks S P G n 3) k))), (0, .ref (b 0)), (1, .int (nI n))]) (k := 3) hx hb dX5_best_70 hl rfl (nI_inc k 1) (by decide) rfl (fun ls hl => ?_)
              refine lv_goto (tgt := 35) hx hb dX5_best_73 (by decide) ?_
              exact ih (k + 1) _ _ _ (by omega) (by omega) hW (by rw [bst_s (Nat.succ_ne_zero k), bx_f hk0 (Int32.not_lt.mpr c_14)]; exact lv_sub hl [2, 3, 1, 0] rfl)
            · refine lv_iload_n hx hb dX5_best_64 rfl (lv_at hl 3 rfl) ?_
              refine lv_goto (tgt := 69) hx hb dX5_best_65 (by decide) ?_
              refine lv_istore_n (lv' := [(2, .int (nI k)), (0, .ref (b 0)), (1, .int (nI n)), (3, .int (nI k))]) hx hb dX5_best_69 rfl hl (by decide) rfl (fun ls hl => ?_)
              refine lv_iinc (v := (nI (k + 1))) (lv' := [(3, .int (nI (k + 1))), (2, .int (nI k)), (0, .ref (b 0)), (1, .int (nI n))]) (k := 3) hx hb dX5_best_70 hl rfl (nI_inc k 1) (by decide) rfl (fun ls hl => ?_)
              refine lv_goto (tgt := 35) hx hb dX5_best_73 (by decide) ?_
              exact ih (k + 1) _ _ _ (by omega) (by omega) hW (by rw [bst_s (Nat.succ_ne_zero k), bx_t (Int32.not_le.mp c_14)]; exact lv_sub hl [2, 3, 1, 0] rfl)
    exact L35 (P - 0 + 1) 0 _ _ _ (Nat.lt_succ_self _) (by omega) hW (lv_sub hl [2, 3, 1, 0] rfl)
