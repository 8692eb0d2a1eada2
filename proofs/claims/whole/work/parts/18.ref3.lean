set_option maxHeartbeats 4000000 in
set_option maxRecDepth 100000 in
theorem c_X5_moveAll_k (l : Launch) (E : Ev) (a : Nat) (b : Nat) (fs : List Value) (hf : fs[0]? = some (.ref b)) (f : Nat → Int32) (d : Nat) (f2 : Nat → Int32) : MV l E yX5_moveAll cX5_moveAll 4 0 0 0 0 [.ref a, .int 1, .ref d] (wcat [[(a, .inr (5, fs))], IA E b 68 f, IA E d 68 f2]) (fun (_ : Unit) => True) (fun (_ : Unit) => (wcat [[(a, .inr (5, fs))], IA E b 68 f, IA E d 68 f])) := by
  refine MV_intro RX5 (by decide) rfl (Nat.le_of_ble_eq_true rfl) ?_
  intro p e R s m args below meth c A Q hQ hC hnm hD hW hA ls hl
  have hx := hC.1
  have hb := hC.2.1
  have hW : Wd E A s.heap (wcat [[(a, .inr (5, fs))], IA E b 68 f, IA E d 68 f2]) s.heap [] := hW
  have hD : Dj A [a, b, d] := hD
  have hl : lv_has ls 4 [(0, .ref a), (1, .int 1), (2, .ref d)] := hl
  refine lv_iconst (v := 0) hx hb dX5_moveAll_0 (by decide) ?_
  refine lv_istore_n (lv' := [(3, .int 0), (0, .ref a), (1, .int 1), (2, .ref d)]) hx hb dX5_moveAll_1 rfl hl (by decide) rfl (fun ls hl => ?_)
  have L2 : ∀ (n_ : Nat) (i : Nat) (H : Heap) (locs : List Loc) (ls : Array Slot), 68 - i < n_ → i ≤ 68 → Wd E A s.heap (wcat [[(a, .inr (5, fs))], IA E b 68 f, IA E d 68 (fil f f2 i)]) H locs → lv_has ls 4 [(0, .ref a), (1, .int 1), (2, .ref d), (3, .int (nI i))] → W p l e R s m args below meth c H locs 0 0 Q (F0 m 2 ls []) := by
    intro n_
    induction n_ with
    | zero => intro i H locs ls hm; exact absurd hm (Nat.not_lt_zero _)
    | succ n_ ih =>
      intro i H locs ls hm hi hW hl
      refine lv_iload_n hx hb dX5_moveAll_2 rfl (lv_at hl 3 rfl) ?_
      refine lv_bipush (v := 68) hx hb dX5_moveAll_3 (by decide) ?_
      refine lv_icmp_ge (tgt := 39) hx hb dX5_moveAll_5 (by decide) (fun c_1 => ?_) (fun c_1 => ?_)
      · have c_1 : 68 ≤ i := (nI_leI (a := 68) (b := i) (by omega) (by omega)).mp c_1
        have hW : Wd E A s.heap (wcat [[(a, .inr (5, fs))], IA E b 68 f, IA E d 68 f]) H locs := Wd_ext hW 2 rfl (fun k hk => by unfold fil; rw [if_pos (by omega)])
        exact r_vret hC hQ hD hW () trivial rfl rfl dX5_moveAll_39
      · have c_1 : ¬ 68 ≤ i := fun z_ => c_1 ((nI_leI (a := 68) (b := i) (by omega) (by omega)).mpr z_)
        refine lv_iload_n hx hb dX5_moveAll_8 rfl (lv_at hl 1 rfl) ?_
        refine lv_if_eq (tgt := 24) hx hb dX5_moveAll_9 (by decide) (fun c => absurd c (by decide)) (fun _ => ?_)
        refine lv_aload_n hx hb dX5_moveAll_12 rfl (lv_at hl 2 rfl) ?_
        refine lv_iload_n hx hb dX5_moveAll_13 rfl (lv_at hl 3 rfl) ?_
        refine lv_aload_n hx hb dX5_moveAll_14 rfl (lv_at hl 0 rfl) ?_
        refine r_get hC hW flX5_7 0 rfl hf dX5_moveAll_15 ?_
        refine lv_iload_n hx hb dX5_moveAll_18 rfl (lv_at hl 3 rfl) ?_
        refine r_iald hC hW 1 rfl i rfl (by omega) (by decide) dX5_moveAll_19 ?_
        refine r_iast (ws' := (wcat [[(a, .inr (5, fs))], IA E b 68 f, IA E d 68 (fil f f2 (i + 1))])) hC hD hW 2 rfl i rfl (by omega) (by decide) rfl (by rw [show upd _ i _ = _ from fil_put f f2 i]; rfl) dX5_moveAll_20 (fun H locs hW => ?_)
        refine lv_goto (tgt := 33) hx hb dX5_moveAll_21 (by decide) ?_
        refine lv_iinc (v := (nI (i + 1))) (lv' := [(3, .int (nI (i + 1))), (0, .ref a), (1, .int 1), (2, .ref d)]) (k := 3) hx hb dX5_moveAll_33 hl rfl (nI_inc i 1) (by decide) rfl (fun ls hl => ?_)
        refine lv_goto (tgt := 2) hx hb dX5_moveAll_36 (by decide) ?_
        exact ih (i + 1) _ _ _ (by omega) (by omega) hW (lv_sub hl [1, 2, 3, 0] rfl)
  exact L2 (68 - 0 + 1) 0 _ _ _ (Nat.lt_succ_self _) (by omega) hW (lv_sub hl [1, 2, 3, 0] rfl)
set_option maxHeartbeats 4000000 in
set_option maxRecDepth 100000 in
theorem c_X5_moveAll_r (l : Launch) (E : Ev) (a : Nat) (b : Nat) (fs : List Value) (hf : fs[0]? = some (.ref b)) (f : Nat → Int32) (d : Nat) (f2 : Nat → Int32) : MV l E yX5_moveAll cX5_moveAll 4 0 0 0 0 [.ref a, .int 0, .ref d] (wcat [[(a, .inr (5, fs))], IA E b 68 f, IA E d 68 f2]) (fun (_ : Unit) => True) (fun (_ : Unit) => (wcat [[(a, .inr (5, fs))], IA E b 68 f2, IA E d 68 f2])) := by
  refine MV_intro RX5 (by decide) rfl (Nat.le_of_ble_eq_true rfl) ?_
  intro p e R s m args below meth c A Q hQ hC hnm hD hW hA ls hl
  have hx := hC.1
  have hb := hC.2.1
  have hW : Wd E A s.heap (wcat [[(a, .inr (5, fs))], IA E b 68 f, IA E d 68 f2]) s.heap [] := hW
  have hD : Dj A [a, b, d] := hD
  have hl : lv_has ls 4 [(0, .ref a), (1, .int 0), (2, .ref d)] := hl
  refine lv_iconst (v := 0) hx hb dX5_moveAll_0 (by decide) ?_
  refine lv_istore_n (lv' := [(3, .int 0), (0, .ref a), (1, .int 0), (2, .ref d)]) hx hb dX5_moveAll_1 rfl hl (by decide) rfl (fun ls hl => ?_)
  have L2 : ∀ (n_ : Nat) (i : Nat) (H : Heap) (locs : List Loc) (ls : Array Slot), 68 - i < n_ → i ≤ 68 → Wd E A s.heap (wcat [[(a, .inr (5, fs))], IA E b 68 (fil f2 f i), IA E d 68 f2]) H locs → lv_has ls 4 [(0, .ref a), (1, .int 0), (2, .ref d), (3, .int (nI i))] → W p l e R s m args below meth c H locs 0 0 Q (F0 m 2 ls []) := by
    intro n_
    induction n_ with
    | zero => intro i H locs ls hm; exact absurd hm (Nat.not_lt_zero _)
    | succ n_ ih =>
      intro i H locs ls hm hi hW hl
      refine lv_iload_n hx hb dX5_moveAll_2 rfl (lv_at hl 3 rfl) ?_
      refine lv_bipush (v := 68) hx hb dX5_moveAll_3 (by decide) ?_
      refine lv_icmp_ge (tgt := 39) hx hb dX5_moveAll_5 (by decide) (fun c_1 => ?_) (fun c_1 => ?_)
      · have c_1 : 68 ≤ i := (nI_leI (a := 68) (b := i) (by omega) (by omega)).mp c_1
        have hW : Wd E A s.heap (wcat [[(a, .inr (5, fs))], IA E b 68 f2, IA E d 68 f2]) H locs := Wd_ext hW 1 rfl (fun k hk => by unfold fil; rw [if_pos (by omega)])
        exact r_vret hC hQ hD hW () trivial rfl rfl dX5_moveAll_39
      · have c_1 : ¬ 68 ≤ i := fun z_ => c_1 ((nI_leI (a := 68) (b := i) (by omega) (by omega)).mpr z_)
        refine lv_iload_n hx hb dX5_moveAll_8 rfl (lv_at hl 1 rfl) ?_
        refine lv_if_eq (tgt := 24) hx hb dX5_moveAll_9 (by decide) (fun _ => ?_) (fun c => absurd c (by decide))
        refine lv_aload_n hx hb dX5_moveAll_24 rfl (lv_at hl 0 rfl) ?_
        refine r_get hC hW flX5_7 0 rfl hf dX5_moveAll_25 ?_
        refine lv_iload_n hx hb dX5_moveAll_28 rfl (lv_at hl 3 rfl) ?_
        refine lv_aload_n hx hb dX5_moveAll_29 rfl (lv_at hl 2 rfl) ?_
        refine lv_iload_n hx hb dX5_moveAll_30 rfl (lv_at hl 3 rfl) ?_
        refine r_iald hC hW 2 rfl i rfl (by omega) (by decide) dX5_moveAll_31 ?_
        refine r_iast (ws' := (wcat [[(a, .inr (5, fs))], IA E b 68 (fil f2 f (i + 1)), IA E d 68 f2])) hC hD hW 1 rfl i rfl (by omega) (by decide) rfl (by rw [show upd _ i _ = _ from fil_put f2 f i]; rfl) dX5_moveAll_32 (fun H locs hW => ?_)
        refine lv_iinc (v := (nI (i + 1))) (lv' := [(3, .int (nI (i + 1))), (0, .ref a), (1, .int 0), (2, .ref d)]) (k := 3) hx hb dX5_moveAll_33 hl rfl (nI_inc i 1) (by decide) rfl (fun ls hl => ?_)
        refine lv_goto (tgt := 2) hx hb dX5_moveAll_36 (by decide) ?_
        exact ih (i + 1) _ _ _ (by omega) (by omega) hW (lv_sub hl [1, 2, 3, 0] rfl)
  exact L2 (68 - 0 + 1) 0 _ _ _ (Nat.lt_succ_self _) (by omega) hW (lv_sub hl [1, 2, 3, 0] rfl)
set_option maxHeartbeats 4000000 in
set_option maxRecDepth 100000 in
theorem c_X5_heat (l : Launch) (E : Ev) (b : Nat → Nat) (z : Nat → Int32) (w : Int64) (S : HS) (F : FT) (P : Nat) (G : Nat) (hV : HV S P G) (x1 : Int32) : MI l E yX5_heat cX5_heat 2 .int 1 23 0 0 [.ref (b 0), .int x1] (wcat [MJ b z w, IA E (b 1) 68 (enc S), IA E (b 2) 7 F]) (fun (r : Int32) (_ : Unit) => r = (mHeat S F x1).1) (fun (_ : Unit) => (wcat [MJ b z w, IA E (b 1) 68 (enc ((mHeat S F x1).2.1)), IA E (b 2) 7 ((mHeat S F x1).2.2)])) := by
  refine MI_intro RX5 (by decide) rfl (Nat.le_of_ble_eq_true rfl) ?_
  intro p e R s m args below meth c A Q hQ hC hD hW hA ls hl
  have hx := hC.1
  have hb := hC.2.1
  have hW : Wd E A s.heap (wcat [MJ b z w, IA E (b 1) 68 (enc S), IA E (b 2) 7 F]) s.heap [] := hW
  have hD : Dj A [b 0, b 1, b 2] := hD
  have hl : lv_has ls 2 [(0, .ref (b 0)), (1, .int x1)] := hl
  have hP := hV.p
  have hP1 := hV.p6
  have hG := hV.g
  have hG1 := hV.g10
  refine lv_iload_n hx hb dX5_heat_0 rfl (lv_at hl 1 rfl) ?_
  refine lv_bipush (v := 20) hx hb dX5_heat_1 (by decide) ?_
  refine lv_bipush (v := 90) hx hb dX5_heat_3 (by decide) ?_
  refine r_callSi hC hD hW hA lkX5_45 (c_X5_in l E x1 20 90) ⟨by decide, by decide, by decide, by decide⟩ rfl hl.1 rfl rfl (Nat.le_of_ble_eq_true rfl) dX5_heat_5 (fun r_1 _ H locs hr_1 hW => ?_)
  have hW : Wd E A s.heap (wcat [MJ b z w, IA E (b 1) 68 (enc S), IA E (b 2) 7 F]) H locs := hW
  have hr_1 : bz (20 ≤ x1 ∧ x1 ≤ 90) r_1 := hr_1
  rcases hr_1 with ⟨rfl, b_2⟩ | ⟨rfl, b_2⟩
  · refine lv_if_eq (tgt := 20) hx hb dX5_heat_8 (by decide) (fun _ => ?_) (fun c => absurd c (by decide))
    refine lv_aload_n hx hb dX5_heat_20 rfl (lv_at hl 0 rfl) ?_
    refine r_ldc hC ctX5_44 dX5_heat_21 ?_
    refine r_callVi hC hD hW hA lkX5_73 (c_X5_finds l E (b 0) (MF b z w) (b 2) rfl F (-1000000001) 0 (by decide) (by decide)) rfl ⟨by decide, by decide, by decide, by decide⟩ [0, 2] rfl rfl rfl (fun _ => rfl) hl.1 rfl rfl (Nat.le_of_ble_eq_true rfl) dX5_heat_23 (fun r_3 _ H locs hr_3 hW => ?_)
    have hW : Wd E A s.heap (wcat [MJ b z w, IA E (b 1) 68 (enc S), IA E (b 2) 7 (upd F 0 (F 0 + 1))]) H locs := hW
    have hr_3 : r_3 = (-1000000001) := hr_3
    subst hr_3
    exact r_iret hC hQ hD hW () (by rw [mHeat, cif_f b_2]; first | done | rfl) (by rw [mHeat, cif_f b_2]; first | done | rfl) rfl dX5_heat_26
  · refine lv_if_eq (tgt := 20) hx hb dX5_heat_8 (by decide) (fun c => absurd c (by decide)) (fun _ => ?_)
    refine lv_aload_n hx hb dX5_heat_11 rfl (lv_at hl 0 rfl) ?_
    refine lv_iconst (v := 1) hx hb dX5_heat_12 (by decide) ?_
    refine lv_iload_n hx hb dX5_heat_13 rfl (lv_at hl 1 rfl) ?_
    refine r_callVi hC hD hW hA lkX5_70 (c_X5_becomes l E (b 0) (b 1) (MF b z w) rfl S 1 0 1 x1 (by decide) (Or.inl (by decide))) rfl ⟨by decide, by decide, by decide, by decide⟩ [0, 1] rfl rfl rfl (fun _ => rfl) hl.1 rfl rfl (Nat.le_of_ble_eq_true rfl) dX5_heat_14 (fun r_4 _ H locs hr_4 hW => ?_)
    have hW : Wd E A s.heap (wcat [MJ b z w, IA E (b 1) 68 (enc (st S 0 1 x1)), IA E (b 2) 7 F]) H locs := hW
    have hr_4 : r_4 = (S 0 1) := hr_4
    subst hr_4
    refine lv_goto (tgt := 26) hx hb dX5_heat_17 (by decide) ?_
    exact r_iret hC hQ hD hW () (by rw [mHeat, cif_t b_2]; first | done | rfl) (by rw [mHeat, cif_t b_2]; first | done | rfl) rfl dX5_heat_26
set_option maxHeartbeats 4000000 in
set_option maxRecDepth 100000 in
theorem c_X5_now (l : Launch) (E : Ev) (b : Nat → Nat) (z : Nat → Int32) (w : Int64) (S : HS) (F : FT) (P : Nat) (G : Nat) (hV : HV S P G) (x1 : Int32) : MI l E yX5_now cX5_now 2 .int 3 65 0 0 [.ref (b 0), .int x1] (wcat [MJ b z w, IA E (b 1) 68 (enc S), IA E (b 2) 7 F]) (fun (r : Int32) (_ : Unit) => r = (mNow S F P G x1).1) (fun (_ : Unit) => (wcat [MJ b z w, IA E (b 1) 68 (enc S), IA E (b 2) 7 ((mNow S F P G x1).2)])) := by
  refine MI_intro RX5 (by decide) rfl (Nat.le_of_ble_eq_true rfl) ?_
  intro p e R s m args below meth c A Q hQ hC hD hW hA ls hl
  have hx := hC.1
  have hb := hC.2.1
  have hW : Wd E A s.heap (wcat [MJ b z w, IA E (b 1) 68 (enc S), IA E (b 2) 7 F]) s.heap [] := hW
  have hD : Dj A [b 0, b 1, b 2] := hD
  have hl : lv_has ls 2 [(0, .ref (b 0)), (1, .int x1)] := hl
  have hP := hV.p
  have hP1 := hV.p6
  have hG := hV.g
  have hG1 := hV.g10
  refine lv_iload_n hx hb dX5_now_0 rfl (lv_at hl 1 rfl) ?_
  by_cases k_1 : x1 = 0
  · refine lv_tableIn (off := 39) (tgt := 40) hx hb dX5_now_1 (by rw [k_1]; decide) (by rw [k_1]; decide) (by rw [k_1]; rfl) (by decide) ?_
    refine lv_aload_n hx hb dX5_now_40 rfl (lv_at hl 0 rfl) ?_
    refine r_get hC hW flX5_7 0 rfl rfl dX5_now_41 ?_
    refine lv_iconst (v := 0) hx hb dX5_now_44 (by decide) ?_
    refine r_iald hC hW 1 rfl 0 rfl (by omega) (by decide) dX5_now_45 ?_
    refine n_top (enc_0 S (by decide)) ?_
    exact r_iret hC hQ hD hW () (by rw [mNow, if_pos k_1]; first | done | rfl) (by rw [mNow, if_pos k_1]; first | done | rfl) rfl dX5_now_46
  by_cases k_2 : x1 = 1
  · refine lv_tableIn (off := 46) (tgt := 47) hx hb dX5_now_1 (by rw [k_2]; decide) (by rw [k_2]; decide) (by rw [k_2]; rfl) (by decide) ?_
    refine lv_aload_n hx hb dX5_now_47 rfl (lv_at hl 0 rfl) ?_
    refine r_get hC hW flX5_7 0 rfl rfl dX5_now_48 ?_
    refine lv_iconst (v := 1) hx hb dX5_now_51 (by decide) ?_
    refine r_iald hC hW 1 rfl 1 rfl (by omega) (by decide) dX5_now_52 ?_
    refine n_top (enc_0 S (by decide)) ?_
    exact r_iret hC hQ hD hW () (by rw [mNow, if_neg (by rw [k_2]; decide), if_pos k_2]; first | done | rfl) (by rw [mNow, if_neg (by rw [k_2]; decide), if_pos k_2]; first | done | rfl) rfl dX5_now_53
  by_cases k_3 : x1 = 2
  · refine lv_tableIn (off := 53) (tgt := 54) hx hb dX5_now_1 (by rw [k_3]; decide) (by rw [k_3]; decide) (by rw [k_3]; rfl) (by decide) ?_
    refine lv_aload_n hx hb dX5_now_54 rfl (lv_at hl 0 rfl) ?_
    refine lv_iconst (v := (-1)) hx hb dX5_now_55 (by decide) ?_
    refine r_callVi hC hD hW hA lkX5_60 (c_X5_withWhom l E (b 0) (b 1) (MF b z w) rfl S G hV.g hV.g10 (-1)) rfl ⟨by decide, by decide, by decide, by decide⟩ [0, 1] rfl rfl rfl (fun _ => rfl) hl.1 rfl rfl (Nat.le_of_ble_eq_true rfl) dX5_now_56 (fun r_4 _ H locs hr_4 hW => ?_)
    have hW : Wd E A s.heap (wcat [MJ b z w, IA E (b 1) 68 (enc S), IA E (b 2) 7 F]) H locs := hW
    have hr_4 : r_4 = (nI (mset (wth S (-1)) G)) := hr_4
    subst hr_4
    exact r_iret hC hQ hD hW () (by rw [mNow, if_neg (by rw [k_3]; decide), if_neg (by rw [k_3]; decide), if_pos k_3]; first | done | rfl) (by rw [mNow, if_neg (by rw [k_3]; decide), if_neg (by rw [k_3]; decide), if_pos k_3]; first | done | rfl) rfl dX5_now_59
  by_cases k_5 : x1 = 3
  · refine lv_tableIn (off := 59) (tgt := 60) hx hb dX5_now_1 (by rw [k_5]; decide) (by rw [k_5]; decide) (by rw [k_5]; rfl) (by decide) ?_
    refine lv_aload_n hx hb dX5_now_60 rfl (lv_at hl 0 rfl) ?_
    refine r_callVi hC hD hW hA lkX5_76 (c_X5_rights l E (b 0) (b 1) (MF b z w) rfl S G hV.g hV.g10) rfl ⟨by decide, by decide, by decide, by decide⟩ [0, 1] rfl rfl rfl (fun _ => rfl) hl.1 rfl rfl (Nat.le_of_ble_eq_true rfl) dX5_now_61 (fun r_6 _ H locs hr_6 hW => ?_)
    have hW : Wd E A s.heap (wcat [MJ b z w, IA E (b 1) 68 (enc S), IA E (b 2) 7 F]) H locs := hW
    have hr_6 : r_6 = (nI (mset (rgt S) G)) := hr_6
    subst hr_6
    exact r_iret hC hQ hD hW () (by rw [mNow, if_neg (by rw [k_5]; decide), if_neg (by rw [k_5]; decide), if_neg (by rw [k_5]; decide), if_pos k_5]; first | done | rfl) (by rw [mNow, if_neg (by rw [k_5]; decide), if_neg (by rw [k_5]; decide), if_neg (by rw [k_5]; decide), if_pos k_5]; first | done | rfl) rfl dX5_now_64
  by_cases k_7 : x1 = 4
  · refine lv_tableIn (off := 64) (tgt := 65) hx hb dX5_now_1 (by rw [k_7]; decide) (by rw [k_7]; decide) (by rw [k_7]; rfl) (by decide) ?_
    refine lv_aload_n hx hb dX5_now_65 rfl (lv_at hl 0 rfl) ?_
    refine r_callVi hC hD hW hA lkX5_80 (c_X5_living l E (b 0) (b 1) (MF b z w) rfl S P hV.p hV.p6) rfl ⟨by decide, by decide, by decide, by decide⟩ [0, 1] rfl rfl rfl (fun _ => rfl) hl.1 rfl rfl (Nat.le_of_ble_eq_true rfl) dX5_now_66 (fun r_8 _ H locs hr_8 hW => ?_)
    have hW : Wd E A s.heap (wcat [MJ b z w, IA E (b 1) 68 (enc S), IA E (b 2) 7 F]) H locs := hW
    have hr_8 : r_8 = (nI (mset (liv S) P)) := hr_8
    subst hr_8
    exact r_iret hC hQ hD hW () (by rw [mNow, if_neg (by rw [k_7]; decide), if_neg (by rw [k_7]; decide), if_neg (by rw [k_7]; decide), if_neg (by rw [k_7]; decide), if_pos k_7]; first | done | rfl) (by rw [mNow, if_neg (by rw [k_7]; decide), if_neg (by rw [k_7]; decide), if_neg (by rw [k_7]; decide), if_neg (by rw [k_7]; decide), if_pos k_7]; first | done | rfl) rfl dX5_now_69
  by_cases k_9 : x1 = 5
  · refine lv_tableIn (off := 69) (tgt := 70) hx hb dX5_now_1 (by rw [k_9]; decide) (by rw [k_9]; decide) (by rw [k_9]; rfl) (by decide) ?_
    refine lv_sipush (v := 10000) hx hb dX5_now_70 (by decide) ?_
    refine lv_aload_n hx hb dX5_now_73 rfl (lv_at hl 0 rfl) ?_
    refine r_callVi hC hD hW hA lkX5_83 (c_X5_contentOfAll l E (b 0) (b 1) (MF b z w) rfl S P hV.p hV.p6) rfl ⟨by decide, by decide, by decide, by decide⟩ [0, 1] rfl rfl rfl (fun _ => rfl) hl.1 rfl rfl (Nat.le_of_ble_eq_true rfl) dX5_now_74 (fun r_10 _ H locs hr_10 hW => ?_)
    have hW : Wd E A s.heap (wcat [MJ b z w, IA E (b 1) 68 (enc S), IA E (b 2) 7 F]) H locs := hW
    have hr_10 : r_10 = (smI (S 3) P) := hr_10
    subst hr_10
    refine n_iadd (v := (10000 + (smI (S 3) P))) hx hb dX5_now_77 rfl ?_
    exact r_iret hC hQ hD hW () (by rw [mNow, if_neg (by rw [k_9]; decide), if_neg (by rw [k_9]; decide), if_neg (by rw [k_9]; decide), if_neg (by rw [k_9]; decide), if_neg (by rw [k_9]; decide), if_pos k_9]; first | done | rfl) (by rw [mNow, if_neg (by rw [k_9]; decide), if_neg (by rw [k_9]; decide), if_neg (by rw [k_9]; decide), if_neg (by rw [k_9]; decide), if_neg (by rw [k_9]; decide), if_pos k_9]; first | done | rfl) rfl dX5_now_78
  have sw_1 : (x1 : Int32).toInt < 0 ∨ 5 < (x1 : Int32).toInt := by
    have := sw_ne (k := 0) (z := 0) (by decide) k_1
    have := sw_ne (k := 1) (z := 1) (by decide) k_2
    have := sw_ne (k := 2) (z := 2) (by decide) k_3
    have := sw_ne (k := 3) (z := 3) (by decide) k_5
    have := sw_ne (k := 4) (z := 4) (by decide) k_7
    have := sw_ne (k := 5) (z := 5) (by decide) k_9
    omega
  refine lv_tableOut (tgt := 79) hx hb dX5_now_1 sw_1 (by decide) ?_
  refine lv_aload_n hx hb dX5_now_79 rfl (lv_at hl 0 rfl) ?_
  refine r_ldc hC ctX5_44 dX5_now_80 ?_
  refine r_callVi hC hD hW hA lkX5_73 (c_X5_finds l E (b 0) (MF b z w) (b 2) rfl F (-1000000001) 0 (by decide) (by decide)) rfl ⟨by decide, by decide, by decide, by decide⟩ [0, 2] rfl rfl rfl (fun _ => rfl) hl.1 rfl rfl (Nat.le_of_ble_eq_true rfl) dX5_now_82 (fun r_11 _ H locs hr_11 hW => ?_)
  have hW : Wd E A s.heap (wcat [MJ b z w, IA E (b 1) 68 (enc S), IA E (b 2) 7 (upd F 0 (F 0 + 1))]) H locs := hW
  have hr_11 : r_11 = (-1000000001) := hr_11
  subst hr_11
  exact r_iret hC hQ hD hW () (by rw [mNow, if_neg k_1, if_neg k_2, if_neg k_3, if_neg k_5, if_neg k_7, if_neg k_9]; first | done | rfl) (by rw [mNow, if_neg k_1, if_neg k_2, if_neg k_3, if_neg k_5, if_neg k_7, if_neg k_9]; first | done | rfl) rfl dX5_now_85
set_option maxHeartbeats 4000000 in
set_option maxRecDepth 100000 in
theorem c_X5_person (l : Launch) (E : Ev) (b : Nat → Nat) (z : Nat → Int32) (w : Int64) (S : HS) (F : FT) (P : Nat) (G : Nat) (hV : HV S P G) (x1 : Int32) : MI l E yX5_person cX5_person 2 .int 2 46 0 0 [.ref (b 0), .int x1] (wcat [MJ b z w, IA E (b 1) 68 (enc S), IA E (b 2) 7 F]) (fun (r : Int32) (_ : Unit) => r = (mPerson S F P x1).1) (fun (_ : Unit) => (wcat [MJ b z w, IA E (b 1) 68 (enc ((mPerson S F P x1).2.1)), IA E (b 2) 7 ((mPerson S F P x1).2.2)])) := by
  refine MI_intro RX5 (by decide) rfl (Nat.le_of_ble_eq_true rfl) ?_
  intro p e R s m args below meth c A Q hQ hC hD hW hA ls hl
  have hx := hC.1
  have hb := hC.2.1
  have hW : Wd E A s.heap (wcat [MJ b z w, IA E (b 1) 68 (enc S), IA E (b 2) 7 F]) s.heap [] := hW
  have hD : Dj A [b 0, b 1, b 2] := hD
  have hl : lv_has ls 2 [(0, .ref (b 0)), (1, .int x1)] := hl
  have hP := hV.p
  have hP1 := hV.p6
  have hG := hV.g
  have hG1 := hV.g10
  refine lv_iload_n hx hb dX5_person_0 rfl (lv_at hl 1 rfl) ?_
  refine r_callSi hC hD hW hA lkX5_90 (c_X5_isKind l E x1) ⟨by decide, by decide, by decide, by decide⟩ rfl hl.1 rfl rfl (Nat.le_of_ble_eq_true rfl) dX5_person_1 (fun r_1 _ H locs hr_1 hW => ?_)
  have hW : Wd E A s.heap (wcat [MJ b z w, IA E (b 1) 68 (enc S), IA E (b 2) 7 F]) H locs := hW
  have hr_1 : bz (0 ≤ x1 ∧ x1 ≤ 5) r_1 := hr_1
  rcases hr_1 with ⟨rfl, b_2⟩ | ⟨rfl, b_2⟩
  · refine lv_if_ne (tgt := 14) hx hb dX5_person_4 (by decide) (fun c => absurd c (by decide)) (fun _ => ?_)
    refine lv_aload_n hx hb dX5_person_7 rfl (lv_at hl 0 rfl) ?_
    refine r_ldc hC ctX5_44 dX5_person_8 ?_
    refine r_callVi hC hD hW hA lkX5_73 (c_X5_finds l E (b 0) (MF b z w) (b 2) rfl F (-1000000001) 0 (by decide) (by decide)) rfl ⟨by decide, by decide, by decide, by decide⟩ [0, 2] rfl rfl rfl (fun _ => rfl) hl.1 rfl rfl (Nat.le_of_ble_eq_true rfl) dX5_person_10 (fun r_3 _ H locs hr_3 hW => ?_)
    have hW : Wd E A s.heap (wcat [MJ b z w, IA E (b 1) 68 (enc S), IA E (b 2) 7 (upd F 0 (F 0 + 1))]) H locs := hW
    have hr_3 : r_3 = (-1000000001) := hr_3
    subst hr_3
    exact r_iret hC hQ hD hW () (by rw [mPerson, cif_f b_2]; first | done | rfl) (by rw [mPerson, cif_f b_2]; first | done | rfl) rfl dX5_person_13
  · refine lv_if_ne (tgt := 14) hx hb dX5_person_4 (by decide) (fun _ => ?_) (fun c => absurd c (by decide))
    refine lv_aload_n hx hb dX5_person_14 rfl (lv_at hl 0 rfl) ?_
    refine r_get hC hW flX5_7 0 rfl rfl dX5_person_15 ?_
    refine lv_iconst (v := 2) hx hb dX5_person_18 (by decide) ?_
    refine r_iald hC hW 1 rfl 2 rfl (by omega) (by decide) dX5_person_19 ?_
    refine n_top (enc_0 S (by decide)) ?_
    refine n_top hV.p ?_
    refine lv_bipush (v := 6) hx hb dX5_person_20 (by decide) ?_
    refine lv_icmp_ne (tgt := 32) hx hb dX5_person_22 (by decide) (fun c_4 => ?_) (fun c_4 => ?_)
    · have c_4 : ¬ P = 6 := fun z_ => c_4 ((nI_eq (a := P) (b := 6) (by omega) (by omega)).mpr z_)
      refine lv_aload_n hx hb dX5_person_32 rfl (lv_at hl 0 rfl) ?_
      refine lv_iload_n hx hb dX5_person_33 rfl (lv_at hl 1 rfl) ?_
      refine lv_aload_n hx hb dX5_person_34 rfl (lv_at hl 0 rfl) ?_
      refine r_get hC hW flX5_7 0 rfl rfl dX5_person_35 ?_
      refine lv_iconst (v := 2) hx hb dX5_person_38 (by decide) ?_
      refine r_iald hC hW 1 rfl 2 rfl (by omega) (by decide) dX5_person_39 ?_
      refine n_top (enc_0 S (by decide)) ?_
      refine n_top hV.p ?_
      refine lv_iconst (v := 3) hx hb dX5_person_40 (by decide) ?_
      refine n_irem (v := (nI (P % 3))) hx hb dX5_person_41 (by decide) (pk_rem (a := P) (d := 3) (by omega) (by decide) (by decide)) ?_
      refine r_callVv hC hD hW hA lkX5_94 (c_X5_adds l E (b 0) (b 1) (MF b z w) rfl S P hP (by omega) x1 (nI (P % 3))) rfl ⟨by decide, by decide, by decide, by decide⟩ [0, 1] rfl rfl rfl (fun _ => rfl) hl.1 rfl rfl (Nat.le_of_ble_eq_true rfl) dX5_person_42 (fun _ H locs hr_5 hW => ?_)
      have hW : Wd E A s.heap (wcat [MJ b z w, IA E (b 1) 68 (enc (addP S P x1 (nI (P % 3)))), IA E (b 2) 7 F]) H locs := hW
      refine lv_aload_n hx hb dX5_person_45 rfl (lv_at hl 0 rfl) ?_
      refine r_get hC hW flX5_7 0 rfl rfl dX5_person_46 ?_
      refine lv_iconst (v := 2) hx hb dX5_person_49 (by decide) ?_
      refine r_iald hC hW 1 rfl 2 rfl (by omega) (by decide) dX5_person_50 ?_
      refine n_top (enc_0 (addP S P x1 (nI (P % 3))) (by decide)) ?_
      refine n_top (show _ = nI (P + 1) from rfl) ?_
      refine lv_iconst (v := 1) hx hb dX5_person_51 (by decide) ?_
      refine n_isub (v := (nI P)) hx hb dX5_person_52 (nI_pred P) ?_
      exact r_iret hC hQ hD hW () (by rw [mPerson, cif_t b_2, if_neg c_4]; first | done | rfl) (by rw [mPerson, cif_t b_2, if_neg c_4]; first | done | rfl) rfl dX5_person_53
    · have c_4 : P = 6 := (nI_eq (a := P) (b := 6) (by omega) (by omega)).mp c_4
      refine lv_aload_n hx hb dX5_person_25 rfl (lv_at hl 0 rfl) ?_
      refine r_ldc hC ctX5_93 dX5_person_26 ?_
      refine r_callVi hC hD hW hA lkX5_73 (c_X5_finds l E (b 0) (MF b z w) (b 2) rfl F (-1000000002) 1 (by decide) (by decide)) rfl ⟨by decide, by decide, by decide, by decide⟩ [0, 2] rfl rfl rfl (fun _ => rfl) hl.1 rfl rfl (Nat.le_of_ble_eq_true rfl) dX5_person_28 (fun r_6 _ H locs hr_6 hW => ?_)
      have hW : Wd E A s.heap (wcat [MJ b z w, IA E (b 1) 68 (enc S), IA E (b 2) 7 (upd F 1 (F 1 + 1))]) H locs := hW
      have hr_6 : r_6 = (-1000000002) := hr_6
      subst hr_6
      exact r_iret hC hQ hD hW () (by rw [mPerson, cif_t b_2, if_pos c_4]; first | done | rfl) (by rw [mPerson, cif_t b_2, if_pos c_4]; first | done | rfl) rfl dX5_person_31
set_option maxHeartbeats 4000000 in
set_option maxRecDepth 100000 in
theorem c_X5_of (l : Launch) (E : Ev) (b : Nat → Nat) (z : Nat → Int32) (w : Int64) (S : HS) (F : FT) (P : Nat) (G : Nat) (hV : HV S P G) (x1 : Int32) (x2 : Int32) : MI l E yX5_of cX5_of 3 .int 3 69 0 0 [.ref (b 0), .int x1, .int x2] (wcat [MJ b z w, IA E (b 1) 68 (enc S), IA E (b 2) 7 F]) (fun (r : Int32) (_ : Unit) => r = (mOf S F P G x1 x2).1) (fun (_ : Unit) => (wcat [MJ b z w, IA E (b 1) 68 (enc S), IA E (b 2) 7 ((mOf S F P G x1 x2).2)])) := by
  refine MI_intro RX5 (by decide) rfl (Nat.le_of_ble_eq_true rfl) ?_
  intro p e R s m args below meth c A Q hQ hC hD hW hA ls hl
  have hx := hC.1
  have hb := hC.2.1
  have hW : Wd E A s.heap (wcat [MJ b z w, IA E (b 1) 68 (enc S), IA E (b 2) 7 F]) s.heap [] := hW
  have hD : Dj A [b 0, b 1, b 2] := hD
  have hl : lv_has ls 3 [(0, .ref (b 0)), (1, .int x1), (2, .int x2)] := hl
  have hP := hV.p
  have hP1 := hV.p6
  have hG := hV.g
  have hG1 := hV.g10
  refine lv_aload_n hx hb dX5_of_0 rfl (lv_at hl 0 rfl) ?_
  refine lv_iload_n hx hb dX5_of_1 rfl (lv_at hl 1 rfl) ?_
  refine r_callVi hC hD hW hA lkX5_98 (c_X5_isOne l E (b 0) (b 1) (MF b z w) rfl S P hV.p hV.p6 x1) rfl ⟨by decide, by decide, by decide, by decide⟩ [0, 1] rfl rfl rfl (fun _ => rfl) hl.1 rfl rfl (Nat.le_of_ble_eq_true rfl) dX5_of_2 (fun r_1 _ H locs hr_1 hW => ?_)
  have hW : Wd E A s.heap (wcat [MJ b z w, IA E (b 1) 68 (enc S), IA E (b 2) 7 F]) H locs := hW
  have hr_1 : bz (∃ j, j < P ∧ x1 = nI j) r_1 := hr_1
  rcases hr_1 with ⟨rfl, b_2⟩ | ⟨rfl, b_2⟩
  · refine lv_if_eq (tgt := 17) hx hb dX5_of_5 (by decide) (fun _ => ?_) (fun c => absurd c (by decide))
    refine lv_aload_n hx hb dX5_of_17 rfl (lv_at hl 0 rfl) ?_
    refine r_ldc hC ctX5_44 dX5_of_18 ?_
    refine r_callVi hC hD hW hA lkX5_73 (c_X5_finds l E (b 0) (MF b z w) (b 2) rfl F (-1000000001) 0 (by decide) (by decide)) rfl ⟨by decide, by decide, by decide, by decide⟩ [0, 2] rfl rfl rfl (fun _ => rfl) hl.1 rfl rfl (Nat.le_of_ble_eq_true rfl) dX5_of_20 (fun r_3 _ H locs hr_3 hW => ?_)
    have hW : Wd E A s.heap (wcat [MJ b z w, IA E (b 1) 68 (enc S), IA E (b 2) 7 (upd F 0 (F 0 + 1))]) H locs := hW
    have hr_3 : r_3 = (-1000000001) := hr_3
    subst hr_3
    exact r_iret hC hQ hD hW () (by rw [mOf, cif_f b_2]; first | done | rfl) (by rw [mOf, cif_f b_2]; first | done | rfl) rfl dX5_of_23
  · have eb_2 := b_2
    obtain ⟨j, hj, rfl⟩ := eb_2
    refine lv_if_eq (tgt := 17) hx hb dX5_of_5 (by decide) (fun c => absurd c (by decide)) (fun _ => ?_)
    refine lv_iload_n hx hb dX5_of_8 rfl (lv_at hl 2 rfl) ?_
    refine lv_iconst (v := 0) hx hb dX5_of_9 (by decide) ?_
    refine lv_iconst (v := 5) hx hb dX5_of_10 (by decide) ?_
    refine r_callSi hC hD hW hA lkX5_45 (c_X5_in l E x2 0 5) ⟨by decide, by decide, by decide, by decide⟩ rfl hl.1 rfl rfl (Nat.le_of_ble_eq_true rfl) dX5_of_11 (fun r_4 _ H locs hr_4 hW => ?_)
    have hW : Wd E A s.heap (wcat [MJ b z w, IA E (b 1) 68 (enc S), IA E (b 2) 7 F]) H locs := hW
    have hr_4 : bz (0 ≤ x2 ∧ x2 ≤ 5) r_4 := hr_4
    rcases hr_4 with ⟨rfl, b_5⟩ | ⟨rfl, b_5⟩
    · refine lv_if_ne (tgt := 24) hx hb dX5_of_14 (by decide) (fun c => absurd c (by decide)) (fun _ => ?_)
      refine lv_aload_n hx hb dX5_of_17 rfl (lv_at hl 0 rfl) ?_
      refine r_ldc hC ctX5_44 dX5_of_18 ?_
      refine r_callVi hC hD hW hA lkX5_73 (c_X5_finds l E (b 0) (MF b z w) (b 2) rfl F (-1000000001) 0 (by decide) (by decide)) rfl ⟨by decide, by decide, by decide, by decide⟩ [0, 2] rfl rfl rfl (fun _ => rfl) hl.1 rfl rfl (Nat.le_of_ble_eq_true rfl) dX5_of_20 (fun r_6 _ H locs hr_6 hW => ?_)
      have hW : Wd E A s.heap (wcat [MJ b z w, IA E (b 1) 68 (enc S), IA E (b 2) 7 (upd F 0 (F 0 + 1))]) H locs := hW
      have hr_6 : r_6 = (-1000000001) := hr_6
      subst hr_6
      exact r_iret hC hQ hD hW () (by rw [mOf_out b_2 b_5]; first | done | rfl) (by rw [mOf_out b_2 b_5]; first | done | rfl) rfl dX5_of_23
    · refine lv_if_ne (tgt := 24) hx hb dX5_of_14 (by decide) (fun _ => ?_) (fun c => absurd c (by decide))
      refine lv_iload_n hx hb dX5_of_24 rfl (lv_at hl 2 rfl) ?_
      by_cases k_7 : x2 = 2
      · refine lv_tableIn (off := 31) (tgt := 56) hx hb dX5_of_25 (by rw [k_7]; decide) (by rw [k_7]; decide) (by rw [k_7]; rfl) (by decide) ?_
        subst k_7
        refine lv_sipush (v := 1000) hx hb dX5_of_56 (by decide) ?_
        refine lv_aload_n hx hb dX5_of_59 rfl (lv_at hl 0 rfl) ?_
        refine lv_iload_n hx hb dX5_of_60 rfl (lv_at hl 1 rfl) ?_
        refine lv_iconst (v := 2) hx hb dX5_of_61 (by decide) ?_
        refine r_callVi hC hD hW hA lkX5_57 (c_X5_its l E (b 0) (b 1) (MF b z w) rfl S j 2 (by omega) (by omega)) rfl ⟨by decide, by decide, by decide, by decide⟩ [0, 1] rfl rfl rfl (fun _ => rfl) hl.1 rfl rfl (Nat.le_of_ble_eq_true rfl) dX5_of_62 (fun r_8 _ H locs hr_8 hW => ?_)
        have hW : Wd E A s.heap (wcat [MJ b z w, IA E (b 1) 68 (enc S), IA E (b 2) 7 F]) H locs := hW
        have hr_8 : r_8 = (S 3 j) := hr_8
        subst hr_8
        refine n_iadd (v := (1000 + (S 3 j))) hx hb dX5_of_65 rfl ?_
        exact r_iret hC hQ hD hW () (by rw [mOf, cif_t b_2, if_neg (by decide), if_neg (by decide), if_pos rfl, ix_nI (n := j) (by omega)]; first | done | rfl) (by rw [mOf, cif_t b_2, if_neg (by decide), if_neg (by decide), if_pos rfl, ix_nI (n := j) (by omega)]; first | done | rfl) rfl dX5_of_66
      by_cases k_9 : x2 = 3
      · refine lv_tableIn (off := 58) (tgt := 83) hx hb dX5_of_25 (by rw [k_9]; decide) (by rw [k_9]; decide) (by rw [k_9]; rfl) (by decide) ?_
        subst k_9
        refine lv_aload_n hx hb dX5_of_83 rfl (lv_at hl 0 rfl) ?_
        refine lv_iload_n hx hb dX5_of_84 rfl (lv_at hl 1 rfl) ?_
        refine lv_iload_n hx hb dX5_of_85 rfl (lv_at hl 2 rfl) ?_
        refine r_callVi hC hD hW hA lkX5_57 (c_X5_its l E (b 0) (b 1) (MF b z w) rfl S j 3 (by omega) (by omega)) rfl ⟨by decide, by decide, by decide, by decide⟩ [0, 1] rfl rfl rfl (fun _ => rfl) hl.1 rfl rfl (Nat.le_of_ble_eq_true rfl) dX5_of_86 (fun r_10 _ H locs hr_10 hW => ?_)
        have hW : Wd E A s.heap (wcat [MJ b z w, IA E (b 1) 68 (enc S), IA E (b 2) 7 F]) H locs := hW
        have hr_10 : r_10 = (S 4 j) := hr_10
        subst hr_10
        exact r_iret hC hQ hD hW () (by rw [mOf, cif_t b_2, if_neg (by decide), if_neg (by decide), if_neg (by decide), if_pos rfl, ix_nI (n := j) (by omega)]; first | done | rfl) (by rw [mOf, cif_t b_2, if_neg (by decide), if_neg (by decide), if_neg (by decide), if_pos rfl, ix_nI (n := j) (by omega)]; first | done | rfl) rfl dX5_of_89
      by_cases k_11 : x2 = 4
      · refine lv_tableIn (off := 42) (tgt := 67) hx hb dX5_of_25 (by rw [k_11]; decide) (by rw [k_11]; decide) (by rw [k_11]; rfl) (by decide) ?_
        subst k_11
        refine lv_aload_n hx hb dX5_of_67 rfl (lv_at hl 0 rfl) ?_
        refine lv_iload_n hx hb dX5_of_68 rfl (lv_at hl 1 rfl) ?_
        refine r_callVi hC hD hW hA lkX5_60 (c_X5_withWhom l E (b 0) (b 1) (MF b z w) rfl S G hV.g hV.g10 (nI j)) rfl ⟨by decide, by decide, by decide, by decide⟩ [0, 1] rfl rfl rfl (fun _ => rfl) hl.1 rfl rfl (Nat.le_of_ble_eq_true rfl) dX5_of_69 (fun r_12 _ H locs hr_12 hW => ?_)
        have hW : Wd E A s.heap (wcat [MJ b z w, IA E (b 1) 68 (enc S), IA E (b 2) 7 F]) H locs := hW
        have hr_12 : r_12 = (nI (mset (wth S (nI j)) G)) := hr_12
        subst hr_12
        exact r_iret hC hQ hD hW () (by rw [mOf, cif_t b_2, if_neg (by decide), if_neg (by decide), if_neg (by decide), if_neg (by decide), if_pos rfl]; first | done | rfl) (by rw [mOf, cif_t b_2, if_neg (by decide), if_neg (by decide), if_neg (by decide), if_neg (by decide), if_pos rfl]; first | done | rfl) rfl dX5_of_72
      by_cases k_13 : x2 = 5
      · refine lv_tableIn (off := 48) (tgt := 73) hx hb dX5_of_25 (by rw [k_13]; decide) (by rw [k_13]; decide) (by rw [k_13]; rfl) (by decide) ?_
        subst k_13
        refine lv_sipush (v := 1000) hx hb dX5_of_73 (by decide) ?_
        refine lv_aload_n hx hb dX5_of_76 rfl (lv_at hl 0 rfl) ?_
        refine lv_iload_n hx hb dX5_of_77 rfl (lv_at hl 1 rfl) ?_
        refine r_callVi hC hD hW hA lkX5_101 (c_X5_minds l E (b 0) (b 1) (MF b z w) rfl S P G hV j (by omega)) rfl ⟨by decide, by decide, by decide, by decide⟩ [0, 1] rfl rfl rfl (fun _ => rfl) hl.1 rfl rfl (Nat.le_of_ble_eq_true rfl) dX5_of_78 (fun r_14 _ H locs hr_14 hW => ?_)
        have hW : Wd E A s.heap (wcat [MJ b z w, IA E (b 1) 68 (enc S), IA E (b 2) 7 F]) H locs := hW
        have hr_14 : r_14 = (mnd S j G) := hr_14
        subst hr_14
        refine n_iadd (v := (1000 + (mnd S j G))) hx hb dX5_of_81 rfl ?_
        exact r_iret hC hQ hD hW () (by rw [mOf, cif_t b_2, if_neg (by decide), if_neg (by decide), if_neg (by decide), if_neg (by decide), if_neg (by decide), if_pos rfl, ix_nI (n := j) (by omega)]; first | done | rfl) (by rw [mOf, cif_t b_2, if_neg (by decide), if_neg (by decide), if_neg (by decide), if_neg (by decide), if_neg (by decide), if_pos rfl, ix_nI (n := j) (by omega)]; first | done | rfl) rfl dX5_of_82
      have sw_25 : (x2 : Int32).toInt < 2 ∨ 5 < (x2 : Int32).toInt := by
        have := sw_ne (k := 2) (z := 2) (by decide) k_7
        have := sw_ne (k := 3) (z := 3) (by decide) k_9
        have := sw_ne (k := 4) (z := 4) (by decide) k_11
        have := sw_ne (k := 5) (z := 5) (by decide) k_13
        omega
      refine lv_tableOut (tgt := 83) hx hb dX5_of_25 sw_25 (by decide) ?_
      rcases two01 b_5 k_7 k_9 k_11 k_13 with rfl | rfl
      · refine lv_aload_n hx hb dX5_of_83 rfl (lv_at hl 0 rfl) ?_
        refine lv_iload_n hx hb dX5_of_84 rfl (lv_at hl 1 rfl) ?_
        refine lv_iload_n hx hb dX5_of_85 rfl (lv_at hl 2 rfl) ?_
        refine r_callVi hC hD hW hA lkX5_57 (c_X5_its l E (b 0) (b 1) (MF b z w) rfl S j 0 (by omega) (by omega)) rfl ⟨by decide, by decide, by decide, by decide⟩ [0, 1] rfl rfl rfl (fun _ => rfl) hl.1 rfl rfl (Nat.le_of_ble_eq_true rfl) dX5_of_86 (fun r_15 _ H locs hr_15 hW => ?_)
        have hW : Wd E A s.heap (wcat [MJ b z w, IA E (b 1) 68 (enc S), IA E (b 2) 7 F]) H locs := hW
        have hr_15 : r_15 = (S 1 j) := hr_15
        subst hr_15
        exact r_iret hC hQ hD hW () (by rw [mOf, cif_t b_2, if_pos rfl, ix_nI (n := j) (by omega)]; first | done | rfl) (by rw [mOf, cif_t b_2, if_pos rfl, ix_nI (n := j) (by omega)]; first | done | rfl) rfl dX5_of_89
      · refine lv_aload_n hx hb dX5_of_83 rfl (lv_at hl 0 rfl) ?_
        refine lv_iload_n hx hb dX5_of_84 rfl (lv_at hl 1 rfl) ?_
        refine lv_iload_n hx hb dX5_of_85 rfl (lv_at hl 2 rfl) ?_
        refine r_callVi hC hD hW hA lkX5_57 (c_X5_its l E (b 0) (b 1) (MF b z w) rfl S j 1 (by omega) (by omega)) rfl ⟨by decide, by decide, by decide, by decide⟩ [0, 1] rfl rfl rfl (fun _ => rfl) hl.1 rfl rfl (Nat.le_of_ble_eq_true rfl) dX5_of_86 (fun r_16 _ H locs hr_16 hW => ?_)
        have hW : Wd E A s.heap (wcat [MJ b z w, IA E (b 1) 68 (enc S), IA E (b 2) 7 F]) H locs := hW
        have hr_16 : r_16 = (S 2 j) := hr_16
        subst hr_16
        exact r_iret hC hQ hD hW () (by rw [mOf, cif_t b_2, if_neg (by decide), if_pos rfl, ix_nI (n := j) (by omega)]; first | done | rfl) (by rw [mOf, cif_t b_2, if_neg (by decide), if_pos rfl, ix_nI (n := j) (by omega)]; first | done | rfl) rfl dX5_of_89
set_option maxHeartbeats 4000000 in
set_option maxRecDepth 100000 in
theorem c_X5_isPart (l : Launch) (E : Ev) (x1 : Int32) (x2 : Int32) : MI l E yX5_isPart cX5_isPart 2 .boolean 1 22 0 0 [.int x1, .int x2] [] (fun (r : Int32) (_ : Unit) => bz (setP x1 x2) r) (fun (_ : Unit) => []) := by
  refine MI_intro RX5 (by decide) rfl (Nat.le_of_ble_eq_true rfl) ?_
  intro p e R s m args below meth c A Q hQ hC hD hW hA ls hl
  have hx := hC.1
  have hb := hC.2.1
  have hW : Wd E A s.heap [] s.heap [] := hW
  have hl : lv_has ls 2 [(0, .int x1), (1, .int x2)] := hl
  refine lv_iload_n hx hb dX5_isPart_0 rfl (lv_at hl 0 rfl) ?_
  by_cases k_1 : x1 = 1
  · refine lv_lookup (off := 27) (tgt := 28) hx hb dX5_isPart_1 (by decide) (by rw [k_1]; decide) (by decide) ?_
    refine lv_iload_n hx hb dX5_isPart_28 rfl (lv_at hl 1 rfl) ?_
    refine lv_iconst (v := 0) hx hb dX5_isPart_29 (by decide) ?_
    refine lv_iconst (v := 2) hx hb dX5_isPart_30 (by decide) ?_
    refine r_callSi hC hD hW hA lkX5_45 (c_X5_in l E x2 0 2) ⟨by decide, by decide, by decide, by decide⟩ rfl hl.1 rfl rfl (Nat.le_of_ble_eq_true rfl) dX5_isPart_31 (fun r_2 _ H locs hr_2 hW => ?_)
    have hr_2 : bz (0 ≤ x2 ∧ x2 ≤ 2) r_2 := hr_2
    exact r_zret hC hQ hD hW (bz_01 hr_2) () (bz_iff ⟨fun z => Or.inl ⟨k_1, z⟩, fun z => by rcases z with ⟨y, z⟩ | ⟨y, z⟩ | ⟨y, z⟩ <;> first | exact z | (rw [k_1] at y; exact absurd y (by decide))⟩ hr_2) rfl rfl dX5_isPart_34
  by_cases k_4 : x1 = 2
  · refine lv_lookup (off := 34) (tgt := 35) hx hb dX5_isPart_1 (by decide) (by rw [k_4]; decide) (by decide) ?_
    refine lv_iload_n hx hb dX5_isPart_35 rfl (lv_at hl 1 rfl) ?_
    refine lv_sipush (v := (-999)) hx hb dX5_isPart_36 (by decide) ?_
    refine lv_sipush (v := 999) hx hb dX5_isPart_39 (by decide) ?_
    refine r_callSi hC hD hW hA lkX5_45 (c_X5_in l E x2 (-999) 999) ⟨by decide, by decide, by decide, by decide⟩ rfl hl.1 rfl rfl (Nat.le_of_ble_eq_true rfl) dX5_isPart_42 (fun r_5 _ H locs hr_5 hW => ?_)
    have hr_5 : bz ((-999) ≤ x2 ∧ x2 ≤ 999) r_5 := hr_5
    exact r_zret hC hQ hD hW (bz_01 hr_5) () (bz_iff ⟨fun z => Or.inr (Or.inl ⟨k_4, z⟩), fun z => by rcases z with ⟨y, z⟩ | ⟨y, z⟩ | ⟨y, z⟩ <;> first | exact z | (rw [k_4] at y; exact absurd y (by decide))⟩ hr_5) rfl rfl dX5_isPart_45
  refine lv_lookup (off := 45) (tgt := 46) hx hb dX5_isPart_1 (by decide) (by rw [lv_osw k_1 (by decide), lv_osw k_4 (by decide)]; rfl) (by decide) ?_
  refine lv_iload_n hx hb dX5_isPart_46 rfl (lv_at hl 0 rfl) ?_
  refine lv_iconst (v := 3) hx hb dX5_isPart_47 (by decide) ?_
  refine lv_icmp_ne (tgt := 64) hx hb dX5_isPart_48 (by decide) (fun c_7 => ?_) (fun c_7 => ?_)
  · refine lv_iconst (v := 0) hx hb dX5_isPart_64 (by decide) ?_
    exact r_zret hC hQ hD hW (by decide) () (bz_f (fun z => by rcases z with ⟨y, z⟩ | ⟨y, z⟩ | ⟨y, z⟩ <;> first | exact k_1 y | exact k_4 y | (exact c_7 y))) rfl rfl dX5_isPart_65
  · refine lv_iload_n hx hb dX5_isPart_51 rfl (lv_at hl 1 rfl) ?_
    refine lv_iconst (v := 0) hx hb dX5_isPart_52 (by decide) ?_
    refine lv_iconst (v := 1) hx hb dX5_isPart_53 (by decide) ?_
    refine r_callSi hC hD hW hA lkX5_45 (c_X5_in l E x2 0 1) ⟨by decide, by decide, by decide, by decide⟩ rfl hl.1 rfl rfl (Nat.le_of_ble_eq_true rfl) dX5_isPart_54 (fun r_8 _ H locs hr_8 hW => ?_)
    have hr_8 : bz (0 ≤ x2 ∧ x2 ≤ 1) r_8 := hr_8
    rcases hr_8 with ⟨rfl, b_9⟩ | ⟨rfl, b_9⟩
    · refine lv_if_eq (tgt := 64) hx hb dX5_isPart_57 (by decide) (fun _ => ?_) (fun c => absurd c (by decide))
      refine lv_iconst (v := 0) hx hb dX5_isPart_64 (by decide) ?_
      exact r_zret hC hQ hD hW (by decide) () (bz_f (fun z => by rcases z with ⟨y, z⟩ | ⟨y, z⟩ | ⟨y, z⟩ <;> first | exact k_1 y | exact k_4 y | (exact b_9 z))) rfl rfl dX5_isPart_65
    · refine lv_if_eq (tgt := 64) hx hb dX5_isPart_57 (by decide) (fun c => absurd c (by decide)) (fun _ => ?_)
      refine lv_iconst (v := 1) hx hb dX5_isPart_60 (by decide) ?_
      refine lv_goto (tgt := 65) hx hb dX5_isPart_61 (by decide) ?_
      exact r_zret hC hQ hD hW (by decide) () (bz_t (Or.inr (Or.inr ⟨c_7, b_9⟩))) rfl rfl dX5_isPart_65
set_option maxHeartbeats 4000000 in
set_option maxRecDepth 100000 in
theorem c_X5_set (l : Launch) (E : Ev) (b : Nat → Nat) (z : Nat → Int32) (w : Int64) (S : HS) (F : FT) (P : Nat) (G : Nat) (hV : HV S P G) (x1 : Int32) (x2 : Int32) (x3 : Int32) : MI l E yX5_set cX5_set 4 .int 2 43 0 0 [.ref (b 0), .int x1, .int x2, .int x3] (wcat [MJ b z w, IA E (b 1) 68 (enc S), IA E (b 2) 7 F]) (fun (r : Int32) (_ : Unit) => r = (mSet S F P x1 x2 x3).1) (fun (_ : Unit) => (wcat [MJ b z w, IA E (b 1) 68 (enc ((mSet S F P x1 x2 x3).2.1)), IA E (b 2) 7 ((mSet S F P x1 x2 x3).2.2)])) := by
  refine MI_intro RX5 (by decide) rfl (Nat.le_of_ble_eq_true rfl) ?_
  intro p e R s m args below meth c A Q hQ hC hD hW hA ls hl
  have hx := hC.1
  have hb := hC.2.1
  have hW : Wd E A s.heap (wcat [MJ b z w, IA E (b 1) 68 (enc S), IA E (b 2) 7 F]) s.heap [] := hW
  have hD : Dj A [b 0, b 1, b 2] := hD
  have hl : lv_has ls 4 [(0, .ref (b 0)), (1, .int x1), (2, .int x2), (3, .int x3)] := hl
  have hP := hV.p
  have hP1 := hV.p6
  have hG := hV.g
  have hG1 := hV.g10
  refine lv_aload_n hx hb dX5_set_0 rfl (lv_at hl 0 rfl) ?_
  refine lv_iload_n hx hb dX5_set_1 rfl (lv_at hl 1 rfl) ?_
  refine r_callVi hC hD hW hA lkX5_98 (c_X5_isOne l E (b 0) (b 1) (MF b z w) rfl S P hV.p hV.p6 x1) rfl ⟨by decide, by decide, by decide, by decide⟩ [0, 1] rfl rfl rfl (fun _ => rfl) hl.1 rfl rfl (Nat.le_of_ble_eq_true rfl) dX5_set_2 (fun r_1 _ H locs hr_1 hW => ?_)
  have hW : Wd E A s.heap (wcat [MJ b z w, IA E (b 1) 68 (enc S), IA E (b 2) 7 F]) H locs := hW
  have hr_1 : bz (∃ j, j < P ∧ x1 = nI j) r_1 := hr_1
  rcases hr_1 with ⟨rfl, b_2⟩ | ⟨rfl, b_2⟩
  · refine lv_if_eq (tgt := 31) hx hb dX5_set_5 (by decide) (fun _ => ?_) (fun c => absurd c (by decide))
    refine lv_aload_n hx hb dX5_set_31 rfl (lv_at hl 0 rfl) ?_
    refine r_ldc hC ctX5_44 dX5_set_32 ?_
    refine r_callVi hC hD hW hA lkX5_73 (c_X5_finds l E (b 0) (MF b z w) (b 2) rfl F (-1000000001) 0 (by decide) (by decide)) rfl ⟨by decide, by decide, by decide, by decide⟩ [0, 2] rfl rfl rfl (fun _ => rfl) hl.1 rfl rfl (Nat.le_of_ble_eq_true rfl) dX5_set_34 (fun r_3 _ H locs hr_3 hW => ?_)
    have hW : Wd E A s.heap (wcat [MJ b z w, IA E (b 1) 68 (enc S), IA E (b 2) 7 (upd F 0 (F 0 + 1))]) H locs := hW
    have hr_3 : r_3 = (-1000000001) := hr_3
    subst hr_3
    exact r_iret hC hQ hD hW () (by rw [mSet, cif_f (fun z_ => b_2 z_.1)]; first | done | rfl) (by rw [mSet, cif_f (fun z_ => b_2 z_.1)]; first | done | rfl) rfl dX5_set_37
  · have eb_2 := b_2
    obtain ⟨j, hj, rfl⟩ := eb_2
    refine lv_if_eq (tgt := 31) hx hb dX5_set_5 (by decide) (fun c => absurd c (by decide)) (fun _ => ?_)
    refine lv_iload_n hx hb dX5_set_8 rfl (lv_at hl 2 rfl) ?_
    refine lv_iload_n hx hb dX5_set_9 rfl (lv_at hl 3 rfl) ?_
    refine r_callSi hC hD hW hA lkX5_104 (c_X5_isPart l E x2 x3) ⟨by decide, by decide, by decide, by decide⟩ rfl hl.1 rfl rfl (Nat.le_of_ble_eq_true rfl) dX5_set_10 (fun r_4 _ H locs hr_4 hW => ?_)
    have hW : Wd E A s.heap (wcat [MJ b z w, IA E (b 1) 68 (enc S), IA E (b 2) 7 F]) H locs := hW
    have hr_4 : bz (setP x2 x3) r_4 := hr_4
    rcases hr_4 with ⟨rfl, b_5⟩ | ⟨rfl, b_5⟩
    · refine lv_if_eq (tgt := 31) hx hb dX5_set_13 (by decide) (fun _ => ?_) (fun c => absurd c (by decide))
      refine lv_aload_n hx hb dX5_set_31 rfl (lv_at hl 0 rfl) ?_
      refine r_ldc hC ctX5_44 dX5_set_32 ?_
      refine r_callVi hC hD hW hA lkX5_73 (c_X5_finds l E (b 0) (MF b z w) (b 2) rfl F (-1000000001) 0 (by decide) (by decide)) rfl ⟨by decide, by decide, by decide, by decide⟩ [0, 2] rfl rfl rfl (fun _ => rfl) hl.1 rfl rfl (Nat.le_of_ble_eq_true rfl) dX5_set_34 (fun r_6 _ H locs hr_6 hW => ?_)
      have hW : Wd E A s.heap (wcat [MJ b z w, IA E (b 1) 68 (enc S), IA E (b 2) 7 (upd F 0 (F 0 + 1))]) H locs := hW
      have hr_6 : r_6 = (-1000000001) := hr_6
      subst hr_6
      exact r_iret hC hQ hD hW () (by rw [mSet, cif_f (fun z_ => b_5 z_.2)]; first | done | rfl) (by rw [mSet, cif_f (fun z_ => b_5 z_.2)]; first | done | rfl) rfl dX5_set_37
    · have ey := b_5
      rcases ey with ⟨rfl, _⟩ | ⟨rfl, _⟩ | ⟨rfl, _⟩
      · refine lv_if_eq (tgt := 31) hx hb dX5_set_13 (by decide) (fun c => absurd c (by decide)) (fun _ => ?_)
        refine lv_aload_n hx hb dX5_set_16 rfl (lv_at hl 0 rfl) ?_
        refine lv_iconst (v := 4) hx hb dX5_set_17 (by decide) ?_
        refine lv_iconst (v := 4) hx hb dX5_set_18 (by decide) ?_
        refine lv_iload_n hx hb dX5_set_19 rfl (lv_at hl 1 rfl) ?_
        refine n_imul (v := (nI (4 * j))) hx hb dX5_set_20 (pk_mul 4 j) ?_
        refine n_iadd (v := (nI (4 + 4 * j))) hx hb dX5_set_21 (nI_add 4 (4 * j)) ?_
        refine lv_iload_n hx hb dX5_set_22 rfl (lv_at hl 2 rfl) ?_
        refine n_iadd (v := (nI (4 + 4 * j + 1))) hx hb dX5_set_23 (nI_add (4 + 4 * j) 1) ?_
        refine lv_iload_n hx hb dX5_set_24 rfl (lv_at hl 3 rfl) ?_
        refine r_callVi hC hD hW hA lkX5_70 (c_X5_becomes l E (b 0) (b 1) (MF b z w) rfl S (4 + 4 * j + 1) 2 j x3 (by omega) (plc_p (p := j) (j := 1) (by omega) (by decide))) rfl ⟨by decide, by decide, by decide, by decide⟩ [0, 1] rfl rfl rfl (fun _ => rfl) hl.1 rfl rfl (Nat.le_of_ble_eq_true rfl) dX5_set_25 (fun r_7 _ H locs hr_7 hW => ?_)
        have hW : Wd E A s.heap (wcat [MJ b z w, IA E (b 1) 68 (enc (st S 2 j x3)), IA E (b 2) 7 F]) H locs := hW
        have hr_7 : r_7 = (S 2 j) := hr_7
        subst hr_7
        refine lv_goto (tgt := 37) hx hb dX5_set_28 (by decide) ?_
        exact r_iret hC hQ hD hW () (by rw [mSet, cif_t ⟨b_2, b_5⟩, ix_nI (n := j) (by omega), ix1]; first | done | rfl) (by rw [mSet, cif_t ⟨b_2, b_5⟩, ix_nI (n := j) (by omega), ix1]; first | done | rfl) rfl dX5_set_37
      · refine lv_if_eq (tgt := 31) hx hb dX5_set_13 (by decide) (fun c => absurd c (by decide)) (fun _ => ?_)
        refine lv_aload_n hx hb dX5_set_16 rfl (lv_at hl 0 rfl) ?_
        refine lv_iconst (v := 4) hx hb dX5_set_17 (by decide) ?_
        refine lv_iconst (v := 4) hx hb dX5_set_18 (by decide) ?_
        refine lv_iload_n hx hb dX5_set_19 rfl (lv_at hl 1 rfl) ?_
        refine n_imul (v := (nI (4 * j))) hx hb dX5_set_20 (pk_mul 4 j) ?_
        refine n_iadd (v := (nI (4 + 4 * j))) hx hb dX5_set_21 (nI_add 4 (4 * j)) ?_
        refine lv_iload_n hx hb dX5_set_22 rfl (lv_at hl 2 rfl) ?_
        refine n_iadd (v := (nI (4 + 4 * j + 2))) hx hb dX5_set_23 (nI_add (4 + 4 * j) 2) ?_
        refine lv_iload_n hx hb dX5_set_24 rfl (lv_at hl 3 rfl) ?_
        refine r_callVi hC hD hW hA lkX5_70 (c_X5_becomes l E (b 0) (b 1) (MF b z w) rfl S (4 + 4 * j + 2) 3 j x3 (by omega) (plc_p (p := j) (j := 2) (by omega) (by decide))) rfl ⟨by decide, by decide, by decide, by decide⟩ [0, 1] rfl rfl rfl (fun _ => rfl) hl.1 rfl rfl (Nat.le_of_ble_eq_true rfl) dX5_set_25 (fun r_8 _ H locs hr_8 hW => ?_)
        have hW : Wd E A s.heap (wcat [MJ b z w, IA E (b 1) 68 (enc (st S 3 j x3)), IA E (b 2) 7 F]) H locs := hW
        have hr_8 : r_8 = (S 3 j) := hr_8
        subst hr_8
        refine lv_goto (tgt := 37) hx hb dX5_set_28 (by decide) ?_
        exact r_iret hC hQ hD hW () (by rw [mSet, cif_t ⟨b_2, b_5⟩, ix_nI (n := j) (by omega), ix2]; first | done | rfl) (by rw [mSet, cif_t ⟨b_2, b_5⟩, ix_nI (n := j) (by omega), ix2]; first | done | rfl) rfl dX5_set_37
      · refine lv_if_eq (tgt := 31) hx hb dX5_set_13 (by decide) (fun c => absurd c (by decide)) (fun _ => ?_)
        refine lv_aload_n hx hb dX5_set_16 rfl (lv_at hl 0 rfl) ?_
        refine lv_iconst (v := 4) hx hb dX5_set_17 (by decide) ?_
        refine lv_iconst (v := 4) hx hb dX5_set_18 (by decide) ?_
        refine lv_iload_n hx hb dX5_set_19 rfl (lv_at hl 1 rfl) ?_
        refine n_imul (v := (nI (4 * j))) hx hb dX5_set_20 (pk_mul 4 j) ?_
        refine n_iadd (v := (nI (4 + 4 * j))) hx hb dX5_set_21 (nI_add 4 (4 * j)) ?_
        refine lv_iload_n hx hb dX5_set_22 rfl (lv_at hl 2 rfl) ?_
        refine n_iadd (v := (nI (4 + 4 * j + 3))) hx hb dX5_set_23 (nI_add (4 + 4 * j) 3) ?_
        refine lv_iload_n hx hb dX5_set_24 rfl (lv_at hl 3 rfl) ?_
        refine r_callVi hC hD hW hA lkX5_70 (c_X5_becomes l E (b 0) (b 1) (MF b z w) rfl S (4 + 4 * j + 3) 4 j x3 (by omega) (plc_p (p := j) (j := 3) (by omega) (by decide))) rfl ⟨by decide, by decide, by decide, by decide⟩ [0, 1] rfl rfl rfl (fun _ => rfl) hl.1 rfl rfl (Nat.le_of_ble_eq_true rfl) dX5_set_25 (fun r_9 _ H locs hr_9 hW => ?_)
        have hW : Wd E A s.heap (wcat [MJ b z w, IA E (b 1) 68 (enc (st S 4 j x3)), IA E (b 2) 7 F]) H locs := hW
        have hr_9 : r_9 = (S 4 j) := hr_9
        subst hr_9
        refine lv_goto (tgt := 37) hx hb dX5_set_28 (by decide) ?_
        exact r_iret hC hQ hD hW () (by rw [mSet, cif_t ⟨b_2, b_5⟩, ix_nI (n := j) (by omega), ix3]; first | done | rfl) (by rw [mSet, cif_t ⟨b_2, b_5⟩, ix_nI (n := j) (by omega), ix3]; first | done | rfl) rfl dX5_set_37
set_option maxHeartbeats 4000000 in
set_option maxRecDepth 100000 in
theorem c_X5_would (l : Launch) (E : Ev) (b : Nat → Nat) (z : Nat → Int32) (w : Int64) (S : HS) (F : FT) (P : Nat) (G : Nat) (hV : HV S P G) (x1 : Int32) (x2 : Int32) (x3 : Int32) : MI l E yX5_would cX5_would 5 .int 3 69 0 0 [.ref (b 0), .int x1, .int x2, .int x3] (wcat [MJ b z w, IA E (b 1) 68 (enc S), IA E (b 2) 7 F]) (fun (r : Int32) (_ : Unit) => r = (mWould S F P G x1 x2 x3).1) (fun (_ : Unit) => (wcat [MJ b z w, IA E (b 1) 68 (enc S), IA E (b 2) 7 ((mWould S F P G x1 x2 x3).2)])) := by
  refine MI_intro RX5 (by decide) rfl (Nat.le_of_ble_eq_true rfl) ?_
  intro p e R s m args below meth c A Q hQ hC hD hW hA ls hl
  have hx := hC.1
  have hb := hC.2.1
  have hW : Wd E A s.heap (wcat [MJ b z w, IA E (b 1) 68 (enc S), IA E (b 2) 7 F]) s.heap [] := hW
  have hD : Dj A [b 0, b 1, b 2] := hD
  have hl : lv_has ls 5 [(0, .ref (b 0)), (1, .int x1), (2, .int x2), (3, .int x3)] := hl
  have hP := hV.p
  have hP1 := hV.p6
  have hG := hV.g
  have hG1 := hV.g10
  refine lv_aload_n hx hb dX5_would_0 rfl (lv_at hl 0 rfl) ?_
  refine lv_iload_n hx hb dX5_would_1 rfl (lv_at hl 1 rfl) ?_
  refine r_callVi hC hD hW hA lkX5_98 (c_X5_isOne l E (b 0) (b 1) (MF b z w) rfl S P hV.p hV.p6 x1) rfl ⟨by decide, by decide, by decide, by decide⟩ [0, 1] rfl rfl rfl (fun _ => rfl) hl.1 rfl rfl (Nat.le_of_ble_eq_true rfl) dX5_would_2 (fun r_1 _ H locs hr_1 hW => ?_)
  have hW : Wd E A s.heap (wcat [MJ b z w, IA E (b 1) 68 (enc S), IA E (b 2) 7 F]) H locs := hW
  have hr_1 : bz (∃ j, j < P ∧ x1 = nI j) r_1 := hr_1
  rcases hr_1 with ⟨rfl, b_2⟩ | ⟨rfl, b_2⟩
  · refine lv_if_eq (tgt := 25) hx hb dX5_would_5 (by decide) (fun _ => ?_) (fun c => absurd c (by decide))
    refine lv_aload_n hx hb dX5_would_25 rfl (lv_at hl 0 rfl) ?_
    refine r_ldc hC ctX5_44 dX5_would_26 ?_
    refine r_callVi hC hD hW hA lkX5_73 (c_X5_finds l E (b 0) (MF b z w) (b 2) rfl F (-1000000001) 0 (by decide) (by decide)) rfl ⟨by decide, by decide, by decide, by decide⟩ [0, 2] rfl rfl rfl (fun _ => rfl) hl.1 rfl rfl (Nat.le_of_ble_eq_true rfl) dX5_would_28 (fun r_3 _ H locs hr_3 hW => ?_)
    have hW : Wd E A s.heap (wcat [MJ b z w, IA E (b 1) 68 (enc S), IA E (b 2) 7 (upd F 0 (F 0 + 1))]) H locs := hW
    have hr_3 : r_3 = (-1000000001) := hr_3
    subst hr_3
    exact r_iret hC hQ hD hW () (by rw [mWould, cif_f (fun z_ => b_2 z_.1)]; first | done | rfl) (by rw [mWould, cif_f (fun z_ => b_2 z_.1)]; first | done | rfl) rfl dX5_would_31
  · have eb_2 := b_2
    obtain ⟨j, hj, rfl⟩ := eb_2
    refine lv_if_eq (tgt := 25) hx hb dX5_would_5 (by decide) (fun c => absurd c (by decide)) (fun _ => ?_)
    refine lv_aload_n hx hb dX5_would_8 rfl (lv_at hl 0 rfl) ?_
    refine lv_iload_n hx hb dX5_would_9 rfl (lv_at hl 2 rfl) ?_
    refine r_callVi hC hD hW hA lkX5_108 (c_X5_isGarment l E (b 0) (b 1) (MF b z w) rfl S G hV.g hV.g10 x2) rfl ⟨by decide, by decide, by decide, by decide⟩ [0, 1] rfl rfl rfl (fun _ => rfl) hl.1 rfl rfl (Nat.le_of_ble_eq_true rfl) dX5_would_10 (fun r_4 _ H locs hr_4 hW => ?_)
    have hW : Wd E A s.heap (wcat [MJ b z w, IA E (b 1) 68 (enc S), IA E (b 2) 7 F]) H locs := hW
    have hr_4 : bz (∃ j, j < G ∧ x2 = nI j) r_4 := hr_4
    rcases hr_4 with ⟨rfl, b_5⟩ | ⟨rfl, b_5⟩
    · refine lv_if_eq (tgt := 25) hx hb dX5_would_13 (by decide) (fun _ => ?_) (fun c => absurd c (by decide))
      refine lv_aload_n hx hb dX5_would_25 rfl (lv_at hl 0 rfl) ?_
      refine r_ldc hC ctX5_44 dX5_would_26 ?_
      refine r_callVi hC hD hW hA lkX5_73 (c_X5_finds l E (b 0) (MF b z w) (b 2) rfl F (-1000000001) 0 (by decide) (by decide)) rfl ⟨by decide, by decide, by decide, by decide⟩ [0, 2] rfl rfl rfl (fun _ => rfl) hl.1 rfl rfl (Nat.le_of_ble_eq_true rfl) dX5_would_28 (fun r_6 _ H locs hr_6 hW => ?_)
      have hW : Wd E A s.heap (wcat [MJ b z w, IA E (b 1) 68 (enc S), IA E (b 2) 7 (upd F 0 (F 0 + 1))]) H locs := hW
      have hr_6 : r_6 = (-1000000001) := hr_6
      subst hr_6
      exact r_iret hC hQ hD hW () (by rw [mWould, cif_f (fun z_ => b_5 z_.2.1)]; first | done | rfl) (by rw [mWould, cif_f (fun z_ => b_5 z_.2.1)]; first | done | rfl) rfl dX5_would_31
    · have eb_5 := b_5
      obtain ⟨g, hg, rfl⟩ := eb_5
      refine lv_if_eq (tgt := 25) hx hb dX5_would_13 (by decide) (fun c => absurd c (by decide)) (fun _ => ?_)
      refine lv_iload_n hx hb dX5_would_16 rfl (lv_at hl 3 rfl) ?_
      refine lv_iconst (v := 0) hx hb dX5_would_17 (by decide) ?_
      refine lv_iconst (v := 1) hx hb dX5_would_18 (by decide) ?_
      refine r_callSi hC hD hW hA lkX5_45 (c_X5_in l E x3 0 1) ⟨by decide, by decide, by decide, by decide⟩ rfl hl.1 rfl rfl (Nat.le_of_ble_eq_true rfl) dX5_would_19 (fun r_7 _ H locs hr_7 hW => ?_)
      have hW : Wd E A s.heap (wcat [MJ b z w, IA E (b 1) 68 (enc S), IA E (b 2) 7 F]) H locs := hW
      have hr_7 : bz (0 ≤ x3 ∧ x3 ≤ 1) r_7 := hr_7
      rcases hr_7 with ⟨rfl, b_8⟩ | ⟨rfl, b_8⟩
      · refine lv_if_ne (tgt := 32) hx hb dX5_would_22 (by decide) (fun c => absurd c (by decide)) (fun _ => ?_)
        refine lv_aload_n hx hb dX5_would_25 rfl (lv_at hl 0 rfl) ?_
        refine r_ldc hC ctX5_44 dX5_would_26 ?_
        refine r_callVi hC hD hW hA lkX5_73 (c_X5_finds l E (b 0) (MF b z w) (b 2) rfl F (-1000000001) 0 (by decide) (by decide)) rfl ⟨by decide, by decide, by decide, by decide⟩ [0, 2] rfl rfl rfl (fun _ => rfl) hl.1 rfl rfl (Nat.le_of_ble_eq_true rfl) dX5_would_28 (fun r_9 _ H locs hr_9 hW => ?_)
        have hW : Wd E A s.heap (wcat [MJ b z w, IA E (b 1) 68 (enc S), IA E (b 2) 7 (upd F 0 (F 0 + 1))]) H locs := hW
        have hr_9 : r_9 = (-1000000001) := hr_9
        subst hr_9
        exact r_iret hC hQ hD hW () (by rw [mWould, cif_f (fun z_ => b_8 z_.2.2)]; first | done | rfl) (by rw [mWould, cif_f (fun z_ => b_8 z_.2.2)]; first | done | rfl) rfl dX5_would_31
      · have eb_8 := rng (k := 1) (by decide) b_8
        obtain ⟨n, hn, rfl⟩ := eb_8
        refine lv_if_ne (tgt := 32) hx hb dX5_would_22 (by decide) (fun _ => ?_) (fun c => absurd c (by decide))
        refine lv_iload_n hx hb dX5_would_32 rfl (lv_at hl 3 rfl) ?_
        refine lv_if_ne (tgt := 45) hx hb dX5_would_33 (by decide) (fun c_10 => ?_) (fun c_10 => ?_)
        · have c_10 : ¬ n = 0 := fun z_ => c_10 ((nI_eq (a := n) (b := 0) (by omega) (by omega)).mpr z_)
          refine lv_aload_n hx hb dX5_would_45 rfl (lv_at hl 0 rfl) ?_
          refine lv_iload_n hx hb dX5_would_46 rfl (lv_at hl 1 rfl) ?_
          refine lv_iload_n hx hb dX5_would_47 rfl (lv_at hl 2 rfl) ?_
          refine r_callVi hC hD hW hA lkX5_114 (c_X5_isClaiming l E (b 0) (b 1) (MF b z w) rfl S P G hV j g (by omega) (by omega)) rfl ⟨by decide, by decide, by decide, by decide⟩ [0, 1] rfl rfl rfl (fun _ => rfl) hl.1 rfl rfl (Nat.le_of_ble_eq_true rfl) dX5_would_48 (fun r_11 _ H locs hr_11 hW => ?_)
          have hW : Wd E A s.heap (wcat [MJ b z w, IA E (b 1) 68 (enc S), IA E (b 2) 7 F]) H locs := hW
          have hr_11 : bz (clm S j g G) r_11 := hr_11
          rcases hr_11 with ⟨rfl, b_12⟩ | ⟨rfl, b_12⟩
          · refine lv_istore (lv' := [(4, .int 0), (0, .ref (b 0)), (1, .int (nI j)), (2, .int (nI g)), (3, .int (nI n))]) hx hb dX5_would_51 hl (by decide) rfl (fun ls hl => ?_)
            refine lv_iload hx hb dX5_would_53 (lv_at hl 0 rfl) ?_
            refine lv_if_eq (tgt := 62) hx hb dX5_would_55 (by decide) (fun _ => ?_) (fun c => absurd c (by decide))
            refine lv_iconst (v := 0) hx hb dX5_would_62 (by decide) ?_
            exact r_iret hC hQ hD hW () (by rw [mWould, cif_t ⟨b_2, b_5, b_8⟩, if_neg (show ¬ nI n = 0 from fun z_ => c_10 ((nI_eq (a := n) (b := 0) (by omega) (by decide)).mp z_)), ix_nI (n := j) (by omega), ix_nI (n := g) (by omega), b01_f b_12]; first | done | rfl) (by rw [mWould, cif_t ⟨b_2, b_5, b_8⟩, if_neg (show ¬ nI n = 0 from fun z_ => c_10 ((nI_eq (a := n) (b := 0) (by omega) (by decide)).mp z_)), ix_nI (n := j) (by omega), ix_nI (n := g) (by omega), b01_f b_12]; first | done | rfl) rfl dX5_would_63
          · refine lv_istore (lv' := [(4, .int 1), (0, .ref (b 0)), (1, .int (nI j)), (2, .int (nI g)), (3, .int (nI n))]) hx hb dX5_would_51 hl (by decide) rfl (fun ls hl => ?_)
            refine lv_iload hx hb dX5_would_53 (lv_at hl 0 rfl) ?_
            refine lv_if_eq (tgt := 62) hx hb dX5_would_55 (by decide) (fun c => absurd c (by decide)) (fun _ => ?_)
            refine lv_iconst (v := 1) hx hb dX5_would_58 (by decide) ?_
            refine lv_goto (tgt := 63) hx hb dX5_would_59 (by decide) ?_
            exact r_iret hC hQ hD hW () (by rw [mWould, cif_t ⟨b_2, b_5, b_8⟩, if_neg (show ¬ nI n = 0 from fun z_ => c_10 ((nI_eq (a := n) (b := 0) (by omega) (by decide)).mp z_)), ix_nI (n := j) (by omega), ix_nI (n := g) (by omega), b01_t b_12]; first | done | rfl) (by rw [mWould, cif_t ⟨b_2, b_5, b_8⟩, if_neg (show ¬ nI n = 0 from fun z_ => c_10 ((nI_eq (a := n) (b := 0) (by omega) (by decide)).mp z_)), ix_nI (n := j) (by omega), ix_nI (n := g) (by omega), b01_t b_12]; first | done | rfl) rfl dX5_would_63
        · have c_10 : n = 0 := (nI_eq (a := n) (b := 0) (by omega) (by omega)).mp c_10
          refine lv_aload_n hx hb dX5_would_36 rfl (lv_at hl 0 rfl) ?_
          refine lv_iload_n hx hb dX5_would_37 rfl (lv_at hl 1 rfl) ?_
          refine lv_iload_n hx hb dX5_would_38 rfl (lv_at hl 2 rfl) ?_
          refine r_callVi hC hD hW hA lkX5_111 (c_X5_isGiving l E (b 0) (b 1) (MF b z w) rfl S P G hV j g (by omega) (by omega)) rfl ⟨by decide, by decide, by decide, by decide⟩ [0, 1] rfl rfl rfl (fun _ => rfl) hl.1 rfl rfl (Nat.le_of_ble_eq_true rfl) dX5_would_39 (fun r_13 _ H locs hr_13 hW => ?_)
          have hW : Wd E A s.heap (wcat [MJ b z w, IA E (b 1) 68 (enc S), IA E (b 2) 7 F]) H locs := hW
          have hr_13 : bz (giv S j g) r_13 := hr_13
          rcases hr_13 with ⟨rfl, b_14⟩ | ⟨rfl, b_14⟩
          · refine lv_goto (tgt := 51) hx hb dX5_would_42 (by decide) ?_
            refine lv_istore (lv' := [(4, .int 0), (0, .ref (b 0)), (1, .int (nI j)), (2, .int (nI g)), (3, .int (nI n))]) hx hb dX5_would_51 hl (by decide) rfl (fun ls hl => ?_)
            refine lv_iload hx hb dX5_would_53 (lv_at hl 0 rfl) ?_
            refine lv_if_eq (tgt := 62) hx hb dX5_would_55 (by decide) (fun _ => ?_) (fun c => absurd c (by decide))
            refine lv_iconst (v := 0) hx hb dX5_would_62 (by decide) ?_
            exact r_iret hC hQ hD hW () (by rw [mWould, cif_t ⟨b_2, b_5, b_8⟩, if_pos (show nI n = 0 from congrArg nI c_10), ix_nI (n := j) (by omega), ix_nI (n := g) (by omega), b01_f b_14]; first | done | rfl) (by rw [mWould, cif_t ⟨b_2, b_5, b_8⟩, if_pos (show nI n = 0 from congrArg nI c_10), ix_nI (n := j) (by omega), ix_nI (n := g) (by omega), b01_f b_14]; first | done | rfl) rfl dX5_would_63
          · refine lv_goto (tgt := 51) hx hb dX5_would_42 (by decide) ?_
            refine lv_istore (lv' := [(4, .int 1), (0, .ref (b 0)), (1, .int (nI j)), (2, .int (nI g)), (3, .int (nI n))]) hx hb dX5_would_51 hl (by decide) rfl (fun ls hl => ?_)
            refine lv_iload hx hb dX5_would_53 (lv_at hl 0 rfl) ?_
            refine lv_if_eq (tgt := 62) hx hb dX5_would_55 (by decide) (fun c => absurd c (by decide)) (fun _ => ?_)
            refine lv_iconst (v := 1) hx hb dX5_would_58 (by decide) ?_
            refine lv_goto (tgt := 63) hx hb dX5_would_59 (by decide) ?_
            exact r_iret hC hQ hD hW () (by rw [mWould, cif_t ⟨b_2, b_5, b_8⟩, if_pos (show nI n = 0 from congrArg nI c_10), ix_nI (n := j) (by omega), ix_nI (n := g) (by omega), b01_t b_14]; first | done | rfl) (by rw [mWould, cif_t ⟨b_2, b_5, b_8⟩, if_pos (show nI n = 0 from congrArg nI c_10), ix_nI (n := j) (by omega), ix_nI (n := g) (by omega), b01_t b_14]; first | done | rfl) rfl dX5_would_63
set_option maxHeartbeats 4000000 in
set_option maxRecDepth 100000 in
theorem c_X5_turn (l : Launch) (E : Ev) (b : Nat → Nat) (z : Nat → Int32) (w : Int64) (S : HS) (F : FT) (P : Nat) (G : Nat) (hV : HV S P G) (x1 : Int32) (x2 : Int32) : MI l E yX5_turn cX5_turn 3 .int 2 43 0 0 [.ref (b 0), .int x1, .int x2] (wcat [MJ b z w, IA E (b 1) 68 (enc S), IA E (b 2) 7 F]) (fun (r : Int32) (_ : Unit) => r = (mTurn S F P x1 x2).1) (fun (_ : Unit) => (wcat [MJ b z w, IA E (b 1) 68 (enc ((mTurn S F P x1 x2).2.1)), IA E (b 2) 7 ((mTurn S F P x1 x2).2.2)])) := by
  refine MI_intro RX5 (by decide) rfl (Nat.le_of_ble_eq_true rfl) ?_
  intro p e R s m args below meth c A Q hQ hC hD hW hA ls hl
  have hx := hC.1
  have hb := hC.2.1
  have hW : Wd E A s.heap (wcat [MJ b z w, IA E (b 1) 68 (enc S), IA E (b 2) 7 F]) s.heap [] := hW
  have hD : Dj A [b 0, b 1, b 2] := hD
  have hl : lv_has ls 3 [(0, .ref (b 0)), (1, .int x1), (2, .int x2)] := hl
  have hP := hV.p
  have hP1 := hV.p6
  have hG := hV.g
  have hG1 := hV.g10
  refine lv_aload_n hx hb dX5_turn_0 rfl (lv_at hl 0 rfl) ?_
  refine lv_iload_n hx hb dX5_turn_1 rfl (lv_at hl 1 rfl) ?_
  refine r_callVi hC hD hW hA lkX5_98 (c_X5_isOne l E (b 0) (b 1) (MF b z w) rfl S P hV.p hV.p6 x1) rfl ⟨by decide, by decide, by decide, by decide⟩ [0, 1] rfl rfl rfl (fun _ => rfl) hl.1 rfl rfl (Nat.le_of_ble_eq_true rfl) dX5_turn_2 (fun r_1 _ H locs hr_1 hW => ?_)
  have hW : Wd E A s.heap (wcat [MJ b z w, IA E (b 1) 68 (enc S), IA E (b 2) 7 F]) H locs := hW
  have hr_1 : bz (∃ j, j < P ∧ x1 = nI j) r_1 := hr_1
  rcases hr_1 with ⟨rfl, b_2⟩ | ⟨rfl, b_2⟩
  · refine lv_if_eq (tgt := 28) hx hb dX5_turn_5 (by decide) (fun _ => ?_) (fun c => absurd c (by decide))
    refine lv_aload_n hx hb dX5_turn_28 rfl (lv_at hl 0 rfl) ?_
    refine r_ldc hC ctX5_44 dX5_turn_29 ?_
    refine r_callVi hC hD hW hA lkX5_73 (c_X5_finds l E (b 0) (MF b z w) (b 2) rfl F (-1000000001) 0 (by decide) (by decide)) rfl ⟨by decide, by decide, by decide, by decide⟩ [0, 2] rfl rfl rfl (fun _ => rfl) hl.1 rfl rfl (Nat.le_of_ble_eq_true rfl) dX5_turn_31 (fun r_3 _ H locs hr_3 hW => ?_)
    have hW : Wd E A s.heap (wcat [MJ b z w, IA E (b 1) 68 (enc S), IA E (b 2) 7 (upd F 0 (F 0 + 1))]) H locs := hW
    have hr_3 : r_3 = (-1000000001) := hr_3
    subst hr_3
    exact r_iret hC hQ hD hW () (by rw [mTurn, cif_f (fun z_ => b_2 z_.1)]; first | done | rfl) (by rw [mTurn, cif_f (fun z_ => b_2 z_.1)]; first | done | rfl) rfl dX5_turn_34
  · have eb_2 := b_2
    obtain ⟨j, hj, rfl⟩ := eb_2
    refine lv_if_eq (tgt := 28) hx hb dX5_turn_5 (by decide) (fun c => absurd c (by decide)) (fun _ => ?_)
    refine lv_iload_n hx hb dX5_turn_8 rfl (lv_at hl 2 rfl) ?_
    refine r_callSi hC hD hW hA lkX5_90 (c_X5_isKind l E x2) ⟨by decide, by decide, by decide, by decide⟩ rfl hl.1 rfl rfl (Nat.le_of_ble_eq_true rfl) dX5_turn_9 (fun r_4 _ H locs hr_4 hW => ?_)
    have hW : Wd E A s.heap (wcat [MJ b z w, IA E (b 1) 68 (enc S), IA E (b 2) 7 F]) H locs := hW
    have hr_4 : bz (0 ≤ x2 ∧ x2 ≤ 5) r_4 := hr_4
    rcases hr_4 with ⟨rfl, b_5⟩ | ⟨rfl, b_5⟩
    · refine lv_if_eq (tgt := 28) hx hb dX5_turn_12 (by decide) (fun _ => ?_) (fun c => absurd c (by decide))
      refine lv_aload_n hx hb dX5_turn_28 rfl (lv_at hl 0 rfl) ?_
      refine r_ldc hC ctX5_44 dX5_turn_29 ?_
      refine r_callVi hC hD hW hA lkX5_73 (c_X5_finds l E (b 0) (MF b z w) (b 2) rfl F (-1000000001) 0 (by decide) (by decide)) rfl ⟨by decide, by decide, by decide, by decide⟩ [0, 2] rfl rfl rfl (fun _ => rfl) hl.1 rfl rfl (Nat.le_of_ble_eq_true rfl) dX5_turn_31 (fun r_6 _ H locs hr_6 hW => ?_)
      have hW : Wd E A s.heap (wcat [MJ b z w, IA E (b 1) 68 (enc S), IA E (b 2) 7 (upd F 0 (F 0 + 1))]) H locs := hW
      have hr_6 : r_6 = (-1000000001) := hr_6
      subst hr_6
      exact r_iret hC hQ hD hW () (by rw [mTurn, cif_f (fun z_ => b_5 z_.2)]; first | done | rfl) (by rw [mTurn, cif_f (fun z_ => b_5 z_.2)]; first | done | rfl) rfl dX5_turn_34
    · refine lv_if_eq (tgt := 28) hx hb dX5_turn_12 (by decide) (fun c => absurd c (by decide)) (fun _ => ?_)
      refine lv_aload_n hx hb dX5_turn_15 rfl (lv_at hl 0 rfl) ?_
      refine lv_iconst (v := 4) hx hb dX5_turn_16 (by decide) ?_
      refine lv_iconst (v := 4) hx hb dX5_turn_17 (by decide) ?_
      refine lv_iload_n hx hb dX5_turn_18 rfl (lv_at hl 1 rfl) ?_
      refine n_imul (v := (nI (4 * j))) hx hb dX5_turn_19 (pk_mul 4 j) ?_
      refine n_iadd (v := (nI (4 + 4 * j))) hx hb dX5_turn_20 (nI_add 4 (4 * j)) ?_
      refine lv_iload_n hx hb dX5_turn_21 rfl (lv_at hl 2 rfl) ?_
      refine r_callVi hC hD hW hA lkX5_70 (c_X5_becomes l E (b 0) (b 1) (MF b z w) rfl S (4 + 4 * j) 1 j x2 (by omega) (plc_p (p := j) (j := 0) (by omega) (by decide))) rfl ⟨by decide, by decide, by decide, by decide⟩ [0, 1] rfl rfl rfl (fun _ => rfl) hl.1 rfl rfl (Nat.le_of_ble_eq_true rfl) dX5_turn_22 (fun r_7 _ H locs hr_7 hW => ?_)
      have hW : Wd E A s.heap (wcat [MJ b z w, IA E (b 1) 68 (enc (st S 1 j x2)), IA E (b 2) 7 F]) H locs := hW
      have hr_7 : r_7 = (S 1 j) := hr_7
      subst hr_7
      refine lv_goto (tgt := 34) hx hb dX5_turn_25 (by decide) ?_
      exact r_iret hC hQ hD hW () (by rw [mTurn, cif_t ⟨b_2, b_5⟩, ix_nI (n := j) (by omega)]; first | done | rfl) (by rw [mTurn, cif_t ⟨b_2, b_5⟩, ix_nI (n := j) (by omega)]; first | done | rfl) rfl dX5_turn_34
set_option maxHeartbeats 4000000 in
set_option maxRecDepth 100000 in
theorem c_X5_as (l : Launch) (E : Ev) (b : Nat → Nat) (z : Nat → Int32) (w : Int64) (S : HS) (F : FT) (P : Nat) (G : Nat) (hV : HV S P G) (x1 : Int32) (x2 : Int32) : MI l E yX5_as cX5_as 5 .int 2 43 0 0 [.ref (b 0), .int x1, .int x2] (wcat [MJ b z w, IA E (b 1) 68 (enc S), IA E (b 2) 7 F]) (fun (r : Int32) (_ : Unit) => r = (mAs S F P x1 x2).1) (fun (_ : Unit) => (wcat [MJ b z w, IA E (b 1) 68 (enc S), IA E (b 2) 7 ((mAs S F P x1 x2).2)])) := by
  refine MI_intro RX5 (by decide) rfl (Nat.le_of_ble_eq_true rfl) ?_
  intro p e R s m args below meth c A Q hQ hC hD hW hA ls hl
  have hx := hC.1
  have hb := hC.2.1
  have hW : Wd E A s.heap (wcat [MJ b z w, IA E (b 1) 68 (enc S), IA E (b 2) 7 F]) s.heap [] := hW
  have hD : Dj A [b 0, b 1, b 2] := hD
  have hl : lv_has ls 5 [(0, .ref (b 0)), (1, .int x1), (2, .int x2)] := hl
  have hP := hV.p
  have hP1 := hV.p6
  have hG := hV.g
  have hG1 := hV.g10
  refine lv_aload_n hx hb dX5_as_0 rfl (lv_at hl 0 rfl) ?_
  refine lv_iload_n hx hb dX5_as_1 rfl (lv_at hl 1 rfl) ?_
  refine r_callVi hC hD hW hA lkX5_98 (c_X5_isOne l E (b 0) (b 1) (MF b z w) rfl S P hV.p hV.p6 x1) rfl ⟨by decide, by decide, by decide, by decide⟩ [0, 1] rfl rfl rfl (fun _ => rfl) hl.1 rfl rfl (Nat.le_of_ble_eq_true rfl) dX5_as_2 (fun r_1 _ H locs hr_1 hW => ?_)
  have hW : Wd E A s.heap (wcat [MJ b z w, IA E (b 1) 68 (enc S), IA E (b 2) 7 F]) H locs := hW
  have hr_1 : bz (∃ j, j < P ∧ x1 = nI j) r_1 := hr_1
  rcases hr_1 with ⟨rfl, b_2⟩ | ⟨rfl, b_2⟩
  · refine lv_if_eq (tgt := 15) hx hb dX5_as_5 (by decide) (fun _ => ?_) (fun c => absurd c (by decide))
    refine lv_aload_n hx hb dX5_as_15 rfl (lv_at hl 0 rfl) ?_
    refine r_ldc hC ctX5_44 dX5_as_16 ?_
    refine r_callVi hC hD hW hA lkX5_73 (c_X5_finds l E (b 0) (MF b z w) (b 2) rfl F (-1000000001) 0 (by decide) (by decide)) rfl ⟨by decide, by decide, by decide, by decide⟩ [0, 2] rfl rfl rfl (fun _ => rfl) hl.1 rfl rfl (Nat.le_of_ble_eq_true rfl) dX5_as_18 (fun r_3 _ H locs hr_3 hW => ?_)
    have hW : Wd E A s.heap (wcat [MJ b z w, IA E (b 1) 68 (enc S), IA E (b 2) 7 (upd F 0 (F 0 + 1))]) H locs := hW
    have hr_3 : r_3 = (-1000000001) := hr_3
    subst hr_3
    exact r_iret hC hQ hD hW () (by rw [mAs, cif_f (fun z_ => b_2 z_.1)]; first | done | rfl) (by rw [mAs, cif_f (fun z_ => b_2 z_.1)]; first | done | rfl) rfl dX5_as_21
  · have eb_2 := b_2
    obtain ⟨j, hj, rfl⟩ := eb_2
    refine lv_if_eq (tgt := 15) hx hb dX5_as_5 (by decide) (fun c => absurd c (by decide)) (fun _ => ?_)
    refine lv_iload_n hx hb dX5_as_8 rfl (lv_at hl 2 rfl) ?_
    refine r_callSi hC hD hW hA lkX5_90 (c_X5_isKind l E x2) ⟨by decide, by decide, by decide, by decide⟩ rfl hl.1 rfl rfl (Nat.le_of_ble_eq_true rfl) dX5_as_9 (fun r_4 _ H locs hr_4 hW => ?_)
    have hW : Wd E A s.heap (wcat [MJ b z w, IA E (b 1) 68 (enc S), IA E (b 2) 7 F]) H locs := hW
    have hr_4 : bz (0 ≤ x2 ∧ x2 ≤ 5) r_4 := hr_4
    rcases hr_4 with ⟨rfl, b_5⟩ | ⟨rfl, b_5⟩
    · refine lv_if_ne (tgt := 22) hx hb dX5_as_12 (by decide) (fun c => absurd c (by decide)) (fun _ => ?_)
      refine lv_aload_n hx hb dX5_as_15 rfl (lv_at hl 0 rfl) ?_
      refine r_ldc hC ctX5_44 dX5_as_16 ?_
      refine r_callVi hC hD hW hA lkX5_73 (c_X5_finds l E (b 0) (MF b z w) (b 2) rfl F (-1000000001) 0 (by decide) (by decide)) rfl ⟨by decide, by decide, by decide, by decide⟩ [0, 2] rfl rfl rfl (fun _ => rfl) hl.1 rfl rfl (Nat.le_of_ble_eq_true rfl) dX5_as_18 (fun r_6 _ H locs hr_6 hW => ?_)
      have hW : Wd E A s.heap (wcat [MJ b z w, IA E (b 1) 68 (enc S), IA E (b 2) 7 (upd F 0 (F 0 + 1))]) H locs := hW
      have hr_6 : r_6 = (-1000000001) := hr_6
      subst hr_6
      exact r_iret hC hQ hD hW () (by rw [mAs, cif_f (fun z_ => b_5 z_.2)]; first | done | rfl) (by rw [mAs, cif_f (fun z_ => b_5 z_.2)]; first | done | rfl) rfl dX5_as_21
    · refine lv_if_ne (tgt := 22) hx hb dX5_as_12 (by decide) (fun _ => ?_) (fun c => absurd c (by decide))
      refine lv_aload_n hx hb dX5_as_22 rfl (lv_at hl 0 rfl) ?_
      refine lv_iload_n hx hb dX5_as_23 rfl (lv_at hl 1 rfl) ?_
      refine lv_iconst (v := 0) hx hb dX5_as_24 (by decide) ?_
      refine r_callVi hC hD hW hA lkX5_57 (c_X5_its l E (b 0) (b 1) (MF b z w) rfl S j 0 (by omega) (by omega)) rfl ⟨by decide, by decide, by decide, by decide⟩ [0, 1] rfl rfl rfl (fun _ => rfl) hl.1 rfl rfl (Nat.le_of_ble_eq_true rfl) dX5_as_25 (fun r_7 _ H locs hr_7 hW => ?_)
      have hW : Wd E A s.heap (wcat [MJ b z w, IA E (b 1) 68 (enc S), IA E (b 2) 7 F]) H locs := hW
      have hr_7 : r_7 = (S 1 j) := hr_7
      subst hr_7
      refine lv_istore_n (lv' := [(3, .int (S 1 j)), (0, .ref (b 0)), (1, .int (nI j)), (2, .int x2)]) hx hb dX5_as_28 rfl hl (by decide) rfl (fun ls hl => ?_)
      refine lv_iload_n hx hb dX5_as_29 rfl (lv_at hl 3 rfl) ?_
      refine lv_if_eq (tgt := 58) hx hb dX5_as_30 (by decide) (fun c_8 => ?_) (fun c_8 => ?_)
      · refine lv_iconst (v := 1) hx hb dX5_as_58 (by decide) ?_
        refine lv_goto (tgt := 63) hx hb dX5_as_59 (by decide) ?_
        refine lv_istore (lv' := [(4, .int 1), (3, .int (S 1 j)), (0, .ref (b 0)), (1, .int (nI j)), (2, .int x2)]) hx hb dX5_as_63 hl (by decide) rfl (fun ls hl => ?_)
        refine lv_iload hx hb dX5_as_65 (lv_at hl 0 rfl) ?_
        refine lv_if_eq (tgt := 83) hx hb dX5_as_67 (by decide) (fun c => absurd c (by decide)) (fun _ => ?_)
        refine lv_sipush (v := 1000) hx hb dX5_as_70 (by decide) ?_
        refine lv_aload_n hx hb dX5_as_73 rfl (lv_at hl 2 rfl) ?_
        refine lv_iload_n hx hb dX5_as_74 rfl (lv_at hl 3 rfl) ?_
        refine lv_iconst (v := 2) hx hb dX5_as_75 (by decide) ?_
        refine r_callVi hC hD hW hA lkX5_57 (c_X5_its l E (b 0) (b 1) (MF b z w) rfl S j 2 (by omega) (by omega)) rfl ⟨by decide, by decide, by decide, by decide⟩ [0, 1] rfl rfl rfl (fun _ => rfl) hl.1 rfl rfl (Nat.le_of_ble_eq_true rfl) dX5_as_76 (fun r_9 _ H locs hr_9 hW => ?_)
        have hW : Wd E A s.heap (wcat [MJ b z w, IA E (b 1) 68 (enc S), IA E (b 2) 7 F]) H locs := hW
        have hr_9 : r_9 = (S 3 j) := hr_9
        subst hr_9
        refine n_iadd (v := (1000 + (S 3 j))) hx hb dX5_as_79 rfl ?_
        refine lv_goto (tgt := 89) hx hb dX5_as_80 (by decide) ?_
        exact r_iret hC hQ hD hW () (by rw [mAs, cif_t ⟨b_2, b_5⟩, ix_nI (n := j) (by omega), cif_t (show asP (S 1 j) x2 from Or.inl c_8)]; first | done | rfl) (by rw [mAs, cif_t ⟨b_2, b_5⟩, ix_nI (n := j) (by omega), cif_t (show asP (S 1 j) x2 from Or.inl c_8)]; first | done | rfl) rfl dX5_as_89
      · refine lv_iload_n hx hb dX5_as_33 rfl (lv_at hl 3 rfl) ?_
        refine lv_iload_n hx hb dX5_as_34 rfl (lv_at hl 0 rfl) ?_
        refine lv_icmp_eq (tgt := 58) hx hb dX5_as_35 (by decide) (fun c_10 => ?_) (fun c_10 => ?_)
        · refine lv_iconst (v := 1) hx hb dX5_as_58 (by decide) ?_
          refine lv_goto (tgt := 63) hx hb dX5_as_59 (by decide) ?_
          refine lv_istore (lv' := [(4, .int 1), (3, .int (S 1 j)), (0, .ref (b 0)), (1, .int (nI j)), (2, .int x2)]) hx hb dX5_as_63 hl (by decide) rfl (fun ls hl => ?_)
          refine lv_iload hx hb dX5_as_65 (lv_at hl 0 rfl) ?_
          refine lv_if_eq (tgt := 83) hx hb dX5_as_67 (by decide) (fun c => absurd c (by decide)) (fun _ => ?_)
          refine lv_sipush (v := 1000) hx hb dX5_as_70 (by decide) ?_
          refine lv_aload_n hx hb dX5_as_73 rfl (lv_at hl 2 rfl) ?_
          refine lv_iload_n hx hb dX5_as_74 rfl (lv_at hl 3 rfl) ?_
          refine lv_iconst (v := 2) hx hb dX5_as_75 (by decide) ?_
          refine r_callVi hC hD hW hA lkX5_57 (c_X5_its l E (b 0) (b 1) (MF b z w) rfl S j 2 (by omega) (by omega)) rfl ⟨by decide, by decide, by decide, by decide⟩ [0, 1] rfl rfl rfl (fun _ => rfl) hl.1 rfl rfl (Nat.le_of_ble_eq_true rfl) dX5_as_76 (fun r_11 _ H locs hr_11 hW => ?_)
          have hW : Wd E A s.heap (wcat [MJ b z w, IA E (b 1) 68 (enc S), IA E (b 2) 7 F]) H locs := hW
          have hr_11 : r_11 = (S 3 j) := hr_11
          subst hr_11
          refine n_iadd (v := (1000 + (S 3 j))) hx hb dX5_as_79 rfl ?_
          refine lv_goto (tgt := 89) hx hb dX5_as_80 (by decide) ?_
          exact r_iret hC hQ hD hW () (by rw [mAs, cif_t ⟨b_2, b_5⟩, ix_nI (n := j) (by omega), cif_t (show asP (S 1 j) x2 from Or.inr (Or.inl c_10))]; first | done | rfl) (by rw [mAs, cif_t ⟨b_2, b_5⟩, ix_nI (n := j) (by omega), cif_t (show asP (S 1 j) x2 from Or.inr (Or.inl c_10))]; first | done | rfl) rfl dX5_as_89
        · refine lv_iload_n hx hb dX5_as_38 rfl (lv_at hl 3 rfl) ?_
          refine lv_iconst (v := 1) hx hb dX5_as_39 (by decide) ?_
          refine lv_icmp_ne (tgt := 48) hx hb dX5_as_40 (by decide) (fun c_12 => ?_) (fun c_12 => ?_)
          · refine lv_iload_n hx hb dX5_as_48 rfl (lv_at hl 3 rfl) ?_
            refine lv_iconst (v := 2) hx hb dX5_as_49 (by decide) ?_
            refine lv_icmp_ne (tgt := 62) hx hb dX5_as_50 (by decide) (fun c_13 => ?_) (fun c_13 => ?_)
            · refine lv_iconst (v := 0) hx hb dX5_as_62 (by decide) ?_
              refine lv_istore (lv' := [(4, .int 0), (3, .int (S 1 j)), (0, .ref (b 0)), (1, .int (nI j)), (2, .int x2)]) hx hb dX5_as_63 hl (by decide) rfl (fun ls hl => ?_)
              refine lv_iload hx hb dX5_as_65 (lv_at hl 0 rfl) ?_
              refine lv_if_eq (tgt := 83) hx hb dX5_as_67 (by decide) (fun _ => ?_) (fun c => absurd c (by decide))
              refine lv_aload_n hx hb dX5_as_83 rfl (lv_at hl 2 rfl) ?_
              refine r_ldc hC ctX5_117 dX5_as_84 ?_
              refine r_callVi hC hD hW hA lkX5_73 (c_X5_finds l E (b 0) (MF b z w) (b 2) rfl F (-1000000003) 2 (by decide) (by decide)) rfl ⟨by decide, by decide, by decide, by decide⟩ [0, 2] rfl rfl rfl (fun _ => rfl) hl.1 rfl rfl (Nat.le_of_ble_eq_true rfl) dX5_as_86 (fun r_14 _ H locs hr_14 hW => ?_)
              have hW : Wd E A s.heap (wcat [MJ b z w, IA E (b 1) 68 (enc S), IA E (b 2) 7 (upd F 2 (F 2 + 1))]) H locs := hW
              have hr_14 : r_14 = (-1000000003) := hr_14
              subst hr_14
              exact r_iret hC hQ hD hW () (by rw [mAs, cif_t ⟨b_2, b_5⟩, ix_nI (n := j) (by omega), cif_f (show ¬ asP (S 1 j) x2 from fun z_ => z_.elim c_8 (fun z_ => z_.elim c_10 (fun z_ => z_.elim (fun y => c_12 y.1) (fun y => c_13 y.1))))]; first | done | rfl) (by rw [mAs, cif_t ⟨b_2, b_5⟩, ix_nI (n := j) (by omega), cif_f (show ¬ asP (S 1 j) x2 from fun z_ => z_.elim c_8 (fun z_ => z_.elim c_10 (fun z_ => z_.elim (fun y => c_12 y.1) (fun y => c_13 y.1))))]; first | done | rfl) rfl dX5_as_89
            · refine lv_iload_n hx hb dX5_as_53 rfl (lv_at hl 0 rfl) ?_
              refine lv_iconst (v := 5) hx hb dX5_as_54 (by decide) ?_
              refine lv_icmp_ne (tgt := 62) hx hb dX5_as_55 (by decide) (fun c_15 => ?_) (fun c_15 => ?_)
              · refine lv_iconst (v := 0) hx hb dX5_as_62 (by decide) ?_
                refine lv_istore (lv' := [(4, .int 0), (3, .int (S 1 j)), (0, .ref (b 0)), (1, .int (nI j)), (2, .int x2)]) hx hb dX5_as_63 hl (by decide) rfl (fun ls hl => ?_)
                refine lv_iload hx hb dX5_as_65 (lv_at hl 0 rfl) ?_
                refine lv_if_eq (tgt := 83) hx hb dX5_as_67 (by decide) (fun _ => ?_) (fun c => absurd c (by decide))
                refine lv_aload_n hx hb dX5_as_83 rfl (lv_at hl 2 rfl) ?_
                refine r_ldc hC ctX5_117 dX5_as_84 ?_
                refine r_callVi hC hD hW hA lkX5_73 (c_X5_finds l E (b 0) (MF b z w) (b 2) rfl F (-1000000003) 2 (by decide) (by decide)) rfl ⟨by decide, by decide, by decide, by decide⟩ [0, 2] rfl rfl rfl (fun _ => rfl) hl.1 rfl rfl (Nat.le_of_ble_eq_true rfl) dX5_as_86 (fun r_16 _ H locs hr_16 hW => ?_)
                have hW : Wd E A s.heap (wcat [MJ b z w, IA E (b 1) 68 (enc S), IA E (b 2) 7 (upd F 2 (F 2 + 1))]) H locs := hW
                have hr_16 : r_16 = (-1000000003) := hr_16
                subst hr_16
                exact r_iret hC hQ hD hW () (by rw [mAs, cif_t ⟨b_2, b_5⟩, ix_nI (n := j) (by omega), cif_f (show ¬ asP (S 1 j) x2 from fun z_ => z_.elim c_8 (fun z_ => z_.elim c_10 (fun z_ => z_.elim (fun y => c_12 y.1) (fun y => c_15 y.2))))]; first | done | rfl) (by rw [mAs, cif_t ⟨b_2, b_5⟩, ix_nI (n := j) (by omega), cif_f (show ¬ asP (S 1 j) x2 from fun z_ => z_.elim c_8 (fun z_ => z_.elim c_10 (fun z_ => z_.elim (fun y => c_12 y.1) (fun y => c_15 y.2))))]; first | done | rfl) rfl dX5_as_89
              · refine lv_iconst (v := 1) hx hb dX5_as_58 (by decide) ?_
                refine lv_goto (tgt := 63) hx hb dX5_as_59 (by decide) ?_
                refine lv_istore (lv' := [(4, .int 1), (3, .int (S 1 j)), (0, .ref (b 0)), (1, .int (nI j)), (2, .int x2)]) hx hb dX5_as_63 hl (by decide) rfl (fun ls hl => ?_)
                refine lv_iload hx hb dX5_as_65 (lv_at hl 0 rfl) ?_
                refine lv_if_eq (tgt := 83) hx hb dX5_as_67 (by decide) (fun c => absurd c (by decide)) (fun _ => ?_)
                refine lv_sipush (v := 1000) hx hb dX5_as_70 (by decide) ?_
                refine lv_aload_n hx hb dX5_as_73 rfl (lv_at hl 2 rfl) ?_
                refine lv_iload_n hx hb dX5_as_74 rfl (lv_at hl 3 rfl) ?_
                refine lv_iconst (v := 2) hx hb dX5_as_75 (by decide) ?_
                refine r_callVi hC hD hW hA lkX5_57 (c_X5_its l E (b 0) (b 1) (MF b z w) rfl S j 2 (by omega) (by omega)) rfl ⟨by decide, by decide, by decide, by decide⟩ [0, 1] rfl rfl rfl (fun _ => rfl) hl.1 rfl rfl (Nat.le_of_ble_eq_true rfl) dX5_as_76 (fun r_17 _ H locs hr_17 hW => ?_)
                have hW : Wd E A s.heap (wcat [MJ b z w, IA E (b 1) 68 (enc S), IA E (b 2) 7 F]) H locs := hW
                have hr_17 : r_17 = (S 3 j) := hr_17
                subst hr_17
                refine n_iadd (v := (1000 + (S 3 j))) hx hb dX5_as_79 rfl ?_
                refine lv_goto (tgt := 89) hx hb dX5_as_80 (by decide) ?_
                exact r_iret hC hQ hD hW () (by rw [mAs, cif_t ⟨b_2, b_5⟩, ix_nI (n := j) (by omega), cif_t (show asP (S 1 j) x2 from Or.inr (Or.inr (Or.inr ⟨c_13, c_15⟩)))]; first | done | rfl) (by rw [mAs, cif_t ⟨b_2, b_5⟩, ix_nI (n := j) (by omega), cif_t (show asP (S 1 j) x2 from Or.inr (Or.inr (Or.inr ⟨c_13, c_15⟩)))]; first | done | rfl) rfl dX5_as_89
          · refine lv_iload_n hx hb dX5_as_43 rfl (lv_at hl 0 rfl) ?_
            refine lv_iconst (v := 4) hx hb dX5_as_44 (by decide) ?_
            refine lv_icmp_eq (tgt := 58) hx hb dX5_as_45 (by decide) (fun c_18 => ?_) (fun c_18 => ?_)
            · refine lv_iconst (v := 1) hx hb dX5_as_58 (by decide) ?_
              refine lv_goto (tgt := 63) hx hb dX5_as_59 (by decide) ?_
              refine lv_istore (lv' := [(4, .int 1), (3, .int (S 1 j)), (0, .ref (b 0)), (1, .int (nI j)), (2, .int x2)]) hx hb dX5_as_63 hl (by decide) rfl (fun ls hl => ?_)
              refine lv_iload hx hb dX5_as_65 (lv_at hl 0 rfl) ?_
              refine lv_if_eq (tgt := 83) hx hb dX5_as_67 (by decide) (fun c => absurd c (by decide)) (fun _ => ?_)
              refine lv_sipush (v := 1000) hx hb dX5_as_70 (by decide) ?_
              refine lv_aload_n hx hb dX5_as_73 rfl (lv_at hl 2 rfl) ?_
              refine lv_iload_n hx hb dX5_as_74 rfl (lv_at hl 3 rfl) ?_
              refine lv_iconst (v := 2) hx hb dX5_as_75 (by decide) ?_
              refine r_callVi hC hD hW hA lkX5_57 (c_X5_its l E (b 0) (b 1) (MF b z w) rfl S j 2 (by omega) (by omega)) rfl ⟨by decide, by decide, by decide, by decide⟩ [0, 1] rfl rfl rfl (fun _ => rfl) hl.1 rfl rfl (Nat.le_of_ble_eq_true rfl) dX5_as_76 (fun r_19 _ H locs hr_19 hW => ?_)
              have hW : Wd E A s.heap (wcat [MJ b z w, IA E (b 1) 68 (enc S), IA E (b 2) 7 F]) H locs := hW
              have hr_19 : r_19 = (S 3 j) := hr_19
              subst hr_19
              refine n_iadd (v := (1000 + (S 3 j))) hx hb dX5_as_79 rfl ?_
              refine lv_goto (tgt := 89) hx hb dX5_as_80 (by decide) ?_
              exact r_iret hC hQ hD hW () (by rw [mAs, cif_t ⟨b_2, b_5⟩, ix_nI (n := j) (by omega), cif_t (show asP (S 1 j) x2 from Or.inr (Or.inr (Or.inl ⟨c_12, c_18⟩)))]; first | done | rfl) (by rw [mAs, cif_t ⟨b_2, b_5⟩, ix_nI (n := j) (by omega), cif_t (show asP (S 1 j) x2 from Or.inr (Or.inr (Or.inl ⟨c_12, c_18⟩)))]; first | done | rfl) rfl dX5_as_89
            · refine lv_iload_n hx hb dX5_as_48 rfl (lv_at hl 3 rfl) ?_
              refine lv_iconst (v := 2) hx hb dX5_as_49 (by decide) ?_
              refine lv_icmp_ne (tgt := 62) hx hb dX5_as_50 (by decide) (fun c_20 => ?_) (fun c_20 => ?_)
              · refine lv_iconst (v := 0) hx hb dX5_as_62 (by decide) ?_
                refine lv_istore (lv' := [(4, .int 0), (3, .int (S 1 j)), (0, .ref (b 0)), (1, .int (nI j)), (2, .int x2)]) hx hb dX5_as_63 hl (by decide) rfl (fun ls hl => ?_)
                refine lv_iload hx hb dX5_as_65 (lv_at hl 0 rfl) ?_
                refine lv_if_eq (tgt := 83) hx hb dX5_as_67 (by decide) (fun _ => ?_) (fun c => absurd c (by decide))
                refine lv_aload_n hx hb dX5_as_83 rfl (lv_at hl 2 rfl) ?_
                refine r_ldc hC ctX5_117 dX5_as_84 ?_
                refine r_callVi hC hD hW hA lkX5_73 (c_X5_finds l E (b 0) (MF b z w) (b 2) rfl F (-1000000003) 2 (by decide) (by decide)) rfl ⟨by decide, by decide, by decide, by decide⟩ [0, 2] rfl rfl rfl (fun _ => rfl) hl.1 rfl rfl (Nat.le_of_ble_eq_true rfl) dX5_as_86 (fun r_21 _ H locs hr_21 hW => ?_)
                have hW : Wd E A s.heap (wcat [MJ b z w, IA E (b 1) 68 (enc S), IA E (b 2) 7 (upd F 2 (F 2 + 1))]) H locs := hW
                have hr_21 : r_21 = (-1000000003) := hr_21
                subst hr_21
                exact r_iret hC hQ hD hW () (by rw [mAs, cif_t ⟨b_2, b_5⟩, ix_nI (n := j) (by omega), cif_f (show ¬ asP (S 1 j) x2 from fun z_ => z_.elim c_8 (fun z_ => z_.elim c_10 (fun z_ => z_.elim (fun y => c_18 y.2) (fun y => c_20 y.1))))]; first | done | rfl) (by rw [mAs, cif_t ⟨b_2, b_5⟩, ix_nI (n := j) (by omega), cif_f (show ¬ asP (S 1 j) x2 from fun z_ => z_.elim c_8 (fun z_ => z_.elim c_10 (fun z_ => z_.elim (fun y => c_18 y.2) (fun y => c_20 y.1))))]; first | done | rfl) rfl dX5_as_89
              · refine lv_iload_n hx hb dX5_as_53 rfl (lv_at hl 0 rfl) ?_
                refine lv_iconst (v := 5) hx hb dX5_as_54 (by decide) ?_
                refine lv_icmp_ne (tgt := 62) hx hb dX5_as_55 (by decide) (fun c_22 => ?_) (fun c_22 => ?_)
                · refine lv_iconst (v := 0) hx hb dX5_as_62 (by decide) ?_
                  refine lv_istore (lv' := [(4, .int 0), (3, .int (S 1 j)), (0, .ref (b 0)), (1, .int (nI j)), (2, .int x2)]) hx hb dX5_as_63 hl (by decide) rfl (fun ls hl => ?_)
                  refine lv_iload hx hb dX5_as_65 (lv_at hl 0 rfl) ?_
                  refine lv_if_eq (tgt := 83) hx hb dX5_as_67 (by decide) (fun _ => ?_) (fun c => absurd c (by decide))
                  refine lv_aload_n hx hb dX5_as_83 rfl (lv_at hl 2 rfl) ?_
                  refine r_ldc hC ctX5_117 dX5_as_84 ?_
                  refine r_callVi hC hD hW hA lkX5_73 (c_X5_finds l E (b 0) (MF b z w) (b 2) rfl F (-1000000003) 2 (by decide) (by decide)) rfl ⟨by decide, by decide, by decide, by decide⟩ [0, 2] rfl rfl rfl (fun _ => rfl) hl.1 rfl rfl (Nat.le_of_ble_eq_true rfl) dX5_as_86 (fun r_23 _ H locs hr_23 hW => ?_)
                  have hW : Wd E A s.heap (wcat [MJ b z w, IA E (b 1) 68 (enc S), IA E (b 2) 7 (upd F 2 (F 2 + 1))]) H locs := hW
                  have hr_23 : r_23 = (-1000000003) := hr_23
                  subst hr_23
                  exact r_iret hC hQ hD hW () (by rw [mAs, cif_t ⟨b_2, b_5⟩, ix_nI (n := j) (by omega), cif_f (show ¬ asP (S 1 j) x2 from fun z_ => z_.elim c_8 (fun z_ => z_.elim c_10 (fun z_ => z_.elim (fun y => c_18 y.2) (fun y => c_22 y.2))))]; first | done | rfl) (by rw [mAs, cif_t ⟨b_2, b_5⟩, ix_nI (n := j) (by omega), cif_f (show ¬ asP (S 1 j) x2 from fun z_ => z_.elim c_8 (fun z_ => z_.elim c_10 (fun z_ => z_.elim (fun y => c_18 y.2) (fun y => c_22 y.2))))]; first | done | rfl) rfl dX5_as_89
                · refine lv_iconst (v := 1) hx hb dX5_as_58 (by decide) ?_
                  refine lv_goto (tgt := 63) hx hb dX5_as_59 (by decide) ?_
                  refine lv_istore (lv' := [(4, .int 1), (3, .int (S 1 j)), (0, .ref (b 0)), (1, .int (nI j)), (2, .int x2)]) hx hb dX5_as_63 hl (by decide) rfl (fun ls hl => ?_)
                  refine lv_iload hx hb dX5_as_65 (lv_at hl 0 rfl) ?_
                  refine lv_if_eq (tgt := 83) hx hb dX5_as_67 (by decide) (fun c => absurd c (by decide)) (fun _ => ?_)
                  refine lv_sipush (v := 1000) hx hb dX5_as_70 (by decide) ?_
                  refine lv_aload_n hx hb dX5_as_73 rfl (lv_at hl 2 rfl) ?_
                  refine lv_iload_n hx hb dX5_as_74 rfl (lv_at hl 3 rfl) ?_
                  refine lv_iconst (v := 2) hx hb dX5_as_75 (by decide) ?_
                  refine r_callVi hC hD hW hA lkX5_57 (c_X5_its l E (b 0) (b 1) (MF b z w) rfl S j 2 (by omega) (by omega)) rfl ⟨by decide, by decide, by decide, by decide⟩ [0, 1] rfl rfl rfl (fun _ => rfl) hl.1 rfl rfl (Nat.le_of_ble_eq_true rfl) dX5_as_76 (fun r_24 _ H locs hr_24 hW => ?_)
                  have hW : Wd E A s.heap (wcat [MJ b z w, IA E (b 1) 68 (enc S), IA E (b 2) 7 F]) H locs := hW
                  have hr_24 : r_24 = (S 3 j) := hr_24
                  subst hr_24
                  refine n_iadd (v := (1000 + (S 3 j))) hx hb dX5_as_79 rfl ?_
                  refine lv_goto (tgt := 89) hx hb dX5_as_80 (by decide) ?_
                  exact r_iret hC hQ hD hW () (by rw [mAs, cif_t ⟨b_2, b_5⟩, ix_nI (n := j) (by omega), cif_t (show asP (S 1 j) x2 from Or.inr (Or.inr (Or.inr ⟨c_20, c_22⟩)))]; first | done | rfl) (by rw [mAs, cif_t ⟨b_2, b_5⟩, ix_nI (n := j) (by omega), cif_t (show asP (S 1 j) x2 from Or.inr (Or.inr (Or.inr ⟨c_20, c_22⟩)))]; first | done | rfl) rfl dX5_as_89
set_option maxHeartbeats 4000000 in
set_option maxRecDepth 100000 in
theorem c_X5_garment (l : Launch) (E : Ev) (b : Nat → Nat) (z : Nat → Int32) (w : Int64) (S : HS) (F : FT) (P : Nat) (G : Nat) (hV : HV S P G) (x1 : Int32) (x2 : Int32) : MI l E yX5_garment cX5_garment 3 .int 2 48 0 0 [.ref (b 0), .int x1, .int x2] (wcat [MJ b z w, IA E (b 1) 68 (enc S), IA E (b 2) 7 F]) (fun (r : Int32) (_ : Unit) => r = (mGarment S F P G x1 x2).1) (fun (_ : Unit) => (wcat [MJ b z w, IA E (b 1) 68 (enc ((mGarment S F P G x1 x2).2.1)), IA E (b 2) 7 ((mGarment S F P G x1 x2).2.2)])) := by
  refine MI_intro RX5 (by decide) rfl (Nat.le_of_ble_eq_true rfl) ?_
  intro p e R s m args below meth c A Q hQ hC hD hW hA ls hl
  have hx := hC.1
  have hb := hC.2.1
  have hW : Wd E A s.heap (wcat [MJ b z w, IA E (b 1) 68 (enc S), IA E (b 2) 7 F]) s.heap [] := hW
  have hD : Dj A [b 0, b 1, b 2] := hD
  have hl : lv_has ls 3 [(0, .ref (b 0)), (1, .int x1), (2, .int x2)] := hl
  have hP := hV.p
  have hP1 := hV.p6
  have hG := hV.g
  have hG1 := hV.g10
  refine lv_aload_n hx hb dX5_garment_0 rfl (lv_at hl 0 rfl) ?_
  refine lv_iload_n hx hb dX5_garment_1 rfl (lv_at hl 1 rfl) ?_
  refine r_callVi hC hD hW hA lkX5_98 (c_X5_isOne l E (b 0) (b 1) (MF b z w) rfl S P hV.p hV.p6 x1) rfl ⟨by decide, by decide, by decide, by decide⟩ [0, 1] rfl rfl rfl (fun _ => rfl) hl.1 rfl rfl (Nat.le_of_ble_eq_true rfl) dX5_garment_2 (fun r_1 _ H locs hr_1 hW => ?_)
  have hW : Wd E A s.heap (wcat [MJ b z w, IA E (b 1) 68 (enc S), IA E (b 2) 7 F]) H locs := hW
  have hr_1 : bz (∃ j, j < P ∧ x1 = nI j) r_1 := hr_1
  rcases hr_1 with ⟨rfl, b_2⟩ | ⟨rfl, b_2⟩
  · refine lv_if_eq (tgt := 17) hx hb dX5_garment_5 (by decide) (fun _ => ?_) (fun c => absurd c (by decide))
    refine lv_aload_n hx hb dX5_garment_17 rfl (lv_at hl 0 rfl) ?_
    refine r_ldc hC ctX5_44 dX5_garment_18 ?_
    refine r_callVi hC hD hW hA lkX5_73 (c_X5_finds l E (b 0) (MF b z w) (b 2) rfl F (-1000000001) 0 (by decide) (by decide)) rfl ⟨by decide, by decide, by decide, by decide⟩ [0, 2] rfl rfl rfl (fun _ => rfl) hl.1 rfl rfl (Nat.le_of_ble_eq_true rfl) dX5_garment_20 (fun r_3 _ H locs hr_3 hW => ?_)
    have hW : Wd E A s.heap (wcat [MJ b z w, IA E (b 1) 68 (enc S), IA E (b 2) 7 (upd F 0 (F 0 + 1))]) H locs := hW
    have hr_3 : r_3 = (-1000000001) := hr_3
    subst hr_3
    exact r_iret hC hQ hD hW () (by rw [mGarment, cif_f (fun z_ => b_2 z_.1)]; first | done | rfl) (by rw [mGarment, cif_f (fun z_ => b_2 z_.1)]; first | done | rfl) rfl dX5_garment_23
  · have eb_2 := b_2
    obtain ⟨j, hj, rfl⟩ := eb_2
    refine lv_if_eq (tgt := 17) hx hb dX5_garment_5 (by decide) (fun c => absurd c (by decide)) (fun _ => ?_)
    refine lv_iload_n hx hb dX5_garment_8 rfl (lv_at hl 2 rfl) ?_
    refine lv_iconst (v := 0) hx hb dX5_garment_9 (by decide) ?_
    refine lv_iconst (v := 2) hx hb dX5_garment_10 (by decide) ?_
    refine r_callSi hC hD hW hA lkX5_45 (c_X5_in l E x2 0 2) ⟨by decide, by decide, by decide, by decide⟩ rfl hl.1 rfl rfl (Nat.le_of_ble_eq_true rfl) dX5_garment_11 (fun r_4 _ H locs hr_4 hW => ?_)
    have hW : Wd E A s.heap (wcat [MJ b z w, IA E (b 1) 68 (enc S), IA E (b 2) 7 F]) H locs := hW
    have hr_4 : bz (0 ≤ x2 ∧ x2 ≤ 2) r_4 := hr_4
    rcases hr_4 with ⟨rfl, b_5⟩ | ⟨rfl, b_5⟩
    · refine lv_if_ne (tgt := 24) hx hb dX5_garment_14 (by decide) (fun c => absurd c (by decide)) (fun _ => ?_)
      refine lv_aload_n hx hb dX5_garment_17 rfl (lv_at hl 0 rfl) ?_
      refine r_ldc hC ctX5_44 dX5_garment_18 ?_
      refine r_callVi hC hD hW hA lkX5_73 (c_X5_finds l E (b 0) (MF b z w) (b 2) rfl F (-1000000001) 0 (by decide) (by decide)) rfl ⟨by decide, by decide, by decide, by decide⟩ [0, 2] rfl rfl rfl (fun _ => rfl) hl.1 rfl rfl (Nat.le_of_ble_eq_true rfl) dX5_garment_20 (fun r_6 _ H locs hr_6 hW => ?_)
      have hW : Wd E A s.heap (wcat [MJ b z w, IA E (b 1) 68 (enc S), IA E (b 2) 7 (upd F 0 (F 0 + 1))]) H locs := hW
      have hr_6 : r_6 = (-1000000001) := hr_6
      subst hr_6
      exact r_iret hC hQ hD hW () (by rw [mGarment, cif_f (fun z_ => b_5 z_.2)]; first | done | rfl) (by rw [mGarment, cif_f (fun z_ => b_5 z_.2)]; first | done | rfl) rfl dX5_garment_23
    · refine lv_if_ne (tgt := 24) hx hb dX5_garment_14 (by decide) (fun _ => ?_) (fun c => absurd c (by decide))
      refine lv_aload_n hx hb dX5_garment_24 rfl (lv_at hl 0 rfl) ?_
      refine r_get hC hW flX5_7 0 rfl rfl dX5_garment_25 ?_
      refine lv_iconst (v := 3) hx hb dX5_garment_28 (by decide) ?_
      refine r_iald hC hW 1 rfl 3 rfl (by omega) (by decide) dX5_garment_29 ?_
      refine n_top (enc_0 S (by decide)) ?_
      refine n_top hV.g ?_
      refine lv_bipush (v := 10) hx hb dX5_garment_30 (by decide) ?_
      refine lv_icmp_ne (tgt := 42) hx hb dX5_garment_32 (by decide) (fun c_7 => ?_) (fun c_7 => ?_)
      · have c_7 : ¬ G = 10 := fun z_ => c_7 ((nI_eq (a := G) (b := 10) (by omega) (by omega)).mpr z_)
        refine lv_aload_n hx hb dX5_garment_42 rfl (lv_at hl 0 rfl) ?_
        refine lv_iload_n hx hb dX5_garment_43 rfl (lv_at hl 1 rfl) ?_
        refine lv_iload_n hx hb dX5_garment_44 rfl (lv_at hl 2 rfl) ?_
        refine lv_bipush (v := 99) hx hb dX5_garment_45 (by decide) ?_
        refine lv_iload_n hx hb dX5_garment_47 rfl (lv_at hl 1 rfl) ?_
        refine r_callVv hC hD hW hA lkX5_121 (c_X5_addsGarment l E (b 0) (b 1) (MF b z w) rfl S G hG (by omega) (nI j) x2 99 (nI j)) rfl ⟨by decide, by decide, by decide, by decide⟩ [0, 1] rfl rfl rfl (fun _ => rfl) hl.1 rfl rfl (Nat.le_of_ble_eq_true rfl) dX5_garment_48 (fun _ H locs hr_8 hW => ?_)
        have hW : Wd E A s.heap (wcat [MJ b z w, IA E (b 1) 68 (enc (addG S G (nI j) x2 99 (nI j))), IA E (b 2) 7 F]) H locs := hW
        refine lv_aload_n hx hb dX5_garment_51 rfl (lv_at hl 0 rfl) ?_
        refine r_get hC hW flX5_7 0 rfl rfl dX5_garment_52 ?_
        refine lv_iconst (v := 3) hx hb dX5_garment_55 (by decide) ?_
        refine r_iald hC hW 1 rfl 3 rfl (by omega) (by decide) dX5_garment_56 ?_
        refine n_top (enc_0 (addG S G (nI j) x2 99 (nI j)) (by decide)) ?_
        refine n_top (show _ = nI (G + 1) from rfl) ?_
        refine lv_iconst (v := 1) hx hb dX5_garment_57 (by decide) ?_
        refine n_isub (v := (nI G)) hx hb dX5_garment_58 (nI_pred G) ?_
        exact r_iret hC hQ hD hW () (by rw [mGarment, cif_t ⟨b_2, b_5⟩, if_neg c_7]; first | done | rfl) (by rw [mGarment, cif_t ⟨b_2, b_5⟩, if_neg c_7]; first | done | rfl) rfl dX5_garment_59
      · have c_7 : G = 10 := (nI_eq (a := G) (b := 10) (by omega) (by omega)).mp c_7
        refine lv_aload_n hx hb dX5_garment_35 rfl (lv_at hl 0 rfl) ?_
        refine r_ldc hC ctX5_93 dX5_garment_36 ?_
        refine r_callVi hC hD hW hA lkX5_73 (c_X5_finds l E (b 0) (MF b z w) (b 2) rfl F (-1000000002) 1 (by decide) (by decide)) rfl ⟨by decide, by decide, by decide, by decide⟩ [0, 2] rfl rfl rfl (fun _ => rfl) hl.1 rfl rfl (Nat.le_of_ble_eq_true rfl) dX5_garment_38 (fun r_9 _ H locs hr_9 hW => ?_)
        have hW : Wd E A s.heap (wcat [MJ b z w, IA E (b 1) 68 (enc S), IA E (b 2) 7 (upd F 1 (F 1 + 1))]) H locs := hW
        have hr_9 : r_9 = (-1000000002) := hr_9
        subst hr_9
        exact r_iret hC hQ hD hW () (by rw [mGarment, cif_t ⟨b_2, b_5⟩, if_pos c_7]; first | done | rfl) (by rw [mGarment, cif_t ⟨b_2, b_5⟩, if_pos c_7]; first | done | rfl) rfl dX5_garment_41
set_option maxHeartbeats 4000000 in
set_option maxRecDepth 100000 in
theorem c_X5_garmentOf (l : Launch) (E : Ev) (b : Nat → Nat) (z : Nat → Int32) (w : Int64) (S : HS) (F : FT) (P : Nat) (G : Nat) (hV : HV S P G) (x1 : Int32) (x2 : Int32) : MI l E yX5_garmentOf cX5_garmentOf 3 .int 2 47 0 0 [.ref (b 0), .int x1, .int x2] (wcat [MJ b z w, IA E (b 1) 68 (enc S), IA E (b 2) 7 F]) (fun (r : Int32) (_ : Unit) => r = (mGarmentOf S F P G x1 x2).1) (fun (_ : Unit) => (wcat [MJ b z w, IA E (b 1) 68 (enc S), IA E (b 2) 7 ((mGarmentOf S F P G x1 x2).2)])) := by
  refine MI_intro RX5 (by decide) rfl (Nat.le_of_ble_eq_true rfl) ?_
  intro p e R s m args below meth c A Q hQ hC hD hW hA ls hl
  have hx := hC.1
  have hb := hC.2.1
  have hW : Wd E A s.heap (wcat [MJ b z w, IA E (b 1) 68 (enc S), IA E (b 2) 7 F]) s.heap [] := hW
  have hD : Dj A [b 0, b 1, b 2] := hD
  have hl : lv_has ls 3 [(0, .ref (b 0)), (1, .int x1), (2, .int x2)] := hl
  have hP := hV.p
  have hP1 := hV.p6
  have hG := hV.g
  have hG1 := hV.g10
  refine lv_aload_n hx hb dX5_garmentOf_0 rfl (lv_at hl 0 rfl) ?_
  refine lv_iload_n hx hb dX5_garmentOf_1 rfl (lv_at hl 1 rfl) ?_
  refine r_callVi hC hD hW hA lkX5_108 (c_X5_isGarment l E (b 0) (b 1) (MF b z w) rfl S G hV.g hV.g10 x1) rfl ⟨by decide, by decide, by decide, by decide⟩ [0, 1] rfl rfl rfl (fun _ => rfl) hl.1 rfl rfl (Nat.le_of_ble_eq_true rfl) dX5_garmentOf_2 (fun r_1 _ H locs hr_1 hW => ?_)
  have hW : Wd E A s.heap (wcat [MJ b z w, IA E (b 1) 68 (enc S), IA E (b 2) 7 F]) H locs := hW
  have hr_1 : bz (∃ j, j < G ∧ x1 = nI j) r_1 := hr_1
  rcases hr_1 with ⟨rfl, b_2⟩ | ⟨rfl, b_2⟩
  · refine lv_if_eq (tgt := 17) hx hb dX5_garmentOf_5 (by decide) (fun _ => ?_) (fun c => absurd c (by decide))
    refine lv_aload_n hx hb dX5_garmentOf_17 rfl (lv_at hl 0 rfl) ?_
    refine r_ldc hC ctX5_44 dX5_garmentOf_18 ?_
    refine r_callVi hC hD hW hA lkX5_73 (c_X5_finds l E (b 0) (MF b z w) (b 2) rfl F (-1000000001) 0 (by decide) (by decide)) rfl ⟨by decide, by decide, by decide, by decide⟩ [0, 2] rfl rfl rfl (fun _ => rfl) hl.1 rfl rfl (Nat.le_of_ble_eq_true rfl) dX5_garmentOf_20 (fun r_3 _ H locs hr_3 hW => ?_)
    have hW : Wd E A s.heap (wcat [MJ b z w, IA E (b 1) 68 (enc S), IA E (b 2) 7 (upd F 0 (F 0 + 1))]) H locs := hW
    have hr_3 : r_3 = (-1000000001) := hr_3
    subst hr_3
    exact r_iret hC hQ hD hW () (by rw [mGarmentOf, cif_f b_2]; first | done | rfl) (by rw [mGarmentOf, cif_f b_2]; first | done | rfl) rfl dX5_garmentOf_23
  · have eb_2 := b_2
    obtain ⟨g, hg, rfl⟩ := eb_2
    refine lv_if_eq (tgt := 17) hx hb dX5_garmentOf_5 (by decide) (fun c => absurd c (by decide)) (fun _ => ?_)
    refine lv_iload_n hx hb dX5_garmentOf_8 rfl (lv_at hl 2 rfl) ?_
    refine lv_iconst (v := 0) hx hb dX5_garmentOf_9 (by decide) ?_
    refine lv_iconst (v := 5) hx hb dX5_garmentOf_10 (by decide) ?_
    refine r_callSi hC hD hW hA lkX5_45 (c_X5_in l E x2 0 5) ⟨by decide, by decide, by decide, by decide⟩ rfl hl.1 rfl rfl (Nat.le_of_ble_eq_true rfl) dX5_garmentOf_11 (fun r_4 _ H locs hr_4 hW => ?_)
    have hW : Wd E A s.heap (wcat [MJ b z w, IA E (b 1) 68 (enc S), IA E (b 2) 7 F]) H locs := hW
    have hr_4 : bz (0 ≤ x2 ∧ x2 ≤ 5) r_4 := hr_4
    rcases hr_4 with ⟨rfl, b_5⟩ | ⟨rfl, b_5⟩
    · refine lv_if_ne (tgt := 24) hx hb dX5_garmentOf_14 (by decide) (fun c => absurd c (by decide)) (fun _ => ?_)
      refine lv_aload_n hx hb dX5_garmentOf_17 rfl (lv_at hl 0 rfl) ?_
      refine r_ldc hC ctX5_44 dX5_garmentOf_18 ?_
      refine r_callVi hC hD hW hA lkX5_73 (c_X5_finds l E (b 0) (MF b z w) (b 2) rfl F (-1000000001) 0 (by decide) (by decide)) rfl ⟨by decide, by decide, by decide, by decide⟩ [0, 2] rfl rfl rfl (fun _ => rfl) hl.1 rfl rfl (Nat.le_of_ble_eq_true rfl) dX5_garmentOf_20 (fun r_6 _ H locs hr_6 hW => ?_)
      have hW : Wd E A s.heap (wcat [MJ b z w, IA E (b 1) 68 (enc S), IA E (b 2) 7 (upd F 0 (F 0 + 1))]) H locs := hW
      have hr_6 : r_6 = (-1000000001) := hr_6
      subst hr_6
      exact r_iret hC hQ hD hW () (by rw [mGarmentOf_out b_2 b_5]; first | done | rfl) (by rw [mGarmentOf_out b_2 b_5]; first | done | rfl) rfl dX5_garmentOf_23
    · have eb_5 := rng (k := 5) (by decide) b_5
      obtain ⟨k, hk, rfl⟩ := eb_5
      refine lv_if_ne (tgt := 24) hx hb dX5_garmentOf_14 (by decide) (fun _ => ?_) (fun c => absurd c (by decide))
      refine lv_iload_n hx hb dX5_garmentOf_24 rfl (lv_at hl 2 rfl) ?_
      refine lv_iconst (v := 4) hx hb dX5_garmentOf_25 (by decide) ?_
      refine lv_icmp_ge (tgt := 38) hx hb dX5_garmentOf_26 (by decide) (fun c_7 => ?_) (fun c_7 => ?_)
      · have c_7 : 4 ≤ k := (nI_leI (a := 4) (b := k) (by omega) (by omega)).mp c_7
        refine lv_iload_n hx hb dX5_garmentOf_38 rfl (lv_at hl 2 rfl) ?_
        refine lv_iconst (v := 4) hx hb dX5_garmentOf_39 (by decide) ?_
        refine lv_icmp_ne (tgt := 51) hx hb dX5_garmentOf_40 (by decide) (fun c_8 => ?_) (fun c_8 => ?_)
        · have c_8 : ¬ k = 4 := fun z_ => c_8 ((nI_eq (a := k) (b := 4) (by omega) (by omega)).mpr z_)
          refine lv_aload_n hx hb dX5_garmentOf_51 rfl (lv_at hl 0 rfl) ?_
          refine lv_iload_n hx hb dX5_garmentOf_52 rfl (lv_at hl 1 rfl) ?_
          refine r_callVi hC hD hW hA lkX5_128 (c_X5_fades l E (b 0) (b 1) (MF b z w) rfl S P G hV g (by omega)) rfl ⟨by decide, by decide, by decide, by decide⟩ [0, 1] rfl rfl rfl (fun _ => rfl) hl.1 rfl rfl (Nat.le_of_ble_eq_true rfl) dX5_garmentOf_53 (fun r_9 _ H locs hr_9 hW => ?_)
          have hW : Wd E A s.heap (wcat [MJ b z w, IA E (b 1) 68 (enc S), IA E (b 2) 7 F]) H locs := hW
          have hr_9 : r_9 = (nI (fdn S g)) := hr_9
          subst hr_9
          exact r_iret hC hQ hD hW () (by rw [mGarmentOf_5 b_2 (by omega) (by omega)]; first | done | rfl) (by rw [mGarmentOf_5 b_2 (by omega) (by omega)]; first | done | rfl) rfl dX5_garmentOf_56
        · have c_8 : k = 4 := (nI_eq (a := k) (b := 4) (by omega) (by omega)).mp c_8
          refine lv_aload_n hx hb dX5_garmentOf_43 rfl (lv_at hl 0 rfl) ?_
          refine lv_iload_n hx hb dX5_garmentOf_44 rfl (lv_at hl 1 rfl) ?_
          refine r_callVi hC hD hW hA lkX5_125 (c_X5_reads l E (b 0) (b 1) (MF b z w) rfl S P G hV g (by omega)) rfl ⟨by decide, by decide, by decide, by decide⟩ [0, 1] rfl rfl rfl (fun _ => rfl) hl.1 rfl rfl (Nat.le_of_ble_eq_true rfl) dX5_garmentOf_45 (fun r_10 _ H locs hr_10 hW => ?_)
          have hW : Wd E A s.heap (wcat [MJ b z w, IA E (b 1) 68 (enc S), IA E (b 2) 7 F]) H locs := hW
          have hr_10 : r_10 = (rdI S P g) := hr_10
          subst hr_10
          refine lv_goto (tgt := 56) hx hb dX5_garmentOf_48 (by decide) ?_
          exact r_iret hC hQ hD hW () (by rw [mGarmentOf_4 b_2 (by omega) (by omega)]; first | done | rfl) (by rw [mGarmentOf_4 b_2 (by omega) (by omega)]; first | done | rfl) rfl dX5_garmentOf_56
      · have c_7 : ¬ 4 ≤ k := fun z_ => c_7 ((nI_leI (a := 4) (b := k) (by omega) (by omega)).mpr z_)
        refine lv_aload_n hx hb dX5_garmentOf_29 rfl (lv_at hl 0 rfl) ?_
        refine lv_iload_n hx hb dX5_garmentOf_30 rfl (lv_at hl 1 rfl) ?_
        refine lv_iload_n hx hb dX5_garmentOf_31 rfl (lv_at hl 2 rfl) ?_
        refine r_callVi hC hD hW hA lkX5_49 (c_X5_worn l E (b 0) (b 1) (MF b z w) rfl S g k (by omega) (by omega)) rfl ⟨by decide, by decide, by decide, by decide⟩ [0, 1] rfl rfl rfl (fun _ => rfl) hl.1 rfl rfl (Nat.le_of_ble_eq_true rfl) dX5_garmentOf_32 (fun r_11 _ H locs hr_11 hW => ?_)
        have hW : Wd E A s.heap (wcat [MJ b z w, IA E (b 1) 68 (enc S), IA E (b 2) 7 F]) H locs := hW
        have hr_11 : r_11 = (S (5 + k) g) := hr_11
        subst hr_11
        refine lv_goto (tgt := 56) hx hb dX5_garmentOf_35 (by decide) ?_
        exact r_iret hC hQ hD hW () (by rw [mGarmentOf_lt b_2 (by omega) (by omega)]; first | done | rfl) (by rw [mGarmentOf_lt b_2 (by omega) (by omega)]; first | done | rfl) rfl dX5_garmentOf_56
set_option maxHeartbeats 4000000 in
set_option maxRecDepth 100000 in
theorem c_X5_sew (l : Launch) (E : Ev) (b : Nat → Nat) (z : Nat → Int32) (w : Int64) (S : HS) (F : FT) (P : Nat) (G : Nat) (hV : HV S P G) (x1 : Int32) (x2 : Int32) (x3 : Int32) : MI l E yX5_sew cX5_sew 4 .int 3 65 0 0 [.ref (b 0), .int x1, .int x2, .int x3] (wcat [MJ b z w, IA E (b 1) 68 (enc S), IA E (b 2) 7 F]) (fun (r : Int32) (_ : Unit) => r = (mSew S F P G x1 x2 x3).1) (fun (_ : Unit) => (wcat [MJ b z w, IA E (b 1) 68 (enc ((mSew S F P G x1 x2 x3).2.1)), IA E (b 2) 7 ((mSew S F P G x1 x2 x3).2.2)])) := by
  refine MI_intro RX5 (by decide) rfl (Nat.le_of_ble_eq_true rfl) ?_
  intro p e R s m args below meth c A Q hQ hC hD hW hA ls hl
  have hx := hC.1
  have hb := hC.2.1
  have hW : Wd E A s.heap (wcat [MJ b z w, IA E (b 1) 68 (enc S), IA E (b 2) 7 F]) s.heap [] := hW
  have hD : Dj A [b 0, b 1, b 2] := hD
  have hl : lv_has ls 4 [(0, .ref (b 0)), (1, .int x1), (2, .int x2), (3, .int x3)] := hl
  have hP := hV.p
  have hP1 := hV.p6
  have hG := hV.g
  have hG1 := hV.g10
  refine lv_aload_n hx hb dX5_sew_0 rfl (lv_at hl 0 rfl) ?_
  refine lv_iload_n hx hb dX5_sew_1 rfl (lv_at hl 1 rfl) ?_
  refine r_callVi hC hD hW hA lkX5_108 (c_X5_isGarment l E (b 0) (b 1) (MF b z w) rfl S G hV.g hV.g10 x1) rfl ⟨by decide, by decide, by decide, by decide⟩ [0, 1] rfl rfl rfl (fun _ => rfl) hl.1 rfl rfl (Nat.le_of_ble_eq_true rfl) dX5_sew_2 (fun r_1 _ H locs hr_1 hW => ?_)
  have hW : Wd E A s.heap (wcat [MJ b z w, IA E (b 1) 68 (enc S), IA E (b 2) 7 F]) H locs := hW
  have hr_1 : bz (∃ j, j < G ∧ x1 = nI j) r_1 := hr_1
  rcases hr_1 with ⟨rfl, b_2⟩ | ⟨rfl, b_2⟩
  · refine lv_if_eq (tgt := 33) hx hb dX5_sew_5 (by decide) (fun _ => ?_) (fun c => absurd c (by decide))
    refine lv_aload_n hx hb dX5_sew_33 rfl (lv_at hl 0 rfl) ?_
    refine r_ldc hC ctX5_44 dX5_sew_34 ?_
    refine r_callVi hC hD hW hA lkX5_73 (c_X5_finds l E (b 0) (MF b z w) (b 2) rfl F (-1000000001) 0 (by decide) (by decide)) rfl ⟨by decide, by decide, by decide, by decide⟩ [0, 2] rfl rfl rfl (fun _ => rfl) hl.1 rfl rfl (Nat.le_of_ble_eq_true rfl) dX5_sew_36 (fun r_3 _ H locs hr_3 hW => ?_)
    have hW : Wd E A s.heap (wcat [MJ b z w, IA E (b 1) 68 (enc S), IA E (b 2) 7 (upd F 0 (F 0 + 1))]) H locs := hW
    have hr_3 : r_3 = (-1000000001) := hr_3
    subst hr_3
    exact r_iret hC hQ hD hW () (by rw [mSew, cif_f (fun z_ => b_2 z_.1)]; first | done | rfl) (by rw [mSew, cif_f (fun z_ => b_2 z_.1)]; first | done | rfl) rfl dX5_sew_39
  · have eb_2 := b_2
    obtain ⟨g, hg, rfl⟩ := eb_2
    refine lv_if_eq (tgt := 33) hx hb dX5_sew_5 (by decide) (fun c => absurd c (by decide)) (fun _ => ?_)
    refine lv_aload_n hx hb dX5_sew_8 rfl (lv_at hl 0 rfl) ?_
    refine lv_iload_n hx hb dX5_sew_9 rfl (lv_at hl 2 rfl) ?_
    refine lv_iload_n hx hb dX5_sew_10 rfl (lv_at hl 3 rfl) ?_
    refine r_callVi hC hD hW hA lkX5_131 (c_X5_isSewing l E (b 0) (b 1) (MF b z w) rfl S P hV.p hV.p6 x2 x3) rfl ⟨by decide, by decide, by decide, by decide⟩ [0, 1] rfl rfl rfl (fun _ => rfl) hl.1 rfl rfl (Nat.le_of_ble_eq_true rfl) dX5_sew_11 (fun r_4 _ H locs hr_4 hW => ?_)
    have hW : Wd E A s.heap (wcat [MJ b z w, IA E (b 1) 68 (enc S), IA E (b 2) 7 F]) H locs := hW
    have hr_4 : bz ((x2 = 0 ∧ ∃ j, j < P ∧ x3 = nI j) ∨ (x2 = 1 ∧ 0 ≤ x3 ∧ x3 ≤ 2) ∨ (x2 = 2 ∧ 0 ≤ x3 ∧ x3 ≤ 99) ∨ (x2 = 3 ∧ (x3 = -1 ∨ ∃ j, j < P ∧ x3 = nI j))) r_4 := hr_4
    rcases hr_4 with ⟨rfl, b_5⟩ | ⟨rfl, b_5⟩
    · refine lv_if_eq (tgt := 33) hx hb dX5_sew_14 (by decide) (fun _ => ?_) (fun c => absurd c (by decide))
      refine lv_aload_n hx hb dX5_sew_33 rfl (lv_at hl 0 rfl) ?_
      refine r_ldc hC ctX5_44 dX5_sew_34 ?_
      refine r_callVi hC hD hW hA lkX5_73 (c_X5_finds l E (b 0) (MF b z w) (b 2) rfl F (-1000000001) 0 (by decide) (by decide)) rfl ⟨by decide, by decide, by decide, by decide⟩ [0, 2] rfl rfl rfl (fun _ => rfl) hl.1 rfl rfl (Nat.le_of_ble_eq_true rfl) dX5_sew_36 (fun r_6 _ H locs hr_6 hW => ?_)
      have hW : Wd E A s.heap (wcat [MJ b z w, IA E (b 1) 68 (enc S), IA E (b 2) 7 (upd F 0 (F 0 + 1))]) H locs := hW
      have hr_6 : r_6 = (-1000000001) := hr_6
      subst hr_6
      exact r_iret hC hQ hD hW () (by rw [mSew, cif_f (fun z_ => b_5 z_.2)]; first | done | rfl) (by rw [mSew, cif_f (fun z_ => b_5 z_.2)]; first | done | rfl) rfl dX5_sew_39
    · have ey := b_5
      rcases ey with ⟨rfl, _⟩ | ⟨rfl, _⟩ | ⟨rfl, _⟩ | ⟨rfl, _⟩
      · refine lv_if_eq (tgt := 33) hx hb dX5_sew_14 (by decide) (fun c => absurd c (by decide)) (fun _ => ?_)
        refine lv_aload_n hx hb dX5_sew_17 rfl (lv_at hl 0 rfl) ?_
        refine lv_bipush (v := 28) hx hb dX5_sew_18 (by decide) ?_
        refine lv_iconst (v := 4) hx hb dX5_sew_20 (by decide) ?_
        refine lv_iload_n hx hb dX5_sew_21 rfl (lv_at hl 1 rfl) ?_
        refine n_imul (v := (nI (4 * g))) hx hb dX5_sew_22 (pk_mul 4 g) ?_
        refine n_iadd (v := (nI (28 + 4 * g))) hx hb dX5_sew_23 (nI_add 28 (4 * g)) ?_
        refine lv_iload_n hx hb dX5_sew_24 rfl (lv_at hl 2 rfl) ?_
        refine n_iadd (v := (nI (28 + 4 * g + 0))) hx hb dX5_sew_25 (nI_add (28 + 4 * g) 0) ?_
        refine lv_iload_n hx hb dX5_sew_26 rfl (lv_at hl 3 rfl) ?_
        refine r_callVi hC hD hW hA lkX5_70 (c_X5_becomes l E (b 0) (b 1) (MF b z w) rfl S (28 + 4 * g + 0) 5 g x3 (by omega) (plc_g (g := g) (j := 0) (by decide))) rfl ⟨by decide, by decide, by decide, by decide⟩ [0, 1] rfl rfl rfl (fun _ => rfl) hl.1 rfl rfl (Nat.le_of_ble_eq_true rfl) dX5_sew_27 (fun r_7 _ H locs hr_7 hW => ?_)
        have hW : Wd E A s.heap (wcat [MJ b z w, IA E (b 1) 68 (enc (st S 5 g x3)), IA E (b 2) 7 F]) H locs := hW
        have hr_7 : r_7 = (S 5 g) := hr_7
        subst hr_7
        refine lv_goto (tgt := 39) hx hb dX5_sew_30 (by decide) ?_
        exact r_iret hC hQ hD hW () (by rw [mSew, cif_t ⟨b_2, b_5⟩, ix_nI (n := g) (by omega), ix0]; first | done | rfl) (by rw [mSew, cif_t ⟨b_2, b_5⟩, ix_nI (n := g) (by omega), ix0]; first | done | rfl) rfl dX5_sew_39
      · refine lv_if_eq (tgt := 33) hx hb dX5_sew_14 (by decide) (fun c => absurd c (by decide)) (fun _ => ?_)
        refine lv_aload_n hx hb dX5_sew_17 rfl (lv_at hl 0 rfl) ?_
        refine lv_bipush (v := 28) hx hb dX5_sew_18 (by decide) ?_
        refine lv_iconst (v := 4) hx hb dX5_sew_20 (by decide) ?_
        refine lv_iload_n hx hb dX5_sew_21 rfl (lv_at hl 1 rfl) ?_
        refine n_imul (v := (nI (4 * g))) hx hb dX5_sew_22 (pk_mul 4 g) ?_
        refine n_iadd (v := (nI (28 + 4 * g))) hx hb dX5_sew_23 (nI_add 28 (4 * g)) ?_
        refine lv_iload_n hx hb dX5_sew_24 rfl (lv_at hl 2 rfl) ?_
        refine n_iadd (v := (nI (28 + 4 * g + 1))) hx hb dX5_sew_25 (nI_add (28 + 4 * g) 1) ?_
        refine lv_iload_n hx hb dX5_sew_26 rfl (lv_at hl 3 rfl) ?_
        refine r_callVi hC hD hW hA lkX5_70 (c_X5_becomes l E (b 0) (b 1) (MF b z w) rfl S (28 + 4 * g + 1) 6 g x3 (by omega) (plc_g (g := g) (j := 1) (by decide))) rfl ⟨by decide, by decide, by decide, by decide⟩ [0, 1] rfl rfl rfl (fun _ => rfl) hl.1 rfl rfl (Nat.le_of_ble_eq_true rfl) dX5_sew_27 (fun r_8 _ H locs hr_8 hW => ?_)
        have hW : Wd E A s.heap (wcat [MJ b z w, IA E (b 1) 68 (enc (st S 6 g x3)), IA E (b 2) 7 F]) H locs := hW
        have hr_8 : r_8 = (S 6 g) := hr_8
        subst hr_8
        refine lv_goto (tgt := 39) hx hb dX5_sew_30 (by decide) ?_
        exact r_iret hC hQ hD hW () (by rw [mSew, cif_t ⟨b_2, b_5⟩, ix_nI (n := g) (by omega), ix1]; first | done | rfl) (by rw [mSew, cif_t ⟨b_2, b_5⟩, ix_nI (n := g) (by omega), ix1]; first | done | rfl) rfl dX5_sew_39
      · refine lv_if_eq (tgt := 33) hx hb dX5_sew_14 (by decide) (fun c => absurd c (by decide)) (fun _ => ?_)
        refine lv_aload_n hx hb dX5_sew_17 rfl (lv_at hl 0 rfl) ?_
        refine lv_bipush (v := 28) hx hb dX5_sew_18 (by decide) ?_
        refine lv_iconst (v := 4) hx hb dX5_sew_20 (by decide) ?_
        refine lv_iload_n hx hb dX5_sew_21 rfl (lv_at hl 1 rfl) ?_
        refine n_imul (v := (nI (4 * g))) hx hb dX5_sew_22 (pk_mul 4 g) ?_
        refine n_iadd (v := (nI (28 + 4 * g))) hx hb dX5_sew_23 (nI_add 28 (4 * g)) ?_
        refine lv_iload_n hx hb dX5_sew_24 rfl (lv_at hl 2 rfl) ?_
        refine n_iadd (v := (nI (28 + 4 * g + 2))) hx hb dX5_sew_25 (nI_add (28 + 4 * g) 2) ?_
        refine lv_iload_n hx hb dX5_sew_26 rfl (lv_at hl 3 rfl) ?_
        refine r_callVi hC hD hW hA lkX5_70 (c_X5_becomes l E (b 0) (b 1) (MF b z w) rfl S (28 + 4 * g + 2) 7 g x3 (by omega) (plc_g (g := g) (j := 2) (by decide))) rfl ⟨by decide, by decide, by decide, by decide⟩ [0, 1] rfl rfl rfl (fun _ => rfl) hl.1 rfl rfl (Nat.le_of_ble_eq_true rfl) dX5_sew_27 (fun r_9 _ H locs hr_9 hW => ?_)
        have hW : Wd E A s.heap (wcat [MJ b z w, IA E (b 1) 68 (enc (st S 7 g x3)), IA E (b 2) 7 F]) H locs := hW
        have hr_9 : r_9 = (S 7 g) := hr_9
        subst hr_9
        refine lv_goto (tgt := 39) hx hb dX5_sew_30 (by decide) ?_
        exact r_iret hC hQ hD hW () (by rw [mSew, cif_t ⟨b_2, b_5⟩, ix_nI (n := g) (by omega), ix2]; first | done | rfl) (by rw [mSew, cif_t ⟨b_2, b_5⟩, ix_nI (n := g) (by omega), ix2]; first | done | rfl) rfl dX5_sew_39
      · refine lv_if_eq (tgt := 33) hx hb dX5_sew_14 (by decide) (fun c => absurd c (by decide)) (fun _ => ?_)
        refine lv_aload_n hx hb dX5_sew_17 rfl (lv_at hl 0 rfl) ?_
        refine lv_bipush (v := 28) hx hb dX5_sew_18 (by decide) ?_
        refine lv_iconst (v := 4) hx hb dX5_sew_20 (by decide) ?_
        refine lv_iload_n hx hb dX5_sew_21 rfl (lv_at hl 1 rfl) ?_
        refine n_imul (v := (nI (4 * g))) hx hb dX5_sew_22 (pk_mul 4 g) ?_
        refine n_iadd (v := (nI (28 + 4 * g))) hx hb dX5_sew_23 (nI_add 28 (4 * g)) ?_
        refine lv_iload_n hx hb dX5_sew_24 rfl (lv_at hl 2 rfl) ?_
        refine n_iadd (v := (nI (28 + 4 * g + 3))) hx hb dX5_sew_25 (nI_add (28 + 4 * g) 3) ?_
        refine lv_iload_n hx hb dX5_sew_26 rfl (lv_at hl 3 rfl) ?_
        refine r_callVi hC hD hW hA lkX5_70 (c_X5_becomes l E (b 0) (b 1) (MF b z w) rfl S (28 + 4 * g + 3) 8 g x3 (by omega) (plc_g (g := g) (j := 3) (by decide))) rfl ⟨by decide, by decide, by decide, by decide⟩ [0, 1] rfl rfl rfl (fun _ => rfl) hl.1 rfl rfl (Nat.le_of_ble_eq_true rfl) dX5_sew_27 (fun r_10 _ H locs hr_10 hW => ?_)
        have hW : Wd E A s.heap (wcat [MJ b z w, IA E (b 1) 68 (enc (st S 8 g x3)), IA E (b 2) 7 F]) H locs := hW
        have hr_10 : r_10 = (S 8 g) := hr_10
        subst hr_10
        refine lv_goto (tgt := 39) hx hb dX5_sew_30 (by decide) ?_
        exact r_iret hC hQ hD hW () (by rw [mSew, cif_t ⟨b_2, b_5⟩, ix_nI (n := g) (by omega), ix3]; first | done | rfl) (by rw [mSew, cif_t ⟨b_2, b_5⟩, ix_nI (n := g) (by omega), ix3]; first | done | rfl) rfl dX5_sew_39
set_option maxHeartbeats 4000000 in
set_option maxRecDepth 100000 in
theorem c_X5_weeks (l : Launch) (E : Ev) (b : Nat → Nat) (z : Nat → Int32) (w : Int64) (S : HS) (F : FT) (P : Nat) (G : Nat) (hV : HV S P G) (x1 : Int32) : MI l E yX5_weeks cX5_weeks 2 .int 6 135 0 0 [.ref (b 0), .int x1] (wcat [MJ b z w, IA E (b 1) 68 (enc S), IA E (b 2) 7 F]) (fun (r : Int32) (_ : Unit) => r = (mWeeks S F P G x1).1) (fun (_ : Unit) => (wcat [MJ b z w, IA E (b 1) 68 (enc ((mWeeks S F P G x1).2.1)), IA E (b 2) 7 ((mWeeks S F P G x1).2.2)])) := by
  refine MI_intro RX5 (by decide) rfl (Nat.le_of_ble_eq_true rfl) ?_
  intro p e R s m args below meth c A Q hQ hC hD hW hA ls hl
  have hx := hC.1
  have hb := hC.2.1
  have hW : Wd E A s.heap (wcat [MJ b z w, IA E (b 1) 68 (enc S), IA E (b 2) 7 F]) s.heap [] := hW
  have hD : Dj A [b 0, b 1, b 2] := hD
  have hl : lv_has ls 2 [(0, .ref (b 0)), (1, .int x1)] := hl
  have hP := hV.p
  have hP1 := hV.p6
  have hG := hV.g
  have hG1 := hV.g10
  refine lv_iload_n hx hb dX5_weeks_0 rfl (lv_at hl 1 rfl) ?_
  refine lv_iconst (v := 1) hx hb dX5_weeks_1 (by decide) ?_
  refine lv_bipush (v := 60) hx hb dX5_weeks_2 (by decide) ?_
  refine r_callSi hC hD hW hA lkX5_45 (c_X5_in l E x1 1 60) ⟨by decide, by decide, by decide, by decide⟩ rfl hl.1 rfl rfl (Nat.le_of_ble_eq_true rfl) dX5_weeks_4 (fun r_1 _ H locs hr_1 hW => ?_)
  have hW : Wd E A s.heap (wcat [MJ b z w, IA E (b 1) 68 (enc S), IA E (b 2) 7 F]) H locs := hW
  have hr_1 : bz (1 ≤ x1 ∧ x1 ≤ 60) r_1 := hr_1
  rcases hr_1 with ⟨rfl, b_2⟩ | ⟨rfl, b_2⟩
  · refine lv_if_ne (tgt := 17) hx hb dX5_weeks_7 (by decide) (fun c => absurd c (by decide)) (fun _ => ?_)
    refine lv_aload_n hx hb dX5_weeks_10 rfl (lv_at hl 0 rfl) ?_
    refine r_ldc hC ctX5_44 dX5_weeks_11 ?_
    refine r_callVi hC hD hW hA lkX5_73 (c_X5_finds l E (b 0) (MF b z w) (b 2) rfl F (-1000000001) 0 (by decide) (by decide)) rfl ⟨by decide, by decide, by decide, by decide⟩ [0, 2] rfl rfl rfl (fun _ => rfl) hl.1 rfl rfl (Nat.le_of_ble_eq_true rfl) dX5_weeks_13 (fun r_3 _ H locs hr_3 hW => ?_)
    have hW : Wd E A s.heap (wcat [MJ b z w, IA E (b 1) 68 (enc S), IA E (b 2) 7 (upd F 0 (F 0 + 1))]) H locs := hW
    have hr_3 : r_3 = (-1000000001) := hr_3
    subst hr_3
    exact r_iret hC hQ hD hW () (by rw [mWeeks, cif_f b_2]; first | done | rfl) (by rw [mWeeks, cif_f b_2]; first | done | rfl) rfl dX5_weeks_16
  · have eb_2 := rng1 (k := 60) (by decide) b_2
    obtain ⟨n, hn, rfl⟩ := eb_2
    refine lv_if_ne (tgt := 17) hx hb dX5_weeks_7 (by decide) (fun _ => ?_) (fun c => absurd c (by decide))
    refine lv_aload_n hx hb dX5_weeks_17 rfl (lv_at hl 0 rfl) ?_
    refine r_get hC hW flX5_7 0 rfl rfl dX5_weeks_18 ?_
    refine lv_iconst (v := 0) hx hb dX5_weeks_21 (by decide) ?_
    refine r_iald hC hW 1 rfl 0 rfl (by omega) (by decide) dX5_weeks_22 ?_
    refine n_top (enc_0 S (by decide)) ?_
    refine lv_iload_n hx hb dX5_weeks_23 rfl (lv_at hl 1 rfl) ?_
    refine n_iadd (v := ((S 0 0) + (nI n))) hx hb dX5_weeks_24 rfl ?_
    refine r_ldc hC ctX5_148 dX5_weeks_25 ?_
    refine lv_icmp_le (tgt := 37) hx hb dX5_weeks_27 (by decide) (fun c_4 => ?_) (fun c_4 => ?_)
    · refine lv_aload_n hx hb dX5_weeks_37 rfl (lv_at hl 0 rfl) ?_
      refine lv_iload_n hx hb dX5_weeks_38 rfl (lv_at hl 1 rfl) ?_
      refine r_callVv hC hD hW hA lkX5_150 (c_X5_passes l E (b 0) (b 1) (MF b z w) rfl S P G hV n (by omega)) rfl ⟨by decide, by decide, by decide, by decide⟩ [0, 1] rfl rfl rfl (fun _ => rfl) hl.1 rfl rfl (Nat.le_of_ble_eq_true rfl) dX5_weeks_39 (fun _ H locs hr_5 hW => ?_)
      have hW : Wd E A s.heap (wcat [MJ b z w, IA E (b 1) 68 (enc (wks S P G n)), IA E (b 2) 7 F]) H locs := hW
      refine lv_aload_n hx hb dX5_weeks_42 rfl (lv_at hl 0 rfl) ?_
      refine r_callVi hC hD hW hA lkX5_76 (c_X5_rights l E (b 0) (b 1) (MF b z w) rfl (wks S P G n) G (HV_wks hV n).g (HV_wks hV n).g10) rfl ⟨by decide, by decide, by decide, by decide⟩ [0, 1] rfl rfl rfl (fun _ => rfl) hl.1 rfl rfl (Nat.le_of_ble_eq_true rfl) dX5_weeks_43 (fun r_6 _ H locs hr_6 hW => ?_)
      have hW : Wd E A s.heap (wcat [MJ b z w, IA E (b 1) 68 (enc (wks S P G n)), IA E (b 2) 7 F]) H locs := hW
      have hr_6 : r_6 = (nI (mset (rgt (wks S P G n)) G)) := hr_6
      subst hr_6
      exact r_iret hC hQ hD hW () (by rw [mWeeks, cif_t b_2, if_neg (Int32.not_lt.mpr c_4), ix_nI (n := n) (by omega)]; first | done | rfl) (by rw [mWeeks, cif_t b_2, if_neg (Int32.not_lt.mpr c_4), ix_nI (n := n) (by omega)]; first | done | rfl) rfl dX5_weeks_46
    · refine lv_aload_n hx hb dX5_weeks_30 rfl (lv_at hl 0 rfl) ?_
      refine r_ldc hC ctX5_149 dX5_weeks_31 ?_
      refine r_callVi hC hD hW hA lkX5_73 (c_X5_finds l E (b 0) (MF b z w) (b 2) rfl F (-1000000005) 4 (by decide) (by decide)) rfl ⟨by decide, by decide, by decide, by decide⟩ [0, 2] rfl rfl rfl (fun _ => rfl) hl.1 rfl rfl (Nat.le_of_ble_eq_true rfl) dX5_weeks_33 (fun r_7 _ H locs hr_7 hW => ?_)
      have hW : Wd E A s.heap (wcat [MJ b z w, IA E (b 1) 68 (enc S), IA E (b 2) 7 (upd F 4 (F 4 + 1))]) H locs := hW
      have hr_7 : r_7 = (-1000000005) := hr_7
      subst hr_7
      exact r_iret hC hQ hD hW () (by rw [mWeeks, cif_t b_2, if_pos (Int32.not_le.mp c_4)]; first | done | rfl) (by rw [mWeeks, cif_t b_2, if_pos (Int32.not_le.mp c_4)]; first | done | rfl) rfl dX5_weeks_36
set_option maxHeartbeats 4000000 in
set_option maxRecDepth 100000 in
theorem c_X5_behind (l : Launch) (E : Ev) (b : Nat → Nat) (z : Nat → Int32) (w : Int64) (S : HS) (P : Nat) (G : Nat) (hV : HV S P G) (f3 : Nat → Int32) (n : Nat) (hn : n ≤ 100) (j : Nat) (f : Nat) (i : Nat) (hj : j < 68) (hpl : plc j f i) : MI l E yX5_behind cX5_behind 4 .int 6 135 0 0 [.ref (b 0), .int (nI n), .int (nI j)] (wcat [MJ b z w, IA E (b 1) 68 (enc S), IA E (b 3) 68 f3]) (fun (r : Int32) (_ : Unit) => r = wks S P G n f i) (fun (_ : Unit) => (wcat [MJ b z w, IA E (b 1) 68 f3, IA E (b 3) 68 f3])) := by
  refine MI_intro RX5 (by decide) rfl (Nat.le_of_ble_eq_true rfl) ?_
  intro p e R s m args below meth c A Q hQ hC hD hW hA ls hl
  have hx := hC.1
  have hb := hC.2.1
  have hW : Wd E A s.heap (wcat [MJ b z w, IA E (b 1) 68 (enc S), IA E (b 3) 68 f3]) s.heap [] := hW
  have hD : Dj A [b 0, b 1, b 3] := hD
  have hl : lv_has ls 4 [(0, .ref (b 0)), (1, .int (nI n)), (2, .int (nI j))] := hl
  have hP := hV.p
  have hP1 := hV.p6
  have hG := hV.g
  have hG1 := hV.g10
  refine lv_aload_n hx hb dX5_behind_0 rfl (lv_at hl 0 rfl) ?_
  refine lv_iload_n hx hb dX5_behind_1 rfl (lv_at hl 1 rfl) ?_
  refine r_callVv hC hD hW hA lkX5_150 (c_X5_passes l E (b 0) (b 1) (MF b z w) rfl S P G hV n (by omega)) rfl ⟨by decide, by decide, by decide, by decide⟩ [0, 1] rfl rfl rfl (fun _ => rfl) hl.1 rfl rfl (Nat.le_of_ble_eq_true rfl) dX5_behind_2 (fun _ H locs hr_1 hW => ?_)
  have hW : Wd E A s.heap (wcat [MJ b z w, IA E (b 1) 68 (enc (wks S P G n)), IA E (b 3) 68 f3]) H locs := hW
  refine lv_aload_n hx hb dX5_behind_5 rfl (lv_at hl 0 rfl) ?_
  refine r_get hC hW flX5_7 0 rfl rfl dX5_behind_6 ?_
  refine lv_iload_n hx hb dX5_behind_9 rfl (lv_at hl 2 rfl) ?_
  refine r_iald hC hW 1 rfl j rfl (by omega) (by decide) dX5_behind_10 ?_
  refine n_top (enc_plc _ hpl) ?_
  refine lv_istore_n (lv' := [(3, .int (wks S P G n f i)), (0, .ref (b 0)), (1, .int (nI n)), (2, .int (nI j))]) hx hb dX5_behind_11 rfl hl (by decide) rfl (fun ls hl => ?_)
  refine lv_aload_n hx hb dX5_behind_12 rfl (lv_at hl 1 rfl) ?_
  refine lv_iconst (v := 0) hx hb dX5_behind_13 (by decide) ?_
  refine lv_aload_n hx hb dX5_behind_14 rfl (lv_at hl 1 rfl) ?_
  refine r_get hC hW flX5_16 0 rfl rfl dX5_behind_15 ?_
  refine r_callVv hC hD hW hA lkX5_153 (c_X5_moveAll_r l E (b 0) (b 1) (MF b z w) rfl (enc (wks S P G n)) (b 3) f3) rfl ⟨by decide, by decide, by decide, by decide⟩ [0, 1, 2] rfl rfl rfl (fun _ => rfl) hl.1 rfl rfl (Nat.le_of_ble_eq_true rfl) dX5_behind_18 (fun _ H locs hr_2 hW => ?_)
  have hW : Wd E A s.heap (wcat [MJ b z w, IA E (b 1) 68 f3, IA E (b 3) 68 f3]) H locs := hW
  refine lv_iload_n hx hb dX5_behind_21 rfl (lv_at hl 0 rfl) ?_
  exact r_iret hC hQ hD hW () rfl rfl rfl dX5_behind_22
set_option maxHeartbeats 4000000 in
set_option maxRecDepth 100000 in
theorem c_X5_on (l : Launch) (E : Ev) (b : Nat → Nat) (z : Nat → Int32) (w : Int64) (S : HS) (F : FT) (P : Nat) (G : Nat) (hV : HV S P G) (f3 : Nat → Int32) (x1 : Int32) (x2 : Int32) (x3 : Int32) : MI l E yX5_on cX5_on 4 .int 7 158 0 0 [.ref (b 0), .int x1, .int x2, .int x3] (wcat [MJ b z w, IA E (b 1) 68 (enc S), IA E (b 2) 7 F, IA E (b 3) 68 f3]) (fun (r : Int32) (u : (Nat → Int32)) => r = (mOn S F P G x1 x2 x3).1) (fun (u : (Nat → Int32)) => (wcat [MJ b z w, IA E (b 1) 68 (enc S), IA E (b 2) 7 ((mOn S F P G x1 x2 x3).2), IA E (b 3) 68 u])) := by
  refine MI_intro RX5 (by decide) rfl (Nat.le_of_ble_eq_true rfl) ?_
  intro p e R s m args below meth c A Q hQ hC hD hW hA ls hl
  have hx := hC.1
  have hb := hC.2.1
  have hW : Wd E A s.heap (wcat [MJ b z w, IA E (b 1) 68 (enc S), IA E (b 2) 7 F, IA E (b 3) 68 f3]) s.heap [] := hW
  have hD : Dj A [b 0, b 1, b 2, b 3] := hD
  have hl : lv_has ls 4 [(0, .ref (b 0)), (1, .int x1), (2, .int x2), (3, .int x3)] := hl
  have hP := hV.p
  have hP1 := hV.p6
  have hG := hV.g
  have hG1 := hV.g10
  refine lv_aload_n hx hb dX5_on_0 rfl (lv_at hl 0 rfl) ?_
  refine lv_iload_n hx hb dX5_on_1 rfl (lv_at hl 1 rfl) ?_
  refine r_callVi hC hD hW hA lkX5_108 (c_X5_isGarment l E (b 0) (b 1) (MF b z w) rfl S G hV.g hV.g10 x1) rfl ⟨by decide, by decide, by decide, by decide⟩ [0, 1] rfl rfl rfl (fun _ => rfl) hl.1 rfl rfl (Nat.le_of_ble_eq_true rfl) dX5_on_2 (fun r_1 _ H locs hr_1 hW => ?_)
  have hW : Wd E A s.heap (wcat [MJ b z w, IA E (b 1) 68 (enc S), IA E (b 2) 7 F, IA E (b 3) 68 f3]) H locs := hW
  have hr_1 : bz (∃ j, j < G ∧ x1 = nI j) r_1 := hr_1
  rcases hr_1 with ⟨rfl, b_2⟩ | ⟨rfl, b_2⟩
  · refine lv_if_eq (tgt := 27) hx hb dX5_on_5 (by decide) (fun _ => ?_) (fun c => absurd c (by decide))
    refine lv_aload_n hx hb dX5_on_27 rfl (lv_at hl 0 rfl) ?_
    refine r_ldc hC ctX5_44 dX5_on_28 ?_
    refine r_callVi hC hD hW hA lkX5_73 (c_X5_finds l E (b 0) (MF b z w) (b 2) rfl F (-1000000001) 0 (by decide) (by decide)) rfl ⟨by decide, by decide, by decide, by decide⟩ [0, 2] rfl rfl rfl (fun _ => rfl) hl.1 rfl rfl (Nat.le_of_ble_eq_true rfl) dX5_on_30 (fun r_3 _ H locs hr_3 hW => ?_)
    have hW : Wd E A s.heap (wcat [MJ b z w, IA E (b 1) 68 (enc S), IA E (b 2) 7 (upd F 0 (F 0 + 1)), IA E (b 3) 68 f3]) H locs := hW
    have hr_3 : r_3 = (-1000000001) := hr_3
    subst hr_3
    exact r_iret hC hQ hD hW f3 (by rw [mOn, cif_f (fun z_ => b_2 z_.1)]; first | done | rfl) (by rw [mOn, cif_f (fun z_ => b_2 z_.1)]; first | done | rfl) rfl dX5_on_33
  · have eb_2 := b_2
    obtain ⟨g, hg, rfl⟩ := eb_2
    refine lv_if_eq (tgt := 27) hx hb dX5_on_5 (by decide) (fun c => absurd c (by decide)) (fun _ => ?_)
    refine lv_iload_n hx hb dX5_on_8 rfl (lv_at hl 2 rfl) ?_
    refine lv_iconst (v := 0) hx hb dX5_on_9 (by decide) ?_
    refine lv_bipush (v := 100) hx hb dX5_on_10 (by decide) ?_
    refine r_callSi hC hD hW hA lkX5_45 (c_X5_in l E x2 0 100) ⟨by decide, by decide, by decide, by decide⟩ rfl hl.1 rfl rfl (Nat.le_of_ble_eq_true rfl) dX5_on_12 (fun r_4 _ H locs hr_4 hW => ?_)
    have hW : Wd E A s.heap (wcat [MJ b z w, IA E (b 1) 68 (enc S), IA E (b 2) 7 F, IA E (b 3) 68 f3]) H locs := hW
    have hr_4 : bz (0 ≤ x2 ∧ x2 ≤ 100) r_4 := hr_4
    rcases hr_4 with ⟨rfl, b_5⟩ | ⟨rfl, b_5⟩
    · refine lv_if_eq (tgt := 27) hx hb dX5_on_15 (by decide) (fun _ => ?_) (fun c => absurd c (by decide))
      refine lv_aload_n hx hb dX5_on_27 rfl (lv_at hl 0 rfl) ?_
      refine r_ldc hC ctX5_44 dX5_on_28 ?_
      refine r_callVi hC hD hW hA lkX5_73 (c_X5_finds l E (b 0) (MF b z w) (b 2) rfl F (-1000000001) 0 (by decide) (by decide)) rfl ⟨by decide, by decide, by decide, by decide⟩ [0, 2] rfl rfl rfl (fun _ => rfl) hl.1 rfl rfl (Nat.le_of_ble_eq_true rfl) dX5_on_30 (fun r_6 _ H locs hr_6 hW => ?_)
      have hW : Wd E A s.heap (wcat [MJ b z w, IA E (b 1) 68 (enc S), IA E (b 2) 7 (upd F 0 (F 0 + 1)), IA E (b 3) 68 f3]) H locs := hW
      have hr_6 : r_6 = (-1000000001) := hr_6
      subst hr_6
      exact r_iret hC hQ hD hW f3 (by rw [mOn, cif_f (fun z_ => b_5 z_.2.1)]; first | done | rfl) (by rw [mOn, cif_f (fun z_ => b_5 z_.2.1)]; first | done | rfl) rfl dX5_on_33
    · have eb_5 := rng (k := 100) (by decide) b_5
      obtain ⟨n, hn, rfl⟩ := eb_5
      refine lv_if_eq (tgt := 27) hx hb dX5_on_15 (by decide) (fun c => absurd c (by decide)) (fun _ => ?_)
      refine lv_iload_n hx hb dX5_on_18 rfl (lv_at hl 3 rfl) ?_
      refine lv_iconst (v := 0) hx hb dX5_on_19 (by decide) ?_
      refine lv_iconst (v := 1) hx hb dX5_on_20 (by decide) ?_
      refine r_callSi hC hD hW hA lkX5_45 (c_X5_in l E x3 0 1) ⟨by decide, by decide, by decide, by decide⟩ rfl hl.1 rfl rfl (Nat.le_of_ble_eq_true rfl) dX5_on_21 (fun r_7 _ H locs hr_7 hW => ?_)
      have hW : Wd E A s.heap (wcat [MJ b z w, IA E (b 1) 68 (enc S), IA E (b 2) 7 F, IA E (b 3) 68 f3]) H locs := hW
      have hr_7 : bz (0 ≤ x3 ∧ x3 ≤ 1) r_7 := hr_7
      rcases hr_7 with ⟨rfl, b_8⟩ | ⟨rfl, b_8⟩
      · refine lv_if_ne (tgt := 34) hx hb dX5_on_24 (by decide) (fun c => absurd c (by decide)) (fun _ => ?_)
        refine lv_aload_n hx hb dX5_on_27 rfl (lv_at hl 0 rfl) ?_
        refine r_ldc hC ctX5_44 dX5_on_28 ?_
        refine r_callVi hC hD hW hA lkX5_73 (c_X5_finds l E (b 0) (MF b z w) (b 2) rfl F (-1000000001) 0 (by decide) (by decide)) rfl ⟨by decide, by decide, by decide, by decide⟩ [0, 2] rfl rfl rfl (fun _ => rfl) hl.1 rfl rfl (Nat.le_of_ble_eq_true rfl) dX5_on_30 (fun r_9 _ H locs hr_9 hW => ?_)
        have hW : Wd E A s.heap (wcat [MJ b z w, IA E (b 1) 68 (enc S), IA E (b 2) 7 (upd F 0 (F 0 + 1)), IA E (b 3) 68 f3]) H locs := hW
        have hr_9 : r_9 = (-1000000001) := hr_9
        subst hr_9
        exact r_iret hC hQ hD hW f3 (by rw [mOn, cif_f (fun z_ => b_8 z_.2.2)]; first | done | rfl) (by rw [mOn, cif_f (fun z_ => b_8 z_.2.2)]; first | done | rfl) rfl dX5_on_33
      · have eb_8 := rng (k := 1) (by decide) b_8
        obtain ⟨k, hk, rfl⟩ := eb_8
        refine lv_if_ne (tgt := 34) hx hb dX5_on_24 (by decide) (fun _ => ?_) (fun c => absurd c (by decide))
        refine lv_aload_n hx hb dX5_on_34 rfl (lv_at hl 0 rfl) ?_
        refine lv_iconst (v := 1) hx hb dX5_on_35 (by decide) ?_
        refine lv_aload_n hx hb dX5_on_36 rfl (lv_at hl 0 rfl) ?_
        refine r_get hC hW flX5_16 0 rfl rfl dX5_on_37 ?_
        refine r_callVv hC hD hW hA lkX5_153 (c_X5_moveAll_k l E (b 0) (b 1) (MF b z w) rfl (enc S) (b 3) f3) rfl ⟨by decide, by decide, by decide, by decide⟩ [0, 1, 3] rfl rfl rfl (fun _ => rfl) hl.1 rfl rfl (Nat.le_of_ble_eq_true rfl) dX5_on_40 (fun _ H locs hr_10 hW => ?_)
        have hW : Wd E A s.heap (wcat [MJ b z w, IA E (b 1) 68 (enc S), IA E (b 2) 7 F, IA E (b 3) 68 (enc S)]) H locs := hW
        refine lv_aload_n hx hb dX5_on_43 rfl (lv_at hl 0 rfl) ?_
        refine lv_iload_n hx hb dX5_on_44 rfl (lv_at hl 2 rfl) ?_
        refine lv_bipush (v := 28) hx hb dX5_on_45 (by decide) ?_
        refine lv_iconst (v := 4) hx hb dX5_on_47 (by decide) ?_
        refine lv_iload_n hx hb dX5_on_48 rfl (lv_at hl 1 rfl) ?_
        refine n_imul (v := (nI (4 * g))) hx hb dX5_on_49 (pk_mul 4 g) ?_
        refine n_iadd (v := (nI (28 + 4 * g))) hx hb dX5_on_50 (nI_add 28 (4 * g)) ?_
        refine lv_iconst (v := 2) hx hb dX5_on_51 (by decide) ?_
        refine n_iadd (v := (nI (28 + 4 * g + 2))) hx hb dX5_on_52 (nI_add (28 + 4 * g) 2) ?_
        refine lv_iload_n hx hb dX5_on_53 rfl (lv_at hl 3 rfl) ?_
        refine n_iadd (v := (nI (28 + 4 * g + 2 + k))) hx hb dX5_on_54 (nI_add (28 + 4 * g + 2) k) ?_
        refine r_callCi hC hD hW hA lkX5_157 (c_X5_behind l E b z w S P G hV (enc S) n (by omega) (28 + 4 * g + 2 + k) (7 + k) g (by omega) (plc_o (g := g) (k := k) (by omega))) rfl rfl ⟨by decide, by decide, by decide, by decide⟩ [0, 1, 3] rfl rfl rfl (fun _ => rfl) hl.1 rfl rfl (Nat.le_of_ble_eq_true rfl) dX5_on_55 (fun r_11 _ H locs hr_11 hW => ?_)
        have hW : Wd E A s.heap (wcat [MJ b z w, IA E (b 1) 68 (enc S), IA E (b 2) 7 F, IA E (b 3) 68 (enc S)]) H locs := hW
        have hr_11 : r_11 = (wks S P G n (7 + k) g) := hr_11
        subst hr_11
        exact r_iret hC hQ hD hW (enc S) (by rw [mOn, cif_t ⟨b_2, b_5, b_8⟩, ix_nI (n := n) (by omega), ix_nI (n := g) (by omega), ix_nI (n := k) (by omega)]; first | done | rfl) (by rw [mOn, cif_t ⟨b_2, b_5, b_8⟩, ix_nI (n := n) (by omega), ix_nI (n := g) (by omega), ix_nI (n := k) (by omega)]; first | done | rfl) rfl dX5_on_58
set_option maxHeartbeats 4000000 in
set_option maxRecDepth 100000 in
theorem c_X5_then (l : Launch) (E : Ev) (b : Nat → Nat) (z : Nat → Int32) (w : Int64) (S : HS) (F : FT) (P : Nat) (G : Nat) (hV : HV S P G) (f3 : Nat → Int32) (x1 : Int32) (x2 : Int32) : MI l E yX5_then cX5_then 3 .int 7 158 0 0 [.ref (b 0), .int x1, .int x2] (wcat [MJ b z w, IA E (b 1) 68 (enc S), IA E (b 2) 7 F, IA E (b 3) 68 f3]) (fun (r : Int32) (u : (Nat → Int32)) => r = (mThen S F P G x1 x2).1) (fun (u : (Nat → Int32)) => (wcat [MJ b z w, IA E (b 1) 68 (enc S), IA E (b 2) 7 ((mThen S F P G x1 x2).2), IA E (b 3) 68 u])) := by
  refine MI_intro RX5 (by decide) rfl (Nat.le_of_ble_eq_true rfl) ?_
  intro p e R s m args below meth c A Q hQ hC hD hW hA ls hl
  have hx := hC.1
  have hb := hC.2.1
  have hW : Wd E A s.heap (wcat [MJ b z w, IA E (b 1) 68 (enc S), IA E (b 2) 7 F, IA E (b 3) 68 f3]) s.heap [] := hW
  have hD : Dj A [b 0, b 1, b 2, b 3] := hD
  have hl : lv_has ls 3 [(0, .ref (b 0)), (1, .int x1), (2, .int x2)] := hl
  have hP := hV.p
  have hP1 := hV.p6
  have hG := hV.g
  have hG1 := hV.g10
  refine lv_aload_n hx hb dX5_then_0 rfl (lv_at hl 0 rfl) ?_
  refine lv_iload_n hx hb dX5_then_1 rfl (lv_at hl 1 rfl) ?_
  refine r_callVi hC hD hW hA lkX5_98 (c_X5_isOne l E (b 0) (b 1) (MF b z w) rfl S P hV.p hV.p6 x1) rfl ⟨by decide, by decide, by decide, by decide⟩ [0, 1] rfl rfl rfl (fun _ => rfl) hl.1 rfl rfl (Nat.le_of_ble_eq_true rfl) dX5_then_2 (fun r_1 _ H locs hr_1 hW => ?_)
  have hW : Wd E A s.heap (wcat [MJ b z w, IA E (b 1) 68 (enc S), IA E (b 2) 7 F, IA E (b 3) 68 f3]) H locs := hW
  have hr_1 : bz (∃ j, j < P ∧ x1 = nI j) r_1 := hr_1
  rcases hr_1 with ⟨rfl, b_2⟩ | ⟨rfl, b_2⟩
  · refine lv_if_eq (tgt := 18) hx hb dX5_then_5 (by decide) (fun _ => ?_) (fun c => absurd c (by decide))
    refine lv_aload_n hx hb dX5_then_18 rfl (lv_at hl 0 rfl) ?_
    refine r_ldc hC ctX5_44 dX5_then_19 ?_
    refine r_callVi hC hD hW hA lkX5_73 (c_X5_finds l E (b 0) (MF b z w) (b 2) rfl F (-1000000001) 0 (by decide) (by decide)) rfl ⟨by decide, by decide, by decide, by decide⟩ [0, 2] rfl rfl rfl (fun _ => rfl) hl.1 rfl rfl (Nat.le_of_ble_eq_true rfl) dX5_then_21 (fun r_3 _ H locs hr_3 hW => ?_)
    have hW : Wd E A s.heap (wcat [MJ b z w, IA E (b 1) 68 (enc S), IA E (b 2) 7 (upd F 0 (F 0 + 1)), IA E (b 3) 68 f3]) H locs := hW
    have hr_3 : r_3 = (-1000000001) := hr_3
    subst hr_3
    exact r_iret hC hQ hD hW f3 (by rw [mThen, cif_f (fun z_ => b_2 z_.1)]; first | done | rfl) (by rw [mThen, cif_f (fun z_ => b_2 z_.1)]; first | done | rfl) rfl dX5_then_24
  · have eb_2 := b_2
    obtain ⟨j, hj, rfl⟩ := eb_2
    refine lv_if_eq (tgt := 18) hx hb dX5_then_5 (by decide) (fun c => absurd c (by decide)) (fun _ => ?_)
    refine lv_iload_n hx hb dX5_then_8 rfl (lv_at hl 2 rfl) ?_
    refine lv_iconst (v := 0) hx hb dX5_then_9 (by decide) ?_
    refine lv_bipush (v := 100) hx hb dX5_then_10 (by decide) ?_
    refine r_callSi hC hD hW hA lkX5_45 (c_X5_in l E x2 0 100) ⟨by decide, by decide, by decide, by decide⟩ rfl hl.1 rfl rfl (Nat.le_of_ble_eq_true rfl) dX5_then_12 (fun r_4 _ H locs hr_4 hW => ?_)
    have hW : Wd E A s.heap (wcat [MJ b z w, IA E (b 1) 68 (enc S), IA E (b 2) 7 F, IA E (b 3) 68 f3]) H locs := hW
    have hr_4 : bz (0 ≤ x2 ∧ x2 ≤ 100) r_4 := hr_4
    rcases hr_4 with ⟨rfl, b_5⟩ | ⟨rfl, b_5⟩
    · refine lv_if_ne (tgt := 25) hx hb dX5_then_15 (by decide) (fun c => absurd c (by decide)) (fun _ => ?_)
      refine lv_aload_n hx hb dX5_then_18 rfl (lv_at hl 0 rfl) ?_
      refine r_ldc hC ctX5_44 dX5_then_19 ?_
      refine r_callVi hC hD hW hA lkX5_73 (c_X5_finds l E (b 0) (MF b z w) (b 2) rfl F (-1000000001) 0 (by decide) (by decide)) rfl ⟨by decide, by decide, by decide, by decide⟩ [0, 2] rfl rfl rfl (fun _ => rfl) hl.1 rfl rfl (Nat.le_of_ble_eq_true rfl) dX5_then_21 (fun r_6 _ H locs hr_6 hW => ?_)
      have hW : Wd E A s.heap (wcat [MJ b z w, IA E (b 1) 68 (enc S), IA E (b 2) 7 (upd F 0 (F 0 + 1)), IA E (b 3) 68 f3]) H locs := hW
      have hr_6 : r_6 = (-1000000001) := hr_6
      subst hr_6
      exact r_iret hC hQ hD hW f3 (by rw [mThen, cif_f (fun z_ => b_5 z_.2)]; first | done | rfl) (by rw [mThen, cif_f (fun z_ => b_5 z_.2)]; first | done | rfl) rfl dX5_then_24
    · have eb_5 := rng (k := 100) (by decide) b_5
      obtain ⟨n, hn, rfl⟩ := eb_5
      refine lv_if_ne (tgt := 25) hx hb dX5_then_15 (by decide) (fun _ => ?_) (fun c => absurd c (by decide))
      refine lv_aload_n hx hb dX5_then_25 rfl (lv_at hl 0 rfl) ?_
      refine lv_iconst (v := 1) hx hb dX5_then_26 (by decide) ?_
      refine lv_aload_n hx hb dX5_then_27 rfl (lv_at hl 0 rfl) ?_
      refine r_get hC hW flX5_16 0 rfl rfl dX5_then_28 ?_
      refine r_callVv hC hD hW hA lkX5_153 (c_X5_moveAll_k l E (b 0) (b 1) (MF b z w) rfl (enc S) (b 3) f3) rfl ⟨by decide, by decide, by decide, by decide⟩ [0, 1, 3] rfl rfl rfl (fun _ => rfl) hl.1 rfl rfl (Nat.le_of_ble_eq_true rfl) dX5_then_31 (fun _ H locs hr_7 hW => ?_)
      have hW : Wd E A s.heap (wcat [MJ b z w, IA E (b 1) 68 (enc S), IA E (b 2) 7 F, IA E (b 3) 68 (enc S)]) H locs := hW
      refine lv_sipush (v := 1000) hx hb dX5_then_34 (by decide) ?_
      refine lv_aload_n hx hb dX5_then_37 rfl (lv_at hl 0 rfl) ?_
      refine lv_iload_n hx hb dX5_then_38 rfl (lv_at hl 2 rfl) ?_
      refine lv_iconst (v := 4) hx hb dX5_then_39 (by decide) ?_
      refine lv_iconst (v := 4) hx hb dX5_then_40 (by decide) ?_
      refine lv_iload_n hx hb dX5_then_41 rfl (lv_at hl 1 rfl) ?_
      refine n_imul (v := (nI (4 * j))) hx hb dX5_then_42 (pk_mul 4 j) ?_
      refine n_iadd (v := (nI (4 + 4 * j))) hx hb dX5_then_43 (nI_add 4 (4 * j)) ?_
      refine lv_iconst (v := 2) hx hb dX5_then_44 (by decide) ?_
      refine n_iadd (v := (nI (4 + 4 * j + 2))) hx hb dX5_then_45 (nI_add (4 + 4 * j) 2) ?_
      refine r_callCi hC hD hW hA lkX5_157 (c_X5_behind l E b z w S P G hV (enc S) n (by omega) (4 + 4 * j + 2) 3 j (by omega) (plc_p (p := j) (j := 2) (by omega) (by decide))) rfl rfl ⟨by decide, by decide, by decide, by decide⟩ [0, 1, 3] rfl rfl rfl (fun _ => rfl) hl.1 rfl rfl (Nat.le_of_ble_eq_true rfl) dX5_then_46 (fun r_8 _ H locs hr_8 hW => ?_)
      have hW : Wd E A s.heap (wcat [MJ b z w, IA E (b 1) 68 (enc S), IA E (b 2) 7 F, IA E (b 3) 68 (enc S)]) H locs := hW
      have hr_8 : r_8 = (wks S P G n 3 j) := hr_8
      subst hr_8
      refine n_iadd (v := (1000 + (wks S P G n 3 j))) hx hb dX5_then_49 rfl ?_
      exact r_iret hC hQ hD hW (enc S) (by rw [mThen, cif_t ⟨b_2, b_5⟩, ix_nI (n := n) (by omega), ix_nI (n := j) (by omega)]; first | done | rfl) (by rw [mThen, cif_t ⟨b_2, b_5⟩, ix_nI (n := n) (by omega), ix_nI (n := j) (by omega)]; first | done | rfl) rfl dX5_then_50
