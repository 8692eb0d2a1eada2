set_option maxHeartbeats 4000000 in
set_option maxRecDepth 100000 in
theorem c_X2_isMissing (l : Launch) (E : Ev) (a : Nat) (n : Nat) (bt : Int32) (zn : Nat) (f : Nat → Int64) : MI l E yX2_isMissing cX2_isMissing 1 .boolean 0 0 0 0 [.ref a] (wcat [SHW E a n bt (nI zn) f]) (fun (r : Int32) (_ : Unit) => bz (bt = 0) r) (fun (_ : Unit) => (wcat [SHW E a n bt (nI zn) f])) := by
  refine MI_intro RX2 (by decide) rfl (Nat.le_of_ble_eq_true rfl) ?_
  intro p e R s m args below meth c A Q hQ hC hD hW hA ls hl
  have hx := hC.1
  have hb := hC.2.1
  have hW : Wd E A s.heap (wcat [SHW E a n bt (nI zn) f]) s.heap [] := hW
  have hD : Dj A [a, n] := hD
  have hl : lv_has ls 1 [(0, .ref a)] := hl
  refine lv_aload_n hx hb dX2_isMissing_0 rfl (lv_at hl 0 rfl) ?_
  refine r_get hC hW flX2_15 0 rfl rfl dX2_isMissing_1 ?_
  refine lv_if_ne (tgt := 11) hx hb dX2_isMissing_4 (by decide) (fun c_1 => ?_) (fun c_1 => ?_)
  · refine lv_iconst (v := 0) hx hb dX2_isMissing_11 (by decide) ?_
    exact r_zret hC hQ hD hW (by decide) () (bz_f c_1) rfl rfl dX2_isMissing_12
  · refine lv_iconst (v := 1) hx hb dX2_isMissing_7 (by decide) ?_
    refine lv_goto (tgt := 12) hx hb dX2_isMissing_8 (by decide) ?_
    exact r_zret hC hQ hD hW (by decide) () (bz_t c_1) rfl rfl dX2_isMissing_12
set_option maxHeartbeats 4000000 in
set_option maxRecDepth 100000 in
theorem c_X2_begin (l : Launch) (E : Ev) (a : Nat) (n : Nat) (bt : Int32) (zn : Nat) (f : Nat → Int64) (x1 : Int32) (k : Nat) (hk40 : k ≤ 40) : MV l E yX2_begin cX2_begin 4 0 0 0 0 [.ref a, .int x1, .int (nI k)] (wcat [SHW E a n bt (nI zn) f]) (fun (_ : Unit) => True) (fun (_ : Unit) => (wcat [SHW E a n x1 (nI (if x1 = 0 then 0 else k)) (fun _ => 0)])) := by
  refine MV_intro RX2 (by decide) rfl (Nat.le_of_ble_eq_true rfl) ?_
  intro p e R s m args below meth c A Q hQ hC hnm hD hW hA ls hl
  have hx := hC.1
  have hb := hC.2.1
  have hW : Wd E A s.heap (wcat [SHW E a n bt (nI zn) f]) s.heap [] := hW
  have hD : Dj A [a, n] := hD
  have hl : lv_has ls 4 [(0, .ref a), (1, .int x1), (2, .int (nI k))] := hl
  refine lv_aload_n hx hb dX2_begin_0 rfl (lv_at hl 0 rfl) ?_
  refine lv_iload_n hx hb dX2_begin_1 rfl (lv_at hl 1 rfl) ?_
  refine r_put (ws' := (wcat [SHW E a n x1 (nI zn) f])) hC hD hW fpX2_15 0 rfl rfl rfl (Nat.le_of_ble_eq_true rfl) rfl rfl dX2_begin_2 (fun H locs hW => ?_)
  refine lv_aload_n hx hb dX2_begin_5 rfl (lv_at hl 0 rfl) ?_
  refine lv_iload_n hx hb dX2_begin_6 rfl (lv_at hl 1 rfl) ?_
  refine lv_if_ne (tgt := 14) hx hb dX2_begin_7 (by decide) (fun c_1 => ?_) (fun c_1 => ?_)
  · refine lv_iload_n hx hb dX2_begin_14 rfl (lv_at hl 2 rfl) ?_
    refine n_top (show nI k = nI (if x1 = 0 then 0 else k) by rw [if_neg c_1]) ?_
    refine r_put (ws' := (wcat [SHW E a n x1 (nI (if x1 = 0 then 0 else k)) f])) hC hD hW fpX2_19 0 rfl rfl rfl (Nat.le_of_ble_eq_true rfl) rfl rfl dX2_begin_15 (fun H locs hW => ?_)
    refine lv_iconst (v := 0) hx hb dX2_begin_18 (by decide) ?_
    refine lv_istore_n (lv' := [(3, .int 0), (0, .ref a), (1, .int x1), (2, .int (nI k))]) hx hb dX2_begin_19 rfl hl (by decide) rfl (fun ls hl => ?_)
    have L20 : ∀ (n_ : Nat) (i : Nat) (H : Heap) (locs : List Loc) (ls : Array Slot), 40 - i < n_ → i ≤ 40 → Wd E A s.heap (wcat [SHW E a n x1 (nI (if x1 = 0 then 0 else k)) (fil (fun _ => 0) f i)]) H locs → lv_has ls 4 [(0, .ref a), (3, .int (nI i))] → W p l e R s m args below meth c H locs 0 0 Q (F0 m 20 ls []) := by
      intro n_
      induction n_ with
      | zero => intro i H locs ls hm; exact absurd hm (Nat.not_lt_zero _)
      | succ n_ ih =>
        intro i H locs ls hm hi hW hl
        refine lv_iload_n hx hb dX2_begin_20 rfl (lv_at hl 1 rfl) ?_
        refine lv_bipush (v := 40) hx hb dX2_begin_21 (by decide) ?_
        refine lv_icmp_ge (tgt := 39) hx hb dX2_begin_23 (by decide) (fun c_2 => ?_) (fun c_2 => ?_)
        · have c_2 : 40 ≤ i := (nI_leI (a := 40) (b := i) (by omega) (by omega)).mp c_2
          have hW : Wd E A s.heap (wcat [SHW E a n x1 (nI (if x1 = 0 then 0 else k)) (fun _ => 0)]) H locs := Wd_extl (g := fun _ => 0) hW 1 rfl (fun k_ hk_ => show fil (fun _ => 0) f i k_ = 0 from if_pos (by omega))
          exact r_vret hC hQ hD hW () trivial rfl rfl dX2_begin_39
        · have c_2 : ¬ 40 ≤ i := fun z_ => c_2 ((nI_leI (a := 40) (b := i) (by omega) (by omega)).mpr z_)
          refine lv_aload_n hx hb dX2_begin_26 rfl (lv_at hl 0 rfl) ?_
          refine r_get hC hW flX2_9 0 rfl rfl dX2_begin_27 ?_
          refine lv_iload_n hx hb dX2_begin_30 rfl (lv_at hl 1 rfl) ?_
          refine lv_lconst (v := 0) hx hb dX2_begin_31 (by decide) ?_
          refine r_last (ws' := (wcat [SHW E a n x1 (nI (if x1 = 0 then 0 else k)) (fil (fun _ => 0) f (i + 1))])) hC hD hW 1 rfl i rfl (by omega) (by decide) rfl (by rw [show vp_updL (fil (fun _ => 0) f i) i 0 = fil (fun _ => 0) f (i + 1) from fil_putL (fun _ => 0) f i]; rfl) dX2_begin_32 (fun H locs hW => ?_)
          refine lv_iinc (v := (nI (i + 1))) (lv' := [(3, .int (nI (i + 1))), (0, .ref a)]) (k := 1) hx hb dX2_begin_33 hl rfl (nI_inc i 1) (by decide) rfl (fun ls hl => ?_)
          refine lv_goto (tgt := 20) hx hb dX2_begin_36 (by decide) ?_
          exact ih (i + 1) _ _ _ (by omega) (by omega) hW (lv_sub hl [1, 0] rfl)
    exact L20 (40 - 0 + 1) 0 _ _ _ (Nat.lt_succ_self _) (by omega) (by have e := hW; rw [show f = fil (fun _ => 0) f 0 from by funext q; exact (fil_at _ _ (Nat.zero_le q)).symm] at e; exact e) (lv_sub hl [1, 0] rfl)
  · refine lv_iconst (v := 0) hx hb dX2_begin_10 (by decide) ?_
    refine lv_goto (tgt := 15) hx hb dX2_begin_11 (by decide) ?_
    refine n_top (show (0 : Int32) = nI (if x1 = 0 then 0 else k) by rw [if_pos c_1]; rfl) ?_
    refine r_put (ws' := (wcat [SHW E a n x1 (nI (if x1 = 0 then 0 else k)) f])) hC hD hW fpX2_19 0 rfl rfl rfl (Nat.le_of_ble_eq_true rfl) rfl rfl dX2_begin_15 (fun H locs hW => ?_)
    refine lv_iconst (v := 0) hx hb dX2_begin_18 (by decide) ?_
    refine lv_istore_n (lv' := [(3, .int 0), (0, .ref a), (1, .int x1), (2, .int (nI k))]) hx hb dX2_begin_19 rfl hl (by decide) rfl (fun ls hl => ?_)
    have L20 : ∀ (n_ : Nat) (i : Nat) (H : Heap) (locs : List Loc) (ls : Array Slot), 40 - i < n_ → i ≤ 40 → Wd E A s.heap (wcat [SHW E a n x1 (nI (if x1 = 0 then 0 else k)) (fil (fun _ => 0) f i)]) H locs → lv_has ls 4 [(0, .ref a), (3, .int (nI i))] → W p l e R s m args below meth c H locs 0 0 Q (F0 m 20 ls []) := by
      intro n_
      induction n_ with
      | zero => intro i H locs ls hm; exact absurd hm (Nat.not_lt_zero _)
      | succ n_ ih =>
        intro i H locs ls hm hi hW hl
        refine lv_iload_n hx hb dX2_begin_20 rfl (lv_at hl 1 rfl) ?_
        refine lv_bipush (v := 40) hx hb dX2_begin_21 (by decide) ?_
        refine lv_icmp_ge (tgt := 39) hx hb dX2_begin_23 (by decide) (fun c_3 => ?_) (fun c_3 => ?_)
        · have c_3 : 40 ≤ i := (nI_leI (a := 40) (b := i) (by omega) (by omega)).mp c_3
          have hW : Wd E A s.heap (wcat [SHW E a n x1 (nI (if x1 = 0 then 0 else k)) (fun _ => 0)]) H locs := Wd_extl (g := fun _ => 0) hW 1 rfl (fun k_ hk_ => show fil (fun _ => 0) f i k_ = 0 from if_pos (by omega))
          exact r_vret hC hQ hD hW () trivial rfl rfl dX2_begin_39
        · have c_3 : ¬ 40 ≤ i := fun z_ => c_3 ((nI_leI (a := 40) (b := i) (by omega) (by omega)).mpr z_)
          refine lv_aload_n hx hb dX2_begin_26 rfl (lv_at hl 0 rfl) ?_
          refine r_get hC hW flX2_9 0 rfl rfl dX2_begin_27 ?_
          refine lv_iload_n hx hb dX2_begin_30 rfl (lv_at hl 1 rfl) ?_
          refine lv_lconst (v := 0) hx hb dX2_begin_31 (by decide) ?_
          refine r_last (ws' := (wcat [SHW E a n x1 (nI (if x1 = 0 then 0 else k)) (fil (fun _ => 0) f (i + 1))])) hC hD hW 1 rfl i rfl (by omega) (by decide) rfl (by rw [show vp_updL (fil (fun _ => 0) f i) i 0 = fil (fun _ => 0) f (i + 1) from fil_putL (fun _ => 0) f i]; rfl) dX2_begin_32 (fun H locs hW => ?_)
          refine lv_iinc (v := (nI (i + 1))) (lv' := [(3, .int (nI (i + 1))), (0, .ref a)]) (k := 1) hx hb dX2_begin_33 hl rfl (nI_inc i 1) (by decide) rfl (fun ls hl => ?_)
          refine lv_goto (tgt := 20) hx hb dX2_begin_36 (by decide) ?_
          exact ih (i + 1) _ _ _ (by omega) (by omega) hW (lv_sub hl [1, 0] rfl)
    exact L20 (40 - 0 + 1) 0 _ _ _ (Nat.lt_succ_self _) (by omega) (by have e := hW; rw [show f = fil (fun _ => 0) f 0 from by funext q; exact (fil_at _ _ (Nat.zero_le q)).symm] at e; exact e) (lv_sub hl [1, 0] rfl)
set_option maxHeartbeats 4000000 in
set_option maxRecDepth 100000 in
theorem c_X2_put (l : Launch) (E : Ev) (a : Nat) (n : Nat) (bt : Int32) (zn : Nat) (f : Nat → Int64) (i : Nat) (hi : i < 40) (v : Int64) : MV l E yX2_put cX2_put 4 0 0 0 0 [.ref a, .int (nI i), .long v] (wcat [SHW E a n bt (nI zn) f]) (fun (_ : Unit) => True) (fun (_ : Unit) => (wcat [SHW E a n bt (nI zn) (vp_updL f i (nar bt v))])) := by
  refine MV_intro RX2 (by decide) rfl (Nat.le_of_ble_eq_true rfl) ?_
  intro p e R s m args below meth c A Q hQ hC hnm hD hW hA ls hl
  have hx := hC.1
  have hb := hC.2.1
  have hW : Wd E A s.heap (wcat [SHW E a n bt (nI zn) f]) s.heap [] := hW
  have hD : Dj A [a, n] := hD
  have hl : lv_has ls 4 [(0, .ref a), (1, .int (nI i)), (2, .long v)] := hl
  refine lv_aload_n hx hb dX2_put_0 rfl (lv_at hl 0 rfl) ?_
  refine r_get hC hW flX2_15 0 rfl rfl dX2_put_1 ?_
  by_cases k_1 : bt = 8
  · refine lv_lookup (off := 28) (tgt := 32) hx hb dX2_put_4 (by decide) (by rw [k_1]; decide) (by decide) ?_
    refine lv_aload_n hx hb dX2_put_32 rfl (lv_at hl 0 rfl) ?_
    refine r_get hC hW flX2_9 0 rfl rfl dX2_put_33 ?_
    refine lv_iload_n hx hb dX2_put_36 rfl (lv_at hl 1 rfl) ?_
    refine lv_lload_n hx hb dX2_put_37 rfl (lv_at hl 2 rfl) ?_
    refine lv_l2i (v := ((v : Int64).toInt32)) hx hb dX2_put_38 rfl ?_
    refine lv_i2b (v := ((((v : Int64).toInt32) : Int32).toInt8.toInt32)) hx hb dX2_put_39 rfl ?_
    refine lv_i2l (v := ((((((v : Int64).toInt32) : Int32).toInt8.toInt32) : Int32).toInt64)) hx hb dX2_put_40 rfl ?_
    refine r_last (ws' := (wcat [SHW E a n bt (nI zn) (vp_updL f i ((((((v : Int64).toInt32) : Int32).toInt8.toInt32) : Int32).toInt64))])) hC hD hW 1 rfl i rfl (by omega) (by decide) rfl rfl dX2_put_41 (fun H locs hW => ?_)
    refine lv_goto (tgt := 65) hx hb dX2_put_42 (by decide) ?_
    exact r_vret hC hQ hD hW () trivial (by rw [nar, if_pos k_1, ← nar8]; first | done | rfl) rfl dX2_put_65
  by_cases k_2 : bt = 16
  · refine lv_lookup (off := 41) (tgt := 45) hx hb dX2_put_4 (by decide) (by rw [k_2]; decide) (by decide) ?_
    refine lv_aload_n hx hb dX2_put_45 rfl (lv_at hl 0 rfl) ?_
    refine r_get hC hW flX2_9 0 rfl rfl dX2_put_46 ?_
    refine lv_iload_n hx hb dX2_put_49 rfl (lv_at hl 1 rfl) ?_
    refine lv_lload_n hx hb dX2_put_50 rfl (lv_at hl 2 rfl) ?_
    refine lv_l2i (v := ((v : Int64).toInt32)) hx hb dX2_put_51 rfl ?_
    refine lv_i2s (v := ((((v : Int64).toInt32) : Int32).toInt16.toInt32)) hx hb dX2_put_52 rfl ?_
    refine lv_i2l (v := ((((((v : Int64).toInt32) : Int32).toInt16.toInt32) : Int32).toInt64)) hx hb dX2_put_53 rfl ?_
    refine r_last (ws' := (wcat [SHW E a n bt (nI zn) (vp_updL f i ((((((v : Int64).toInt32) : Int32).toInt16.toInt32) : Int32).toInt64))])) hC hD hW 1 rfl i rfl (by omega) (by decide) rfl rfl dX2_put_54 (fun H locs hW => ?_)
    refine lv_goto (tgt := 65) hx hb dX2_put_55 (by decide) ?_
    exact r_vret hC hQ hD hW () trivial (by rw [nar, if_neg (show ¬ bt = 8 by rw [k_2]; decide), if_pos k_2, ← nar16]; first | done | rfl) rfl dX2_put_65
  refine lv_lookup (off := 54) (tgt := 58) hx hb dX2_put_4 (by decide) (by rw [lv_osw k_1 (by decide), lv_osw k_2 (by decide)]; rfl) (by decide) ?_
  refine lv_aload_n hx hb dX2_put_58 rfl (lv_at hl 0 rfl) ?_
  refine r_get hC hW flX2_9 0 rfl rfl dX2_put_59 ?_
  refine lv_iload_n hx hb dX2_put_62 rfl (lv_at hl 1 rfl) ?_
  refine lv_lload_n hx hb dX2_put_63 rfl (lv_at hl 2 rfl) ?_
  refine r_last (ws' := (wcat [SHW E a n bt (nI zn) (vp_updL f i v)])) hC hD hW 1 rfl i rfl (by omega) (by decide) rfl rfl dX2_put_64 (fun H locs hW => ?_)
  exact r_vret hC hQ hD hW () trivial (by rw [nar, if_neg k_1, if_neg k_2]; first | done | rfl) rfl dX2_put_65
set_option maxHeartbeats 4000000 in
set_option maxRecDepth 100000 in
theorem c_X2_hasRun (l : Launch) (E : Ev) (a : Nat) (n : Nat) (bt : Int32) (zn : Nat) (f : Nat → Int64) (hz40 : zn ≤ 40) (x1 : Int32) (x2 : Int32) : MI l E yX2_hasRun cX2_hasRun 3 .boolean 0 0 0 0 [.ref a, .int x1, .int x2] (wcat [SHW E a n bt (nI zn) f]) (fun (r : Int32) (_ : Unit) => bz (runP zn x1 x2) r) (fun (_ : Unit) => (wcat [SHW E a n bt (nI zn) f])) := by
  refine MI_intro RX2 (by decide) rfl (Nat.le_of_ble_eq_true rfl) ?_
  intro p e R s m args below meth c A Q hQ hC hD hW hA ls hl
  have hx := hC.1
  have hb := hC.2.1
  have hW : Wd E A s.heap (wcat [SHW E a n bt (nI zn) f]) s.heap [] := hW
  have hD : Dj A [a, n] := hD
  have hl : lv_has ls 3 [(0, .ref a), (1, .int x1), (2, .int x2)] := hl
  refine lv_iload_n hx hb dX2_hasRun_0 rfl (lv_at hl 1 rfl) ?_
  refine lv_if_lt (tgt := 30) hx hb dX2_hasRun_1 (by decide) (fun c_1 => ?_) (fun c_1 => ?_)
  · refine lv_iconst (v := 0) hx hb dX2_hasRun_30 (by decide) ?_
    exact r_zret hC hQ hD hW (by decide) () (bz_f (fun z_ => absurd ((runP_iff2 hz40).mp z_).1 (Int32.not_le.mpr c_1))) rfl rfl dX2_hasRun_31
  · refine lv_iload_n hx hb dX2_hasRun_4 rfl (lv_at hl 2 rfl) ?_
    refine lv_if_lt (tgt := 30) hx hb dX2_hasRun_5 (by decide) (fun c_2 => ?_) (fun c_2 => ?_)
    · refine lv_iconst (v := 0) hx hb dX2_hasRun_30 (by decide) ?_
      exact r_zret hC hQ hD hW (by decide) () (bz_f (fun z_ => absurd ((runP_iff2 hz40).mp z_).2.1 (Int32.not_le.mpr c_2))) rfl rfl dX2_hasRun_31
    · refine lv_iload_n hx hb dX2_hasRun_8 rfl (lv_at hl 1 rfl) ?_
      refine lv_aload_n hx hb dX2_hasRun_9 rfl (lv_at hl 0 rfl) ?_
      refine r_get hC hW flX2_19 0 rfl rfl dX2_hasRun_10 ?_
      refine lv_icmp_gt (tgt := 30) hx hb dX2_hasRun_13 (by decide) (fun c_3 => ?_) (fun c_3 => ?_)
      · refine lv_iconst (v := 0) hx hb dX2_hasRun_30 (by decide) ?_
        exact r_zret hC hQ hD hW (by decide) () (bz_f (fun z_ => absurd ((runP_iff2 hz40).mp z_).2.2.1 (Int32.not_le.mpr c_3))) rfl rfl dX2_hasRun_31
      · refine lv_iload_n hx hb dX2_hasRun_16 rfl (lv_at hl 2 rfl) ?_
        refine lv_aload_n hx hb dX2_hasRun_17 rfl (lv_at hl 0 rfl) ?_
        refine r_get hC hW flX2_19 0 rfl rfl dX2_hasRun_18 ?_
        refine lv_iload_n hx hb dX2_hasRun_21 rfl (lv_at hl 1 rfl) ?_
        refine n_isub (v := (nI zn - x1)) hx hb dX2_hasRun_22 rfl ?_
        refine lv_icmp_gt (tgt := 30) hx hb dX2_hasRun_23 (by decide) (fun c_4 => ?_) (fun c_4 => ?_)
        · refine lv_iconst (v := 0) hx hb dX2_hasRun_30 (by decide) ?_
          exact r_zret hC hQ hD hW (by decide) () (bz_f (fun z_ => absurd ((runP_iff2 hz40).mp z_).2.2.2 (Int32.not_le.mpr c_4))) rfl rfl dX2_hasRun_31
        · refine lv_iconst (v := 1) hx hb dX2_hasRun_26 (by decide) ?_
          refine lv_goto (tgt := 31) hx hb dX2_hasRun_27 (by decide) ?_
          exact r_zret hC hQ hD hW (by decide) () (bz_t ((runP_iff2 hz40).mpr ⟨Int32.not_lt.mp c_1, Int32.not_lt.mp c_2, Int32.not_lt.mp c_3, Int32.not_lt.mp c_4⟩)) rfl rfl dX2_hasRun_31
set_option maxHeartbeats 4000000 in
set_option maxRecDepth 100000 in
theorem c_X3_append (l : Launch) (E : Ev) (vy : Nat → Nat) (y : Nat → Int32) (tp : Nat → Int32) (tl : Nat) (htl : y 0 = nI tl) (ht1 : tl < 120) (v : Int32) : MV l E yX3_append cX3_append 2 0 0 0 0 [.ref (vy 0), .int v] (wcat [TPW E vy y tp]) (fun (_ : Unit) => True) (fun (_ : Unit) => (wcat [TPW E vy (upd y 0 (nI (tl + 1))) (upd tp tl v)])) := by
  refine MV_intro RX3 (by decide) rfl (Nat.le_of_ble_eq_true rfl) ?_
  intro p e R s m args below meth c A Q hQ hC hnm hD hW hA ls hl
  have hx := hC.1
  have hb := hC.2.1
  have hW : Wd E A s.heap (wcat [TPW E vy y tp]) s.heap [] := hW
  have hD : Dj A [vy 0, vy 1] := hD
  have hl : lv_has ls 2 [(0, .ref (vy 0)), (1, .int v)] := hl
  refine lv_aload_n hx hb dX3_append_0 rfl (lv_at hl 0 rfl) ?_
  refine r_get hC hW flX3_9 0 rfl rfl dX3_append_1 ?_
  refine lv_aload_n hx hb dX3_append_4 rfl (lv_at hl 0 rfl) ?_
  refine r_get hC hW flX3_15 0 rfl rfl dX3_append_5 ?_
  refine n_top htl ?_
  refine lv_iload_n hx hb dX3_append_8 rfl (lv_at hl 1 rfl) ?_
  refine r_iast (ws' := (wcat [TPW E vy y (upd tp tl v)])) hC hD hW 1 rfl tl rfl (by omega) (by decide) rfl rfl dX3_append_9 (fun H locs hW => ?_)
  refine lv_aload_n hx hb dX3_append_10 rfl (lv_at hl 0 rfl) ?_
  refine lv_dup hx hb dX3_append_11 rfl ?_
  refine r_get hC hW flX3_15 0 rfl rfl dX3_append_12 ?_
  refine n_top htl ?_
  refine lv_iconst (v := 1) hx hb dX3_append_15 (by decide) ?_
  refine n_iadd (v := (nI (tl + 1))) hx hb dX3_append_16 (nI_add tl 1) ?_
  refine r_put (ws' := (wcat [TPW E vy (upd y 0 (nI (tl + 1))) (upd tp tl v)])) hC hD hW fpX3_15 0 rfl rfl rfl (Nat.le_of_ble_eq_true rfl) rfl rfl dX3_append_17 (fun H locs hW => ?_)
  exact r_vret hC hQ hD hW () trivial rfl rfl dX3_append_20
set_option maxHeartbeats 4000000 in
set_option maxRecDepth 100000 in
theorem c_X3_clear (l : Launch) (E : Ev) (vy : Nat → Nat) (y : Nat → Int32) (tp : Nat → Int32) : MV l E yX3_clear cX3_clear 1 0 0 0 0 [.ref (vy 0)] (wcat [TPW E vy y tp]) (fun (_ : Unit) => True) (fun (_ : Unit) => (wcat [TPW E vy (upd y 0 0) tp])) := by
  refine MV_intro RX3 (by decide) rfl (Nat.le_of_ble_eq_true rfl) ?_
  intro p e R s m args below meth c A Q hQ hC hnm hD hW hA ls hl
  have hx := hC.1
  have hb := hC.2.1
  have hW : Wd E A s.heap (wcat [TPW E vy y tp]) s.heap [] := hW
  have hD : Dj A [vy 0, vy 1] := hD
  have hl : lv_has ls 1 [(0, .ref (vy 0))] := hl
  refine lv_aload_n hx hb dX3_clear_0 rfl (lv_at hl 0 rfl) ?_
  refine lv_iconst (v := 0) hx hb dX3_clear_1 (by decide) ?_
  refine r_put (ws' := (wcat [TPW E vy (upd y 0 0) tp])) hC hD hW fpX3_15 0 rfl rfl rfl (Nat.le_of_ble_eq_true rfl) rfl rfl dX3_clear_2 (fun H locs hW => ?_)
  exact r_vret hC hQ hD hW () trivial rfl rfl dX3_clear_5
set_option maxHeartbeats 4000000 in
set_option maxRecDepth 100000 in
theorem c_X3_rewind (l : Launch) (E : Ev) (vy : Nat → Nat) (y : Nat → Int32) (tp : Nat → Int32) : MV l E yX3_rewind cX3_rewind 1 0 0 0 0 [.ref (vy 0)] (wcat [TPW E vy y tp]) (fun (_ : Unit) => True) (fun (_ : Unit) => (wcat [TPW E vy (upd (upd (upd (upd y 1 0) 2 0) 3 0) 4 0) tp])) := by
  refine MV_intro RX3 (by decide) rfl (Nat.le_of_ble_eq_true rfl) ?_
  intro p e R s m args below meth c A Q hQ hC hnm hD hW hA ls hl
  have hx := hC.1
  have hb := hC.2.1
  have hW : Wd E A s.heap (wcat [TPW E vy y tp]) s.heap [] := hW
  have hD : Dj A [vy 0, vy 1] := hD
  have hl : lv_has ls 1 [(0, .ref (vy 0))] := hl
  refine lv_aload_n hx hb dX3_rewind_0 rfl (lv_at hl 0 rfl) ?_
  refine lv_iconst (v := 0) hx hb dX3_rewind_1 (by decide) ?_
  refine r_put (ws' := (wcat [TPW E vy (upd y 1 0) tp])) hC hD hW fpX3_22 0 rfl rfl rfl (Nat.le_of_ble_eq_true rfl) rfl rfl dX3_rewind_2 (fun H locs hW => ?_)
  refine lv_aload_n hx hb dX3_rewind_5 rfl (lv_at hl 0 rfl) ?_
  refine lv_iconst (v := 0) hx hb dX3_rewind_6 (by decide) ?_
  refine r_put (ws' := (wcat [TPW E vy (upd (upd y 1 0) 2 0) tp])) hC hD hW fpX3_25 0 rfl rfl rfl (Nat.le_of_ble_eq_true rfl) rfl rfl dX3_rewind_7 (fun H locs hW => ?_)
  refine lv_aload_n hx hb dX3_rewind_10 rfl (lv_at hl 0 rfl) ?_
  refine lv_iconst (v := 0) hx hb dX3_rewind_11 (by decide) ?_
  refine r_put (ws' := (wcat [TPW E vy (upd (upd (upd y 1 0) 2 0) 3 0) tp])) hC hD hW fpX3_28 0 rfl rfl rfl (Nat.le_of_ble_eq_true rfl) rfl rfl dX3_rewind_12 (fun H locs hW => ?_)
  refine lv_aload_n hx hb dX3_rewind_15 rfl (lv_at hl 0 rfl) ?_
  refine lv_iconst (v := 0) hx hb dX3_rewind_16 (by decide) ?_
  refine r_put (ws' := (wcat [TPW E vy (upd (upd (upd (upd y 1 0) 2 0) 3 0) 4 0) tp])) hC hD hW fpX3_31 0 rfl rfl rfl (Nat.le_of_ble_eq_true rfl) rfl rfl dX3_rewind_17 (fun H locs hW => ?_)
  exact r_vret hC hQ hD hW () trivial rfl rfl dX3_rewind_20
set_option maxHeartbeats 4000000 in
set_option maxRecDepth 100000 in
theorem c_X4_feed (l : Launch) (E : Ev) (o : Nat → Nat) (vl : Nat → Nat) (vt : Nat → Nat) (vk : Nat → Nat) (vy : Nat → Nat) (kp : Int32) (F : FT) (y : Nat → Int32) (tp : Nat → Int32) (tl : Nat) (htl : y 0 = nI tl) (ht1 : tl ≤ 120) (x1 : Int32) (x2 : Int32) : MI l E yX4_feed cX4_feed 4 .int 1 22 0 0 [.ref (o 0), .int x1, .int x2] (wcat [CO o vl vt vk vy kp, IA E (o 3) 7 F, TPW E vy y tp]) (fun (r : Int32) (_ : Unit) => r = (mFeed F tp tl x1 x2).1) (fun (_ : Unit) => (wcat [CO o vl vt vk vy kp, IA E (o 3) 7 ((mFeed F tp tl x1 x2).2.1), TPW E vy (upd y 0 (nI (mFeed F tp tl x1 x2).2.2.2)) ((mFeed F tp tl x1 x2).2.2.1)])) := by
  refine MI_intro RX4 (by decide) rfl (Nat.le_of_ble_eq_true rfl) ?_
  intro p e R s m args below meth c A Q hQ hC hD hW hA ls hl
  have hx := hC.1
  have hb := hC.2.1
  have hW : Wd E A s.heap (wcat [CO o vl vt vk vy kp, IA E (o 3) 7 F, TPW E vy y tp]) s.heap [] := hW
  have hD : Dj A [o 0, o 3, vy 0, vy 1] := hD
  have hl : lv_has ls 4 [(0, .ref (o 0)), (1, .int x1), (2, .int x2)] := hl
  refine lv_iload_n hx hb dX4_feed_0 rfl (lv_at hl 2 rfl) ?_
  refine lv_iconst (v := 1) hx hb dX4_feed_1 (by decide) ?_
  refine lv_iconst (v := 4) hx hb dX4_feed_2 (by decide) ?_
  refine r_callSi hC hD hW hA lkX4_53 (c_X4_isWithin l E x2 1 4) ⟨by decide, by decide, by decide, by decide⟩ rfl hl.1 rfl rfl (Nat.le_of_ble_eq_true rfl) dX4_feed_3 (fun r_1 _ H locs hr_1 hW => ?_)
  have hW : Wd E A s.heap (wcat [CO o vl vt vk vy kp, IA E (o 3) 7 F, TPW E vy y tp]) H locs := hW
  have hr_1 : bz (1 ≤ x2 ∧ x2 ≤ 4) r_1 := hr_1
  rcases hr_1 with ⟨rfl, b_2⟩ | ⟨rfl, b_2⟩
  · refine lv_if_ne (tgt := 15) hx hb dX4_feed_6 (by decide) (fun c => absurd c (by decide)) (fun _ => ?_)
    refine lv_aload_n hx hb dX4_feed_9 rfl (lv_at hl 0 rfl) ?_
    refine lv_iconst (v := 0) hx hb dX4_feed_10 (by decide) ?_
    refine r_callCi hC hD hW hA lkX4_57 (c_X4_finding l E o vl vt vk vy kp F 0 (-1000000001) (by decide) (by decide)) rfl rfl ⟨by decide, by decide, by decide, by decide⟩ [0, 1] rfl rfl rfl (fun _ => rfl) hl.1 rfl rfl (Nat.le_of_ble_eq_true rfl) dX4_feed_11 (fun r_3 _ H locs hr_3 hW => ?_)
    have hW : Wd E A s.heap (wcat [CO o vl vt vk vy kp, IA E (o 3) 7 (upd F 0 (F 0 + 1)), TPW E vy y tp]) H locs := hW
    have hr_3 : r_3 = (-1000000001) := hr_3
    subst hr_3
    exact r_iret hC hQ hD hW () (by rw [mFeed, cif_f b_2]; first | done | rfl) (by rw [mFeed, cif_f b_2, ← htl, upd_same]; first | done | rfl) rfl dX4_feed_14
  · have eb_2 := rng1 (k := 4) (by decide) b_2
    obtain ⟨n, hn, rfl⟩ := eb_2
    refine lv_if_ne (tgt := 15) hx hb dX4_feed_6 (by decide) (fun _ => ?_) (fun c => absurd c (by decide))
    refine lv_aload_n hx hb dX4_feed_15 rfl (lv_at hl 0 rfl) ?_
    refine r_get hC hW flX4_29 0 rfl rfl dX4_feed_16 ?_
    refine r_get hC hW flX4_173 2 rfl rfl dX4_feed_19 ?_
    refine n_top htl ?_
    refine lv_iload_n hx hb dX4_feed_22 rfl (lv_at hl 2 rfl) ?_
    refine n_iadd (v := (nI (tl + n))) hx hb dX4_feed_23 (nI_add tl n) ?_
    refine lv_bipush (v := 120) hx hb dX4_feed_24 (by decide) ?_
    refine lv_icmp_le (tgt := 35) hx hb dX4_feed_26 (by decide) (fun c_4 => ?_) (fun c_4 => ?_)
    · have c_4 : tl + n ≤ 120 := (nI_leI (a := tl + n) (b := 120) (by omega) (by omega)).mp c_4
      refine lv_iload_n hx hb dX4_feed_35 rfl (lv_at hl 2 rfl) ?_
      refine lv_iconst (v := 1) hx hb dX4_feed_36 (by decide) ?_
      refine n_isub (v := (nI n - 1)) hx hb dX4_feed_37 rfl ?_
      refine lv_istore_n (lv' := [(3, .int (nI n - 1)), (0, .ref (o 0)), (1, .int x1), (2, .int (nI n))]) hx hb dX4_feed_38 rfl hl (by decide) rfl (fun ls hl => ?_)
      have L39 : ∀ (n_ : Nat) (q : Nat) (t1 : Nat) (p1 : (Nat → Int32)) (H : Heap) (locs : List Loc) (ls : Array Slot), q < n_ → q ≤ n → t1 + q = tl + n → fdT x1 q p1 t1 = fdT x1 n tp tl → Wd E A s.heap (wcat [CO o vl vt vk vy kp, IA E (o 3) 7 F, TPW E vy (upd y 0 (nI t1)) p1]) H locs → lv_has ls 4 [(0, .ref (o 0)), (1, .int x1), (2, .int (nI n)), (3, .int (nI q - 1))] → W p l e R s m args below meth c H locs 0 0 Q (F0 m 39 ls []) := by
        intro n_
        induction n_ with
        | zero => intro q t1 p1 H locs ls hm; exact absurd hm (Nat.not_lt_zero _)
        | succ n_ ih =>
          intro q t1 p1 H locs ls hm hq ht hf hW hl
          rcases q with _ | q
          · have hl : lv_has ls 4 [(0, .ref (o 0)), (1, .int x1), (2, .int (nI n)), (3, .int (-1))] := hl
            refine lv_iload_n hx hb dX4_feed_39 rfl (lv_at hl 3 rfl) ?_
            refine lv_if_lt (tgt := 66) hx hb dX4_feed_40 (by decide) (fun _ => ?_) (fun c => absurd c (by decide))
            refine lv_aload_n hx hb dX4_feed_66 rfl (lv_at hl 0 rfl) ?_
            refine r_get hC hW flX4_29 0 rfl rfl dX4_feed_67 ?_
            refine r_get hC hW flX4_173 2 rfl rfl dX4_feed_70 ?_
            refine n_top (upd_at _ _ _) ?_
            exact r_iret hC hQ hD hW () (by rw [mFeed, cif_t b_2, ix_nI (n := n) (by omega), if_neg (show ¬ 120 < tl + n by omega), show t1 = tl + n by omega]; first | done | rfl) (by rw [mFeed, cif_t b_2, ix_nI (n := n) (by omega), if_neg (show ¬ 120 < tl + n by omega), ← hf, ← ht]; first | done | rfl) rfl dX4_feed_73
          · rw [show nI (q + 1) - 1 = nI q from nI_pred q] at hl
            refine lv_iload_n hx hb dX4_feed_39 rfl (lv_at hl 3 rfl) ?_
            refine lv_if_lt (tgt := 66) hx hb dX4_feed_40 (by decide) (fun c_5 => absurd c_5 (nI_pos (by omega))) (fun c_5 => ?_)
            have c_5 : ¬ q < 0 := fun z_ => c_5 ((nI_ltI (a := q) (b := 0) (by omega) (by omega)).mpr z_)
            refine lv_aload_n hx hb dX4_feed_43 rfl (lv_at hl 0 rfl) ?_
            refine r_get hC hW flX4_29 0 rfl rfl dX4_feed_44 ?_
            refine lv_iload_n hx hb dX4_feed_47 rfl (lv_at hl 1 rfl) ?_
            refine lv_bipush (v := 8) hx hb dX4_feed_48 (by decide) ?_
            refine lv_iload_n hx hb dX4_feed_50 rfl (lv_at hl 3 rfl) ?_
            refine n_imul (v := (nI (8 * q))) hx hb dX4_feed_51 (pk_mul 8 q) ?_
            refine n_ishr (v := (x1 >>> ((nI (8 * q)) &&& 31))) hx hb dX4_feed_52 rfl ?_
            refine lv_sipush (v := 255) hx hb dX4_feed_53 (by decide) ?_
            refine n_iand (v := (fby x1 q)) hx hb dX4_feed_56 rfl ?_
            refine r_callCv hC hD hW hA lkX4_176 (c_X3_append l E vy (upd y 0 (nI t1)) p1 t1 (upd_at _ _ _) (by omega) (fby x1 q)) rfl rfl ⟨by decide, by decide, by decide, by decide⟩ [2] rfl rfl rfl (fun _ => rfl) hl.1 rfl rfl (Nat.le_of_ble_eq_true rfl) dX4_feed_57 (fun _ H locs hr_6 hW => ?_)
            have hW : Wd E A s.heap (wcat [CO o vl vt vk vy kp, IA E (o 3) 7 F, TPW E vy (upd (upd y 0 (nI t1)) 0 (nI (t1 + 1))) (upd p1 t1 (fby x1 q))]) H locs := hW
            refine lv_iinc (v := (nI q - 1)) (lv' := [(3, .int (nI q - 1)), (0, .ref (o 0)), (1, .int x1), (2, .int (nI n))]) (k := 3) hx hb dX4_feed_60 hl rfl (nI_dec q) (by decide) rfl (fun ls hl => ?_)
            refine lv_goto (tgt := 39) hx hb dX4_feed_63 (by decide) ?_
            exact ih q (t1 + 1) (upd p1 t1 (fby x1 q)) _ _ _ (by omega) (by omega) (by omega) hf (by have e := hW; rw [upd_upd] at e; exact e) (lv_sub hl [1, 2, 3, 0] rfl)
      exact L39 (n + 1) n tl tp _ _ _ (Nat.lt_succ_self _) (by omega) (by omega) rfl (by have e := hW; rw [show y = upd y 0 (nI tl) from (upd_self htl).symm] at e; exact e) (lv_sub hl [1, 2, 3, 0] rfl)
    · have c_4 : ¬ tl + n ≤ 120 := fun z_ => c_4 ((nI_leI (a := tl + n) (b := 120) (by omega) (by omega)).mpr z_)
      refine lv_aload_n hx hb dX4_feed_29 rfl (lv_at hl 0 rfl) ?_
      refine lv_iconst (v := 1) hx hb dX4_feed_30 (by decide) ?_
      refine r_callCi hC hD hW hA lkX4_57 (c_X4_finding l E o vl vt vk vy kp F 1 (-1000000002) (by decide) (by decide)) rfl rfl ⟨by decide, by decide, by decide, by decide⟩ [0, 1] rfl rfl rfl (fun _ => rfl) hl.1 rfl rfl (Nat.le_of_ble_eq_true rfl) dX4_feed_31 (fun r_7 _ H locs hr_7 hW => ?_)
      have hW : Wd E A s.heap (wcat [CO o vl vt vk vy kp, IA E (o 3) 7 (upd F 1 (F 1 + 1)), TPW E vy y tp]) H locs := hW
      have hr_7 : r_7 = (-1000000002) := hr_7
      subst hr_7
      exact r_iret hC hQ hD hW () (by rw [mFeed, cif_t b_2, ix_nI (n := n) (by omega), if_pos (show 120 < tl + n by omega)]; first | done | rfl) (by rw [mFeed, cif_t b_2, ix_nI (n := n) (by omega), if_pos (show 120 < tl + n by omega), ← htl, upd_same]; first | done | rfl) rfl dX4_feed_34
set_option maxHeartbeats 4000000 in
set_option maxRecDepth 100000 in
theorem c_X4_wipe (l : Launch) (E : Ev) (o : Nat → Nat) (vl : Nat → Nat) (vt : Nat → Nat) (vk : Nat → Nat) (vy : Nat → Nat) (kp : Int32) (y : Nat → Int32) (tp : Nat → Int32) : MI l E yX4_wipe cX4_wipe 2 .int 1 20 0 0 [.ref (o 0)] (wcat [CO o vl vt vk vy kp, TPW E vy y tp]) (fun (r : Int32) (_ : Unit) => r = y 0) (fun (_ : Unit) => (wcat [CO o vl vt vk vy kp, TPW E vy (upd y 0 0) tp])) := by
  refine MI_intro RX4 (by decide) rfl (Nat.le_of_ble_eq_true rfl) ?_
  intro p e R s m args below meth c A Q hQ hC hD hW hA ls hl
  have hx := hC.1
  have hb := hC.2.1
  have hW : Wd E A s.heap (wcat [CO o vl vt vk vy kp, TPW E vy y tp]) s.heap [] := hW
  have hD : Dj A [o 0, vy 0, vy 1] := hD
  have hl : lv_has ls 2 [(0, .ref (o 0))] := hl
  refine lv_aload_n hx hb dX4_wipe_0 rfl (lv_at hl 0 rfl) ?_
  refine r_get hC hW flX4_29 0 rfl rfl dX4_wipe_1 ?_
  refine r_get hC hW flX4_173 1 rfl rfl dX4_wipe_4 ?_
  refine lv_istore_n (lv' := [(1, .int (y 0)), (0, .ref (o 0))]) hx hb dX4_wipe_7 rfl hl (by decide) rfl (fun ls hl => ?_)
  refine lv_aload_n hx hb dX4_wipe_8 rfl (lv_at hl 1 rfl) ?_
  refine r_get hC hW flX4_29 0 rfl rfl dX4_wipe_9 ?_
  refine r_callCv hC hD hW hA lkX4_179 (c_X3_clear l E vy y tp) rfl rfl ⟨by decide, by decide, by decide, by decide⟩ [1] rfl rfl rfl (fun _ => rfl) hl.1 rfl rfl (Nat.le_of_ble_eq_true rfl) dX4_wipe_12 (fun _ H locs hr_1 hW => ?_)
  have hW : Wd E A s.heap (wcat [CO o vl vt vk vy kp, TPW E vy (upd y 0 0) tp]) H locs := hW
  refine lv_iload_n hx hb dX4_wipe_15 rfl (lv_at hl 0 rfl) ?_
  exact r_iret hC hQ hD hW () rfl rfl rfl dX4_wipe_16
set_option maxHeartbeats 4000000 in
set_option maxRecDepth 100000 in
theorem c_X4_image (l : Launch) (E : Ev) (o : Nat → Nat) (vl : Nat → Nat) (vt : Nat → Nat) (vk : Nat → Nat) (vy : Nat → Nat) (kp : Int32) (S : HS) (Tl : HS) (K : HS) (Tk : HS) : MI l E yX4_image cX4_image 1 .int 2 47 0 0 [.ref (o 0)] (wcat [CO o vl vt vk vy kp, HW E vl S Tl, HW E vk K Tk]) (fun (r : Int32) (_ : Unit) => r = 1) (fun (_ : Unit) => (wcat [CO o vl vt vk vy 1, HW E vl S Tl, HW E vk S Tk])) := by
  refine MI_intro RX4 (by decide) rfl (Nat.le_of_ble_eq_true rfl) ?_
  intro p e R s m args below meth c A Q hQ hC hD hW hA ls hl
  have hx := hC.1
  have hb := hC.2.1
  have hW : Wd E A s.heap (wcat [CO o vl vt vk vy kp, HW E vl S Tl, HW E vk K Tk]) s.heap [] := hW
  have hD : Dj A [o 0, vl 0, vl 1, vl 2, vl 3, vl 4, vl 5, vl 6, vl 7, vl 8, vl 9, vl 10, vk 0, vk 1, vk 2, vk 3, vk 4, vk 5, vk 6, vk 7, vk 8, vk 9, vk 10] := hD
  have hl : lv_has ls 1 [(0, .ref (o 0))] := hl
  refine lv_aload_n hx hb dX4_image_0 rfl (lv_at hl 0 rfl) ?_
  refine r_get hC hW flX4_19 0 rfl rfl dX4_image_1 ?_
  refine lv_aload_n hx hb dX4_image_4 rfl (lv_at hl 0 rfl) ?_
  refine r_get hC hW flX4_10 0 rfl rfl dX4_image_5 ?_
  refine r_callCv hC hD hW hA lkX4_189 (c_X0_become l E vk K Tk vl S Tl) rfl rfl ⟨by decide, by decide, by decide, by decide⟩ [2, 1] rfl rfl rfl (fun _ => rfl) hl.1 rfl rfl (Nat.le_of_ble_eq_true rfl) dX4_image_8 (fun _ H locs hr_1 hW => ?_)
  have hW : Wd E A s.heap (wcat [CO o vl vt vk vy kp, HW E vl S Tl, HW E vk S Tk]) H locs := hW
  refine lv_aload_n hx hb dX4_image_11 rfl (lv_at hl 0 rfl) ?_
  refine lv_iconst (v := 1) hx hb dX4_image_12 (by decide) ?_
  refine r_put (ws' := (wcat [CO o vl vt vk vy 1, HW E vl S Tl, HW E vk S Tk])) hC hD hW fpX4_22 0 rfl rfl rfl (Nat.le_of_ble_eq_true rfl) rfl rfl dX4_image_13 (fun H locs hW => ?_)
  refine lv_iconst (v := 1) hx hb dX4_image_16 (by decide) ?_
  exact r_iret hC hQ hD hW () rfl rfl rfl dX4_image_17
set_option maxHeartbeats 4000000 in
set_option maxRecDepth 100000 in
theorem c_X4_undo (l : Launch) (E : Ev) (o : Nat → Nat) (vl : Nat → Nat) (vt : Nat → Nat) (vk : Nat → Nat) (vy : Nat → Nat) (kp : Int32) (S : HS) (Tl : HS) (F : FT) (K : HS) (Tk : HS) : MI l E yX4_undo cX4_undo 1 .int 2 47 0 0 [.ref (o 0)] (wcat [CO o vl vt vk vy kp, IA E (o 3) 7 F, HW E vl S Tl, HW E vk K Tk]) (fun (r : Int32) (_ : Unit) => r = (mUndo S K F kp).1) (fun (_ : Unit) => (wcat [CO o vl vt vk vy kp, IA E (o 3) 7 ((mUndo S K F kp).2.2), HW E vl ((mUndo S K F kp).2.1) Tl, HW E vk K Tk])) := by
  refine MI_intro RX4 (by decide) rfl (Nat.le_of_ble_eq_true rfl) ?_
  intro p e R s m args below meth c A Q hQ hC hD hW hA ls hl
  have hx := hC.1
  have hb := hC.2.1
  have hW : Wd E A s.heap (wcat [CO o vl vt vk vy kp, IA E (o 3) 7 F, HW E vl S Tl, HW E vk K Tk]) s.heap [] := hW
  have hD : Dj A [o 0, o 3, vl 0, vl 1, vl 2, vl 3, vl 4, vl 5, vl 6, vl 7, vl 8, vl 9, vl 10, vk 0, vk 1, vk 2, vk 3, vk 4, vk 5, vk 6, vk 7, vk 8, vk 9, vk 10] := hD
  have hl : lv_has ls 1 [(0, .ref (o 0))] := hl
  refine lv_aload_n hx hb dX4_undo_0 rfl (lv_at hl 0 rfl) ?_
  refine r_get hC hW flX4_22 0 rfl rfl dX4_undo_1 ?_
  refine lv_if_ne (tgt := 13) hx hb dX4_undo_4 (by decide) (fun c_1 => ?_) (fun c_1 => ?_)
  · refine lv_aload_n hx hb dX4_undo_13 rfl (lv_at hl 0 rfl) ?_
    refine r_get hC hW flX4_10 0 rfl rfl dX4_undo_14 ?_
    refine lv_aload_n hx hb dX4_undo_17 rfl (lv_at hl 0 rfl) ?_
    refine r_get hC hW flX4_19 0 rfl rfl dX4_undo_18 ?_
    refine r_callCv hC hD hW hA lkX4_189 (c_X0_become l E vl S Tl vk K Tk) rfl rfl ⟨by decide, by decide, by decide, by decide⟩ [2, 3] rfl rfl rfl (fun _ => rfl) hl.1 rfl rfl (Nat.le_of_ble_eq_true rfl) dX4_undo_21 (fun _ H locs hr_2 hW => ?_)
    have hW : Wd E A s.heap (wcat [CO o vl vt vk vy kp, IA E (o 3) 7 F, HW E vl K Tl, HW E vk K Tk]) H locs := hW
    refine lv_aload_n hx hb dX4_undo_24 rfl (lv_at hl 0 rfl) ?_
    refine r_get hC hW flX4_10 0 rfl rfl dX4_undo_25 ?_
    refine r_get hC hW flX4_85 2 rfl rfl dX4_undo_28 ?_
    exact r_iret hC hQ hD hW () (by rw [mUndo, if_neg c_1]; first | done | rfl) (by rw [mUndo, if_neg c_1]; first | done | rfl) rfl dX4_undo_31
  · refine lv_aload_n hx hb dX4_undo_7 rfl (lv_at hl 0 rfl) ?_
    refine lv_iconst (v := 3) hx hb dX4_undo_8 (by decide) ?_
    refine r_callCi hC hD hW hA lkX4_57 (c_X4_finding l E o vl vt vk vy kp F 3 (-1000000004) (by decide) (by decide)) rfl rfl ⟨by decide, by decide, by decide, by decide⟩ [0, 1] rfl rfl rfl (fun _ => rfl) hl.1 rfl rfl (Nat.le_of_ble_eq_true rfl) dX4_undo_9 (fun r_3 _ H locs hr_3 hW => ?_)
    have hW : Wd E A s.heap (wcat [CO o vl vt vk vy kp, IA E (o 3) 7 (upd F 3 (F 3 + 1)), HW E vl S Tl, HW E vk K Tk]) H locs := hW
    have hr_3 : r_3 = (-1000000004) := hr_3
    subst hr_3
    exact r_iret hC hQ hD hW () (by rw [mUndo, if_pos c_1]; first | done | rfl) (by rw [mUndo, if_pos c_1]; first | done | rfl) rfl dX4_undo_12
set_option maxHeartbeats 4000000 in
set_option maxRecDepth 100000 in
theorem c_X4_tear (l : Launch) (E : Ev) (o : Nat → Nat) (vl : Nat → Nat) (vt : Nat → Nat) (vk : Nat → Nat) (vy : Nat → Nat) (kp : Int32) (hkp : kp = 0 ∨ kp = 1) : MI l E yX4_tear cX4_tear 2 .int 0 0 0 0 [.ref (o 0)] (wcat [CO o vl vt vk vy kp]) (fun (r : Int32) (_ : Unit) => r = kp) (fun (_ : Unit) => (wcat [CO o vl vt vk vy 0])) := by
  refine MI_intro RX4 (by decide) rfl (Nat.le_of_ble_eq_true rfl) ?_
  intro p e R s m args below meth c A Q hQ hC hD hW hA ls hl
  have hx := hC.1
  have hb := hC.2.1
  have hW : Wd E A s.heap (wcat [CO o vl vt vk vy kp]) s.heap [] := hW
  have hD : Dj A [o 0] := hD
  have hl : lv_has ls 2 [(0, .ref (o 0))] := hl
  refine lv_aload_n hx hb dX4_tear_0 rfl (lv_at hl 0 rfl) ?_
  refine r_get hC hW flX4_22 0 rfl rfl dX4_tear_1 ?_
  refine lv_if_eq (tgt := 11) hx hb dX4_tear_4 (by decide) (fun c_1 => ?_) (fun c_1 => ?_)
  · refine lv_iconst (v := 0) hx hb dX4_tear_11 (by decide) ?_
    refine lv_istore_n (lv' := [(1, .int 0), (0, .ref (o 0))]) hx hb dX4_tear_12 rfl hl (by decide) rfl (fun ls hl => ?_)
    refine lv_aload_n hx hb dX4_tear_13 rfl (lv_at hl 1 rfl) ?_
    refine lv_iconst (v := 0) hx hb dX4_tear_14 (by decide) ?_
    refine r_put (ws' := (wcat [CO o vl vt vk vy 0])) hC hD hW fpX4_22 0 rfl rfl rfl (Nat.le_of_ble_eq_true rfl) rfl rfl dX4_tear_15 (fun H locs hW => ?_)
    refine lv_iload_n hx hb dX4_tear_18 rfl (lv_at hl 0 rfl) ?_
    exact r_iret hC hQ hD hW () c_1.symm rfl rfl dX4_tear_19
  · refine lv_iconst (v := 1) hx hb dX4_tear_7 (by decide) ?_
    refine lv_goto (tgt := 12) hx hb dX4_tear_8 (by decide) ?_
    refine lv_istore_n (lv' := [(1, .int 1), (0, .ref (o 0))]) hx hb dX4_tear_12 rfl hl (by decide) rfl (fun ls hl => ?_)
    refine lv_aload_n hx hb dX4_tear_13 rfl (lv_at hl 1 rfl) ?_
    refine lv_iconst (v := 0) hx hb dX4_tear_14 (by decide) ?_
    refine r_put (ws' := (wcat [CO o vl vt vk vy 0])) hC hD hW fpX4_22 0 rfl rfl rfl (Nat.le_of_ble_eq_true rfl) rfl rfl dX4_tear_15 (fun H locs hW => ?_)
    refine lv_iload_n hx hb dX4_tear_18 rfl (lv_at hl 0 rfl) ?_
    exact r_iret hC hQ hD hW () (hkp.resolve_left c_1).symm rfl rfl dX4_tear_19
set_option maxHeartbeats 4000000 in
set_option maxRecDepth 100000 in
theorem c_X4_count (l : Launch) (E : Ev) (o : Nat → Nat) (vl : Nat → Nat) (vt : Nat → Nat) (vk : Nat → Nat) (vy : Nat → Nat) (kp : Int32) (S : HS) (Tl : HS) (F : FT) (P : Nat) (G : Nat) (hV : HV S P G) (y : Nat → Int32) (tp : Nat → Int32) (tl : Nat) (htl : y 0 = nI tl) (x1 : Int32) : MI l E yX4_count cX4_count 2 .int 1 22 0 0 [.ref (o 0), .int x1] (wcat [CO o vl vt vk vy kp, IA E (o 3) 7 F, HW E vl S Tl, TPW E vy y tp]) (fun (r : Int32) (_ : Unit) => r = (mCount S F G tl x1).1) (fun (_ : Unit) => (wcat [CO o vl vt vk vy kp, IA E (o 3) 7 ((mCount S F G tl x1).2), HW E vl S Tl, TPW E vy y tp])) := by
  refine MI_intro RX4 (by decide) rfl (Nat.le_of_ble_eq_true rfl) ?_
  intro p e R s m args below meth c A Q hQ hC hD hW hA ls hl
  have hx := hC.1
  have hb := hC.2.1
  have hW : Wd E A s.heap (wcat [CO o vl vt vk vy kp, IA E (o 3) 7 F, HW E vl S Tl, TPW E vy y tp]) s.heap [] := hW
  have hD : Dj A [o 0, o 3, vl 0, vl 1, vl 2, vl 3, vl 4, vl 5, vl 6, vl 7, vl 8, vl 9, vl 10, vy 0, vy 1] := hD
  have hl : lv_has ls 2 [(0, .ref (o 0)), (1, .int x1)] := hl
  have hP := hV.p
  have hP1 := hV.p6
  have hG := hV.g
  have hG1 := hV.g10
  refine lv_iload_n hx hb dX4_count_0 rfl (lv_at hl 1 rfl) ?_
  by_cases k_1 : x1 = 0
  · refine lv_tableIn (off := 31) (tgt := 32) hx hb dX4_count_1 (by rw [k_1]; decide) (by rw [k_1]; decide) (by rw [k_1]; rfl) (by decide) ?_
    refine lv_aload_n hx hb dX4_count_32 rfl (lv_at hl 0 rfl) ?_
    refine r_get hC hW flX4_10 0 rfl rfl dX4_count_33 ?_
    refine r_get hC hW flX4_85 2 rfl rfl dX4_count_36 ?_
    refine n_top hV.p ?_
    exact r_iret hC hQ hD hW () (by rw [mCount, if_pos k_1, hP]; first | done | rfl) (by rw [mCount, if_pos k_1, hP]; first | done | rfl) rfl dX4_count_39
  by_cases k_2 : x1 = 1
  · refine lv_tableIn (off := 39) (tgt := 40) hx hb dX4_count_1 (by rw [k_2]; decide) (by rw [k_2]; decide) (by rw [k_2]; rfl) (by decide) ?_
    refine lv_aload_n hx hb dX4_count_40 rfl (lv_at hl 0 rfl) ?_
    refine r_get hC hW flX4_10 0 rfl rfl dX4_count_41 ?_
    refine r_get hC hW flX4_129 2 rfl rfl dX4_count_44 ?_
    refine n_top hV.g ?_
    exact r_iret hC hQ hD hW () (by rw [mCount, if_neg (by rw [k_2]; decide), if_pos k_2, hG]; first | done | rfl) (by rw [mCount, if_neg (by rw [k_2]; decide), if_pos k_2, hG]; first | done | rfl) rfl dX4_count_47
  by_cases k_3 : x1 = 2
  · refine lv_tableIn (off := 47) (tgt := 48) hx hb dX4_count_1 (by rw [k_3]; decide) (by rw [k_3]; decide) (by rw [k_3]; rfl) (by decide) ?_
    refine lv_aload_n hx hb dX4_count_48 rfl (lv_at hl 0 rfl) ?_
    refine r_get hC hW flX4_29 0 rfl rfl dX4_count_49 ?_
    refine r_get hC hW flX4_173 13 rfl rfl dX4_count_52 ?_
    refine n_top htl ?_
    exact r_iret hC hQ hD hW () (by rw [mCount, if_neg (by rw [k_3]; decide), if_neg (by rw [k_3]; decide), if_pos k_3]; first | done | rfl) (by rw [mCount, if_neg (by rw [k_3]; decide), if_neg (by rw [k_3]; decide), if_pos k_3]; first | done | rfl) rfl dX4_count_55
  by_cases k_4 : x1 = 3
  · refine lv_tableIn (off := 55) (tgt := 56) hx hb dX4_count_1 (by rw [k_4]; decide) (by rw [k_4]; decide) (by rw [k_4]; rfl) (by decide) ?_
    refine lv_aload_n hx hb dX4_count_56 rfl (lv_at hl 0 rfl) ?_
    refine r_get hC hW flX4_10 0 rfl rfl dX4_count_57 ?_
    refine r_callCi hC hD hW hA lkX4_236 (c_X0_sumOfNames l E vl S Tl G hV.g hV.g10) rfl rfl ⟨by decide, by decide, by decide, by decide⟩ [2] rfl rfl rfl (fun _ => rfl) hl.1 rfl rfl (Nat.le_of_ble_eq_true rfl) dX4_count_60 (fun r_5 _ H locs hr_5 hW => ?_)
    have hW : Wd E A s.heap (wcat [CO o vl vt vk vy kp, IA E (o 3) 7 F, HW E vl S Tl, TPW E vy y tp]) H locs := hW
    have hr_5 : r_5 = (smI (S 7) G) := hr_5
    subst hr_5
    exact r_iret hC hQ hD hW () (by rw [mCount, if_neg (by rw [k_4]; decide), if_neg (by rw [k_4]; decide), if_neg (by rw [k_4]; decide), if_pos k_4]; first | done | rfl) (by rw [mCount, if_neg (by rw [k_4]; decide), if_neg (by rw [k_4]; decide), if_neg (by rw [k_4]; decide), if_pos k_4]; first | done | rfl) rfl dX4_count_63
  have sw_1 : (x1 : Int32).toInt < 0 ∨ 3 < (x1 : Int32).toInt := by
    have := sw_ne (k := 0) (z := 0) (by decide) k_1
    have := sw_ne (k := 1) (z := 1) (by decide) k_2
    have := sw_ne (k := 2) (z := 2) (by decide) k_3
    have := sw_ne (k := 3) (z := 3) (by decide) k_4
    omega
  refine lv_tableOut (tgt := 64) hx hb dX4_count_1 sw_1 (by decide) ?_
  refine lv_aload_n hx hb dX4_count_64 rfl (lv_at hl 0 rfl) ?_
  refine lv_iconst (v := 0) hx hb dX4_count_65 (by decide) ?_
  refine r_callCi hC hD hW hA lkX4_57 (c_X4_finding l E o vl vt vk vy kp F 0 (-1000000001) (by decide) (by decide)) rfl rfl ⟨by decide, by decide, by decide, by decide⟩ [0, 1] rfl rfl rfl (fun _ => rfl) hl.1 rfl rfl (Nat.le_of_ble_eq_true rfl) dX4_count_66 (fun r_6 _ H locs hr_6 hW => ?_)
  have hW : Wd E A s.heap (wcat [CO o vl vt vk vy kp, IA E (o 3) 7 (upd F 0 (F 0 + 1)), HW E vl S Tl, TPW E vy y tp]) H locs := hW
  have hr_6 : r_6 = (-1000000001) := hr_6
  subst hr_6
  exact r_iret hC hQ hD hW () (by rw [mCount, if_neg k_1, if_neg k_2, if_neg k_3, if_neg k_4]; first | done | rfl) (by rw [mCount, if_neg k_1, if_neg k_2, if_neg k_3, if_neg k_4]; first | done | rfl) rfl dX4_count_69
set_option maxHeartbeats 4000000 in
set_option maxRecDepth 100000 in
theorem c_X4_status (l : Launch) (E : Ev) (o : Nat → Nat) (vl : Nat → Nat) (vt : Nat → Nat) (vk : Nat → Nat) (vy : Nat → Nat) (kp : Int32) (F : FT) (x1 : Int32) : MI l E yX4_status cX4_status 4 .int 1 22 0 0 [.ref (o 0), .int x1] (wcat [CO o vl vt vk vy kp, IA E (o 3) 7 F]) (fun (r : Int32) (_ : Unit) => r = (mStatus F x1).1) (fun (_ : Unit) => (wcat [CO o vl vt vk vy kp, IA E (o 3) 7 ((mStatus F x1).2)])) := by
  refine MI_intro RX4 (by decide) rfl (Nat.le_of_ble_eq_true rfl) ?_
  intro p e R s m args below meth c A Q hQ hC hD hW hA ls hl
  have hx := hC.1
  have hb := hC.2.1
  have hW : Wd E A s.heap (wcat [CO o vl vt vk vy kp, IA E (o 3) 7 F]) s.heap [] := hW
  have hD : Dj A [o 0, o 3] := hD
  have hl : lv_has ls 4 [(0, .ref (o 0)), (1, .int x1)] := hl
  refine lv_iload_n hx hb dX4_status_0 rfl (lv_at hl 1 rfl) ?_
  refine lv_iconst (v := (-1)) hx hb dX4_status_1 (by decide) ?_
  refine lv_bipush (v := 6) hx hb dX4_status_2 (by decide) ?_
  refine r_callSi hC hD hW hA lkX4_53 (c_X4_isWithin l E x1 (-1) 6) ⟨by decide, by decide, by decide, by decide⟩ rfl hl.1 rfl rfl (Nat.le_of_ble_eq_true rfl) dX4_status_4 (fun r_1 _ H locs hr_1 hW => ?_)
  have hW : Wd E A s.heap (wcat [CO o vl vt vk vy kp, IA E (o 3) 7 F]) H locs := hW
  have hr_1 : bz ((-1) ≤ x1 ∧ x1 ≤ 6) r_1 := hr_1
  rcases hr_1 with ⟨rfl, b_2⟩ | ⟨rfl, b_2⟩
  · refine lv_if_ne (tgt := 16) hx hb dX4_status_7 (by decide) (fun c => absurd c (by decide)) (fun _ => ?_)
    refine lv_aload_n hx hb dX4_status_10 rfl (lv_at hl 0 rfl) ?_
    refine lv_iconst (v := 0) hx hb dX4_status_11 (by decide) ?_
    refine r_callCi hC hD hW hA lkX4_57 (c_X4_finding l E o vl vt vk vy kp F 0 (-1000000001) (by decide) (by decide)) rfl rfl ⟨by decide, by decide, by decide, by decide⟩ [0, 1] rfl rfl rfl (fun _ => rfl) hl.1 rfl rfl (Nat.le_of_ble_eq_true rfl) dX4_status_12 (fun r_3 _ H locs hr_3 hW => ?_)
    have hW : Wd E A s.heap (wcat [CO o vl vt vk vy kp, IA E (o 3) 7 (upd F 0 (F 0 + 1))]) H locs := hW
    have hr_3 : r_3 = (-1000000001) := hr_3
    subst hr_3
    exact r_iret hC hQ hD hW () (by rw [mStatus, cif_f b_2]; first | done | rfl) (by rw [mStatus, cif_f b_2]; first | done | rfl) rfl dX4_status_15
  · refine lv_if_ne (tgt := 16) hx hb dX4_status_7 (by decide) (fun _ => ?_) (fun c => absurd c (by decide))
    refine lv_iload_n hx hb dX4_status_16 rfl (lv_at hl 1 rfl) ?_
    refine lv_if_lt (tgt := 27) hx hb dX4_status_17 (by decide) (fun c_4 => ?_) (fun c_4 => ?_)
    · refine lv_iconst (v := 0) hx hb dX4_status_27 (by decide) ?_
      refine lv_istore_n (lv' := [(2, .int 0), (0, .ref (o 0)), (1, .int x1)]) hx hb dX4_status_28 rfl hl (by decide) rfl (fun ls hl => ?_)
      refine lv_iconst (v := 0) hx hb dX4_status_29 (by decide) ?_
      refine lv_istore_n (lv' := [(3, .int 0), (2, .int 0), (0, .ref (o 0)), (1, .int x1)]) hx hb dX4_status_30 rfl hl (by decide) rfl (fun ls hl => ?_)
      have L31 : ∀ (n_ : Nat) (k : Nat) (H : Heap) (locs : List Loc) (ls : Array Slot), 7 - k < n_ → k ≤ 7 → Wd E A s.heap (wcat [CO o vl vt vk vy kp, IA E (o 3) 7 F]) H locs → lv_has ls 4 [(0, .ref (o 0)), (1, .int x1), (2, .int (smI F k)), (3, .int (nI k))] → W p l e R s m args below meth c H locs 0 0 Q (F0 m 31 ls []) := by
        intro n_
        induction n_ with
        | zero => intro k H locs ls hm; exact absurd hm (Nat.not_lt_zero _)
        | succ n_ ih =>
          intro k H locs ls hm hk hW hl
          refine lv_iload_n hx hb dX4_status_31 rfl (lv_at hl 3 rfl) ?_
          refine lv_bipush (v := 7) hx hb dX4_status_32 (by decide) ?_
          refine lv_icmp_ge (tgt := 52) hx hb dX4_status_34 (by decide) (fun c_5 => ?_) (fun c_5 => ?_)
          · have c_5 : 7 ≤ k := (nI_leI (a := 7) (b := k) (by omega) (by omega)).mp c_5
            refine lv_iload_n hx hb dX4_status_52 rfl (lv_at hl 2 rfl) ?_
            exact r_iret hC hQ hD hW () (by rw [mStatus, cif_t b_2, if_pos c_4, show 7 = k by omega]; first | done | rfl) (by rw [mStatus, cif_t b_2, if_pos c_4, show 7 = k by omega]; first | done | rfl) rfl dX4_status_53
          · have c_5 : ¬ 7 ≤ k := fun z_ => c_5 ((nI_leI (a := 7) (b := k) (by omega) (by omega)).mpr z_)
            refine lv_iload_n hx hb dX4_status_37 rfl (lv_at hl 2 rfl) ?_
            refine lv_aload_n hx hb dX4_status_38 rfl (lv_at hl 0 rfl) ?_
            refine r_get hC hW flX4_49 0 rfl rfl dX4_status_39 ?_
            refine lv_iload_n hx hb dX4_status_42 rfl (lv_at hl 3 rfl) ?_
            refine r_iald hC hW 1 rfl k rfl (by omega) (by decide) dX4_status_43 ?_
            refine n_iadd (v := ((smI F k) + (F k))) hx hb dX4_status_44 rfl ?_
            refine lv_istore_n (lv' := [(2, .int ((smI F k) + (F k))), (0, .ref (o 0)), (1, .int x1), (3, .int (nI k))]) hx hb dX4_status_45 rfl hl (by decide) rfl (fun ls hl => ?_)
            refine lv_iinc (v := (nI (k + 1))) (lv' := [(3, .int (nI (k + 1))), (2, .int ((smI F k) + (F k))), (0, .ref (o 0)), (1, .int x1)]) (k := 3) hx hb dX4_status_46 hl rfl (nI_inc k 1) (by decide) rfl (fun ls hl => ?_)
            refine lv_goto (tgt := 31) hx hb dX4_status_49 (by decide) ?_
            exact ih (k + 1) _ _ _ (by omega) (by omega) hW (lv_sub hl [2, 3, 1, 0] rfl)
      exact L31 (7 - 0 + 1) 0 _ _ _ (Nat.lt_succ_self _) (by omega) hW (lv_sub hl [2, 3, 1, 0] rfl)
    · obtain ⟨q2, hq2a, hq2⟩ := rng (k := 6) (by decide) ⟨Int32.not_lt.mp c_4, b_2.2⟩
      have hq2 : nI q2 = x1 := hq2.symm
      refine lv_aload_n hx hb dX4_status_20 rfl (lv_at hl 0 rfl) ?_
      refine r_get hC hW flX4_49 0 rfl rfl dX4_status_21 ?_
      refine lv_iload_n hx hb dX4_status_24 rfl (lv_at hl 1 rfl) ?_
      refine r_iald hC hW 1 rfl q2 hq2.symm (by omega) (by decide) dX4_status_25 ?_
      exact r_iret hC hQ hD hW () (by rw [mStatus, cif_t b_2, if_neg c_4, ← hq2, ix_nI (n := q2) (by omega)]; first | done | rfl) (by rw [mStatus, cif_t b_2, if_neg c_4, ← hq2, ix_nI (n := q2) (by omega)]; first | done | rfl) rfl dX4_status_26
set_option maxHeartbeats 4000000 in
set_option maxRecDepth 100000 in
theorem c_X4_findingOfSheet_b (l : Launch) (E : Ev) (o : Nat → Nat) (vl : Nat → Nat) (vt : Nat → Nat) (vk : Nat → Nat) (vy : Nat → Nat) (kp : Int32) (F : FT) (x1 : Int32) (hbs : ¬ isN 4 x1) : MI l E yX4_findingOfSheet cX4_findingOfSheet 2 .int 2 42 0 0 [.ref (o 0), .int x1] (wcat [CO o vl vt vk vy kp, IA E (o 3) 7 F]) (fun (r : Int32) (_ : Unit) => r = (-1000000001)) (fun (_ : Unit) => (wcat [CO o vl vt vk vy kp, IA E (o 3) 7 (upd F 0 (F 0 + 1))])) := by
  refine MI_intro RX4 (by decide) rfl (Nat.le_of_ble_eq_true rfl) ?_
  intro p e R s m args below meth c A Q hQ hC hD hW hA ls hl
  have hx := hC.1
  have hb := hC.2.1
  have hW : Wd E A s.heap (wcat [CO o vl vt vk vy kp, IA E (o 3) 7 F]) s.heap [] := hW
  have hD : Dj A [o 0, o 3] := hD
  have hl : lv_has ls 2 [(0, .ref (o 0)), (1, .int x1)] := hl
  refine lv_iload_n hx hb dX4_findingOfSheet_0 rfl (lv_at hl 1 rfl) ?_
  refine r_callSi hC hD hW hA lkX4_196 (c_X4_isSheet l E x1) ⟨by decide, by decide, by decide, by decide⟩ rfl hl.1 rfl rfl (Nat.le_of_ble_eq_true rfl) dX4_findingOfSheet_1 (fun r_1 _ H locs hr_1 hW => ?_)
  have hW : Wd E A s.heap (wcat [CO o vl vt vk vy kp, IA E (o 3) 7 F]) H locs := hW
  have hr_1 : bz (isN 4 x1) r_1 := hr_1
  rcases hr_1 with ⟨rfl, b_2⟩ | ⟨rfl, b_2⟩
  · refine lv_if_ne (tgt := 13) hx hb dX4_findingOfSheet_4 (by decide) (fun c => absurd c (by decide)) (fun _ => ?_)
    refine lv_aload_n hx hb dX4_findingOfSheet_7 rfl (lv_at hl 0 rfl) ?_
    refine lv_iconst (v := 0) hx hb dX4_findingOfSheet_8 (by decide) ?_
    refine r_callCi hC hD hW hA lkX4_57 (c_X4_finding l E o vl vt vk vy kp F 0 (-1000000001) (by decide) (by decide)) rfl rfl ⟨by decide, by decide, by decide, by decide⟩ [0, 1] rfl rfl rfl (fun _ => rfl) hl.1 rfl rfl (Nat.le_of_ble_eq_true rfl) dX4_findingOfSheet_9 (fun r_3 _ H locs hr_3 hW => ?_)
    have hW : Wd E A s.heap (wcat [CO o vl vt vk vy kp, IA E (o 3) 7 (upd F 0 (F 0 + 1))]) H locs := hW
    have hr_3 : r_3 = (-1000000001) := hr_3
    subst hr_3
    exact r_iret hC hQ hD hW () rfl rfl rfl dX4_findingOfSheet_12
  · exact absurd b_2 hbs
set_option maxHeartbeats 4000000 in
set_option maxRecDepth 100000 in
theorem c_X4_findingOfSheet_m (l : Launch) (E : Ev) (o : Nat → Nat) (vl : Nat → Nat) (vt : Nat → Nat) (vk : Nat → Nat) (vy : Nat → Nat) (kp : Int32) (F : FT) (qf : Nat → Option Nat) (B : FT) (Z : Nat → Nat) (N : NT) (j : Nat) (hj : j < 4) (hZj : Z j ≤ 40) (a : Nat) (n : Nat) (hqj : qf j = some a) (hbm : B j = 0) : MI l E yX4_findingOfSheet cX4_findingOfSheet 2 .int 2 42 0 0 [.ref (o 0), .int (nI j)] (wcat [CO o vl vt vk vy kp, IA E (o 3) 7 F, [(o 2, .inl (E.2.2.2, 4, .inr (.inr (.inr (.inr qf)))))], SHW E a n (B j) (nI (Z j)) (N j)]) (fun (r : Int32) (_ : Unit) => r = (-1000000006)) (fun (_ : Unit) => (wcat [CO o vl vt vk vy kp, IA E (o 3) 7 (upd F 5 (F 5 + 1)), [(o 2, .inl (E.2.2.2, 4, .inr (.inr (.inr (.inr qf)))))], SHW E a n (B j) (nI (Z j)) (N j)])) := by
  refine MI_intro RX4 (by decide) rfl (Nat.le_of_ble_eq_true rfl) ?_
  intro p e R s m args below meth c A Q hQ hC hD hW hA ls hl
  have hx := hC.1
  have hb := hC.2.1
  have hW : Wd E A s.heap (wcat [CO o vl vt vk vy kp, IA E (o 3) 7 F, [(o 2, .inl (E.2.2.2, 4, .inr (.inr (.inr (.inr qf)))))], SHW E a n (B j) (nI (Z j)) (N j)]) s.heap [] := hW
  have hD : Dj A [o 0, o 3, o 2, a, n] := hD
  have hl : lv_has ls 2 [(0, .ref (o 0)), (1, .int (nI j))] := hl
  refine lv_iload_n hx hb dX4_findingOfSheet_0 rfl (lv_at hl 1 rfl) ?_
  refine r_callSi hC hD hW hA lkX4_196 (c_X4_isSheet l E (nI j)) ⟨by decide, by decide, by decide, by decide⟩ rfl hl.1 rfl rfl (Nat.le_of_ble_eq_true rfl) dX4_findingOfSheet_1 (fun r_1 _ H locs hr_1 hW => ?_)
  have hW : Wd E A s.heap (wcat [CO o vl vt vk vy kp, IA E (o 3) 7 F, [(o 2, .inl (E.2.2.2, 4, .inr (.inr (.inr (.inr qf)))))], SHW E a n (B j) (nI (Z j)) (N j)]) H locs := hW
  have hr_1 : bz (isN 4 (nI j)) r_1 := hr_1
  rcases hr_1 with ⟨rfl, b_2⟩ | ⟨rfl, b_2⟩
  · exact absurd (show isN 4 (nI j) from ⟨j, hj, rfl⟩) b_2
  · refine lv_if_ne (tgt := 13) hx hb dX4_findingOfSheet_4 (by decide) (fun _ => ?_) (fun c => absurd c (by decide))
    refine lv_aload_n hx hb dX4_findingOfSheet_13 rfl (lv_at hl 0 rfl) ?_
    refine r_get hC hW flX4_44 0 rfl rfl dX4_findingOfSheet_14 ?_
    refine lv_iload_n hx hb dX4_findingOfSheet_17 rfl (lv_at hl 1 rfl) ?_
    refine r_aald hC hW 2 rfl j (b := a) rfl (by omega) (by decide) hqj dX4_findingOfSheet_18 ?_
    refine r_callCi hC hD hW hA lkX4_215 (c_X2_isMissing l E a n (B j) (Z j) (N j)) rfl rfl ⟨by decide, by decide, by decide, by decide⟩ [3] rfl rfl rfl (fun _ => rfl) hl.1 rfl rfl (Nat.le_of_ble_eq_true rfl) dX4_findingOfSheet_19 (fun r_3 _ H locs hr_3 hW => ?_)
    have hW : Wd E A s.heap (wcat [CO o vl vt vk vy kp, IA E (o 3) 7 F, [(o 2, .inl (E.2.2.2, 4, .inr (.inr (.inr (.inr qf)))))], SHW E a n (B j) (nI (Z j)) (N j)]) H locs := hW
    have hr_3 : bz ((B j) = 0) r_3 := hr_3
    rcases hr_3 with ⟨rfl, b_4⟩ | ⟨rfl, b_4⟩
    · exact absurd hbm b_4
    · refine lv_if_eq (tgt := 33) hx hb dX4_findingOfSheet_22 (by decide) (fun c => absurd c (by decide)) (fun _ => ?_)
      refine lv_aload_n hx hb dX4_findingOfSheet_25 rfl (lv_at hl 0 rfl) ?_
      refine lv_iconst (v := 5) hx hb dX4_findingOfSheet_26 (by decide) ?_
      refine r_callCi hC hD hW hA lkX4_57 (c_X4_finding l E o vl vt vk vy kp F 5 (-1000000006) (by decide) (by decide)) rfl rfl ⟨by decide, by decide, by decide, by decide⟩ [0, 1] rfl rfl rfl (fun _ => rfl) hl.1 rfl rfl (Nat.le_of_ble_eq_true rfl) dX4_findingOfSheet_27 (fun r_5 _ H locs hr_5 hW => ?_)
      have hW : Wd E A s.heap (wcat [CO o vl vt vk vy kp, IA E (o 3) 7 (upd F 5 (F 5 + 1)), [(o 2, .inl (E.2.2.2, 4, .inr (.inr (.inr (.inr qf)))))], SHW E a n (B j) (nI (Z j)) (N j)]) H locs := hW
      have hr_5 : r_5 = (-1000000006) := hr_5
      subst hr_5
      refine lv_goto (tgt := 34) hx hb dX4_findingOfSheet_30 (by decide) ?_
      exact r_iret hC hQ hD hW () rfl rfl rfl dX4_findingOfSheet_34
set_option maxHeartbeats 4000000 in
set_option maxRecDepth 100000 in
theorem c_X4_findingOfSheet_o (l : Launch) (E : Ev) (o : Nat → Nat) (vl : Nat → Nat) (vt : Nat → Nat) (vk : Nat → Nat) (vy : Nat → Nat) (kp : Int32) (F : FT) (qf : Nat → Option Nat) (B : FT) (Z : Nat → Nat) (N : NT) (j : Nat) (hj : j < 4) (hZj : Z j ≤ 40) (a : Nat) (n : Nat) (hqj : qf j = some a) (hbm : ¬ B j = 0) : MI l E yX4_findingOfSheet cX4_findingOfSheet 2 .int 2 42 0 0 [.ref (o 0), .int (nI j)] (wcat [CO o vl vt vk vy kp, IA E (o 3) 7 F, [(o 2, .inl (E.2.2.2, 4, .inr (.inr (.inr (.inr qf)))))], SHW E a n (B j) (nI (Z j)) (N j)]) (fun (r : Int32) (_ : Unit) => r = 0) (fun (_ : Unit) => (wcat [CO o vl vt vk vy kp, IA E (o 3) 7 F, [(o 2, .inl (E.2.2.2, 4, .inr (.inr (.inr (.inr qf)))))], SHW E a n (B j) (nI (Z j)) (N j)])) := by
  refine MI_intro RX4 (by decide) rfl (Nat.le_of_ble_eq_true rfl) ?_
  intro p e R s m args below meth c A Q hQ hC hD hW hA ls hl
  have hx := hC.1
  have hb := hC.2.1
  have hW : Wd E A s.heap (wcat [CO o vl vt vk vy kp, IA E (o 3) 7 F, [(o 2, .inl (E.2.2.2, 4, .inr (.inr (.inr (.inr qf)))))], SHW E a n (B j) (nI (Z j)) (N j)]) s.heap [] := hW
  have hD : Dj A [o 0, o 3, o 2, a, n] := hD
  have hl : lv_has ls 2 [(0, .ref (o 0)), (1, .int (nI j))] := hl
  refine lv_iload_n hx hb dX4_findingOfSheet_0 rfl (lv_at hl 1 rfl) ?_
  refine r_callSi hC hD hW hA lkX4_196 (c_X4_isSheet l E (nI j)) ⟨by decide, by decide, by decide, by decide⟩ rfl hl.1 rfl rfl (Nat.le_of_ble_eq_true rfl) dX4_findingOfSheet_1 (fun r_1 _ H locs hr_1 hW => ?_)
  have hW : Wd E A s.heap (wcat [CO o vl vt vk vy kp, IA E (o 3) 7 F, [(o 2, .inl (E.2.2.2, 4, .inr (.inr (.inr (.inr qf)))))], SHW E a n (B j) (nI (Z j)) (N j)]) H locs := hW
  have hr_1 : bz (isN 4 (nI j)) r_1 := hr_1
  rcases hr_1 with ⟨rfl, b_2⟩ | ⟨rfl, b_2⟩
  · exact absurd (show isN 4 (nI j) from ⟨j, hj, rfl⟩) b_2
  · refine lv_if_ne (tgt := 13) hx hb dX4_findingOfSheet_4 (by decide) (fun _ => ?_) (fun c => absurd c (by decide))
    refine lv_aload_n hx hb dX4_findingOfSheet_13 rfl (lv_at hl 0 rfl) ?_
    refine r_get hC hW flX4_44 0 rfl rfl dX4_findingOfSheet_14 ?_
    refine lv_iload_n hx hb dX4_findingOfSheet_17 rfl (lv_at hl 1 rfl) ?_
    refine r_aald hC hW 2 rfl j (b := a) rfl (by omega) (by decide) hqj dX4_findingOfSheet_18 ?_
    refine r_callCi hC hD hW hA lkX4_215 (c_X2_isMissing l E a n (B j) (Z j) (N j)) rfl rfl ⟨by decide, by decide, by decide, by decide⟩ [3] rfl rfl rfl (fun _ => rfl) hl.1 rfl rfl (Nat.le_of_ble_eq_true rfl) dX4_findingOfSheet_19 (fun r_3 _ H locs hr_3 hW => ?_)
    have hW : Wd E A s.heap (wcat [CO o vl vt vk vy kp, IA E (o 3) 7 F, [(o 2, .inl (E.2.2.2, 4, .inr (.inr (.inr (.inr qf)))))], SHW E a n (B j) (nI (Z j)) (N j)]) H locs := hW
    have hr_3 : bz ((B j) = 0) r_3 := hr_3
    rcases hr_3 with ⟨rfl, b_4⟩ | ⟨rfl, b_4⟩
    · refine lv_if_eq (tgt := 33) hx hb dX4_findingOfSheet_22 (by decide) (fun _ => ?_) (fun c => absurd c (by decide))
      refine lv_iconst (v := 0) hx hb dX4_findingOfSheet_33 (by decide) ?_
      exact r_iret hC hQ hD hW () rfl rfl rfl dX4_findingOfSheet_34
    · exact absurd b_4 hbm
set_option maxHeartbeats 4000000 in
set_option maxRecDepth 100000 in
theorem c_X4_sheet_b (l : Launch) (E : Ev) (o : Nat → Nat) (vl : Nat → Nat) (vt : Nat → Nat) (vk : Nat → Nat) (vy : Nat → Nat) (kp : Int32) (F : FT) (B : FT) (Z : Nat → Nat) (N : NT) (x1 : Int32) (x2 : Int32) (x3 : Int32) (hbs : ¬ isN 4 x1) : MI l E yX4_sheet cX4_sheet 4 .int 2 42 0 0 [.ref (o 0), .int x1, .int x2, .int x3] (wcat [CO o vl vt vk vy kp, IA E (o 3) 7 F]) (fun (r : Int32) (_ : Unit) => r = (mSheet F B Z N x1 x2 x3).1) (fun (_ : Unit) => (wcat [CO o vl vt vk vy kp, IA E (o 3) 7 ((mSheet F B Z N x1 x2 x3).2.1)])) := by
  refine MI_intro RX4 (by decide) rfl (Nat.le_of_ble_eq_true rfl) ?_
  intro p e R s m args below meth c A Q hQ hC hD hW hA ls hl
  have hx := hC.1
  have hb := hC.2.1
  have hW : Wd E A s.heap (wcat [CO o vl vt vk vy kp, IA E (o 3) 7 F]) s.heap [] := hW
  have hD : Dj A [o 0, o 3] := hD
  have hl : lv_has ls 4 [(0, .ref (o 0)), (1, .int x1), (2, .int x2), (3, .int x3)] := hl
  refine lv_iload_n hx hb dX4_sheet_0 rfl (lv_at hl 1 rfl) ?_
  refine r_callSi hC hD hW hA lkX4_196 (c_X4_isSheet l E x1) ⟨by decide, by decide, by decide, by decide⟩ rfl hl.1 rfl rfl (Nat.le_of_ble_eq_true rfl) dX4_sheet_1 (fun r_1 _ H locs hr_1 hW => ?_)
  have hW : Wd E A s.heap (wcat [CO o vl vt vk vy kp, IA E (o 3) 7 F]) H locs := hW
  have hr_1 : bz (isN 4 x1) r_1 := hr_1
  rcases hr_1 with ⟨rfl, b_2⟩ | ⟨rfl, b_2⟩
  · refine lv_if_eq (tgt := 29) hx hb dX4_sheet_4 (by decide) (fun _ => ?_) (fun c => absurd c (by decide))
    refine lv_aload_n hx hb dX4_sheet_29 rfl (lv_at hl 0 rfl) ?_
    refine lv_iconst (v := 0) hx hb dX4_sheet_30 (by decide) ?_
    refine r_callCi hC hD hW hA lkX4_57 (c_X4_finding l E o vl vt vk vy kp F 0 (-1000000001) (by decide) (by decide)) rfl rfl ⟨by decide, by decide, by decide, by decide⟩ [0, 1] rfl rfl rfl (fun _ => rfl) hl.1 rfl rfl (Nat.le_of_ble_eq_true rfl) dX4_sheet_31 (fun r_3 _ H locs hr_3 hW => ?_)
    have hW : Wd E A s.heap (wcat [CO o vl vt vk vy kp, IA E (o 3) 7 (upd F 0 (F 0 + 1))]) H locs := hW
    have hr_3 : r_3 = (-1000000001) := hr_3
    subst hr_3
    exact r_iret hC hQ hD hW () (by rw [mSheet, cif_f (fun z_ => hbs z_.1)]; first | done | rfl) (by rw [mSheet, cif_f (fun z_ => hbs z_.1)]; first | done | rfl) rfl dX4_sheet_34
  · exact absurd b_2 hbs
set_option maxHeartbeats 4000000 in
set_option maxRecDepth 100000 in
theorem c_X4_sheet (l : Launch) (E : Ev) (o : Nat → Nat) (vl : Nat → Nat) (vt : Nat → Nat) (vk : Nat → Nat) (vy : Nat → Nat) (kp : Int32) (F : FT) (qf : Nat → Option Nat) (B : FT) (Z : Nat → Nat) (N : NT) (j : Nat) (hj : j < 4) (hZj : Z j ≤ 40) (a : Nat) (n : Nat) (hqj : qf j = some a) (x2 : Int32) (x3 : Int32) : MI l E yX4_sheet cX4_sheet 4 .int 2 42 0 0 [.ref (o 0), .int (nI j), .int x2, .int x3] (wcat [CO o vl vt vk vy kp, IA E (o 3) 7 F, [(o 2, .inl (E.2.2.2, 4, .inr (.inr (.inr (.inr qf)))))], SHW E a n (B j) (nI (Z j)) (N j)]) (fun (r : Int32) (_ : Unit) => r = (mSheet F B Z N (nI j) x2 x3).1) (fun (_ : Unit) => (wcat [CO o vl vt vk vy kp, IA E (o 3) 7 ((mSheet F B Z N (nI j) x2 x3).2.1), [(o 2, .inl (E.2.2.2, 4, .inr (.inr (.inr (.inr qf)))))], SHW E a n (((mSheet F B Z N (nI j) x2 x3).2.2.1) j) (nI (((mSheet F B Z N (nI j) x2 x3).2.2.2.1) j)) (((mSheet F B Z N (nI j) x2 x3).2.2.2.2) j)])) := by
  refine MI_intro RX4 (by decide) rfl (Nat.le_of_ble_eq_true rfl) ?_
  intro p e R s m args below meth c A Q hQ hC hD hW hA ls hl
  have hx := hC.1
  have hb := hC.2.1
  have hW : Wd E A s.heap (wcat [CO o vl vt vk vy kp, IA E (o 3) 7 F, [(o 2, .inl (E.2.2.2, 4, .inr (.inr (.inr (.inr qf)))))], SHW E a n (B j) (nI (Z j)) (N j)]) s.heap [] := hW
  have hD : Dj A [o 0, o 3, o 2, a, n] := hD
  have hl : lv_has ls 4 [(0, .ref (o 0)), (1, .int (nI j)), (2, .int x2), (3, .int x3)] := hl
  refine lv_iload_n hx hb dX4_sheet_0 rfl (lv_at hl 1 rfl) ?_
  refine r_callSi hC hD hW hA lkX4_196 (c_X4_isSheet l E (nI j)) ⟨by decide, by decide, by decide, by decide⟩ rfl hl.1 rfl rfl (Nat.le_of_ble_eq_true rfl) dX4_sheet_1 (fun r_1 _ H locs hr_1 hW => ?_)
  have hW : Wd E A s.heap (wcat [CO o vl vt vk vy kp, IA E (o 3) 7 F, [(o 2, .inl (E.2.2.2, 4, .inr (.inr (.inr (.inr qf)))))], SHW E a n (B j) (nI (Z j)) (N j)]) H locs := hW
  have hr_1 : bz (isN 4 (nI j)) r_1 := hr_1
  rcases hr_1 with ⟨rfl, b_2⟩ | ⟨rfl, b_2⟩
  · exact absurd (show isN 4 (nI j) from ⟨j, hj, rfl⟩) b_2
  · refine lv_if_eq (tgt := 29) hx hb dX4_sheet_4 (by decide) (fun c => absurd c (by decide)) (fun _ => ?_)
    refine lv_iload_n hx hb dX4_sheet_7 rfl (lv_at hl 2 rfl) ?_
    refine lv_if_eq (tgt := 35) hx hb dX4_sheet_8 (by decide) (fun c_3 => ?_) (fun c_3 => ?_)
    · refine lv_iload_n hx hb dX4_sheet_35 rfl (lv_at hl 3 rfl) ?_
      refine lv_if_ge (tgt := 46) hx hb dX4_sheet_36 (by decide) (fun c_4 => ?_) (fun c_4 => ?_)
      · refine lv_iload_n hx hb dX4_sheet_46 rfl (lv_at hl 3 rfl) ?_
        refine lv_bipush (v := 40) hx hb dX4_sheet_47 (by decide) ?_
        refine lv_icmp_le (tgt := 58) hx hb dX4_sheet_49 (by decide) (fun c_5 => ?_) (fun c_5 => ?_)
        · obtain ⟨k, hk40, rfl⟩ := rng (k := 40) (by decide) ⟨c_4, c_5⟩
          refine lv_aload_n hx hb dX4_sheet_58 rfl (lv_at hl 0 rfl) ?_
          refine r_get hC hW flX4_44 0 rfl rfl dX4_sheet_59 ?_
          refine lv_iload_n hx hb dX4_sheet_62 rfl (lv_at hl 1 rfl) ?_
          refine r_aald hC hW 2 rfl j (b := a) rfl (by omega) (by decide) hqj dX4_sheet_63 ?_
          refine lv_iload_n hx hb dX4_sheet_64 rfl (lv_at hl 2 rfl) ?_
          refine lv_iload_n hx hb dX4_sheet_65 rfl (lv_at hl 3 rfl) ?_
          refine r_callCv hC hD hW hA lkX4_199 (c_X2_begin l E a n (B j) (Z j) (N j) x2 k (by omega)) rfl rfl ⟨by decide, by decide, by decide, by decide⟩ [3] rfl rfl rfl (fun _ => rfl) hl.1 rfl rfl (Nat.le_of_ble_eq_true rfl) dX4_sheet_66 (fun _ H locs hr_6 hW => ?_)
          have hW : Wd E A s.heap (wcat [CO o vl vt vk vy kp, IA E (o 3) 7 F, [(o 2, .inl (E.2.2.2, 4, .inr (.inr (.inr (.inr qf)))))], SHW E a n x2 (nI (if x2 = 0 then 0 else k)) (fun _ => 0)]) H locs := hW
          refine lv_aload_n hx hb dX4_sheet_69 rfl (lv_at hl 0 rfl) ?_
          refine r_get hC hW flX4_44 0 rfl rfl dX4_sheet_70 ?_
          refine lv_iload_n hx hb dX4_sheet_73 rfl (lv_at hl 1 rfl) ?_
          refine r_aald hC hW 2 rfl j (b := a) rfl (by omega) (by decide) hqj dX4_sheet_74 ?_
          refine r_get hC hW flX4_203 3 rfl rfl dX4_sheet_75 ?_
          exact r_iret hC hQ hD hW () (by rw [mSheet, cif_t ⟨(show isN 4 (nI j) from ⟨j, hj, rfl⟩), Or.inl c_3⟩, if_neg (nI_pos (by omega)), if_neg (show ¬ 40 < nI k from Int32.not_lt.mpr (nI_le (b := 40) (by omega) (by decide))), ix_nI (n := k) (by omega)]; first | done | rfl) (by rw [mSheet, cif_t ⟨(show isN 4 (nI j) from ⟨j, hj, rfl⟩), Or.inl c_3⟩, if_neg (nI_pos (by omega)), if_neg (show ¬ 40 < nI k from Int32.not_lt.mpr (nI_le (b := 40) (by omega) (by decide))), ix_nI (n := k) (by omega), ix_nI (n := j) (by omega)]; dsimp only; rw [up_at, up_at, upd_at]; first | done | rfl) rfl dX4_sheet_78
        · refine lv_aload_n hx hb dX4_sheet_52 rfl (lv_at hl 0 rfl) ?_
          refine lv_iconst (v := 0) hx hb dX4_sheet_53 (by decide) ?_
          refine r_callCi hC hD hW hA lkX4_57 (c_X4_finding l E o vl vt vk vy kp F 0 (-1000000001) (by decide) (by decide)) rfl rfl ⟨by decide, by decide, by decide, by decide⟩ [0, 1] rfl rfl rfl (fun _ => rfl) hl.1 rfl rfl (Nat.le_of_ble_eq_true rfl) dX4_sheet_54 (fun r_7 _ H locs hr_7 hW => ?_)
          have hW : Wd E A s.heap (wcat [CO o vl vt vk vy kp, IA E (o 3) 7 (upd F 0 (F 0 + 1)), [(o 2, .inl (E.2.2.2, 4, .inr (.inr (.inr (.inr qf)))))], SHW E a n (B j) (nI (Z j)) (N j)]) H locs := hW
          have hr_7 : r_7 = (-1000000001) := hr_7
          subst hr_7
          exact r_iret hC hQ hD hW () (by rw [mSheet, cif_t ⟨(show isN 4 (nI j) from ⟨j, hj, rfl⟩), Or.inl c_3⟩, if_neg (Int32.not_lt.mpr c_4), if_pos (Int32.not_le.mp c_5)]; first | done | rfl) (by rw [mSheet, cif_t ⟨(show isN 4 (nI j) from ⟨j, hj, rfl⟩), Or.inl c_3⟩, if_neg (Int32.not_lt.mpr c_4), if_pos (Int32.not_le.mp c_5)]; first | done | rfl) rfl dX4_sheet_57
      · refine lv_aload_n hx hb dX4_sheet_39 rfl (lv_at hl 0 rfl) ?_
        refine lv_bipush (v := 6) hx hb dX4_sheet_40 (by decide) ?_
        refine r_callCi hC hD hW hA lkX4_57 (c_X4_finding l E o vl vt vk vy kp F 6 (-1000000007) (by decide) (by decide)) rfl rfl ⟨by decide, by decide, by decide, by decide⟩ [0, 1] rfl rfl rfl (fun _ => rfl) hl.1 rfl rfl (Nat.le_of_ble_eq_true rfl) dX4_sheet_42 (fun r_8 _ H locs hr_8 hW => ?_)
        have hW : Wd E A s.heap (wcat [CO o vl vt vk vy kp, IA E (o 3) 7 (upd F 6 (F 6 + 1)), [(o 2, .inl (E.2.2.2, 4, .inr (.inr (.inr (.inr qf)))))], SHW E a n (B j) (nI (Z j)) (N j)]) H locs := hW
        have hr_8 : r_8 = (-1000000007) := hr_8
        subst hr_8
        exact r_iret hC hQ hD hW () (by rw [mSheet, cif_t ⟨(show isN 4 (nI j) from ⟨j, hj, rfl⟩), Or.inl c_3⟩, if_pos (Int32.not_le.mp c_4)]; first | done | rfl) (by rw [mSheet, cif_t ⟨(show isN 4 (nI j) from ⟨j, hj, rfl⟩), Or.inl c_3⟩, if_pos (Int32.not_le.mp c_4)]; first | done | rfl) rfl dX4_sheet_45
    · refine lv_iload_n hx hb dX4_sheet_11 rfl (lv_at hl 2 rfl) ?_
      refine lv_bipush (v := 8) hx hb dX4_sheet_12 (by decide) ?_
      refine lv_icmp_eq (tgt := 35) hx hb dX4_sheet_14 (by decide) (fun c_9 => ?_) (fun c_9 => ?_)
      · refine lv_iload_n hx hb dX4_sheet_35 rfl (lv_at hl 3 rfl) ?_
        refine lv_if_ge (tgt := 46) hx hb dX4_sheet_36 (by decide) (fun c_10 => ?_) (fun c_10 => ?_)
        · refine lv_iload_n hx hb dX4_sheet_46 rfl (lv_at hl 3 rfl) ?_
          refine lv_bipush (v := 40) hx hb dX4_sheet_47 (by decide) ?_
          refine lv_icmp_le (tgt := 58) hx hb dX4_sheet_49 (by decide) (fun c_11 => ?_) (fun c_11 => ?_)
          · obtain ⟨k, hk40, rfl⟩ := rng (k := 40) (by decide) ⟨c_10, c_11⟩
            refine lv_aload_n hx hb dX4_sheet_58 rfl (lv_at hl 0 rfl) ?_
            refine r_get hC hW flX4_44 0 rfl rfl dX4_sheet_59 ?_
            refine lv_iload_n hx hb dX4_sheet_62 rfl (lv_at hl 1 rfl) ?_
            refine r_aald hC hW 2 rfl j (b := a) rfl (by omega) (by decide) hqj dX4_sheet_63 ?_
            refine lv_iload_n hx hb dX4_sheet_64 rfl (lv_at hl 2 rfl) ?_
            refine lv_iload_n hx hb dX4_sheet_65 rfl (lv_at hl 3 rfl) ?_
            refine r_callCv hC hD hW hA lkX4_199 (c_X2_begin l E a n (B j) (Z j) (N j) x2 k (by omega)) rfl rfl ⟨by decide, by decide, by decide, by decide⟩ [3] rfl rfl rfl (fun _ => rfl) hl.1 rfl rfl (Nat.le_of_ble_eq_true rfl) dX4_sheet_66 (fun _ H locs hr_12 hW => ?_)
            have hW : Wd E A s.heap (wcat [CO o vl vt vk vy kp, IA E (o 3) 7 F, [(o 2, .inl (E.2.2.2, 4, .inr (.inr (.inr (.inr qf)))))], SHW E a n x2 (nI (if x2 = 0 then 0 else k)) (fun _ => 0)]) H locs := hW
            refine lv_aload_n hx hb dX4_sheet_69 rfl (lv_at hl 0 rfl) ?_
            refine r_get hC hW flX4_44 0 rfl rfl dX4_sheet_70 ?_
            refine lv_iload_n hx hb dX4_sheet_73 rfl (lv_at hl 1 rfl) ?_
            refine r_aald hC hW 2 rfl j (b := a) rfl (by omega) (by decide) hqj dX4_sheet_74 ?_
            refine r_get hC hW flX4_203 3 rfl rfl dX4_sheet_75 ?_
            exact r_iret hC hQ hD hW () (by rw [mSheet, cif_t ⟨(show isN 4 (nI j) from ⟨j, hj, rfl⟩), Or.inr (Or.inl c_9)⟩, if_neg (nI_pos (by omega)), if_neg (show ¬ 40 < nI k from Int32.not_lt.mpr (nI_le (b := 40) (by omega) (by decide))), ix_nI (n := k) (by omega)]; first | done | rfl) (by rw [mSheet, cif_t ⟨(show isN 4 (nI j) from ⟨j, hj, rfl⟩), Or.inr (Or.inl c_9)⟩, if_neg (nI_pos (by omega)), if_neg (show ¬ 40 < nI k from Int32.not_lt.mpr (nI_le (b := 40) (by omega) (by decide))), ix_nI (n := k) (by omega), ix_nI (n := j) (by omega)]; dsimp only; rw [up_at, up_at, upd_at]; first | done | rfl) rfl dX4_sheet_78
          · refine lv_aload_n hx hb dX4_sheet_52 rfl (lv_at hl 0 rfl) ?_
            refine lv_iconst (v := 0) hx hb dX4_sheet_53 (by decide) ?_
            refine r_callCi hC hD hW hA lkX4_57 (c_X4_finding l E o vl vt vk vy kp F 0 (-1000000001) (by decide) (by decide)) rfl rfl ⟨by decide, by decide, by decide, by decide⟩ [0, 1] rfl rfl rfl (fun _ => rfl) hl.1 rfl rfl (Nat.le_of_ble_eq_true rfl) dX4_sheet_54 (fun r_13 _ H locs hr_13 hW => ?_)
            have hW : Wd E A s.heap (wcat [CO o vl vt vk vy kp, IA E (o 3) 7 (upd F 0 (F 0 + 1)), [(o 2, .inl (E.2.2.2, 4, .inr (.inr (.inr (.inr qf)))))], SHW E a n (B j) (nI (Z j)) (N j)]) H locs := hW
            have hr_13 : r_13 = (-1000000001) := hr_13
            subst hr_13
            exact r_iret hC hQ hD hW () (by rw [mSheet, cif_t ⟨(show isN 4 (nI j) from ⟨j, hj, rfl⟩), Or.inr (Or.inl c_9)⟩, if_neg (Int32.not_lt.mpr c_10), if_pos (Int32.not_le.mp c_11)]; first | done | rfl) (by rw [mSheet, cif_t ⟨(show isN 4 (nI j) from ⟨j, hj, rfl⟩), Or.inr (Or.inl c_9)⟩, if_neg (Int32.not_lt.mpr c_10), if_pos (Int32.not_le.mp c_11)]; first | done | rfl) rfl dX4_sheet_57
        · refine lv_aload_n hx hb dX4_sheet_39 rfl (lv_at hl 0 rfl) ?_
          refine lv_bipush (v := 6) hx hb dX4_sheet_40 (by decide) ?_
          refine r_callCi hC hD hW hA lkX4_57 (c_X4_finding l E o vl vt vk vy kp F 6 (-1000000007) (by decide) (by decide)) rfl rfl ⟨by decide, by decide, by decide, by decide⟩ [0, 1] rfl rfl rfl (fun _ => rfl) hl.1 rfl rfl (Nat.le_of_ble_eq_true rfl) dX4_sheet_42 (fun r_14 _ H locs hr_14 hW => ?_)
          have hW : Wd E A s.heap (wcat [CO o vl vt vk vy kp, IA E (o 3) 7 (upd F 6 (F 6 + 1)), [(o 2, .inl (E.2.2.2, 4, .inr (.inr (.inr (.inr qf)))))], SHW E a n (B j) (nI (Z j)) (N j)]) H locs := hW
          have hr_14 : r_14 = (-1000000007) := hr_14
          subst hr_14
          exact r_iret hC hQ hD hW () (by rw [mSheet, cif_t ⟨(show isN 4 (nI j) from ⟨j, hj, rfl⟩), Or.inr (Or.inl c_9)⟩, if_pos (Int32.not_le.mp c_10)]; first | done | rfl) (by rw [mSheet, cif_t ⟨(show isN 4 (nI j) from ⟨j, hj, rfl⟩), Or.inr (Or.inl c_9)⟩, if_pos (Int32.not_le.mp c_10)]; first | done | rfl) rfl dX4_sheet_45
      · refine lv_iload_n hx hb dX4_sheet_17 rfl (lv_at hl 2 rfl) ?_
        refine lv_bipush (v := 16) hx hb dX4_sheet_18 (by decide) ?_
        refine lv_icmp_eq (tgt := 35) hx hb dX4_sheet_20 (by decide) (fun c_15 => ?_) (fun c_15 => ?_)
        · refine lv_iload_n hx hb dX4_sheet_35 rfl (lv_at hl 3 rfl) ?_
          refine lv_if_ge (tgt := 46) hx hb dX4_sheet_36 (by decide) (fun c_16 => ?_) (fun c_16 => ?_)
          · refine lv_iload_n hx hb dX4_sheet_46 rfl (lv_at hl 3 rfl) ?_
            refine lv_bipush (v := 40) hx hb dX4_sheet_47 (by decide) ?_
            refine lv_icmp_le (tgt := 58) hx hb dX4_sheet_49 (by decide) (fun c_17 => ?_) (fun c_17 => ?_)
            · obtain ⟨k, hk40, rfl⟩ := rng (k := 40) (by decide) ⟨c_16, c_17⟩
              refine lv_aload_n hx hb dX4_sheet_58 rfl (lv_at hl 0 rfl) ?_
              refine r_get hC hW flX4_44 0 rfl rfl dX4_sheet_59 ?_
              refine lv_iload_n hx hb dX4_sheet_62 rfl (lv_at hl 1 rfl) ?_
              refine r_aald hC hW 2 rfl j (b := a) rfl (by omega) (by decide) hqj dX4_sheet_63 ?_
              refine lv_iload_n hx hb dX4_sheet_64 rfl (lv_at hl 2 rfl) ?_
              refine lv_iload_n hx hb dX4_sheet_65 rfl (lv_at hl 3 rfl) ?_
              refine r_callCv hC hD hW hA lkX4_199 (c_X2_begin l E a n (B j) (Z j) (N j) x2 k (by omega)) rfl rfl ⟨by decide, by decide, by decide, by decide⟩ [3] rfl rfl rfl (fun _ => rfl) hl.1 rfl rfl (Nat.le_of_ble_eq_true rfl) dX4_sheet_66 (fun _ H locs hr_18 hW => ?_)
              have hW : Wd E A s.heap (wcat [CO o vl vt vk vy kp, IA E (o 3) 7 F, [(o 2, .inl (E.2.2.2, 4, .inr (.inr (.inr (.inr qf)))))], SHW E a n x2 (nI (if x2 = 0 then 0 else k)) (fun _ => 0)]) H locs := hW
              refine lv_aload_n hx hb dX4_sheet_69 rfl (lv_at hl 0 rfl) ?_
              refine r_get hC hW flX4_44 0 rfl rfl dX4_sheet_70 ?_
              refine lv_iload_n hx hb dX4_sheet_73 rfl (lv_at hl 1 rfl) ?_
              refine r_aald hC hW 2 rfl j (b := a) rfl (by omega) (by decide) hqj dX4_sheet_74 ?_
              refine r_get hC hW flX4_203 3 rfl rfl dX4_sheet_75 ?_
              exact r_iret hC hQ hD hW () (by rw [mSheet, cif_t ⟨(show isN 4 (nI j) from ⟨j, hj, rfl⟩), Or.inr (Or.inr (Or.inl c_15))⟩, if_neg (nI_pos (by omega)), if_neg (show ¬ 40 < nI k from Int32.not_lt.mpr (nI_le (b := 40) (by omega) (by decide))), ix_nI (n := k) (by omega)]; first | done | rfl) (by rw [mSheet, cif_t ⟨(show isN 4 (nI j) from ⟨j, hj, rfl⟩), Or.inr (Or.inr (Or.inl c_15))⟩, if_neg (nI_pos (by omega)), if_neg (show ¬ 40 < nI k from Int32.not_lt.mpr (nI_le (b := 40) (by omega) (by decide))), ix_nI (n := k) (by omega), ix_nI (n := j) (by omega)]; dsimp only; rw [up_at, up_at, upd_at]; first | done | rfl) rfl dX4_sheet_78
            · refine lv_aload_n hx hb dX4_sheet_52 rfl (lv_at hl 0 rfl) ?_
              refine lv_iconst (v := 0) hx hb dX4_sheet_53 (by decide) ?_
              refine r_callCi hC hD hW hA lkX4_57 (c_X4_finding l E o vl vt vk vy kp F 0 (-1000000001) (by decide) (by decide)) rfl rfl ⟨by decide, by decide, by decide, by decide⟩ [0, 1] rfl rfl rfl (fun _ => rfl) hl.1 rfl rfl (Nat.le_of_ble_eq_true rfl) dX4_sheet_54 (fun r_19 _ H locs hr_19 hW => ?_)
              have hW : Wd E A s.heap (wcat [CO o vl vt vk vy kp, IA E (o 3) 7 (upd F 0 (F 0 + 1)), [(o 2, .inl (E.2.2.2, 4, .inr (.inr (.inr (.inr qf)))))], SHW E a n (B j) (nI (Z j)) (N j)]) H locs := hW
              have hr_19 : r_19 = (-1000000001) := hr_19
              subst hr_19
              exact r_iret hC hQ hD hW () (by rw [mSheet, cif_t ⟨(show isN 4 (nI j) from ⟨j, hj, rfl⟩), Or.inr (Or.inr (Or.inl c_15))⟩, if_neg (Int32.not_lt.mpr c_16), if_pos (Int32.not_le.mp c_17)]; first | done | rfl) (by rw [mSheet, cif_t ⟨(show isN 4 (nI j) from ⟨j, hj, rfl⟩), Or.inr (Or.inr (Or.inl c_15))⟩, if_neg (Int32.not_lt.mpr c_16), if_pos (Int32.not_le.mp c_17)]; first | done | rfl) rfl dX4_sheet_57
          · refine lv_aload_n hx hb dX4_sheet_39 rfl (lv_at hl 0 rfl) ?_
            refine lv_bipush (v := 6) hx hb dX4_sheet_40 (by decide) ?_
            refine r_callCi hC hD hW hA lkX4_57 (c_X4_finding l E o vl vt vk vy kp F 6 (-1000000007) (by decide) (by decide)) rfl rfl ⟨by decide, by decide, by decide, by decide⟩ [0, 1] rfl rfl rfl (fun _ => rfl) hl.1 rfl rfl (Nat.le_of_ble_eq_true rfl) dX4_sheet_42 (fun r_20 _ H locs hr_20 hW => ?_)
            have hW : Wd E A s.heap (wcat [CO o vl vt vk vy kp, IA E (o 3) 7 (upd F 6 (F 6 + 1)), [(o 2, .inl (E.2.2.2, 4, .inr (.inr (.inr (.inr qf)))))], SHW E a n (B j) (nI (Z j)) (N j)]) H locs := hW
            have hr_20 : r_20 = (-1000000007) := hr_20
            subst hr_20
            exact r_iret hC hQ hD hW () (by rw [mSheet, cif_t ⟨(show isN 4 (nI j) from ⟨j, hj, rfl⟩), Or.inr (Or.inr (Or.inl c_15))⟩, if_pos (Int32.not_le.mp c_16)]; first | done | rfl) (by rw [mSheet, cif_t ⟨(show isN 4 (nI j) from ⟨j, hj, rfl⟩), Or.inr (Or.inr (Or.inl c_15))⟩, if_pos (Int32.not_le.mp c_16)]; first | done | rfl) rfl dX4_sheet_45
        · refine lv_iload_n hx hb dX4_sheet_23 rfl (lv_at hl 2 rfl) ?_
          refine lv_bipush (v := 64) hx hb dX4_sheet_24 (by decide) ?_
          refine lv_icmp_eq (tgt := 35) hx hb dX4_sheet_26 (by decide) (fun c_21 => ?_) (fun c_21 => ?_)
          · refine lv_iload_n hx hb dX4_sheet_35 rfl (lv_at hl 3 rfl) ?_
            refine lv_if_ge (tgt := 46) hx hb dX4_sheet_36 (by decide) (fun c_22 => ?_) (fun c_22 => ?_)
            · refine lv_iload_n hx hb dX4_sheet_46 rfl (lv_at hl 3 rfl) ?_
              refine lv_bipush (v := 40) hx hb dX4_sheet_47 (by decide) ?_
              refine lv_icmp_le (tgt := 58) hx hb dX4_sheet_49 (by decide) (fun c_23 => ?_) (fun c_23 => ?_)
              · obtain ⟨k, hk40, rfl⟩ := rng (k := 40) (by decide) ⟨c_22, c_23⟩
                refine lv_aload_n hx hb dX4_sheet_58 rfl (lv_at hl 0 rfl) ?_
                refine r_get hC hW flX4_44 0 rfl rfl dX4_sheet_59 ?_
                refine lv_iload_n hx hb dX4_sheet_62 rfl (lv_at hl 1 rfl) ?_
                refine r_aald hC hW 2 rfl j (b := a) rfl (by omega) (by decide) hqj dX4_sheet_63 ?_
                refine lv_iload_n hx hb dX4_sheet_64 rfl (lv_at hl 2 rfl) ?_
                refine lv_iload_n hx hb dX4_sheet_65 rfl (lv_at hl 3 rfl) ?_
                refine r_callCv hC hD hW hA lkX4_199 (c_X2_begin l E a n (B j) (Z j) (N j) x2 k (by omega)) rfl rfl ⟨by decide, by decide, by decide, by decide⟩ [3] rfl rfl rfl (fun _ => rfl) hl.1 rfl rfl (Nat.le_of_ble_eq_true rfl) dX4_sheet_66 (fun _ H locs hr_24 hW => ?_)
                have hW : Wd E A s.heap (wcat [CO o vl vt vk vy kp, IA E (o 3) 7 F, [(o 2, .inl (E.2.2.2, 4, .inr (.inr (.inr (.inr qf)))))], SHW E a n x2 (nI (if x2 = 0 then 0 else k)) (fun _ => 0)]) H locs := hW
                refine lv_aload_n hx hb dX4_sheet_69 rfl (lv_at hl 0 rfl) ?_
                refine r_get hC hW flX4_44 0 rfl rfl dX4_sheet_70 ?_
                refine lv_iload_n hx hb dX4_sheet_73 rfl (lv_at hl 1 rfl) ?_
                refine r_aald hC hW 2 rfl j (b := a) rfl (by omega) (by decide) hqj dX4_sheet_74 ?_
                refine r_get hC hW flX4_203 3 rfl rfl dX4_sheet_75 ?_
                exact r_iret hC hQ hD hW () (by rw [mSheet, cif_t ⟨(show isN 4 (nI j) from ⟨j, hj, rfl⟩), Or.inr (Or.inr (Or.inr c_21))⟩, if_neg (nI_pos (by omega)), if_neg (show ¬ 40 < nI k from Int32.not_lt.mpr (nI_le (b := 40) (by omega) (by decide))), ix_nI (n := k) (by omega)]; first | done | rfl) (by rw [mSheet, cif_t ⟨(show isN 4 (nI j) from ⟨j, hj, rfl⟩), Or.inr (Or.inr (Or.inr c_21))⟩, if_neg (nI_pos (by omega)), if_neg (show ¬ 40 < nI k from Int32.not_lt.mpr (nI_le (b := 40) (by omega) (by decide))), ix_nI (n := k) (by omega), ix_nI (n := j) (by omega)]; dsimp only; rw [up_at, up_at, upd_at]; first | done | rfl) rfl dX4_sheet_78
              · refine lv_aload_n hx hb dX4_sheet_52 rfl (lv_at hl 0 rfl) ?_
                refine lv_iconst (v := 0) hx hb dX4_sheet_53 (by decide) ?_
                refine r_callCi hC hD hW hA lkX4_57 (c_X4_finding l E o vl vt vk vy kp F 0 (-1000000001) (by decide) (by decide)) rfl rfl ⟨by decide, by decide, by decide, by decide⟩ [0, 1] rfl rfl rfl (fun _ => rfl) hl.1 rfl rfl (Nat.le_of_ble_eq_true rfl) dX4_sheet_54 (fun r_25 _ H locs hr_25 hW => ?_)
                have hW : Wd E A s.heap (wcat [CO o vl vt vk vy kp, IA E (o 3) 7 (upd F 0 (F 0 + 1)), [(o 2, .inl (E.2.2.2, 4, .inr (.inr (.inr (.inr qf)))))], SHW E a n (B j) (nI (Z j)) (N j)]) H locs := hW
                have hr_25 : r_25 = (-1000000001) := hr_25
                subst hr_25
                exact r_iret hC hQ hD hW () (by rw [mSheet, cif_t ⟨(show isN 4 (nI j) from ⟨j, hj, rfl⟩), Or.inr (Or.inr (Or.inr c_21))⟩, if_neg (Int32.not_lt.mpr c_22), if_pos (Int32.not_le.mp c_23)]; first | done | rfl) (by rw [mSheet, cif_t ⟨(show isN 4 (nI j) from ⟨j, hj, rfl⟩), Or.inr (Or.inr (Or.inr c_21))⟩, if_neg (Int32.not_lt.mpr c_22), if_pos (Int32.not_le.mp c_23)]; first | done | rfl) rfl dX4_sheet_57
            · refine lv_aload_n hx hb dX4_sheet_39 rfl (lv_at hl 0 rfl) ?_
              refine lv_bipush (v := 6) hx hb dX4_sheet_40 (by decide) ?_
              refine r_callCi hC hD hW hA lkX4_57 (c_X4_finding l E o vl vt vk vy kp F 6 (-1000000007) (by decide) (by decide)) rfl rfl ⟨by decide, by decide, by decide, by decide⟩ [0, 1] rfl rfl rfl (fun _ => rfl) hl.1 rfl rfl (Nat.le_of_ble_eq_true rfl) dX4_sheet_42 (fun r_26 _ H locs hr_26 hW => ?_)
              have hW : Wd E A s.heap (wcat [CO o vl vt vk vy kp, IA E (o 3) 7 (upd F 6 (F 6 + 1)), [(o 2, .inl (E.2.2.2, 4, .inr (.inr (.inr (.inr qf)))))], SHW E a n (B j) (nI (Z j)) (N j)]) H locs := hW
              have hr_26 : r_26 = (-1000000007) := hr_26
              subst hr_26
              exact r_iret hC hQ hD hW () (by rw [mSheet, cif_t ⟨(show isN 4 (nI j) from ⟨j, hj, rfl⟩), Or.inr (Or.inr (Or.inr c_21))⟩, if_pos (Int32.not_le.mp c_22)]; first | done | rfl) (by rw [mSheet, cif_t ⟨(show isN 4 (nI j) from ⟨j, hj, rfl⟩), Or.inr (Or.inr (Or.inr c_21))⟩, if_pos (Int32.not_le.mp c_22)]; first | done | rfl) rfl dX4_sheet_45
          · refine lv_aload_n hx hb dX4_sheet_29 rfl (lv_at hl 0 rfl) ?_
            refine lv_iconst (v := 0) hx hb dX4_sheet_30 (by decide) ?_
            refine r_callCi hC hD hW hA lkX4_57 (c_X4_finding l E o vl vt vk vy kp F 0 (-1000000001) (by decide) (by decide)) rfl rfl ⟨by decide, by decide, by decide, by decide⟩ [0, 1] rfl rfl rfl (fun _ => rfl) hl.1 rfl rfl (Nat.le_of_ble_eq_true rfl) dX4_sheet_31 (fun r_27 _ H locs hr_27 hW => ?_)
            have hW : Wd E A s.heap (wcat [CO o vl vt vk vy kp, IA E (o 3) 7 (upd F 0 (F 0 + 1)), [(o 2, .inl (E.2.2.2, 4, .inr (.inr (.inr (.inr qf)))))], SHW E a n (B j) (nI (Z j)) (N j)]) H locs := hW
            have hr_27 : r_27 = (-1000000001) := hr_27
            subst hr_27
            exact r_iret hC hQ hD hW () (by rw [mSheet, cif_f (fun z_ => z_.2.elim c_3 (fun z_ => z_.elim c_9 (fun z_ => z_.elim c_15 c_21)))]; first | done | rfl) (by rw [mSheet, cif_f (fun z_ => z_.2.elim c_3 (fun z_ => z_.elim c_9 (fun z_ => z_.elim c_15 c_21)))]; first | done | rfl) rfl dX4_sheet_34
set_option maxHeartbeats 4000000 in
set_option maxRecDepth 100000 in
theorem c_X4_write_b (l : Launch) (E : Ev) (o : Nat → Nat) (vl : Nat → Nat) (vt : Nat → Nat) (vk : Nat → Nat) (vy : Nat → Nat) (kp : Int32) (F : FT) (B : FT) (Z : Nat → Nat) (N : NT) (x1 : Int32) (x2 : Int32) (v : Int64) (hbs : ¬ isN 4 x1) : ML l E yX4_write cX4_write 8 .long 3 63 0 0 [.ref (o 0), .int x1, .int x2, .long v] (wcat [CO o vl vt vk vy kp, IA E (o 3) 7 F]) (fun (r : Int64) (_ : Unit) => r = (mWrite F B Z N x1 x2 v).1) (fun (_ : Unit) => (wcat [CO o vl vt vk vy kp, IA E (o 3) 7 ((mWrite F B Z N x1 x2 v).2.1)])) := by
  refine ML_intro RX4 (by decide) rfl (Nat.le_of_ble_eq_true rfl) ?_
  intro p e R s m args below meth c A Q hQ hC hD hW hA ls hl
  have hx := hC.1
  have hb := hC.2.1
  have hW : Wd E A s.heap (wcat [CO o vl vt vk vy kp, IA E (o 3) 7 F]) s.heap [] := hW
  have hD : Dj A [o 0, o 3] := hD
  have hl : lv_has ls 8 [(0, .ref (o 0)), (1, .int x1), (2, .int x2), (3, .long v)] := hl
  refine lv_aload_n hx hb dX4_write_0 rfl (lv_at hl 0 rfl) ?_
  refine lv_iload_n hx hb dX4_write_1 rfl (lv_at hl 1 rfl) ?_
  refine r_callCi hC hD hW hA lkX4_204 (c_X4_findingOfSheet_b l E o vl vt vk vy kp F x1 hbs) rfl rfl ⟨by decide, by decide, by decide, by decide⟩ [0, 1] rfl rfl rfl (fun _ => rfl) hl.1 rfl rfl (Nat.le_of_ble_eq_true rfl) dX4_write_2 (fun r_1 _ H locs hr_1 hW => ?_)
  have hW : Wd E A s.heap (wcat [CO o vl vt vk vy kp, IA E (o 3) 7 (upd F 0 (F 0 + 1))]) H locs := hW
  have hr_1 : r_1 = (-1000000001) := hr_1
  subst hr_1
  refine lv_istore (lv' := [(5, .int (-1000000001)), (0, .ref (o 0)), (1, .int x1), (2, .int x2), (3, .long v)]) hx hb dX4_write_5 hl (by decide) rfl (fun ls hl => ?_)
  refine lv_iload hx hb dX4_write_7 (lv_at hl 0 rfl) ?_
  refine lv_if_eq (tgt := 16) hx hb dX4_write_9 (by decide) (fun c => absurd c (by decide)) (fun _ => ?_)
  refine lv_iload hx hb dX4_write_12 (lv_at hl 0 rfl) ?_
  refine lv_i2l (v := (((-1000000001) : Int32).toInt64)) hx hb dX4_write_14 rfl ?_
  exact r_lret hC hQ hD hW () (by rw [mWrite, cif_f hbs]; first | done | rfl) (by rw [mWrite, cif_f hbs]; first | done | rfl) rfl dX4_write_15
set_option maxHeartbeats 4000000 in
set_option maxRecDepth 100000 in
theorem c_X4_write (l : Launch) (E : Ev) (o : Nat → Nat) (vl : Nat → Nat) (vt : Nat → Nat) (vk : Nat → Nat) (vy : Nat → Nat) (kp : Int32) (F : FT) (qf : Nat → Option Nat) (B : FT) (Z : Nat → Nat) (N : NT) (j : Nat) (hj : j < 4) (hZj : Z j ≤ 40) (a : Nat) (n : Nat) (hqj : qf j = some a) (x2 : Int32) (v : Int64) : ML l E yX4_write cX4_write 8 .long 3 63 0 0 [.ref (o 0), .int (nI j), .int x2, .long v] (wcat [CO o vl vt vk vy kp, IA E (o 3) 7 F, [(o 2, .inl (E.2.2.2, 4, .inr (.inr (.inr (.inr qf)))))], SHW E a n (B j) (nI (Z j)) (N j)]) (fun (r : Int64) (_ : Unit) => r = (mWrite F B Z N (nI j) x2 v).1) (fun (_ : Unit) => (wcat [CO o vl vt vk vy kp, IA E (o 3) 7 ((mWrite F B Z N (nI j) x2 v).2.1), [(o 2, .inl (E.2.2.2, 4, .inr (.inr (.inr (.inr qf)))))], SHW E a n (B j) (nI (Z j)) (((mWrite F B Z N (nI j) x2 v).2.2) j)])) := by
  refine ML_intro RX4 (by decide) rfl (Nat.le_of_ble_eq_true rfl) ?_
  intro p e R s m args below meth c A Q hQ hC hD hW hA ls hl
  have hx := hC.1
  have hb := hC.2.1
  have hW : Wd E A s.heap (wcat [CO o vl vt vk vy kp, IA E (o 3) 7 F, [(o 2, .inl (E.2.2.2, 4, .inr (.inr (.inr (.inr qf)))))], SHW E a n (B j) (nI (Z j)) (N j)]) s.heap [] := hW
  have hD : Dj A [o 0, o 3, o 2, a, n] := hD
  have hl : lv_has ls 8 [(0, .ref (o 0)), (1, .int (nI j)), (2, .int x2), (3, .long v)] := hl
  by_cases hbm : B j = 0
  · refine lv_aload_n hx hb dX4_write_0 rfl (lv_at hl 0 rfl) ?_
    refine lv_iload_n hx hb dX4_write_1 rfl (lv_at hl 1 rfl) ?_
    refine r_callCi hC hD hW hA lkX4_204 (c_X4_findingOfSheet_m l E o vl vt vk vy kp F qf B Z N j (by omega) (by omega) a n hqj hbm) rfl rfl ⟨by decide, by decide, by decide, by decide⟩ [0, 1, 2, 3] rfl rfl rfl (fun _ => rfl) hl.1 rfl rfl (Nat.le_of_ble_eq_true rfl) dX4_write_2 (fun r_1 _ H locs hr_1 hW => ?_)
    have hW : Wd E A s.heap (wcat [CO o vl vt vk vy kp, IA E (o 3) 7 (upd F 5 (F 5 + 1)), [(o 2, .inl (E.2.2.2, 4, .inr (.inr (.inr (.inr qf)))))], SHW E a n (B j) (nI (Z j)) (N j)]) H locs := hW
    have hr_1 : r_1 = (-1000000006) := hr_1
    subst hr_1
    refine lv_istore (lv' := [(5, .int (-1000000006)), (0, .ref (o 0)), (1, .int (nI j)), (2, .int x2), (3, .long v)]) hx hb dX4_write_5 hl (by decide) rfl (fun ls hl => ?_)
    refine lv_iload hx hb dX4_write_7 (lv_at hl 0 rfl) ?_
    refine lv_if_eq (tgt := 16) hx hb dX4_write_9 (by decide) (fun c => absurd c (by decide)) (fun _ => ?_)
    refine lv_iload hx hb dX4_write_12 (lv_at hl 0 rfl) ?_
    refine lv_i2l (v := (((-1000000006) : Int32).toInt64)) hx hb dX4_write_14 rfl ?_
    exact r_lret hC hQ hD hW () (by rw [mWrite, cif_t (show isN 4 (nI j) from ⟨j, hj, rfl⟩), ix_nI (n := j) (by omega), if_pos hbm]; first | done | rfl) (by rw [mWrite, cif_t (show isN 4 (nI j) from ⟨j, hj, rfl⟩), ix_nI (n := j) (by omega), if_pos hbm]; first | done | rfl) rfl dX4_write_15
  · refine lv_aload_n hx hb dX4_write_0 rfl (lv_at hl 0 rfl) ?_
    refine lv_iload_n hx hb dX4_write_1 rfl (lv_at hl 1 rfl) ?_
    refine r_callCi hC hD hW hA lkX4_204 (c_X4_findingOfSheet_o l E o vl vt vk vy kp F qf B Z N j (by omega) (by omega) a n hqj hbm) rfl rfl ⟨by decide, by decide, by decide, by decide⟩ [0, 1, 2, 3] rfl rfl rfl (fun _ => rfl) hl.1 rfl rfl (Nat.le_of_ble_eq_true rfl) dX4_write_2 (fun r_2 _ H locs hr_2 hW => ?_)
    have hW : Wd E A s.heap (wcat [CO o vl vt vk vy kp, IA E (o 3) 7 F, [(o 2, .inl (E.2.2.2, 4, .inr (.inr (.inr (.inr qf)))))], SHW E a n (B j) (nI (Z j)) (N j)]) H locs := hW
    have hr_2 : r_2 = 0 := hr_2
    subst hr_2
    refine lv_istore (lv' := [(5, .int 0), (0, .ref (o 0)), (1, .int (nI j)), (2, .int x2), (3, .long v)]) hx hb dX4_write_5 hl (by decide) rfl (fun ls hl => ?_)
    refine lv_iload hx hb dX4_write_7 (lv_at hl 0 rfl) ?_
    refine lv_if_eq (tgt := 16) hx hb dX4_write_9 (by decide) (fun _ => ?_) (fun c => absurd c (by decide))
    refine lv_iload_n hx hb dX4_write_16 rfl (lv_at hl 3 rfl) ?_
    refine lv_iconst (v := 0) hx hb dX4_write_17 (by decide) ?_
    refine lv_aload_n hx hb dX4_write_18 rfl (lv_at hl 1 rfl) ?_
    refine r_get hC hW flX4_44 0 rfl rfl dX4_write_19 ?_
    refine lv_iload_n hx hb dX4_write_22 rfl (lv_at hl 2 rfl) ?_
    refine r_aald hC hW 2 rfl j (b := a) rfl (by omega) (by decide) hqj dX4_write_23 ?_
    refine r_get hC hW flX4_203 3 rfl rfl dX4_write_24 ?_
    refine lv_iconst (v := 1) hx hb dX4_write_27 (by decide) ?_
    refine n_isub (v := ((nI (Z j)) - 1)) hx hb dX4_write_28 rfl ?_
    refine r_callSi hC hD hW hA lkX4_53 (c_X4_isWithin l E x2 0 ((nI (Z j)) - 1)) ⟨by decide, by decide, by decide, by decide⟩ rfl hl.1 rfl rfl (Nat.le_of_ble_eq_true rfl) dX4_write_29 (fun r_3 _ H locs hr_3 hW => ?_)
    have hW : Wd E A s.heap (wcat [CO o vl vt vk vy kp, IA E (o 3) 7 F, [(o 2, .inl (E.2.2.2, 4, .inr (.inr (.inr (.inr qf)))))], SHW E a n (B j) (nI (Z j)) (N j)]) H locs := hW
    have hr_3 : bz (0 ≤ x2 ∧ x2 ≤ ((nI (Z j)) - 1)) r_3 := hr_3
    rcases hr_3 with ⟨rfl, b_4⟩ | ⟨rfl, b_4⟩
    · refine lv_if_ne (tgt := 42) hx hb dX4_write_32 (by decide) (fun c => absurd c (by decide)) (fun _ => ?_)
      refine lv_aload_n hx hb dX4_write_35 rfl (lv_at hl 1 rfl) ?_
      refine lv_iconst (v := 0) hx hb dX4_write_36 (by decide) ?_
      refine r_callCi hC hD hW hA lkX4_57 (c_X4_finding l E o vl vt vk vy kp F 0 (-1000000001) (by decide) (by decide)) rfl rfl ⟨by decide, by decide, by decide, by decide⟩ [0, 1] rfl rfl rfl (fun _ => rfl) hl.1 rfl rfl (Nat.le_of_ble_eq_true rfl) dX4_write_37 (fun r_5 _ H locs hr_5 hW => ?_)
      have hW : Wd E A s.heap (wcat [CO o vl vt vk vy kp, IA E (o 3) 7 (upd F 0 (F 0 + 1)), [(o 2, .inl (E.2.2.2, 4, .inr (.inr (.inr (.inr qf)))))], SHW E a n (B j) (nI (Z j)) (N j)]) H locs := hW
      have hr_5 : r_5 = (-1000000001) := hr_5
      subst hr_5
      refine lv_i2l (v := (((-1000000001) : Int32).toInt64)) hx hb dX4_write_40 rfl ?_
      exact r_lret hC hQ hD hW () (by rw [mWrite, cif_t (show isN 4 (nI j) from ⟨j, hj, rfl⟩), ix_nI (n := j) (by omega), if_neg hbm, cif_f (fun z_ => b_4 ((in_iff (by omega)).mpr z_))]; first | done | rfl) (by rw [mWrite, cif_t (show isN 4 (nI j) from ⟨j, hj, rfl⟩), ix_nI (n := j) (by omega), if_neg hbm, cif_f (fun z_ => b_4 ((in_iff (by omega)).mpr z_))]; first | done | rfl) rfl dX4_write_41
    · have eb_4 := (in_iff (by omega)).mp b_4
      obtain ⟨i, hi, rfl⟩ := eb_4
      refine lv_if_ne (tgt := 42) hx hb dX4_write_32 (by decide) (fun _ => ?_) (fun c => absurd c (by decide))
      refine lv_aload_n hx hb dX4_write_42 rfl (lv_at hl 1 rfl) ?_
      refine r_get hC hW flX4_44 0 rfl rfl dX4_write_43 ?_
      refine lv_iload_n hx hb dX4_write_46 rfl (lv_at hl 2 rfl) ?_
      refine r_aald hC hW 2 rfl j (b := a) rfl (by omega) (by decide) hqj dX4_write_47 ?_
      refine r_get hC hW flX4_207 3 rfl rfl dX4_write_48 ?_
      refine lv_iload_n hx hb dX4_write_51 rfl (lv_at hl 3 rfl) ?_
      refine r_lald hC hW 4 rfl i rfl (by omega) (by decide) dX4_write_52 ?_
      refine lv_lstore (lv' := [(6, .long (N j i)), (5, .int 0), (0, .ref (o 0)), (1, .int (nI j)), (2, .int (nI i)), (3, .long v)]) hx hb dX4_write_53 hl (by decide) rfl (fun ls hl => ?_)
      refine lv_aload_n hx hb dX4_write_55 rfl (lv_at hl 2 rfl) ?_
      refine r_get hC hW flX4_44 0 rfl rfl dX4_write_56 ?_
      refine lv_iload_n hx hb dX4_write_59 rfl (lv_at hl 3 rfl) ?_
      refine r_aald hC hW 2 rfl j (b := a) rfl (by omega) (by decide) hqj dX4_write_60 ?_
      refine lv_iload_n hx hb dX4_write_61 rfl (lv_at hl 4 rfl) ?_
      refine lv_lload_n hx hb dX4_write_62 rfl (lv_at hl 5 rfl) ?_
      refine r_callCv hC hD hW hA lkX4_211 (c_X2_put l E a n (B j) (Z j) (N j) i (by omega) v) rfl rfl ⟨by decide, by decide, by decide, by decide⟩ [3] rfl rfl rfl (fun _ => rfl) hl.1 rfl rfl (Nat.le_of_ble_eq_true rfl) dX4_write_63 (fun _ H locs hr_6 hW => ?_)
      have hW : Wd E A s.heap (wcat [CO o vl vt vk vy kp, IA E (o 3) 7 F, [(o 2, .inl (E.2.2.2, 4, .inr (.inr (.inr (.inr qf)))))], SHW E a n (B j) (nI (Z j)) (vp_updL (N j) i (nar (B j) v))]) H locs := hW
      refine lv_lload hx hb dX4_write_66 (lv_at hl 0 rfl) ?_
      exact r_lret hC hQ hD hW () (by rw [mWrite, cif_t (show isN 4 (nI j) from ⟨j, hj, rfl⟩), ix_nI (n := j) (by omega), if_neg hbm, cif_t ((in_iff (by omega)).mp b_4), ix_nI (n := i) (by omega)]; first | done | rfl) (by rw [mWrite, cif_t (show isN 4 (nI j) from ⟨j, hj, rfl⟩), ix_nI (n := j) (by omega), if_neg hbm, cif_t ((in_iff (by omega)).mp b_4), ix_nI (n := i) (by omega)]; dsimp only; rw [up_at]; first | done | rfl) rfl dX4_write_68
set_option maxHeartbeats 4000000 in
set_option maxRecDepth 100000 in
theorem c_X4_lays_b (l : Launch) (E : Ev) (o : Nat → Nat) (vl : Nat → Nat) (vt : Nat → Nat) (vk : Nat → Nat) (vy : Nat → Nat) (kp : Int32) (S : HS) (Tl : HS) (F : FT) (G : Nat) (B : FT) (Z : Nat → Nat) (N : NT) (x1 : Int32) (hbs : ¬ isN 4 x1) : MI l E yX4_lays cX4_lays 7 .int 3 63 0 0 [.ref (o 0), .int x1] (wcat [CO o vl vt vk vy kp, IA E (o 3) 7 F, HW E vl S Tl]) (fun (r : Int32) (_ : Unit) => r = (mLays S F G B Z N x1).1) (fun (_ : Unit) => (wcat [CO o vl vt vk vy kp, IA E (o 3) 7 ((mLays S F G B Z N x1).2.2), HW E vl ((mLays S F G B Z N x1).2.1) Tl])) := by
  refine MI_intro RX4 (by decide) rfl (Nat.le_of_ble_eq_true rfl) ?_
  intro p e R s m args below meth c A Q hQ hC hD hW hA ls hl
  have hx := hC.1
  have hb := hC.2.1
  have hW : Wd E A s.heap (wcat [CO o vl vt vk vy kp, IA E (o 3) 7 F, HW E vl S Tl]) s.heap [] := hW
  have hD : Dj A [o 0, o 3, vl 0, vl 1, vl 2, vl 3, vl 4, vl 5, vl 6, vl 7, vl 8, vl 9, vl 10] := hD
  have hl : lv_has ls 7 [(0, .ref (o 0)), (1, .int x1)] := hl
  refine lv_aload_n hx hb dX4_lays_0 rfl (lv_at hl 0 rfl) ?_
  refine lv_iload_n hx hb dX4_lays_1 rfl (lv_at hl 1 rfl) ?_
  refine r_callCi hC hD hW hA lkX4_204 (c_X4_findingOfSheet_b l E o vl vt vk vy kp F x1 hbs) rfl rfl ⟨by decide, by decide, by decide, by decide⟩ [0, 1] rfl rfl rfl (fun _ => rfl) hl.1 rfl rfl (Nat.le_of_ble_eq_true rfl) dX4_lays_2 (fun r_1 _ H locs hr_1 hW => ?_)
  have hW : Wd E A s.heap (wcat [CO o vl vt vk vy kp, IA E (o 3) 7 (upd F 0 (F 0 + 1)), HW E vl S Tl]) H locs := hW
  have hr_1 : r_1 = (-1000000001) := hr_1
  subst hr_1
  refine lv_istore_n (lv' := [(2, .int (-1000000001)), (0, .ref (o 0)), (1, .int x1)]) hx hb dX4_lays_5 rfl hl (by decide) rfl (fun ls hl => ?_)
  refine lv_iload_n hx hb dX4_lays_6 rfl (lv_at hl 0 rfl) ?_
  refine lv_if_eq (tgt := 12) hx hb dX4_lays_7 (by decide) (fun c => absurd c (by decide)) (fun _ => ?_)
  refine lv_iload_n hx hb dX4_lays_10 rfl (lv_at hl 0 rfl) ?_
  exact r_iret hC hQ hD hW () (by rw [mLays, cif_f hbs]; first | done | rfl) (by rw [mLays, cif_f hbs]; first | done | rfl) rfl dX4_lays_11
set_option maxHeartbeats 4000000 in
set_option maxRecDepth 100000 in
theorem c_X4_lays (l : Launch) (E : Ev) (o : Nat → Nat) (vl : Nat → Nat) (vt : Nat → Nat) (vk : Nat → Nat) (vy : Nat → Nat) (kp : Int32) (S : HS) (Tl : HS) (F : FT) (P : Nat) (G : Nat) (hV : HV S P G) (qf : Nat → Option Nat) (B : FT) (Z : Nat → Nat) (N : NT) (j : Nat) (hj : j < 4) (hZj : Z j ≤ 40) (a : Nat) (n : Nat) (hqj : qf j = some a) : MI l E yX4_lays cX4_lays 7 .int 3 63 0 0 [.ref (o 0), .int (nI j)] (wcat [CO o vl vt vk vy kp, IA E (o 3) 7 F, HW E vl S Tl, [(o 2, .inl (E.2.2.2, 4, .inr (.inr (.inr (.inr qf)))))], SHW E a n (B j) (nI (Z j)) (N j)]) (fun (r : Int32) (_ : Unit) => r = (mLays S F G B Z N (nI j)).1) (fun (_ : Unit) => (wcat [CO o vl vt vk vy kp, IA E (o 3) 7 ((mLays S F G B Z N (nI j)).2.2), HW E vl ((mLays S F G B Z N (nI j)).2.1) Tl, [(o 2, .inl (E.2.2.2, 4, .inr (.inr (.inr (.inr qf)))))], SHW E a n (B j) (nI (Z j)) (N j)])) := by
  refine MI_intro RX4 (by decide) rfl (Nat.le_of_ble_eq_true rfl) ?_
  intro p e R s m args below meth c A Q hQ hC hD hW hA ls hl
  have hx := hC.1
  have hb := hC.2.1
  have hW : Wd E A s.heap (wcat [CO o vl vt vk vy kp, IA E (o 3) 7 F, HW E vl S Tl, [(o 2, .inl (E.2.2.2, 4, .inr (.inr (.inr (.inr qf)))))], SHW E a n (B j) (nI (Z j)) (N j)]) s.heap [] := hW
  have hD : Dj A [o 0, o 3, vl 0, vl 1, vl 2, vl 3, vl 4, vl 5, vl 6, vl 7, vl 8, vl 9, vl 10, o 2, a, n] := hD
  have hl : lv_has ls 7 [(0, .ref (o 0)), (1, .int (nI j))] := hl
  have hP := hV.p
  have hP1 := hV.p6
  have hG := hV.g
  have hG1 := hV.g10
  by_cases hbm : B j = 0
  · refine lv_aload_n hx hb dX4_lays_0 rfl (lv_at hl 0 rfl) ?_
    refine lv_iload_n hx hb dX4_lays_1 rfl (lv_at hl 1 rfl) ?_
    refine r_callCi hC hD hW hA lkX4_204 (c_X4_findingOfSheet_m l E o vl vt vk vy kp F qf B Z N j (by omega) (by omega) a n hqj hbm) rfl rfl ⟨by decide, by decide, by decide, by decide⟩ [0, 1, 3, 4] rfl rfl rfl (fun _ => rfl) hl.1 rfl rfl (Nat.le_of_ble_eq_true rfl) dX4_lays_2 (fun r_1 _ H locs hr_1 hW => ?_)
    have hW : Wd E A s.heap (wcat [CO o vl vt vk vy kp, IA E (o 3) 7 (upd F 5 (F 5 + 1)), HW E vl S Tl, [(o 2, .inl (E.2.2.2, 4, .inr (.inr (.inr (.inr qf)))))], SHW E a n (B j) (nI (Z j)) (N j)]) H locs := hW
    have hr_1 : r_1 = (-1000000006) := hr_1
    subst hr_1
    refine lv_istore_n (lv' := [(2, .int (-1000000006)), (0, .ref (o 0)), (1, .int (nI j))]) hx hb dX4_lays_5 rfl hl (by decide) rfl (fun ls hl => ?_)
    refine lv_iload_n hx hb dX4_lays_6 rfl (lv_at hl 0 rfl) ?_
    refine lv_if_eq (tgt := 12) hx hb dX4_lays_7 (by decide) (fun c => absurd c (by decide)) (fun _ => ?_)
    refine lv_iload_n hx hb dX4_lays_10 rfl (lv_at hl 0 rfl) ?_
    exact r_iret hC hQ hD hW () (by rw [mLays, cif_t (show isN 4 (nI j) from ⟨j, hj, rfl⟩), ix_nI (n := j) (by omega), if_pos hbm]; first | done | rfl) (by rw [mLays, cif_t (show isN 4 (nI j) from ⟨j, hj, rfl⟩), ix_nI (n := j) (by omega), if_pos hbm]; first | done | rfl) rfl dX4_lays_11
  · refine lv_aload_n hx hb dX4_lays_0 rfl (lv_at hl 0 rfl) ?_
    refine lv_iload_n hx hb dX4_lays_1 rfl (lv_at hl 1 rfl) ?_
    refine r_callCi hC hD hW hA lkX4_204 (c_X4_findingOfSheet_o l E o vl vt vk vy kp F qf B Z N j (by omega) (by omega) a n hqj hbm) rfl rfl ⟨by decide, by decide, by decide, by decide⟩ [0, 1, 3, 4] rfl rfl rfl (fun _ => rfl) hl.1 rfl rfl (Nat.le_of_ble_eq_true rfl) dX4_lays_2 (fun r_2 _ H locs hr_2 hW => ?_)
    have hW : Wd E A s.heap (wcat [CO o vl vt vk vy kp, IA E (o 3) 7 F, HW E vl S Tl, [(o 2, .inl (E.2.2.2, 4, .inr (.inr (.inr (.inr qf)))))], SHW E a n (B j) (nI (Z j)) (N j)]) H locs := hW
    have hr_2 : r_2 = 0 := hr_2
    subst hr_2
    refine lv_istore_n (lv' := [(2, .int 0), (0, .ref (o 0)), (1, .int (nI j))]) hx hb dX4_lays_5 rfl hl (by decide) rfl (fun ls hl => ?_)
    refine lv_iload_n hx hb dX4_lays_6 rfl (lv_at hl 0 rfl) ?_
    refine lv_if_eq (tgt := 12) hx hb dX4_lays_7 (by decide) (fun _ => ?_) (fun c => absurd c (by decide))
    refine lv_iconst (v := 0) hx hb dX4_lays_12 (by decide) ?_
    refine lv_istore_n (lv' := [(3, .int 0), (2, .int 0), (0, .ref (o 0)), (1, .int (nI j))]) hx hb dX4_lays_13 rfl hl (by decide) rfl (fun ls hl => ?_)
    refine lv_iconst (v := 0) hx hb dX4_lays_14 (by decide) ?_
    refine lv_istore (lv' := [(4, .int 0), (3, .int 0), (2, .int 0), (0, .ref (o 0)), (1, .int (nI j))]) hx hb dX4_lays_15 hl (by decide) rfl (fun ls hl => ?_)
    have L17 : ∀ (n_ : Nat) (i : Nat) (H : Heap) (locs : List Loc) (ls : Array Slot), 40 - i < n_ → i ≤ Z j → i ≤ G → Wd E A s.heap (wcat [CO o vl vt vk vy kp, IA E (o 3) 7 F, HW E vl (lyS S (N j) i) Tl, [(o 2, .inl (E.2.2.2, 4, .inr (.inr (.inr (.inr qf)))))], SHW E a n (B j) (nI (Z j)) (N j)]) H locs → lv_has ls 7 [(0, .ref (o 0)), (1, .int (nI j)), (3, .int (nI (lyC (N j) i))), (4, .int (nI i))] → W p l e R s m args below meth c H locs 0 0 Q (F0 m 17 ls []) := by
      intro n_
      induction n_ with
      | zero => intro i H locs ls hm; exact absurd hm (Nat.not_lt_zero _)
      | succ n_ ih =>
        intro i H locs ls hm hi hi2 hW hl
        refine lv_iload hx hb dX4_lays_17 (lv_at hl 3 rfl) ?_
        refine lv_aload_n hx hb dX4_lays_19 rfl (lv_at hl 0 rfl) ?_
        refine r_get hC hW flX4_44 0 rfl rfl dX4_lays_20 ?_
        refine lv_iload_n hx hb dX4_lays_23 rfl (lv_at hl 1 rfl) ?_
        refine r_aald hC hW 13 rfl j (b := a) rfl (by omega) (by decide) hqj dX4_lays_24 ?_
        refine r_get hC hW flX4_203 14 rfl rfl dX4_lays_25 ?_
        refine lv_icmp_ge (tgt := 95) hx hb dX4_lays_28 (by decide) (fun c_3 => ?_) (fun c_3 => ?_)
        · have c_3 : Z j ≤ i := (nI_leI (a := Z j) (b := i) (by omega) (by omega)).mp c_3
          refine lv_iload_n hx hb dX4_lays_95 rfl (lv_at hl 2 rfl) ?_
          exact r_iret hC hQ hD hW () (by rw [mLays, cif_t (show isN 4 (nI j) from ⟨j, hj, rfl⟩), ix_nI (n := j) (by omega), if_neg hbm, show min (Z j) G = i by omega]; first | done | rfl) (by rw [mLays, cif_t (show isN 4 (nI j) from ⟨j, hj, rfl⟩), ix_nI (n := j) (by omega), if_neg hbm, show min (Z j) G = i by omega]; first | done | rfl) rfl dX4_lays_96
        · have c_3 : ¬ Z j ≤ i := fun z_ => c_3 ((nI_leI (a := Z j) (b := i) (by omega) (by omega)).mpr z_)
          refine lv_iload hx hb dX4_lays_31 (lv_at hl 3 rfl) ?_
          refine lv_aload_n hx hb dX4_lays_33 rfl (lv_at hl 0 rfl) ?_
          refine r_get hC hW flX4_10 0 rfl rfl dX4_lays_34 ?_
          refine r_get hC hW flX4_129 2 rfl rfl dX4_lays_37 ?_
          refine n_top (HV_lyS hV i).g ?_
          refine lv_icmp_ge (tgt := 95) hx hb dX4_lays_40 (by decide) (fun c_4 => ?_) (fun c_4 => ?_)
          · have c_4 : G ≤ i := (nI_leI (a := G) (b := i) (by omega) (by omega)).mp c_4
            refine lv_iload_n hx hb dX4_lays_95 rfl (lv_at hl 2 rfl) ?_
            exact r_iret hC hQ hD hW () (by rw [mLays, cif_t (show isN 4 (nI j) from ⟨j, hj, rfl⟩), ix_nI (n := j) (by omega), if_neg hbm, show min (Z j) G = i by omega]; first | done | rfl) (by rw [mLays, cif_t (show isN 4 (nI j) from ⟨j, hj, rfl⟩), ix_nI (n := j) (by omega), if_neg hbm, show min (Z j) G = i by omega]; first | done | rfl) rfl dX4_lays_96
          · have c_4 : ¬ G ≤ i := fun z_ => c_4 ((nI_leI (a := G) (b := i) (by omega) (by omega)).mpr z_)
            refine lv_aload_n hx hb dX4_lays_43 rfl (lv_at hl 0 rfl) ?_
            refine r_get hC hW flX4_44 0 rfl rfl dX4_lays_44 ?_
            refine lv_iload_n hx hb dX4_lays_47 rfl (lv_at hl 1 rfl) ?_
            refine r_aald hC hW 13 rfl j (b := a) rfl (by omega) (by decide) hqj dX4_lays_48 ?_
            refine r_get hC hW flX4_207 14 rfl rfl dX4_lays_49 ?_
            refine lv_iload hx hb dX4_lays_52 (lv_at hl 3 rfl) ?_
            refine r_lald hC hW 15 rfl i rfl (by omega) (by decide) dX4_lays_54 ?_
            refine lv_lstore (lv' := [(5, .long (N j i)), (0, .ref (o 0)), (1, .int (nI j)), (3, .int (nI (lyC (N j) i))), (4, .int (nI i))]) hx hb dX4_lays_55 hl (by decide) rfl (fun ls hl => ?_)
            refine lv_lload hx hb dX4_lays_57 (lv_at hl 0 rfl) ?_
            refine lv_lconst (v := 0) hx hb dX4_lays_59 (by decide) ?_
            refine W.lcmp hx hb dX4_lays_60 ?_
            refine lv_if_lt (tgt := 89) hx hb dX4_lays_61 (by decide) (fun c_5 => ?_) (fun c_5 => ?_)
            · have c_5 : (N j i) < 0 := cmp_lt c_5
              refine lv_iinc (v := (nI (i + 1))) (lv' := [(4, .int (nI (i + 1))), (5, .long (N j i)), (0, .ref (o 0)), (1, .int (nI j)), (3, .int (nI (lyC (N j) i)))]) (k := 4) hx hb dX4_lays_89 hl rfl (nI_inc i 1) (by decide) rfl (fun ls hl => ?_)
              refine lv_goto (tgt := 17) hx hb dX4_lays_92 (by decide) ?_
              exact ih (i + 1) _ _ _ (by omega) (by omega) (by omega) (by rw [lyS_f (show ¬ lyP (N j i) from fun z_ => absurd z_.1 (Int64.not_le.mpr c_5))]; exact hW) (by rw [lyC_f (show ¬ lyP (N j i) from fun z_ => absurd z_.1 (Int64.not_le.mpr c_5))]; exact lv_sub hl [2, 3, 4, 0] rfl)
            · have c_5 : ¬ (N j i) < 0 := cmp_ltn c_5
              refine lv_lload hx hb dX4_lays_64 (lv_at hl 0 rfl) ?_
              refine r_ldc2 hC clX4_230 dX4_lays_66 ?_
              refine W.lcmp hx hb dX4_lays_69 ?_
              refine lv_if_gt (tgt := 89) hx hb dX4_lays_70 (by decide) (fun c_6 => ?_) (fun c_6 => ?_)
              · have c_6 : 99 < (N j i) := cmp_gt c_6
                refine lv_iinc (v := (nI (i + 1))) (lv' := [(4, .int (nI (i + 1))), (5, .long (N j i)), (0, .ref (o 0)), (1, .int (nI j)), (3, .int (nI (lyC (N j) i)))]) (k := 4) hx hb dX4_lays_89 hl rfl (nI_inc i 1) (by decide) rfl (fun ls hl => ?_)
                refine lv_goto (tgt := 17) hx hb dX4_lays_92 (by decide) ?_
                exact ih (i + 1) _ _ _ (by omega) (by omega) (by omega) (by rw [lyS_f (show ¬ lyP (N j i) from fun z_ => absurd z_.2 (Int64.not_le.mpr c_6))]; exact hW) (by rw [lyC_f (show ¬ lyP (N j i) from fun z_ => absurd z_.2 (Int64.not_le.mpr c_6))]; exact lv_sub hl [2, 3, 4, 0] rfl)
              · have c_6 : ¬ 99 < (N j i) := cmp_gtn c_6
                refine lv_aload_n hx hb dX4_lays_73 rfl (lv_at hl 1 rfl) ?_
                refine r_get hC hW flX4_10 0 rfl rfl dX4_lays_74 ?_
                refine r_get hC hW flX4_142 2 rfl rfl dX4_lays_77 ?_
                refine lv_iload hx hb dX4_lays_80 (lv_at hl 4 rfl) ?_
                refine lv_lload hx hb dX4_lays_82 (lv_at hl 0 rfl) ?_
                refine lv_l2i (v := (((N j i) : Int64).toInt32)) hx hb dX4_lays_84 rfl ?_
                refine r_iast (ws' := (wcat [CO o vl vt vk vy kp, IA E (o 3) 7 F, HW E vl (st (lyS S (N j) i) 7 i (((N j i) : Int64).toInt32)) Tl, [(o 2, .inl (E.2.2.2, 4, .inr (.inr (.inr (.inr qf)))))], SHW E a n (B j) (nI (Z j)) (N j)])) hC hD hW 9 rfl i rfl (by omega) (by decide) rfl rfl dX4_lays_85 (fun H locs hW => ?_)
                refine lv_iinc (v := (nI (lyC (N j) i + 1))) (lv' := [(3, .int (nI (lyC (N j) i + 1))), (5, .long (N j i)), (0, .ref (o 0)), (1, .int (nI j)), (4, .int (nI i))]) (k := 3) hx hb dX4_lays_86 hl rfl (nI_inc (lyC (N j) i) 1) (by decide) rfl (fun ls hl => ?_)
                refine lv_iinc (v := (nI (i + 1))) (lv' := [(4, .int (nI (i + 1))), (3, .int (nI (lyC (N j) i + 1))), (5, .long (N j i)), (0, .ref (o 0)), (1, .int (nI j))]) (k := 4) hx hb dX4_lays_89 hl rfl (nI_inc i 1) (by decide) rfl (fun ls hl => ?_)
                refine lv_goto (tgt := 17) hx hb dX4_lays_92 (by decide) ?_
                exact ih (i + 1) _ _ _ (by omega) (by omega) (by omega) (by rw [lyS_t (show lyP (N j i) from ⟨Int64.not_lt.mp c_5, Int64.not_lt.mp c_6⟩)]; exact hW) (by rw [lyC_t (show lyP (N j i) from ⟨Int64.not_lt.mp c_5, Int64.not_lt.mp c_6⟩)]; exact lv_sub hl [3, 4, 1, 0] rfl)
    exact L17 (40 - 0 + 1) 0 _ _ _ (Nat.lt_succ_self _) (by omega) (by omega) hW (lv_sub hl [3, 4, 1, 0] rfl)
