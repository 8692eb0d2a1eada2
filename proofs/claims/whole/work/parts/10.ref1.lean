set_option maxHeartbeats 4000000 in
set_option maxRecDepth 100000 in
theorem c_X5_in (l : Launch) (E : Ev) (x1 : Int32) (x2 : Int32) (x3 : Int32) : MI l E yX5_in cX5_in 3 .boolean 0 0 0 0 [.int x1, .int x2, .int x3] [] (fun (r : Int32) (_ : Unit) => bz (x2 ≤ x1 ∧ x1 ≤ x3) r) (fun (_ : Unit) => []) := by
  refine MI_intro RX5 (by decide) rfl (Nat.le_of_ble_eq_true rfl) ?_
  intro p e R s m args below meth c A Q hQ hC hD hW hA ls hl
  have hx := hC.1
  have hb := hC.2.1
  have hW : Wd E A s.heap [] s.heap [] := hW
  have hl : lv_has ls 3 [(0, .int x1), (1, .int x2), (2, .int x3)] := hl
  refine lv_iload_n hx hb dX5_in_0 rfl (lv_at hl 0 rfl) ?_
  refine lv_iload_n hx hb dX5_in_1 rfl (lv_at hl 1 rfl) ?_
  refine lv_icmp_lt (tgt := 14) hx hb dX5_in_2 (by decide) (fun c_1 => ?_) (fun c_1 => ?_)
  · refine lv_iconst (v := 0) hx hb dX5_in_14 (by decide) ?_
    exact r_zret hC hQ hD hW (by decide) () (bz_f (by clear hQ hD hC hA; simp only [Int32.lt_iff_toInt_lt, Int32.le_iff_toInt_le, ← Int32.toInt_inj] at *; omega)) rfl rfl dX5_in_15
  · refine lv_iload_n hx hb dX5_in_5 rfl (lv_at hl 0 rfl) ?_
    refine lv_iload_n hx hb dX5_in_6 rfl (lv_at hl 2 rfl) ?_
    refine lv_icmp_gt (tgt := 14) hx hb dX5_in_7 (by decide) (fun c_2 => ?_) (fun c_2 => ?_)
    · refine lv_iconst (v := 0) hx hb dX5_in_14 (by decide) ?_
      exact r_zret hC hQ hD hW (by decide) () (bz_f (by clear hQ hD hC hA; simp only [Int32.lt_iff_toInt_lt, Int32.le_iff_toInt_le, ← Int32.toInt_inj] at *; omega)) rfl rfl dX5_in_15
    · refine lv_iconst (v := 1) hx hb dX5_in_10 (by decide) ?_
      refine lv_goto (tgt := 15) hx hb dX5_in_11 (by decide) ?_
      exact r_zret hC hQ hD hW (by decide) () (bz_t (by clear hQ hD hC hA; simp only [Int32.lt_iff_toInt_lt, Int32.le_iff_toInt_le, ← Int32.toInt_inj] at *; omega)) rfl rfl dX5_in_15
set_option maxHeartbeats 4000000 in
set_option maxRecDepth 100000 in
theorem c_X5_held (l : Launch) (E : Ev) (x1 : Int32) (x2 : Int32) (x3 : Int32) : MI l E yX5_held cX5_held 3 .int 0 0 0 0 [.int x1, .int x2, .int x3] [] (fun (r : Int32) (_ : Unit) => r = if x1 < x2 then x2 else if x3 < x1 then x3 else x1) (fun (_ : Unit) => []) := by
  refine MI_intro RX5 (by decide) rfl (Nat.le_of_ble_eq_true rfl) ?_
  intro p e R s m args below meth c A Q hQ hC hD hW hA ls hl
  have hx := hC.1
  have hb := hC.2.1
  have hW : Wd E A s.heap [] s.heap [] := hW
  have hl : lv_has ls 3 [(0, .int x1), (1, .int x2), (2, .int x3)] := hl
  refine lv_iload_n hx hb dX5_held_0 rfl (lv_at hl 0 rfl) ?_
  refine lv_iload_n hx hb dX5_held_1 rfl (lv_at hl 1 rfl) ?_
  refine lv_icmp_ge (tgt := 9) hx hb dX5_held_2 (by decide) (fun c_1 => ?_) (fun c_1 => ?_)
  · refine lv_iload_n hx hb dX5_held_9 rfl (lv_at hl 0 rfl) ?_
    refine lv_iload_n hx hb dX5_held_10 rfl (lv_at hl 2 rfl) ?_
    refine lv_icmp_le (tgt := 18) hx hb dX5_held_11 (by decide) (fun c_2 => ?_) (fun c_2 => ?_)
    · refine lv_iload_n hx hb dX5_held_18 rfl (lv_at hl 0 rfl) ?_
      exact r_iret hC hQ hD hW () (by clear hQ hD hC hA; (repeat' split) <;> first | rfl | (exfalso; simp only [Int32.lt_iff_toInt_lt, Int32.le_iff_toInt_le] at *; omega)) rfl rfl dX5_held_19
    · refine lv_iload_n hx hb dX5_held_14 rfl (lv_at hl 2 rfl) ?_
      refine lv_goto (tgt := 19) hx hb dX5_held_15 (by decide) ?_
      exact r_iret hC hQ hD hW () (by clear hQ hD hC hA; (repeat' split) <;> first | rfl | (exfalso; simp only [Int32.lt_iff_toInt_lt, Int32.le_iff_toInt_le] at *; omega)) rfl rfl dX5_held_19
  · refine lv_iload_n hx hb dX5_held_5 rfl (lv_at hl 1 rfl) ?_
    refine lv_goto (tgt := 19) hx hb dX5_held_6 (by decide) ?_
    exact r_iret hC hQ hD hW () (by clear hQ hD hC hA; (repeat' split) <;> first | rfl | (exfalso; simp only [Int32.lt_iff_toInt_lt, Int32.le_iff_toInt_le] at *; omega)) rfl rfl dX5_held_19
set_option maxHeartbeats 4000000 in
set_option maxRecDepth 100000 in
theorem c_X5_finds (l : Launch) (E : Ev) (a : Nat) (fs : List Value) (b2 : Nat) (hf1 : fs[1]? = some (.ref b2)) (F : Nat → Int32) (x1 : Int32) (k : Nat) (hk : k < 7) (hxk : (-1000000001) - x1 = nI k) : MI l E yX5_finds cX5_finds 2 .int 0 0 0 0 [.ref a, .int x1] (wcat [[(a, .inr (5, fs))], IA E b2 7 F]) (fun (r : Int32) (_ : Unit) => r = x1) (fun (_ : Unit) => (wcat [[(a, .inr (5, fs))], IA E b2 7 (upd F k (F k + 1))])) := by
  refine MI_intro RX5 (by decide) rfl (Nat.le_of_ble_eq_true rfl) ?_
  intro p e R s m args below meth c A Q hQ hC hD hW hA ls hl
  have hx := hC.1
  have hb := hC.2.1
  have hW : Wd E A s.heap (wcat [[(a, .inr (5, fs))], IA E b2 7 F]) s.heap [] := hW
  have hD : Dj A [a, b2] := hD
  have hl : lv_has ls 2 [(0, .ref a), (1, .int x1)] := hl
  refine lv_aload_n hx hb dX5_finds_0 rfl (lv_at hl 0 rfl) ?_
  refine r_get hC hW flX5_13 0 rfl hf1 dX5_finds_1 ?_
  refine r_ldc hC ctX5_44 dX5_finds_4 ?_
  refine lv_iload_n hx hb dX5_finds_6 rfl (lv_at hl 1 rfl) ?_
  refine n_isub (v := (nI k)) hx hb dX5_finds_7 hxk ?_
  refine lv_dup2_11 hx hb dX5_finds_8 rfl rfl ?_
  refine r_iald hC hW 1 rfl k rfl (by omega) (by decide) dX5_finds_9 ?_
  refine lv_iconst (v := 1) hx hb dX5_finds_10 (by decide) ?_
  refine n_iadd (v := ((F k) + 1)) hx hb dX5_finds_11 rfl ?_
  refine r_iast (ws' := (wcat [[(a, .inr (5, fs))], IA E b2 7 (upd F k ((F k) + 1))])) hC hD hW 1 rfl k rfl (by omega) (by decide) rfl rfl dX5_finds_12 (fun H locs hW => ?_)
  refine lv_iload_n hx hb dX5_finds_13 rfl (lv_at hl 1 rfl) ?_
  exact r_iret hC hQ hD hW () rfl rfl rfl dX5_finds_14
set_option maxHeartbeats 4000000 in
set_option maxRecDepth 100000 in
theorem c_X5_its (l : Launch) (E : Ev) (a : Nat) (b : Nat) (fs : List Value) (hf : fs[0]? = some (.ref b)) (S : HS) (i : Nat) (k : Nat) (hi : i < 6) (hk : k < 4) : MI l E yX5_its cX5_its 3 .int 0 0 0 0 [.ref a, .int (nI i), .int (nI k)] (wcat [MR E a b fs S]) (fun (r : Int32) (_ : Unit) => r = S (1 + k) i) (fun (_ : Unit) => (wcat [MR E a b fs S])) := by
  refine MI_intro RX5 (by decide) rfl (Nat.le_of_ble_eq_true rfl) ?_
  intro p e R s m args below meth c A Q hQ hC hD hW hA ls hl
  have hx := hC.1
  have hb := hC.2.1
  have hW : Wd E A s.heap (wcat [MR E a b fs S]) s.heap [] := hW
  have hD : Dj A [a, b] := hD
  have hl : lv_has ls 3 [(0, .ref a), (1, .int (nI i)), (2, .int (nI k))] := hl
  refine lv_aload_n hx hb dX5_its_0 rfl (lv_at hl 0 rfl) ?_
  refine r_get hC hW flX5_7 0 rfl hf dX5_its_1 ?_
  refine lv_iconst (v := 4) hx hb dX5_its_4 (by decide) ?_
  refine lv_iconst (v := 4) hx hb dX5_its_5 (by decide) ?_
  refine lv_iload_n hx hb dX5_its_6 rfl (lv_at hl 1 rfl) ?_
  refine n_imul (v := (nI (4 * i))) hx hb dX5_its_7 (pk_mul 4 i) ?_
  refine n_iadd (v := (nI (4 + 4 * i))) hx hb dX5_its_8 (nI_add 4 (4 * i)) ?_
  refine lv_iload_n hx hb dX5_its_9 rfl (lv_at hl 2 rfl) ?_
  refine n_iadd (v := (nI (4 + 4 * i + k))) hx hb dX5_its_10 (nI_add (4 + 4 * i) k) ?_
  refine r_iald hC hW 1 rfl (4 + 4 * i + k) rfl (by omega) (by decide) dX5_its_11 ?_
  refine n_top (enc_p S (p := i) (j := k) (by omega) (by omega)) ?_
  exact r_iret hC hQ hD hW () rfl rfl rfl dX5_its_12
set_option maxHeartbeats 4000000 in
set_option maxRecDepth 100000 in
theorem c_X5_worn (l : Launch) (E : Ev) (a : Nat) (b : Nat) (fs : List Value) (hf : fs[0]? = some (.ref b)) (S : HS) (g : Nat) (k : Nat) (hg : g < 10) (hk : k < 4) : MI l E yX5_worn cX5_worn 3 .int 0 0 0 0 [.ref a, .int (nI g), .int (nI k)] (wcat [MR E a b fs S]) (fun (r : Int32) (_ : Unit) => r = S (5 + k) g) (fun (_ : Unit) => (wcat [MR E a b fs S])) := by
  refine MI_intro RX5 (by decide) rfl (Nat.le_of_ble_eq_true rfl) ?_
  intro p e R s m args below meth c A Q hQ hC hD hW hA ls hl
  have hx := hC.1
  have hb := hC.2.1
  have hW : Wd E A s.heap (wcat [MR E a b fs S]) s.heap [] := hW
  have hD : Dj A [a, b] := hD
  have hl : lv_has ls 3 [(0, .ref a), (1, .int (nI g)), (2, .int (nI k))] := hl
  refine lv_aload_n hx hb dX5_worn_0 rfl (lv_at hl 0 rfl) ?_
  refine r_get hC hW flX5_7 0 rfl hf dX5_worn_1 ?_
  refine lv_bipush (v := 28) hx hb dX5_worn_4 (by decide) ?_
  refine lv_iconst (v := 4) hx hb dX5_worn_6 (by decide) ?_
  refine lv_iload_n hx hb dX5_worn_7 rfl (lv_at hl 1 rfl) ?_
  refine n_imul (v := (nI (4 * g))) hx hb dX5_worn_8 (pk_mul 4 g) ?_
  refine n_iadd (v := (nI (28 + 4 * g))) hx hb dX5_worn_9 (nI_add 28 (4 * g)) ?_
  refine lv_iload_n hx hb dX5_worn_10 rfl (lv_at hl 2 rfl) ?_
  refine n_iadd (v := (nI (28 + 4 * g + k))) hx hb dX5_worn_11 (nI_add (28 + 4 * g) k) ?_
  refine r_iald hC hW 1 rfl (28 + 4 * g + k) rfl (by omega) (by decide) dX5_worn_12 ?_
  refine n_top (enc_g S (g := g) (j := k) (by omega)) ?_
  exact r_iret hC hQ hD hW () rfl rfl rfl dX5_worn_13
set_option maxHeartbeats 4000000 in
set_option maxRecDepth 100000 in
theorem c_X5_puts (l : Launch) (E : Ev) (a : Nat) (b : Nat) (fs : List Value) (hf : fs[0]? = some (.ref b)) (S : HS) (i : Nat) (k : Nat) (x : Int32) (hi : i < 6) (hk : k < 4) : MV l E yX5_puts cX5_puts 4 0 0 0 0 [.ref a, .int (nI i), .int (nI k), .int x] (wcat [MR E a b fs S]) (fun (_ : Unit) => True) (fun (_ : Unit) => (wcat [MR E a b fs (st S (1 + k) i x)])) := by
  refine MV_intro RX5 (by decide) rfl (Nat.le_of_ble_eq_true rfl) ?_
  intro p e R s m args below meth c A Q hQ hC hnm hD hW hA ls hl
  have hx := hC.1
  have hb := hC.2.1
  have hW : Wd E A s.heap (wcat [MR E a b fs S]) s.heap [] := hW
  have hD : Dj A [a, b] := hD
  have hl : lv_has ls 4 [(0, .ref a), (1, .int (nI i)), (2, .int (nI k)), (3, .int x)] := hl
  refine lv_aload_n hx hb dX5_puts_0 rfl (lv_at hl 0 rfl) ?_
  refine r_get hC hW flX5_7 0 rfl hf dX5_puts_1 ?_
  refine lv_iconst (v := 4) hx hb dX5_puts_4 (by decide) ?_
  refine lv_iconst (v := 4) hx hb dX5_puts_5 (by decide) ?_
  refine lv_iload_n hx hb dX5_puts_6 rfl (lv_at hl 1 rfl) ?_
  refine n_imul (v := (nI (4 * i))) hx hb dX5_puts_7 (pk_mul 4 i) ?_
  refine n_iadd (v := (nI (4 + 4 * i))) hx hb dX5_puts_8 (nI_add 4 (4 * i)) ?_
  refine lv_iload_n hx hb dX5_puts_9 rfl (lv_at hl 2 rfl) ?_
  refine n_iadd (v := (nI (4 + 4 * i + k))) hx hb dX5_puts_10 (nI_add (4 + 4 * i) k) ?_
  refine lv_iload_n hx hb dX5_puts_11 rfl (lv_at hl 3 rfl) ?_
  refine r_iast (ws' := (wcat [MR E a b fs (st S (1 + k) i x)])) hC hD hW 1 rfl (4 + 4 * i + k) rfl (by omega) (by decide) rfl (by rw [upd_p S hi hk]; rfl) dX5_puts_12 (fun H locs hW => ?_)
  exact r_vret hC hQ hD hW () trivial rfl rfl dX5_puts_13
set_option maxHeartbeats 4000000 in
set_option maxRecDepth 100000 in
theorem c_X5_sews (l : Launch) (E : Ev) (a : Nat) (b : Nat) (fs : List Value) (hf : fs[0]? = some (.ref b)) (S : HS) (g : Nat) (k : Nat) (x : Int32) (hg : g < 10) (hk : k < 4) : MV l E yX5_sews cX5_sews 4 0 0 0 0 [.ref a, .int (nI g), .int (nI k), .int x] (wcat [MR E a b fs S]) (fun (_ : Unit) => True) (fun (_ : Unit) => (wcat [MR E a b fs (st S (5 + k) g x)])) := by
  refine MV_intro RX5 (by decide) rfl (Nat.le_of_ble_eq_true rfl) ?_
  intro p e R s m args below meth c A Q hQ hC hnm hD hW hA ls hl
  have hx := hC.1
  have hb := hC.2.1
  have hW : Wd E A s.heap (wcat [MR E a b fs S]) s.heap [] := hW
  have hD : Dj A [a, b] := hD
  have hl : lv_has ls 4 [(0, .ref a), (1, .int (nI g)), (2, .int (nI k)), (3, .int x)] := hl
  refine lv_aload_n hx hb dX5_sews_0 rfl (lv_at hl 0 rfl) ?_
  refine r_get hC hW flX5_7 0 rfl hf dX5_sews_1 ?_
  refine lv_bipush (v := 28) hx hb dX5_sews_4 (by decide) ?_
  refine lv_iconst (v := 4) hx hb dX5_sews_6 (by decide) ?_
  refine lv_iload_n hx hb dX5_sews_7 rfl (lv_at hl 1 rfl) ?_
  refine n_imul (v := (nI (4 * g))) hx hb dX5_sews_8 (pk_mul 4 g) ?_
  refine n_iadd (v := (nI (28 + 4 * g))) hx hb dX5_sews_9 (nI_add 28 (4 * g)) ?_
  refine lv_iload_n hx hb dX5_sews_10 rfl (lv_at hl 2 rfl) ?_
  refine n_iadd (v := (nI (28 + 4 * g + k))) hx hb dX5_sews_11 (nI_add (28 + 4 * g) k) ?_
  refine lv_iload_n hx hb dX5_sews_12 rfl (lv_at hl 3 rfl) ?_
  refine r_iast (ws' := (wcat [MR E a b fs (st S (5 + k) g x)])) hC hD hW 1 rfl (28 + 4 * g + k) rfl (by omega) (by decide) rfl (by rw [upd_g S hk]; rfl) dX5_sews_13 (fun H locs hW => ?_)
  exact r_vret hC hQ hD hW () trivial rfl rfl dX5_sews_14
set_option maxHeartbeats 4000000 in
set_option maxRecDepth 100000 in
theorem c_X5_becomes (l : Launch) (E : Ev) (a : Nat) (b : Nat) (fs : List Value) (hf : fs[0]? = some (.ref b)) (S : HS) (j : Nat) (f : Nat) (i : Nat) (x : Int32) (hj : j < 68) (hpl : plc j f i) : MI l E yX5_becomes cX5_becomes 4 .int 0 0 0 0 [.ref a, .int (nI j), .int x] (wcat [MR E a b fs S]) (fun (r : Int32) (_ : Unit) => r = S f i) (fun (_ : Unit) => (wcat [MR E a b fs (st S f i x)])) := by
  refine MI_intro RX5 (by decide) rfl (Nat.le_of_ble_eq_true rfl) ?_
  intro p e R s m args below meth c A Q hQ hC hD hW hA ls hl
  have hx := hC.1
  have hb := hC.2.1
  have hW : Wd E A s.heap (wcat [MR E a b fs S]) s.heap [] := hW
  have hD : Dj A [a, b] := hD
  have hl : lv_has ls 4 [(0, .ref a), (1, .int (nI j)), (2, .int x)] := hl
  refine lv_aload_n hx hb dX5_becomes_0 rfl (lv_at hl 0 rfl) ?_
  refine r_get hC hW flX5_7 0 rfl hf dX5_becomes_1 ?_
  refine lv_iload_n hx hb dX5_becomes_4 rfl (lv_at hl 1 rfl) ?_
  refine r_iald hC hW 1 rfl j rfl (by omega) (by decide) dX5_becomes_5 ?_
  refine n_top (enc_plc S hpl) ?_
  refine lv_istore_n (lv' := [(3, .int (S f i)), (0, .ref a), (1, .int (nI j)), (2, .int x)]) hx hb dX5_becomes_6 rfl hl (by decide) rfl (fun ls hl => ?_)
  refine lv_aload_n hx hb dX5_becomes_7 rfl (lv_at hl 1 rfl) ?_
  refine r_get hC hW flX5_7 0 rfl hf dX5_becomes_8 ?_
  refine lv_iload_n hx hb dX5_becomes_11 rfl (lv_at hl 2 rfl) ?_
  refine lv_iload_n hx hb dX5_becomes_12 rfl (lv_at hl 3 rfl) ?_
  refine r_iast (ws' := (wcat [MR E a b fs (st S f i x)])) hC hD hW 1 rfl j rfl (by omega) (by decide) rfl (by rw [upd_plc S hpl]; rfl) dX5_becomes_13 (fun H locs hW => ?_)
  refine lv_iload_n hx hb dX5_becomes_14 rfl (lv_at hl 0 rfl) ?_
  exact r_iret hC hQ hD hW () rfl rfl rfl dX5_becomes_15
set_option maxHeartbeats 4000000 in
set_option maxRecDepth 100000 in
theorem c_X5_isOne (l : Launch) (E : Ev) (a : Nat) (b : Nat) (fs : List Value) (hf : fs[0]? = some (.ref b)) (S : HS) (P : Nat) (hP : S 0 2 = nI P) (hP1 : P ≤ 6) (x : Int32) : MI l E yX5_isOne cX5_isOne 2 .boolean 1 22 0 0 [.ref a, .int x] (wcat [MR E a b fs S]) (fun (r : Int32) (_ : Unit) => bz (∃ j, j < P ∧ x = nI j) r) (fun (_ : Unit) => (wcat [MR E a b fs S])) := by
  refine MI_intro RX5 (by decide) rfl (Nat.le_of_ble_eq_true rfl) ?_
  intro p e R s m args below meth c A Q hQ hC hD hW hA ls hl
  have hx := hC.1
  have hb := hC.2.1
  have hW : Wd E A s.heap (wcat [MR E a b fs S]) s.heap [] := hW
  have hD : Dj A [a, b] := hD
  have hl : lv_has ls 2 [(0, .ref a), (1, .int x)] := hl
  refine lv_iload_n hx hb dX5_isOne_0 rfl (lv_at hl 1 rfl) ?_
  refine lv_iconst (v := 0) hx hb dX5_isOne_1 (by decide) ?_
  refine lv_aload_n hx hb dX5_isOne_2 rfl (lv_at hl 0 rfl) ?_
  refine r_get hC hW flX5_7 0 rfl hf dX5_isOne_3 ?_
  refine lv_iconst (v := 2) hx hb dX5_isOne_6 (by decide) ?_
  refine r_iald hC hW 1 rfl 2 rfl (by omega) (by decide) dX5_isOne_7 ?_
  refine n_top (enc_0 S (by decide)) ?_
  refine n_top hP ?_
  refine lv_iconst (v := 1) hx hb dX5_isOne_8 (by decide) ?_
  refine n_isub (v := ((nI P) - 1)) hx hb dX5_isOne_9 rfl ?_
  refine r_callSi hC hD hW hA lkX5_45 (c_X5_in l E x 0 ((nI P) - 1)) ⟨by decide, by decide, by decide, by decide⟩ rfl hl.1 rfl rfl (Nat.le_of_ble_eq_true rfl) dX5_isOne_10 (fun r_1 _ H locs hr_1 hW => ?_)
  have hW : Wd E A s.heap (wcat [MR E a b fs S]) H locs := hW
  have hr_1 : bz (0 ≤ x ∧ x ≤ ((nI P) - 1)) r_1 := hr_1
  exact r_zret hC hQ hD hW (bz_01 hr_1) () ((bz_iff (in_iff (by omega))) hr_1) rfl rfl dX5_isOne_13
set_option maxHeartbeats 4000000 in
set_option maxRecDepth 100000 in
theorem c_X5_isGarment (l : Launch) (E : Ev) (a : Nat) (b : Nat) (fs : List Value) (hf : fs[0]? = some (.ref b)) (S : HS) (G : Nat) (hG : S 0 3 = nI G) (hG1 : G ≤ 10) (x : Int32) : MI l E yX5_isGarment cX5_isGarment 2 .boolean 1 22 0 0 [.ref a, .int x] (wcat [MR E a b fs S]) (fun (r : Int32) (_ : Unit) => bz (∃ j, j < G ∧ x = nI j) r) (fun (_ : Unit) => (wcat [MR E a b fs S])) := by
  refine MI_intro RX5 (by decide) rfl (Nat.le_of_ble_eq_true rfl) ?_
  intro p e R s m args below meth c A Q hQ hC hD hW hA ls hl
  have hx := hC.1
  have hb := hC.2.1
  have hW : Wd E A s.heap (wcat [MR E a b fs S]) s.heap [] := hW
  have hD : Dj A [a, b] := hD
  have hl : lv_has ls 2 [(0, .ref a), (1, .int x)] := hl
  refine lv_iload_n hx hb dX5_isGarment_0 rfl (lv_at hl 1 rfl) ?_
  refine lv_iconst (v := 0) hx hb dX5_isGarment_1 (by decide) ?_
  refine lv_aload_n hx hb dX5_isGarment_2 rfl (lv_at hl 0 rfl) ?_
  refine r_get hC hW flX5_7 0 rfl hf dX5_isGarment_3 ?_
  refine lv_iconst (v := 3) hx hb dX5_isGarment_6 (by decide) ?_
  refine r_iald hC hW 1 rfl 3 rfl (by omega) (by decide) dX5_isGarment_7 ?_
  refine n_top (enc_0 S (by decide)) ?_
  refine n_top hG ?_
  refine lv_iconst (v := 1) hx hb dX5_isGarment_8 (by decide) ?_
  refine n_isub (v := ((nI G) - 1)) hx hb dX5_isGarment_9 rfl ?_
  refine r_callSi hC hD hW hA lkX5_45 (c_X5_in l E x 0 ((nI G) - 1)) ⟨by decide, by decide, by decide, by decide⟩ rfl hl.1 rfl rfl (Nat.le_of_ble_eq_true rfl) dX5_isGarment_10 (fun r_1 _ H locs hr_1 hW => ?_)
  have hW : Wd E A s.heap (wcat [MR E a b fs S]) H locs := hW
  have hr_1 : bz (0 ≤ x ∧ x ≤ ((nI G) - 1)) r_1 := hr_1
  exact r_zret hC hQ hD hW (bz_01 hr_1) () ((bz_iff (in_iff (by omega))) hr_1) rfl rfl dX5_isGarment_13
set_option maxHeartbeats 4000000 in
set_option maxRecDepth 100000 in
theorem c_X5_isKind (l : Launch) (E : Ev) (x : Int32) : MI l E yX5_isKind cX5_isKind 1 .boolean 1 22 0 0 [.int x] [] (fun (r : Int32) (_ : Unit) => bz (0 ≤ x ∧ x ≤ 5) r) (fun (_ : Unit) => []) := by
  refine MI_intro RX5 (by decide) rfl (Nat.le_of_ble_eq_true rfl) ?_
  intro p e R s m args below meth c A Q hQ hC hD hW hA ls hl
  have hx := hC.1
  have hb := hC.2.1
  have hW : Wd E A s.heap [] s.heap [] := hW
  have hl : lv_has ls 1 [(0, .int x)] := hl
  refine lv_iload_n hx hb dX5_isKind_0 rfl (lv_at hl 0 rfl) ?_
  refine lv_iconst (v := 0) hx hb dX5_isKind_1 (by decide) ?_
  refine lv_iconst (v := 5) hx hb dX5_isKind_2 (by decide) ?_
  refine r_callSi hC hD hW hA lkX5_45 (c_X5_in l E x 0 5) ⟨by decide, by decide, by decide, by decide⟩ rfl hl.1 rfl rfl (Nat.le_of_ble_eq_true rfl) dX5_isKind_3 (fun r_1 _ H locs hr_1 hW => ?_)
  have hr_1 : bz (0 ≤ x ∧ x ≤ 5) r_1 := hr_1
  exact r_zret hC hQ hD hW (bz_01 hr_1) () hr_1 rfl rfl dX5_isKind_6
set_option maxHeartbeats 4000000 in
set_option maxRecDepth 100000 in
theorem c_X5_bits (l : Launch) (E : Ev) (k : Nat) (hk : k < 1024) : MI l E yX5_bits cX5_bits 3 .int 0 0 0 0 [.int (nI k)] [] (fun (r : Int32) (_ : Unit) => r = nI (pcN k)) (fun (_ : Unit) => []) := by
  refine MI_intro RX5 (by decide) rfl (Nat.le_of_ble_eq_true rfl) ?_
  intro p e R s m args below meth c A Q hQ hC hD hW hA ls hl
  have hx := hC.1
  have hb := hC.2.1
  have hW : Wd E A s.heap [] s.heap [] := hW
  have hl : lv_has ls 3 [(0, .int (nI k))] := hl
  refine lv_iconst (v := 0) hx hb dX5_bits_0 (by decide) ?_
  refine lv_istore_n (lv' := [(1, .int 0), (0, .int (nI k))]) hx hb dX5_bits_1 rfl hl (by decide) rfl (fun ls hl => ?_)
  refine lv_iload_n hx hb dX5_bits_2 rfl (lv_at hl 1 rfl) ?_
  refine lv_istore_n (lv' := [(2, .int (nI k)), (1, .int 0), (0, .int (nI k))]) hx hb dX5_bits_3 rfl hl (by decide) rfl (fun ls hl => ?_)
  have L4 : ∀ (n_ : Nat) (j : Nat) (k2 : Nat) (H : Heap) (locs : List Loc) (ls : Array Slot), k2 < n_ → k2 < 1024 → j + pcN k2 = pcN k → Wd E A s.heap [] H locs → lv_has ls 3 [(0, .int (nI k)), (1, .int (nI j)), (2, .int (nI k2))] → W p l e R s m args below meth c H locs 0 0 Q (F0 m 4 ls []) := by
    intro n_
    induction n_ with
    | zero => intro j k2 H locs ls hm; exact absurd hm (Nat.not_lt_zero _)
    | succ n_ ih =>
      intro j k2 H locs ls hm h1 h2 hW hl
      refine lv_iload_n hx hb dX5_bits_4 rfl (lv_at hl 2 rfl) ?_
      refine lv_if_eq (tgt := 20) hx hb dX5_bits_5 (by decide) (fun c_1 => ?_) (fun c_1 => ?_)
      · have c_1 : k2 = 0 := (nI_eq (a := k2) (b := 0) (by omega) (by omega)).mp c_1
        refine lv_iload_n hx hb dX5_bits_20 rfl (lv_at hl 1 rfl) ?_
        exact r_iret hC hQ hD hW () (congrArg nI (by have q := pc_0; subst c_1; omega)) rfl rfl dX5_bits_21
      · have c_1 : ¬ k2 = 0 := fun z_ => c_1 ((nI_eq (a := k2) (b := 0) (by omega) (by omega)).mpr z_)
        refine lv_iinc (v := (nI (j + 1))) (lv' := [(1, .int (nI (j + 1))), (0, .int (nI k)), (2, .int (nI k2))]) (k := 1) hx hb dX5_bits_8 hl rfl (nI_inc j 1) (by decide) rfl (fun ls hl => ?_)
        refine lv_iload_n hx hb dX5_bits_11 rfl (lv_at hl 2 rfl) ?_
        refine lv_iload_n hx hb dX5_bits_12 rfl (lv_at hl 2 rfl) ?_
        refine lv_iconst (v := 1) hx hb dX5_bits_13 (by decide) ?_
        refine n_isub (v := (nI (k2 - 1))) hx hb dX5_bits_14 (pk_sub (a := k2) (b := 1) (by omega)) ?_
        refine n_iand (v := (nI (k2 &&& (k2 - 1)))) hx hb dX5_bits_15 (nI_and _ _) ?_
        refine lv_istore_n (lv' := [(2, .int (nI (k2 &&& (k2 - 1)))), (1, .int (nI (j + 1))), (0, .int (nI k))]) hx hb dX5_bits_16 rfl hl (by decide) rfl (fun ls hl => ?_)
        refine lv_goto (tgt := 4) hx hb dX5_bits_17 (by decide) ?_
        exact ih (j + 1) (k2 &&& (k2 - 1)) _ _ _ (by have := pc_step k2 h1 (by omega); omega) (by have := pc_step k2 h1 (by omega); omega) (by have := pc_step k2 h1 (by omega); omega) hW (lv_sub hl [2, 1, 0] rfl)
  exact L4 (k + 1) 0 k _ _ _ (Nat.lt_succ_self _) hk (Nat.zero_add _) hW (lv_sub hl [2, 1, 0] rfl)
set_option maxHeartbeats 4000000 in
set_option maxRecDepth 100000 in
theorem c_X5_withWhom (l : Launch) (E : Ev) (a : Nat) (b : Nat) (fs : List Value) (hf : fs[0]? = some (.ref b)) (S : HS) (G : Nat) (hG : S 0 3 = nI G) (hG1 : G ≤ 10) (x : Int32) : MI l E yX5_withWhom cX5_withWhom 4 .int 1 22 0 0 [.ref a, .int x] (wcat [MR E a b fs S]) (fun (r : Int32) (_ : Unit) => r = nI (mset (wth S x) G)) (fun (_ : Unit) => (wcat [MR E a b fs S])) := by
  refine MI_intro RX5 (by decide) rfl (Nat.le_of_ble_eq_true rfl) ?_
  intro p e R s m args below meth c A Q hQ hC hD hW hA ls hl
  have hx := hC.1
  have hb := hC.2.1
  have hW : Wd E A s.heap (wcat [MR E a b fs S]) s.heap [] := hW
  have hD : Dj A [a, b] := hD
  have hl : lv_has ls 4 [(0, .ref a), (1, .int x)] := hl
  refine lv_iconst (v := 0) hx hb dX5_withWhom_0 (by decide) ?_
  refine lv_istore_n (lv' := [(2, .int 0), (0, .ref a), (1, .int x)]) hx hb dX5_withWhom_1 rfl hl (by decide) rfl (fun ls hl => ?_)
  refine lv_iconst (v := 0) hx hb dX5_withWhom_2 (by decide) ?_
  refine lv_istore_n (lv' := [(3, .int 0), (2, .int 0), (0, .ref a), (1, .int x)]) hx hb dX5_withWhom_3 rfl hl (by decide) rfl (fun ls hl => ?_)
  have L4 : ∀ (n_ : Nat) (i : Nat) (H : Heap) (locs : List Loc) (ls : Array Slot), G - i < n_ → i ≤ G → Wd E A s.heap (wcat [MR E a b fs S]) H locs → lv_has ls 4 [(0, .ref a), (1, .int x), (2, .int (nI (mset (wth S x) i))), (3, .int (nI i))] → W p l e R s m args below meth c H locs 0 0 Q (F0 m 4 ls []) := by
    intro n_
    induction n_ with
    | zero => intro i H locs ls hm; exact absurd hm (Nat.not_lt_zero _)
    | succ n_ ih =>
      intro i H locs ls hm hi hW hl
      refine lv_iload_n hx hb dX5_withWhom_4 rfl (lv_at hl 3 rfl) ?_
      refine lv_aload_n hx hb dX5_withWhom_5 rfl (lv_at hl 0 rfl) ?_
      refine r_get hC hW flX5_7 0 rfl hf dX5_withWhom_6 ?_
      refine lv_iconst (v := 3) hx hb dX5_withWhom_9 (by decide) ?_
      refine r_iald hC hW 1 rfl 3 rfl (by omega) (by decide) dX5_withWhom_10 ?_
      refine n_top (enc_0 S (by decide)) ?_
      refine n_top hG ?_
      refine lv_icmp_ge (tgt := 40) hx hb dX5_withWhom_11 (by decide) (fun c_1 => ?_) (fun c_1 => ?_)
      · have c_1 : G ≤ i := (nI_leI (a := G) (b := i) (by omega) (by omega)).mp c_1
        refine lv_iload_n hx hb dX5_withWhom_40 rfl (lv_at hl 2 rfl) ?_
        exact r_iret hC hQ hD hW () (by rw [show i = G by omega]) rfl rfl dX5_withWhom_41
      · have c_1 : ¬ G ≤ i := fun z_ => c_1 ((nI_leI (a := G) (b := i) (by omega) (by omega)).mpr z_)
        refine lv_iload_n hx hb dX5_withWhom_14 rfl (lv_at hl 2 rfl) ?_
        refine lv_aload_n hx hb dX5_withWhom_15 rfl (lv_at hl 0 rfl) ?_
        refine lv_iload_n hx hb dX5_withWhom_16 rfl (lv_at hl 3 rfl) ?_
        refine lv_iconst (v := 3) hx hb dX5_withWhom_17 (by decide) ?_
        refine r_callCi hC hD hW hA lkX5_49 (c_X5_worn l E a b fs hf S i 3 (by omega) (by omega)) rfl rfl ⟨by decide, by decide, by decide, by decide⟩ [0] rfl rfl rfl (fun _ => rfl) hl.1 rfl rfl (Nat.le_of_ble_eq_true rfl) dX5_withWhom_18 (fun r_2 _ H locs hr_2 hW => ?_)
        have hW : Wd E A s.heap (wcat [MR E a b fs S]) H locs := hW
        have hr_2 : r_2 = (S 8 i) := hr_2
        subst hr_2
        refine lv_iload_n hx hb dX5_withWhom_21 rfl (lv_at hl 1 rfl) ?_
        refine lv_icmp_ne (tgt := 31) hx hb dX5_withWhom_22 (by decide) (fun c_3 => ?_) (fun c_3 => ?_)
        · refine lv_iconst (v := 0) hx hb dX5_withWhom_31 (by decide) ?_
          refine n_ior (v := (nI (mset (wth S x) (i + 1)))) hx hb dX5_withWhom_32 (mset_no0 (decide_eq_false c_3)) ?_
          refine lv_istore_n (lv' := [(2, .int (nI (mset (wth S x) (i + 1)))), (0, .ref a), (1, .int x), (3, .int (nI i))]) hx hb dX5_withWhom_33 rfl hl (by decide) rfl (fun ls hl => ?_)
          refine lv_iinc (v := (nI (i + 1))) (lv' := [(3, .int (nI (i + 1))), (2, .int (nI (mset (wth S x) (i + 1)))), (0, .ref a), (1, .int x)]) (k := 3) hx hb dX5_withWhom_34 hl rfl (nI_inc i 1) (by decide) rfl (fun ls hl => ?_)
          refine lv_goto (tgt := 4) hx hb dX5_withWhom_37 (by decide) ?_
          exact ih (i + 1) _ _ _ (by omega) (by omega) hW (lv_sub hl [2, 3, 1, 0] rfl)
        · refine lv_iconst (v := 1) hx hb dX5_withWhom_25 (by decide) ?_
          refine lv_iload_n hx hb dX5_withWhom_26 rfl (lv_at hl 3 rfl) ?_
          refine n_ishl (v := (1 <<< ((nI i) &&& 31))) hx hb dX5_withWhom_27 rfl ?_
          refine lv_goto (tgt := 32) hx hb dX5_withWhom_28 (by decide) ?_
          refine n_ior (v := (nI (mset (wth S x) (i + 1)))) hx hb dX5_withWhom_32 (mset_put (decide_eq_true c_3) (by omega)) ?_
          refine lv_istore_n (lv' := [(2, .int (nI (mset (wth S x) (i + 1)))), (0, .ref a), (1, .int x), (3, .int (nI i))]) hx hb dX5_withWhom_33 rfl hl (by decide) rfl (fun ls hl => ?_)
          refine lv_iinc (v := (nI (i + 1))) (lv' := [(3, .int (nI (i + 1))), (2, .int (nI (mset (wth S x) (i + 1)))), (0, .ref a), (1, .int x)]) (k := 3) hx hb dX5_withWhom_34 hl rfl (nI_inc i 1) (by decide) rfl (fun ls hl => ?_)
          refine lv_goto (tgt := 4) hx hb dX5_withWhom_37 (by decide) ?_
          exact ih (i + 1) _ _ _ (by omega) (by omega) hW (lv_sub hl [2, 3, 1, 0] rfl)
  exact L4 (G - 0 + 1) 0 _ _ _ (Nat.lt_succ_self _) (by omega) hW (lv_sub hl [2, 3, 1, 0] rfl)
set_option maxHeartbeats 4000000 in
set_option maxRecDepth 100000 in
theorem c_X5_ownedBy (l : Launch) (E : Ev) (a : Nat) (b : Nat) (fs : List Value) (hf : fs[0]? = some (.ref b)) (S : HS) (G : Nat) (hG : S 0 3 = nI G) (hG1 : G ≤ 10) (x : Int32) : MI l E yX5_ownedBy cX5_ownedBy 4 .int 1 22 0 0 [.ref a, .int x] (wcat [MR E a b fs S]) (fun (r : Int32) (_ : Unit) => r = nI (mset (owd S x) G)) (fun (_ : Unit) => (wcat [MR E a b fs S])) := by
  refine MI_intro RX5 (by decide) rfl (Nat.le_of_ble_eq_true rfl) ?_
  intro p e R s m args below meth c A Q hQ hC hD hW hA ls hl
  have hx := hC.1
  have hb := hC.2.1
  have hW : Wd E A s.heap (wcat [MR E a b fs S]) s.heap [] := hW
  have hD : Dj A [a, b] := hD
  have hl : lv_has ls 4 [(0, .ref a), (1, .int x)] := hl
  refine lv_iconst (v := 0) hx hb dX5_ownedBy_0 (by decide) ?_
  refine lv_istore_n (lv' := [(2, .int 0), (0, .ref a), (1, .int x)]) hx hb dX5_ownedBy_1 rfl hl (by decide) rfl (fun ls hl => ?_)
  refine lv_iconst (v := 0) hx hb dX5_ownedBy_2 (by decide) ?_
  refine lv_istore_n (lv' := [(3, .int 0), (2, .int 0), (0, .ref a), (1, .int x)]) hx hb dX5_ownedBy_3 rfl hl (by decide) rfl (fun ls hl => ?_)
  have L4 : ∀ (n_ : Nat) (i : Nat) (H : Heap) (locs : List Loc) (ls : Array Slot), G - i < n_ → i ≤ G → Wd E A s.heap (wcat [MR E a b fs S]) H locs → lv_has ls 4 [(0, .ref a), (1, .int x), (2, .int (nI (mset (owd S x) i))), (3, .int (nI i))] → W p l e R s m args below meth c H locs 0 0 Q (F0 m 4 ls []) := by
    intro n_
    induction n_ with
    | zero => intro i H locs ls hm; exact absurd hm (Nat.not_lt_zero _)
    | succ n_ ih =>
      intro i H locs ls hm hi hW hl
      refine lv_iload_n hx hb dX5_ownedBy_4 rfl (lv_at hl 3 rfl) ?_
      refine lv_aload_n hx hb dX5_ownedBy_5 rfl (lv_at hl 0 rfl) ?_
      refine r_get hC hW flX5_7 0 rfl hf dX5_ownedBy_6 ?_
      refine lv_iconst (v := 3) hx hb dX5_ownedBy_9 (by decide) ?_
      refine r_iald hC hW 1 rfl 3 rfl (by omega) (by decide) dX5_ownedBy_10 ?_
      refine n_top (enc_0 S (by decide)) ?_
      refine n_top hG ?_
      refine lv_icmp_ge (tgt := 40) hx hb dX5_ownedBy_11 (by decide) (fun c_1 => ?_) (fun c_1 => ?_)
      · have c_1 : G ≤ i := (nI_leI (a := G) (b := i) (by omega) (by omega)).mp c_1
        refine lv_iload_n hx hb dX5_ownedBy_40 rfl (lv_at hl 2 rfl) ?_
        exact r_iret hC hQ hD hW () (by rw [show i = G by omega]) rfl rfl dX5_ownedBy_41
      · have c_1 : ¬ G ≤ i := fun z_ => c_1 ((nI_leI (a := G) (b := i) (by omega) (by omega)).mpr z_)
        refine lv_iload_n hx hb dX5_ownedBy_14 rfl (lv_at hl 2 rfl) ?_
        refine lv_aload_n hx hb dX5_ownedBy_15 rfl (lv_at hl 0 rfl) ?_
        refine lv_iload_n hx hb dX5_ownedBy_16 rfl (lv_at hl 3 rfl) ?_
        refine lv_iconst (v := 0) hx hb dX5_ownedBy_17 (by decide) ?_
        refine r_callCi hC hD hW hA lkX5_49 (c_X5_worn l E a b fs hf S i 0 (by omega) (by omega)) rfl rfl ⟨by decide, by decide, by decide, by decide⟩ [0] rfl rfl rfl (fun _ => rfl) hl.1 rfl rfl (Nat.le_of_ble_eq_true rfl) dX5_ownedBy_18 (fun r_2 _ H locs hr_2 hW => ?_)
        have hW : Wd E A s.heap (wcat [MR E a b fs S]) H locs := hW
        have hr_2 : r_2 = (S 5 i) := hr_2
        subst hr_2
        refine lv_iload_n hx hb dX5_ownedBy_21 rfl (lv_at hl 1 rfl) ?_
        refine lv_icmp_ne (tgt := 31) hx hb dX5_ownedBy_22 (by decide) (fun c_3 => ?_) (fun c_3 => ?_)
        · refine lv_iconst (v := 0) hx hb dX5_ownedBy_31 (by decide) ?_
          refine n_ior (v := (nI (mset (owd S x) (i + 1)))) hx hb dX5_ownedBy_32 (mset_no0 (decide_eq_false c_3)) ?_
          refine lv_istore_n (lv' := [(2, .int (nI (mset (owd S x) (i + 1)))), (0, .ref a), (1, .int x), (3, .int (nI i))]) hx hb dX5_ownedBy_33 rfl hl (by decide) rfl (fun ls hl => ?_)
          refine lv_iinc (v := (nI (i + 1))) (lv' := [(3, .int (nI (i + 1))), (2, .int (nI (mset (owd S x) (i + 1)))), (0, .ref a), (1, .int x)]) (k := 3) hx hb dX5_ownedBy_34 hl rfl (nI_inc i 1) (by decide) rfl (fun ls hl => ?_)
          refine lv_goto (tgt := 4) hx hb dX5_ownedBy_37 (by decide) ?_
          exact ih (i + 1) _ _ _ (by omega) (by omega) hW (lv_sub hl [2, 3, 1, 0] rfl)
        · refine lv_iconst (v := 1) hx hb dX5_ownedBy_25 (by decide) ?_
          refine lv_iload_n hx hb dX5_ownedBy_26 rfl (lv_at hl 3 rfl) ?_
          refine n_ishl (v := (1 <<< ((nI i) &&& 31))) hx hb dX5_ownedBy_27 rfl ?_
          refine lv_goto (tgt := 32) hx hb dX5_ownedBy_28 (by decide) ?_
          refine n_ior (v := (nI (mset (owd S x) (i + 1)))) hx hb dX5_ownedBy_32 (mset_put (decide_eq_true c_3) (by omega)) ?_
          refine lv_istore_n (lv' := [(2, .int (nI (mset (owd S x) (i + 1)))), (0, .ref a), (1, .int x), (3, .int (nI i))]) hx hb dX5_ownedBy_33 rfl hl (by decide) rfl (fun ls hl => ?_)
          refine lv_iinc (v := (nI (i + 1))) (lv' := [(3, .int (nI (i + 1))), (2, .int (nI (mset (owd S x) (i + 1)))), (0, .ref a), (1, .int x)]) (k := 3) hx hb dX5_ownedBy_34 hl rfl (nI_inc i 1) (by decide) rfl (fun ls hl => ?_)
          refine lv_goto (tgt := 4) hx hb dX5_ownedBy_37 (by decide) ?_
          exact ih (i + 1) _ _ _ (by omega) (by omega) hW (lv_sub hl [2, 3, 1, 0] rfl)
  exact L4 (G - 0 + 1) 0 _ _ _ (Nat.lt_succ_self _) (by omega) hW (lv_sub hl [2, 3, 1, 0] rfl)
set_option maxHeartbeats 4000000 in
set_option maxRecDepth 100000 in
theorem c_X5_isRight (l : Launch) (E : Ev) (a : Nat) (b : Nat) (fs : List Value) (hf : fs[0]? = some (.ref b)) (S : HS) (g : Nat) (hg : g < 10) : MI l E yX5_isRight cX5_isRight 2 .boolean 1 22 0 0 [.ref a, .int (nI g)] (wcat [MR E a b fs S]) (fun (r : Int32) (_ : Unit) => bz (S 8 g = S 5 g) r) (fun (_ : Unit) => (wcat [MR E a b fs S])) := by
  refine MI_intro RX5 (by decide) rfl (Nat.le_of_ble_eq_true rfl) ?_
  intro p e R s m args below meth c A Q hQ hC hD hW hA ls hl
  have hx := hC.1
  have hb := hC.2.1
  have hW : Wd E A s.heap (wcat [MR E a b fs S]) s.heap [] := hW
  have hD : Dj A [a, b] := hD
  have hl : lv_has ls 2 [(0, .ref a), (1, .int (nI g))] := hl
  refine lv_aload_n hx hb dX5_isRight_0 rfl (lv_at hl 0 rfl) ?_
  refine lv_iload_n hx hb dX5_isRight_1 rfl (lv_at hl 1 rfl) ?_
  refine lv_iconst (v := 3) hx hb dX5_isRight_2 (by decide) ?_
  refine r_callCi hC hD hW hA lkX5_49 (c_X5_worn l E a b fs hf S g 3 (by omega) (by omega)) rfl rfl ⟨by decide, by decide, by decide, by decide⟩ [0] rfl rfl rfl (fun _ => rfl) hl.1 rfl rfl (Nat.le_of_ble_eq_true rfl) dX5_isRight_3 (fun r_1 _ H locs hr_1 hW => ?_)
  have hW : Wd E A s.heap (wcat [MR E a b fs S]) H locs := hW
  have hr_1 : r_1 = (S 8 g) := hr_1
  subst hr_1
  refine lv_aload_n hx hb dX5_isRight_6 rfl (lv_at hl 0 rfl) ?_
  refine lv_iload_n hx hb dX5_isRight_7 rfl (lv_at hl 1 rfl) ?_
  refine lv_iconst (v := 0) hx hb dX5_isRight_8 (by decide) ?_
  refine r_callCi hC hD hW hA lkX5_49 (c_X5_worn l E a b fs hf S g 0 (by omega) (by omega)) rfl rfl ⟨by decide, by decide, by decide, by decide⟩ [0] rfl rfl rfl (fun _ => rfl) hl.1 rfl rfl (Nat.le_of_ble_eq_true rfl) dX5_isRight_9 (fun r_2 _ H locs hr_2 hW => ?_)
  have hW : Wd E A s.heap (wcat [MR E a b fs S]) H locs := hW
  have hr_2 : r_2 = (S 5 g) := hr_2
  subst hr_2
  refine lv_icmp_ne (tgt := 19) hx hb dX5_isRight_12 (by decide) (fun c_3 => ?_) (fun c_3 => ?_)
  · refine lv_iconst (v := 0) hx hb dX5_isRight_19 (by decide) ?_
    exact r_zret hC hQ hD hW (by decide) () (bz_f (by assumption)) rfl rfl dX5_isRight_20
  · refine lv_iconst (v := 1) hx hb dX5_isRight_15 (by decide) ?_
    refine lv_goto (tgt := 20) hx hb dX5_isRight_16 (by decide) ?_
    exact r_zret hC hQ hD hW (by decide) () (bz_t (by assumption)) rfl rfl dX5_isRight_20
set_option maxHeartbeats 4000000 in
set_option maxRecDepth 100000 in
theorem c_X5_rights (l : Launch) (E : Ev) (a : Nat) (b : Nat) (fs : List Value) (hf : fs[0]? = some (.ref b)) (S : HS) (G : Nat) (hG : S 0 3 = nI G) (hG1 : G ≤ 10) : MI l E yX5_rights cX5_rights 3 .int 2 43 0 0 [.ref a] (wcat [MR E a b fs S]) (fun (r : Int32) (_ : Unit) => r = nI (mset (rgt S) G)) (fun (_ : Unit) => (wcat [MR E a b fs S])) := by
  refine MI_intro RX5 (by decide) rfl (Nat.le_of_ble_eq_true rfl) ?_
  intro p e R s m args below meth c A Q hQ hC hD hW hA ls hl
  have hx := hC.1
  have hb := hC.2.1
  have hW : Wd E A s.heap (wcat [MR E a b fs S]) s.heap [] := hW
  have hD : Dj A [a, b] := hD
  have hl : lv_has ls 3 [(0, .ref a)] := hl
  refine lv_iconst (v := 0) hx hb dX5_rights_0 (by decide) ?_
  refine lv_istore_n (lv' := [(1, .int 0), (0, .ref a)]) hx hb dX5_rights_1 rfl hl (by decide) rfl (fun ls hl => ?_)
  refine lv_iconst (v := 0) hx hb dX5_rights_2 (by decide) ?_
  refine lv_istore_n (lv' := [(2, .int 0), (1, .int 0), (0, .ref a)]) hx hb dX5_rights_3 rfl hl (by decide) rfl (fun ls hl => ?_)
  have L4 : ∀ (n_ : Nat) (i : Nat) (H : Heap) (locs : List Loc) (ls : Array Slot), G - i < n_ → i ≤ G → Wd E A s.heap (wcat [MR E a b fs S]) H locs → lv_has ls 3 [(0, .ref a), (1, .int (nI (mset (rgt S) i))), (2, .int (nI i))] → W p l e R s m args below meth c H locs 0 0 Q (F0 m 4 ls []) := by
    intro n_
    induction n_ with
    | zero => intro i H locs ls hm; exact absurd hm (Nat.not_lt_zero _)
    | succ n_ ih =>
      intro i H locs ls hm hi hW hl
      refine lv_iload_n hx hb dX5_rights_4 rfl (lv_at hl 2 rfl) ?_
      refine lv_aload_n hx hb dX5_rights_5 rfl (lv_at hl 0 rfl) ?_
      refine r_get hC hW flX5_7 0 rfl hf dX5_rights_6 ?_
      refine lv_iconst (v := 3) hx hb dX5_rights_9 (by decide) ?_
      refine r_iald hC hW 1 rfl 3 rfl (by omega) (by decide) dX5_rights_10 ?_
      refine n_top (enc_0 S (by decide)) ?_
      refine n_top hG ?_
      refine lv_icmp_ge (tgt := 38) hx hb dX5_rights_11 (by decide) (fun c_1 => ?_) (fun c_1 => ?_)
      · have c_1 : G ≤ i := (nI_leI (a := G) (b := i) (by omega) (by omega)).mp c_1
        refine lv_iload_n hx hb dX5_rights_38 rfl (lv_at hl 1 rfl) ?_
        exact r_iret hC hQ hD hW () (by rw [show i = G by omega]) rfl rfl dX5_rights_39
      · have c_1 : ¬ G ≤ i := fun z_ => c_1 ((nI_leI (a := G) (b := i) (by omega) (by omega)).mpr z_)
        refine lv_iload_n hx hb dX5_rights_14 rfl (lv_at hl 1 rfl) ?_
        refine lv_aload_n hx hb dX5_rights_15 rfl (lv_at hl 0 rfl) ?_
        refine lv_iload_n hx hb dX5_rights_16 rfl (lv_at hl 2 rfl) ?_
        refine r_callCi hC hD hW hA lkX5_53 (c_X5_isRight l E a b fs hf S i (by omega)) rfl rfl ⟨by decide, by decide, by decide, by decide⟩ [0] rfl rfl rfl (fun _ => rfl) hl.1 rfl rfl (Nat.le_of_ble_eq_true rfl) dX5_rights_17 (fun r_2 _ H locs hr_2 hW => ?_)
        have hW : Wd E A s.heap (wcat [MR E a b fs S]) H locs := hW
        have hr_2 : bz (S 8 i = S 5 i) r_2 := hr_2
        rcases hr_2 with ⟨rfl, b_3⟩ | ⟨rfl, b_3⟩
        · refine lv_if_eq (tgt := 29) hx hb dX5_rights_20 (by decide) (fun _ => ?_) (fun c => absurd c (by decide))
          refine lv_iconst (v := 0) hx hb dX5_rights_29 (by decide) ?_
          refine n_ior (v := (nI (mset (rgt S) (i + 1)))) hx hb dX5_rights_30 (mset_no0 (decide_eq_false b_3)) ?_
          refine lv_istore_n (lv' := [(1, .int (nI (mset (rgt S) (i + 1)))), (0, .ref a), (2, .int (nI i))]) hx hb dX5_rights_31 rfl hl (by decide) rfl (fun ls hl => ?_)
          refine lv_iinc (v := (nI (i + 1))) (lv' := [(2, .int (nI (i + 1))), (1, .int (nI (mset (rgt S) (i + 1)))), (0, .ref a)]) (k := 2) hx hb dX5_rights_32 hl rfl (nI_inc i 1) (by decide) rfl (fun ls hl => ?_)
          refine lv_goto (tgt := 4) hx hb dX5_rights_35 (by decide) ?_
          exact ih (i + 1) _ _ _ (by omega) (by omega) hW (lv_sub hl [2, 1, 0] rfl)
        · refine lv_if_eq (tgt := 29) hx hb dX5_rights_20 (by decide) (fun c => absurd c (by decide)) (fun _ => ?_)
          refine lv_iconst (v := 1) hx hb dX5_rights_23 (by decide) ?_
          refine lv_iload_n hx hb dX5_rights_24 rfl (lv_at hl 2 rfl) ?_
          refine n_ishl (v := (1 <<< ((nI i) &&& 31))) hx hb dX5_rights_25 rfl ?_
          refine lv_goto (tgt := 30) hx hb dX5_rights_26 (by decide) ?_
          refine n_ior (v := (nI (mset (rgt S) (i + 1)))) hx hb dX5_rights_30 (mset_put (decide_eq_true b_3) (by omega)) ?_
          refine lv_istore_n (lv' := [(1, .int (nI (mset (rgt S) (i + 1)))), (0, .ref a), (2, .int (nI i))]) hx hb dX5_rights_31 rfl hl (by decide) rfl (fun ls hl => ?_)
          refine lv_iinc (v := (nI (i + 1))) (lv' := [(2, .int (nI (i + 1))), (1, .int (nI (mset (rgt S) (i + 1)))), (0, .ref a)]) (k := 2) hx hb dX5_rights_32 hl rfl (nI_inc i 1) (by decide) rfl (fun ls hl => ?_)
          refine lv_goto (tgt := 4) hx hb dX5_rights_35 (by decide) ?_
          exact ih (i + 1) _ _ _ (by omega) (by omega) hW (lv_sub hl [2, 1, 0] rfl)
  exact L4 (G - 0 + 1) 0 _ _ _ (Nat.lt_succ_self _) (by omega) hW (lv_sub hl [2, 1, 0] rfl)
set_option maxHeartbeats 4000000 in
set_option maxRecDepth 100000 in
theorem c_X5_living (l : Launch) (E : Ev) (a : Nat) (b : Nat) (fs : List Value) (hf : fs[0]? = some (.ref b)) (S : HS) (P : Nat) (hP : S 0 2 = nI P) (hP1 : P ≤ 6) : MI l E yX5_living cX5_living 3 .int 1 22 0 0 [.ref a] (wcat [MR E a b fs S]) (fun (r : Int32) (_ : Unit) => r = nI (mset (liv S) P)) (fun (_ : Unit) => (wcat [MR E a b fs S])) := by
  refine MI_intro RX5 (by decide) rfl (Nat.le_of_ble_eq_true rfl) ?_
  intro p e R s m args below meth c A Q hQ hC hD hW hA ls hl
  have hx := hC.1
  have hb := hC.2.1
  have hW : Wd E A s.heap (wcat [MR E a b fs S]) s.heap [] := hW
  have hD : Dj A [a, b] := hD
  have hl : lv_has ls 3 [(0, .ref a)] := hl
  refine lv_iconst (v := 0) hx hb dX5_living_0 (by decide) ?_
  refine lv_istore_n (lv' := [(1, .int 0), (0, .ref a)]) hx hb dX5_living_1 rfl hl (by decide) rfl (fun ls hl => ?_)
  refine lv_iconst (v := 0) hx hb dX5_living_2 (by decide) ?_
  refine lv_istore_n (lv' := [(2, .int 0), (1, .int 0), (0, .ref a)]) hx hb dX5_living_3 rfl hl (by decide) rfl (fun ls hl => ?_)
  have L4 : ∀ (n_ : Nat) (i : Nat) (H : Heap) (locs : List Loc) (ls : Array Slot), P - i < n_ → i ≤ P → Wd E A s.heap (wcat [MR E a b fs S]) H locs → lv_has ls 3 [(0, .ref a), (1, .int (nI (mset (liv S) i))), (2, .int (nI i))] → W p l e R s m args below meth c H locs 0 0 Q (F0 m 4 ls []) := by
    intro n_
    induction n_ with
    | zero => intro i H locs ls hm; exact absurd hm (Nat.not_lt_zero _)
    | succ n_ ih =>
      intro i H locs ls hm hi hW hl
      refine lv_iload_n hx hb dX5_living_4 rfl (lv_at hl 2 rfl) ?_
      refine lv_aload_n hx hb dX5_living_5 rfl (lv_at hl 0 rfl) ?_
      refine r_get hC hW flX5_7 0 rfl hf dX5_living_6 ?_
      refine lv_iconst (v := 2) hx hb dX5_living_9 (by decide) ?_
      refine r_iald hC hW 1 rfl 2 rfl (by omega) (by decide) dX5_living_10 ?_
      refine n_top (enc_0 S (by decide)) ?_
      refine n_top hP ?_
      refine lv_icmp_ge (tgt := 39) hx hb dX5_living_11 (by decide) (fun c_1 => ?_) (fun c_1 => ?_)
      · have c_1 : P ≤ i := (nI_leI (a := P) (b := i) (by omega) (by omega)).mp c_1
        refine lv_iload_n hx hb dX5_living_39 rfl (lv_at hl 1 rfl) ?_
        exact r_iret hC hQ hD hW () (by rw [show i = P by omega]) rfl rfl dX5_living_40
      · have c_1 : ¬ P ≤ i := fun z_ => c_1 ((nI_leI (a := P) (b := i) (by omega) (by omega)).mpr z_)
        refine lv_iload_n hx hb dX5_living_14 rfl (lv_at hl 1 rfl) ?_
        refine lv_aload_n hx hb dX5_living_15 rfl (lv_at hl 0 rfl) ?_
        refine lv_iload_n hx hb dX5_living_16 rfl (lv_at hl 2 rfl) ?_
        refine lv_iconst (v := 3) hx hb dX5_living_17 (by decide) ?_
        refine r_callCi hC hD hW hA lkX5_57 (c_X5_its l E a b fs hf S i 3 (by omega) (by omega)) rfl rfl ⟨by decide, by decide, by decide, by decide⟩ [0] rfl rfl rfl (fun _ => rfl) hl.1 rfl rfl (Nat.le_of_ble_eq_true rfl) dX5_living_18 (fun r_2 _ H locs hr_2 hW => ?_)
        have hW : Wd E A s.heap (wcat [MR E a b fs S]) H locs := hW
        have hr_2 : r_2 = (S 4 i) := hr_2
        subst hr_2
        refine lv_if_ne (tgt := 30) hx hb dX5_living_21 (by decide) (fun c_3 => ?_) (fun c_3 => ?_)
        · refine lv_iconst (v := 0) hx hb dX5_living_30 (by decide) ?_
          refine n_ior (v := (nI (mset (liv S) (i + 1)))) hx hb dX5_living_31 (mset_no0 (decide_eq_false c_3)) ?_
          refine lv_istore_n (lv' := [(1, .int (nI (mset (liv S) (i + 1)))), (0, .ref a), (2, .int (nI i))]) hx hb dX5_living_32 rfl hl (by decide) rfl (fun ls hl => ?_)
          refine lv_iinc (v := (nI (i + 1))) (lv' := [(2, .int (nI (i + 1))), (1, .int (nI (mset (liv S) (i + 1)))), (0, .ref a)]) (k := 2) hx hb dX5_living_33 hl rfl (nI_inc i 1) (by decide) rfl (fun ls hl => ?_)
          refine lv_goto (tgt := 4) hx hb dX5_living_36 (by decide) ?_
          exact ih (i + 1) _ _ _ (by omega) (by omega) hW (lv_sub hl [2, 1, 0] rfl)
        · refine lv_iconst (v := 1) hx hb dX5_living_24 (by decide) ?_
          refine lv_iload_n hx hb dX5_living_25 rfl (lv_at hl 2 rfl) ?_
          refine n_ishl (v := (1 <<< ((nI i) &&& 31))) hx hb dX5_living_26 rfl ?_
          refine lv_goto (tgt := 31) hx hb dX5_living_27 (by decide) ?_
          refine n_ior (v := (nI (mset (liv S) (i + 1)))) hx hb dX5_living_31 (mset_put (decide_eq_true c_3) (by omega)) ?_
          refine lv_istore_n (lv' := [(1, .int (nI (mset (liv S) (i + 1)))), (0, .ref a), (2, .int (nI i))]) hx hb dX5_living_32 rfl hl (by decide) rfl (fun ls hl => ?_)
          refine lv_iinc (v := (nI (i + 1))) (lv' := [(2, .int (nI (i + 1))), (1, .int (nI (mset (liv S) (i + 1)))), (0, .ref a)]) (k := 2) hx hb dX5_living_33 hl rfl (nI_inc i 1) (by decide) rfl (fun ls hl => ?_)
          refine lv_goto (tgt := 4) hx hb dX5_living_36 (by decide) ?_
          exact ih (i + 1) _ _ _ (by omega) (by omega) hW (lv_sub hl [2, 1, 0] rfl)
  exact L4 (P - 0 + 1) 0 _ _ _ (Nat.lt_succ_self _) (by omega) hW (lv_sub hl [2, 1, 0] rfl)
set_option maxHeartbeats 4000000 in
set_option maxRecDepth 100000 in
theorem c_X5_contentOfAll (l : Launch) (E : Ev) (a : Nat) (b : Nat) (fs : List Value) (hf : fs[0]? = some (.ref b)) (S : HS) (P : Nat) (hP : S 0 2 = nI P) (hP1 : P ≤ 6) : MI l E yX5_contentOfAll cX5_contentOfAll 3 .int 1 22 0 0 [.ref a] (wcat [MR E a b fs S]) (fun (r : Int32) (_ : Unit) => r = smI (S 3) P) (fun (_ : Unit) => (wcat [MR E a b fs S])) := by
  refine MI_intro RX5 (by decide) rfl (Nat.le_of_ble_eq_true rfl) ?_
  intro p e R s m args below meth c A Q hQ hC hD hW hA ls hl
  have hx := hC.1
  have hb := hC.2.1
  have hW : Wd E A s.heap (wcat [MR E a b fs S]) s.heap [] := hW
  have hD : Dj A [a, b] := hD
  have hl : lv_has ls 3 [(0, .ref a)] := hl
  refine lv_iconst (v := 0) hx hb dX5_contentOfAll_0 (by decide) ?_
  refine lv_istore_n (lv' := [(1, .int 0), (0, .ref a)]) hx hb dX5_contentOfAll_1 rfl hl (by decide) rfl (fun ls hl => ?_)
  refine lv_iconst (v := 0) hx hb dX5_contentOfAll_2 (by decide) ?_
  refine lv_istore_n (lv' := [(2, .int 0), (1, .int 0), (0, .ref a)]) hx hb dX5_contentOfAll_3 rfl hl (by decide) rfl (fun ls hl => ?_)
  have L4 : ∀ (n_ : Nat) (i : Nat) (H : Heap) (locs : List Loc) (ls : Array Slot), P - i < n_ → i ≤ P → Wd E A s.heap (wcat [MR E a b fs S]) H locs → lv_has ls 3 [(0, .ref a), (1, .int (smI (S 3) i)), (2, .int (nI i))] → W p l e R s m args below meth c H locs 0 0 Q (F0 m 4 ls []) := by
    intro n_
    induction n_ with
    | zero => intro i H locs ls hm; exact absurd hm (Nat.not_lt_zero _)
    | succ n_ ih =>
      intro i H locs ls hm hi hW hl
      refine lv_iload_n hx hb dX5_contentOfAll_4 rfl (lv_at hl 2 rfl) ?_
      refine lv_aload_n hx hb dX5_contentOfAll_5 rfl (lv_at hl 0 rfl) ?_
      refine r_get hC hW flX5_7 0 rfl hf dX5_contentOfAll_6 ?_
      refine lv_iconst (v := 2) hx hb dX5_contentOfAll_9 (by decide) ?_
      refine r_iald hC hW 1 rfl 2 rfl (by omega) (by decide) dX5_contentOfAll_10 ?_
      refine n_top (enc_0 S (by decide)) ?_
      refine n_top hP ?_
      refine lv_icmp_ge (tgt := 29) hx hb dX5_contentOfAll_11 (by decide) (fun c_1 => ?_) (fun c_1 => ?_)
      · have c_1 : P ≤ i := (nI_leI (a := P) (b := i) (by omega) (by omega)).mp c_1
        refine lv_iload_n hx hb dX5_contentOfAll_29 rfl (lv_at hl 1 rfl) ?_
        exact r_iret hC hQ hD hW () (by rw [show i = P by omega]) rfl rfl dX5_contentOfAll_30
      · have c_1 : ¬ P ≤ i := fun z_ => c_1 ((nI_leI (a := P) (b := i) (by omega) (by omega)).mpr z_)
        refine lv_iload_n hx hb dX5_contentOfAll_14 rfl (lv_at hl 1 rfl) ?_
        refine lv_aload_n hx hb dX5_contentOfAll_15 rfl (lv_at hl 0 rfl) ?_
        refine lv_iload_n hx hb dX5_contentOfAll_16 rfl (lv_at hl 2 rfl) ?_
        refine lv_iconst (v := 2) hx hb dX5_contentOfAll_17 (by decide) ?_
        refine r_callCi hC hD hW hA lkX5_57 (c_X5_its l E a b fs hf S i 2 (by omega) (by omega)) rfl rfl ⟨by decide, by decide, by decide, by decide⟩ [0] rfl rfl rfl (fun _ => rfl) hl.1 rfl rfl (Nat.le_of_ble_eq_true rfl) dX5_contentOfAll_18 (fun r_2 _ H locs hr_2 hW => ?_)
        have hW : Wd E A s.heap (wcat [MR E a b fs S]) H locs := hW
        have hr_2 : r_2 = (S 3 i) := hr_2
        subst hr_2
        refine n_iadd (v := ((smI (S 3) i) + (S 3 i))) hx hb dX5_contentOfAll_21 rfl ?_
        refine lv_istore_n (lv' := [(1, .int ((smI (S 3) i) + (S 3 i))), (0, .ref a), (2, .int (nI i))]) hx hb dX5_contentOfAll_22 rfl hl (by decide) rfl (fun ls hl => ?_)
        refine lv_iinc (v := (nI (i + 1))) (lv' := [(2, .int (nI (i + 1))), (1, .int ((smI (S 3) i) + (S 3 i))), (0, .ref a)]) (k := 2) hx hb dX5_contentOfAll_23 hl rfl (nI_inc i 1) (by decide) rfl (fun ls hl => ?_)
        refine lv_goto (tgt := 4) hx hb dX5_contentOfAll_26 (by decide) ?_
        exact ih (i + 1) _ _ _ (by omega) (by omega) hW (lv_sub hl [2, 1, 0] rfl)
  exact L4 (P - 0 + 1) 0 _ _ _ (Nat.lt_succ_self _) (by omega) hW (lv_sub hl [2, 1, 0] rfl)
set_option maxHeartbeats 4000000 in
set_option maxRecDepth 100000 in
theorem c_X5_names (l : Launch) (E : Ev) (a : Nat) (b : Nat) (fs : List Value) (hf : fs[0]? = some (.ref b)) (S : HS) (G : Nat) (hG : S 0 3 = nI G) (hG1 : G ≤ 10) : MI l E yX5_names cX5_names 3 .int 1 22 0 0 [.ref a] (wcat [MR E a b fs S]) (fun (r : Int32) (_ : Unit) => r = smI (S 7) G) (fun (_ : Unit) => (wcat [MR E a b fs S])) := by
  refine MI_intro RX5 (by decide) rfl (Nat.le_of_ble_eq_true rfl) ?_
  intro p e R s m args below meth c A Q hQ hC hD hW hA ls hl
  have hx := hC.1
  have hb := hC.2.1
  have hW : Wd E A s.heap (wcat [MR E a b fs S]) s.heap [] := hW
  have hD : Dj A [a, b] := hD
  have hl : lv_has ls 3 [(0, .ref a)] := hl
  refine lv_iconst (v := 0) hx hb dX5_names_0 (by decide) ?_
  refine lv_istore_n (lv' := [(1, .int 0), (0, .ref a)]) hx hb dX5_names_1 rfl hl (by decide) rfl (fun ls hl => ?_)
  refine lv_iconst (v := 0) hx hb dX5_names_2 (by decide) ?_
  refine lv_istore_n (lv' := [(2, .int 0), (1, .int 0), (0, .ref a)]) hx hb dX5_names_3 rfl hl (by decide) rfl (fun ls hl => ?_)
  have L4 : ∀ (n_ : Nat) (i : Nat) (H : Heap) (locs : List Loc) (ls : Array Slot), G - i < n_ → i ≤ G → Wd E A s.heap (wcat [MR E a b fs S]) H locs → lv_has ls 3 [(0, .ref a), (1, .int (smI (S 7) i)), (2, .int (nI i))] → W p l e R s m args below meth c H locs 0 0 Q (F0 m 4 ls []) := by
    intro n_
    induction n_ with
    | zero => intro i H locs ls hm; exact absurd hm (Nat.not_lt_zero _)
    | succ n_ ih =>
      intro i H locs ls hm hi hW hl
      refine lv_iload_n hx hb dX5_names_4 rfl (lv_at hl 2 rfl) ?_
      refine lv_aload_n hx hb dX5_names_5 rfl (lv_at hl 0 rfl) ?_
      refine r_get hC hW flX5_7 0 rfl hf dX5_names_6 ?_
      refine lv_iconst (v := 3) hx hb dX5_names_9 (by decide) ?_
      refine r_iald hC hW 1 rfl 3 rfl (by omega) (by decide) dX5_names_10 ?_
      refine n_top (enc_0 S (by decide)) ?_
      refine n_top hG ?_
      refine lv_icmp_ge (tgt := 29) hx hb dX5_names_11 (by decide) (fun c_1 => ?_) (fun c_1 => ?_)
      · have c_1 : G ≤ i := (nI_leI (a := G) (b := i) (by omega) (by omega)).mp c_1
        refine lv_iload_n hx hb dX5_names_29 rfl (lv_at hl 1 rfl) ?_
        exact r_iret hC hQ hD hW () (by rw [show i = G by omega]) rfl rfl dX5_names_30
      · have c_1 : ¬ G ≤ i := fun z_ => c_1 ((nI_leI (a := G) (b := i) (by omega) (by omega)).mpr z_)
        refine lv_iload_n hx hb dX5_names_14 rfl (lv_at hl 1 rfl) ?_
        refine lv_aload_n hx hb dX5_names_15 rfl (lv_at hl 0 rfl) ?_
        refine lv_iload_n hx hb dX5_names_16 rfl (lv_at hl 2 rfl) ?_
        refine lv_iconst (v := 2) hx hb dX5_names_17 (by decide) ?_
        refine r_callCi hC hD hW hA lkX5_49 (c_X5_worn l E a b fs hf S i 2 (by omega) (by omega)) rfl rfl ⟨by decide, by decide, by decide, by decide⟩ [0] rfl rfl rfl (fun _ => rfl) hl.1 rfl rfl (Nat.le_of_ble_eq_true rfl) dX5_names_18 (fun r_2 _ H locs hr_2 hW => ?_)
        have hW : Wd E A s.heap (wcat [MR E a b fs S]) H locs := hW
        have hr_2 : r_2 = (S 7 i) := hr_2
        subst hr_2
        refine n_iadd (v := ((smI (S 7) i) + (S 7 i))) hx hb dX5_names_21 rfl ?_
        refine lv_istore_n (lv' := [(1, .int ((smI (S 7) i) + (S 7 i))), (0, .ref a), (2, .int (nI i))]) hx hb dX5_names_22 rfl hl (by decide) rfl (fun ls hl => ?_)
        refine lv_iinc (v := (nI (i + 1))) (lv' := [(2, .int (nI (i + 1))), (1, .int ((smI (S 7) i) + (S 7 i))), (0, .ref a)]) (k := 2) hx hb dX5_names_23 hl rfl (nI_inc i 1) (by decide) rfl (fun ls hl => ?_)
        refine lv_goto (tgt := 4) hx hb dX5_names_26 (by decide) ?_
        exact ih (i + 1) _ _ _ (by omega) (by omega) hW (lv_sub hl [2, 1, 0] rfl)
  exact L4 (G - 0 + 1) 0 _ _ _ (Nat.lt_succ_self _) (by omega) hW (lv_sub hl [2, 1, 0] rfl)
