set_option maxHeartbeats 4000000 in
theorem c_X3_init (l : Launch) (E : Ev) (b : Nat) : MV l E yX3_init cX3_init 1 1 20 1 120 [.ref b] [(b, .inr (3, [.null, .int 0, .int 0, .int 0, .int 0, .int 0]))] (fun (_ : Nat) => True) (fun (q : Nat) => TPW E (fun k => if k = 0 then b else q) (fun _ => 0) (fun _ => 0)) := by
  refine MV_intro RX3 (by decide) rfl (Nat.le_of_ble_eq_true rfl) ?_
  intro p e R s m args below meth c A Q hQ hC hnm hD hW hA ls hl
  have hx := hC.1
  have hb := hC.2.1
  have hD : Dj A [b] := hD
  have hl : lv_has ls 1 [(0, .ref b)] := hl
  refine lv_aload_n hx hb dX3_init_0 rfl (lv_at hl 0 rfl) ?_
  refine r_obj0 hC loX3_3 lo_i lo_c hl.1 ⟨by decide, by decide⟩ (Nat.le_of_ble_eq_true rfl) dX3_init_1 ?_
  refine lv_aload_n hx hb dX3_init_4 rfl (lv_at hl 0 rfl) ?_
  refine lv_bipush (v := 120) hx hb dX3_init_5 (by decide) ?_
  refine r_newi hC hD hW hA rfl na_i 120 rfl (by decide) ⟨by decide, by decide⟩ dX3_init_7 (fun q H hD hW => ?_)
  refine r_putF (ws' := [(b, .inr (3, [.ref q, .int 0, .int 0, .int 0, .int 0, .int 0])), (q, .inl (E.2.1, 120, .inl (fun _ => 0)))]) hC (hnm rfl) hD hW ffX3_9 0 rfl rfl rfl (Nat.le_of_ble_eq_true rfl) rfl rfl dX3_init_9 (fun H locs hW => ?_)
  refine lv_aload_n hx hb dX3_init_12 rfl (lv_at hl 0 rfl) ?_
  refine lv_iconst (v := 0) hx hb dX3_init_13 (by decide) ?_
  refine r_put (ws' := [(b, .inr (3, [.ref q, .int 0, .int 0, .int 0, .int 0, .int 0])), (q, .inl (E.2.1, 120, .inl (fun _ => 0)))]) hC hD hW fpX3_15 0 rfl rfl rfl (Nat.le_of_ble_eq_true rfl) rfl rfl dX3_init_14 (fun H locs hW => ?_)
  refine lv_aload_n hx hb dX3_init_17 rfl (lv_at hl 0 rfl) ?_
  have hW : Wd E A s.heap (wcat [TPW E (fun k => if k = 0 then b else q) (fun _ => 0) (fun _ => 0)]) H locs := hW
  refine r_callCv hC hD hW hA lkX3_19 (c_X3_rewind l E (fun k => if k = 0 then b else q) (fun _ => 0) (fun _ => 0)) rfl rfl ⟨by decide, by decide, by decide, by decide⟩ [0] rfl rfl rfl (fun _ => rfl) hl.1 rfl rfl (Nat.le_of_ble_eq_true rfl) dX3_init_18 (fun _ H locs hr hW => ?_)
  exact r_vret hC hQ hD hW q trivial rfl rfl dX3_init_21
set_option maxHeartbeats 4000000 in
theorem c_X2_init (l : Launch) (E : Ev) (b : Nat) : MV l E yX2_init cX2_init 1 1 20 1 40 [.ref b] [(b, .inr (2, [.null, .int 0, .int 0]))] (fun (_ : Nat) => True) (fun (q : Nat) => SHW E b q 0 0 (fun _ => 0)) := by
  refine MV_intro RX2 (by decide) rfl (Nat.le_of_ble_eq_true rfl) ?_
  intro p e R s m args below meth c A Q hQ hC hnm hD hW hA ls hl
  have hx := hC.1
  have hb := hC.2.1
  have hD : Dj A [b] := hD
  have hl : lv_has ls 1 [(0, .ref b)] := hl
  refine lv_aload_n hx hb dX2_init_0 rfl (lv_at hl 0 rfl) ?_
  refine r_obj0 hC loX2_3 lo_i lo_c hl.1 ⟨by decide, by decide⟩ (Nat.le_of_ble_eq_true rfl) dX2_init_1 ?_
  refine lv_aload_n hx hb dX2_init_4 rfl (lv_at hl 0 rfl) ?_
  refine lv_bipush (v := 40) hx hb dX2_init_5 (by decide) ?_
  refine r_newl hC hD hW hA rfl na_l 40 rfl (by decide) ⟨by decide, by decide⟩ dX2_init_7 (fun q H hD hW => ?_)
  refine r_putF (ws' := SHW E b q 0 0 (fun _ => 0)) hC (hnm rfl) hD hW ffX2_9 0 rfl rfl rfl (Nat.le_of_ble_eq_true rfl) rfl rfl dX2_init_9 (fun H locs hW => ?_)
  refine lv_aload_n hx hb dX2_init_12 rfl (lv_at hl 0 rfl) ?_
  refine lv_iconst (v := 0) hx hb dX2_init_13 (by decide) ?_
  refine r_put (ws' := SHW E b q 0 0 (fun _ => 0)) hC hD hW fpX2_15 0 rfl rfl rfl (Nat.le_of_ble_eq_true rfl) rfl rfl dX2_init_14 (fun H locs hW => ?_)
  refine lv_aload_n hx hb dX2_init_17 rfl (lv_at hl 0 rfl) ?_
  refine lv_iconst (v := 0) hx hb dX2_init_18 (by decide) ?_
  refine r_put (ws' := SHW E b q 0 0 (fun _ => 0)) hC hD hW fpX2_19 0 rfl rfl rfl (Nat.le_of_ble_eq_true rfl) rfl rfl dX2_init_19 (fun H locs hW => ?_)
  exact r_vret hC hQ hD hW q trivial rfl rfl dX2_init_22
set_option maxHeartbeats 4000000 in
theorem c_X1_init (l : Launch) (E : Ev) (b t h : Nat) : MV l E yX1_init cX1_init 3 1 20 0 0 [.ref b, .ref t, .ref h] [(b, .inr (1, [.null, .null, .int 0]))] (fun (_ : Unit) => True) (fun (_ : Unit) => [(b, .inr (1, [.ref t, .ref h, .int 0]))]) := by
  refine MV_intro RX1 (by decide) rfl (Nat.le_of_ble_eq_true rfl) ?_
  intro p e R s m args below meth c A Q hQ hC hnm hD hW hA ls hl
  have hx := hC.1
  have hb := hC.2.1
  have hD : Dj A [b] := hD
  have hl : lv_has ls 3 [(0, .ref b), (1, .ref t), (2, .ref h)] := hl
  refine lv_aload_n hx hb dX1_init_0 rfl (lv_at hl 0 rfl) ?_
  refine r_obj0 hC loX1_3 lo_i lo_c hl.1 ⟨by decide, by decide⟩ (Nat.le_of_ble_eq_true rfl) dX1_init_1 ?_
  refine lv_aload_n hx hb dX1_init_4 rfl (lv_at hl 0 rfl) ?_
  refine lv_aload_n hx hb dX1_init_5 rfl (lv_at hl 1 rfl) ?_
  refine r_putF (ws' := [(b, .inr (1, [.ref t, .null, .int 0]))]) hC (hnm rfl) hD hW ffX1_9 0 rfl rfl rfl (Nat.le_of_ble_eq_true rfl) rfl rfl dX1_init_6 (fun H locs hW => ?_)
  refine lv_aload_n hx hb dX1_init_9 rfl (lv_at hl 0 rfl) ?_
  refine lv_aload_n hx hb dX1_init_10 rfl (lv_at hl 2 rfl) ?_
  refine r_putF (ws' := [(b, .inr (1, [.ref t, .ref h, .int 0]))]) hC (hnm rfl) hD hW ffX1_15 0 rfl rfl rfl (Nat.le_of_ble_eq_true rfl) rfl rfl dX1_init_11 (fun H locs hW => ?_)
  refine lv_aload_n hx hb dX1_init_14 rfl (lv_at hl 0 rfl) ?_
  refine lv_iconst (v := 0) hx hb dX1_init_15 (by decide) ?_
  refine r_put (ws' := [(b, .inr (1, [.ref t, .ref h, .int 0]))]) hC hD hW fpX1_19 0 rfl rfl rfl (Nat.le_of_ble_eq_true rfl) rfl rfl dX1_init_16 (fun H locs hW => ?_)
  exact r_vret hC hQ hD hW () trivial rfl rfl dX1_init_19
