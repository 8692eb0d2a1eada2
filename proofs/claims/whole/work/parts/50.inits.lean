set_option maxHeartbeats 4000000 in
theorem c_X3_init (l : Launch) (E : Ev) (b : Nat) : MV l E yX3_init cX3_init 1 1 20 1 120 [.ref b] [(b, .inr (3, [.null, .int 0, .int 0, .int 0, .int 0, .int 0]))] (fun (_ : Nat) => True) (fun (q : Nat) => TPW E (fun k => if k = 0 then b else q) (fun _ => 0) (fun _ => 0)) := by
  refine MV_intro RX3 (by decide) rfl (Nat.le_of_ble_eq_true rfl) ?_
  intro p e R s m args below meth c A Q hQ hC hnm hD hW hA ls hl
  have hx := hC.1
  have hb := hC.2.1
  have hD : Dj A [b] := hD
  have hl : lv_has ls 1 [(0, .ref b)] := hl
  refine lv_aload_n hx hb dX3_init_0 rfl (lv_at hl 0 rfl) ?_
  refine r_obj0 hC loX3_3 lo_i lo_c hl.1 ⟨by decide, by decide⟩ (Nat.le_of_ble_eq_true rfl) dX3_init_1 ?_
  refine lv_aload_n hx hb dX3_init_4 rfl (lv_at hl 0 rfl) ?_
  refine lv_bipush (v := 120) hx hb dX3_init_5 (by decide) ?_
  refine r_newi hC hD hW hA rfl na_i 120 rfl (by decide) ⟨by decide, by decide⟩ dX3_init_7 (fun q H hD hW => ?_)
  refine r_putF (ws' := [(b, .inr (3, [.ref q, .int 0, .int 0, .int 0, .int 0, .int 0])), (q, .inl (E.2.1, 120, .inl (fun _ => 0)))]) hC (hnm rfl) hD hW ffX3_9 0 rfl rfl rfl (Nat.le_of_ble_eq_true rfl) rfl rfl dX3_init_9 (fun H locs hW => ?_)
  refine lv_aload_n hx hb dX3_init_12 rfl (lv_at hl 0 rfl) ?_
  refine lv_iconst (v := 0) hx hb dX3_init_13 (by decide) ?_
  refine r_put (ws' := [(b, .inr (3, [.ref q, .int 0, .int 0, .int 0, .int 0, .int 0])), (q, .inl (E.2.1, 120, .inl (fun _ => 0)))]) hC hD hW fpX3_15 0 rfl rfl rfl (Nat.le_of_ble_eq_true rfl) rfl rfl dX3_init_14 (fun H locs hW => ?_)
  refine lv_aload_n hx hb dX3_init_17 rfl (lv_at hl 0 rfl) ?_
  have hW : Wd E A s.heap (wcat [TPW E (fun k => if k = 0 then b else q) (fun _ => 0) (fun _ => 0)]) H locs := hW
  refine r_callCv hC hD hW hA lkX3_19 (c_X3_rewind l E (fun k => if k = 0 then b else q) (fun _ => 0) (fun _ => 0)) rfl rfl ⟨by decide, by decide, by decide, by decide⟩ [0] rfl rfl rfl (fun _ => rfl) hl.1 rfl rfl (Nat.le_of_ble_eq_true rfl) dX3_init_18 (fun _ H locs hr hW => ?_)
  exact r_vret hC hQ hD hW q trivial rfl rfl dX3_init_21
