set_option maxHeartbeats 8000000 in
set_option maxRecDepth 100000 in
theorem c_X5_init (l : Launch) (E : Ev) (b : Nat) : MV l E yX5_init cX5_init 1 1 20 11 675 [.ref b] [(b, .inr (5, [.null, .null, .null, .null, .null, .int 0, .int 0, .int 0, .int 0, .long 0, .int 0, .int 0, .null, .null, .null, .null, .null, .null, .int 0]))] (fun (_ : Nat → Nat) => True) (fun (q : Nat → Nat) => MJ (fun k => if k = 0 then b else q k) (fun _ => 0) 0 ++ [(q 1, .inl (E.2.1, 68, .inl (upd (fun _ => 0) 1 60))), (q 2, .inl (E.2.1, 7, .inl (fun _ => 0))), (q 3, .inl (E.2.1, 68, .inl (fun _ => 0))), (q 4, .inl (E.2.1, 68, .inl (fun _ => 0))), (q 5, .inl (E.2.1, 120, .inl (fun _ => 0))), (q 6, .inl (E.2.1, 4, .inl (fun _ => 0))), (q 7, .inl (E.2.1, 4, .inl (fun _ => 0))), (q 8, .inl (E.2.2.1, 160, .inr (.inl (fun _ => 0)))), (q 9, .inl (E.2.2.1, 40, .inr (.inl (fun _ => 0)))), (q 10, .inl (E.2.1, 68, .inl (fun _ => 0))), (q 11, .inl (E.2.1, 68, .inl (fun _ => 0)))]) := by
  refine MV_intro RX5 (by decide) rfl (Nat.le_of_ble_eq_true rfl) ?_
  intro p e R s m args below meth c A Q hQ hC hnm hD hW hA ls hl
  have hx := hC.1
  have hb := hC.2.1
  have hD : Dj A [b] := hD
  have hl : lv_has ls 1 [(0, .ref b)] := hl
  refine lv_aload_n hx hb dX5_init_0 rfl (lv_at hl 0 rfl) ?_
  refine r_obj0 hC loX5_1 lo_i lo_c hl.1 ⟨by decide, by decide⟩ (Nat.le_of_ble_eq_true rfl) dX5_init_1 ?_
  refine lv_aload_n hx hb dX5_init_4 rfl (lv_at hl 0 rfl) ?_
  refine lv_bipush (v := 68) hx hb dX5_init_5 (by decide) ?_
  refine r_newi hC hD hW hA rfl na_i 68 rfl (by decide) ⟨by decide, by decide⟩ dX5_init_7 (fun q1 H hD hW => ?_)
  refine r_putF (ws' := [(b, .inr (5, [.ref q1, .null, .null, .null, .null, .int 0, .int 0, .int 0, .int 0, .long 0, .int 0, .int 0, .null, .null, .null, .null, .null, .null, .int 0])), (q1, .inl (E.2.1, 68, .inl (fun _ => 0)))]) hC (hnm rfl) hD hW ffX5_7 0 rfl rfl rfl (Nat.le_of_ble_eq_true rfl) rfl rfl dX5_init_9 (fun H locs hW => ?_)
  refine lv_aload_n hx hb dX5_init_12 rfl (lv_at hl 0 rfl) ?_
  refine lv_bipush (v := 7) hx hb dX5_init_13 (by decide) ?_
  refine r_newi hC hD hW hA rfl na_i 7 rfl (by decide) ⟨by decide, by decide⟩ dX5_init_15 (fun q2 H hD hW => ?_)
  refine r_putF (ws' := [(b, .inr (5, [.ref q1, .ref q2, .null, .null, .null, .int 0, .int 0, .int 0, .int 0, .long 0, .int 0, .int 0, .null, .null, .null, .null, .null, .null, .int 0])), (q1, .inl (E.2.1, 68, .inl (fun _ => 0))), (q2, .inl (E.2.1, 7, .inl (fun _ => 0)))]) hC (hnm rfl) hD hW ffX5_13 0 rfl rfl rfl (Nat.le_of_ble_eq_true rfl) rfl rfl dX5_init_17 (fun H locs hW => ?_)
  refine lv_aload_n hx hb dX5_init_20 rfl (lv_at hl 0 rfl) ?_
  refine lv_bipush (v := 68) hx hb dX5_init_21 (by decide) ?_
  refine r_newi hC hD hW hA rfl na_i 68 rfl (by decide) ⟨by decide, by decide⟩ dX5_init_23 (fun q3 H hD hW => ?_)
  refine r_putF (ws' := [(b, .inr (5, [.ref q1, .ref q2, .ref q3, .null, .null, .int 0, .int 0, .int 0, .int 0, .long 0, .int 0, .int 0, .null, .null, .null, .null, .null, .null, .int 0])), (q1, .inl (E.2.1, 68, .inl (fun _ => 0))), (q2, .inl (E.2.1, 7, .inl (fun _ => 0))), (q3, .inl (E.2.1, 68, .inl (fun _ => 0)))]) hC (hnm rfl) hD hW ffX5_16 0 rfl rfl rfl (Nat.le_of_ble_eq_true rfl) rfl rfl dX5_init_25 (fun H locs hW => ?_)
  refine lv_aload_n hx hb dX5_init_28 rfl (lv_at hl 0 rfl) ?_
  refine lv_bipush (v := 68) hx hb dX5_init_29 (by decide) ?_
  refine r_newi hC hD hW hA rfl na_i 68 rfl (by decide) ⟨by decide, by decide⟩ dX5_init_31 (fun q4 H hD hW => ?_)
  refine r_putF (ws' := [(b, .inr (5, [.ref q1, .ref q2, .ref q3, .ref q4, .null, .int 0, .int 0, .int 0, .int 0, .long 0, .int 0, .int 0, .null, .null, .null, .null, .null, .null, .int 0])), (q1, .inl (E.2.1, 68, .inl (fun _ => 0))), (q2, .inl (E.2.1, 7, .inl (fun _ => 0))), (q3, .inl (E.2.1, 68, .inl (fun _ => 0))), (q4, .inl (E.2.1, 68, .inl (fun _ => 0)))]) hC (hnm rfl) hD hW ffX5_19 0 rfl rfl rfl (Nat.le_of_ble_eq_true rfl) rfl rfl dX5_init_33 (fun H locs hW => ?_)
  refine lv_aload_n hx hb dX5_init_36 rfl (lv_at hl 0 rfl) ?_
  refine lv_bipush (v := 120) hx hb dX5_init_37 (by decide) ?_
  refine r_newi hC hD hW hA rfl na_i 120 rfl (by decide) ⟨by decide, by decide⟩ dX5_init_39 (fun q5 H hD hW => ?_)
  refine r_putF (ws' := [(b, .inr (5, [.ref q1, .ref q2, .ref q3, .ref q4, .ref q5, .int 0, .int 0, .int 0, .int 0, .long 0, .int 0, .int 0, .null, .null, .null, .null, .null, .null, .int 0])), (q1, .inl (E.2.1, 68, .inl (fun _ => 0))), (q2, .inl (E.2.1, 7, .inl (fun _ => 0))), (q3, .inl (E.2.1, 68, .inl (fun _ => 0))), (q4, .inl (E.2.1, 68, .inl (fun _ => 0))), (q5, .inl (E.2.1, 120, .inl (fun _ => 0)))]) hC (hnm rfl) hD hW ffX5_22 0 rfl rfl rfl (Nat.le_of_ble_eq_true rfl) rfl rfl dX5_init_41 (fun H locs hW => ?_)
  refine lv_aload_n hx hb dX5_init_44 rfl (lv_at hl 0 rfl) ?_
  refine lv_iconst (v := 4) hx hb dX5_init_45 (by decide) ?_
  refine r_newi hC hD hW hA rfl na_i 4 rfl (by decide) ⟨by decide, by decide⟩ dX5_init_46 (fun q6 H hD hW => ?_)
  refine r_putF (ws' := [(b, .inr (5, [.ref q1, .ref q2, .ref q3, .ref q4, .ref q5, .int 0, .int 0, .int 0, .int 0, .long 0, .int 0, .int 0, .ref q6, .null, .null, .null, .null, .null, .int 0])), (q1, .inl (E.2.1, 68, .inl (fun _ => 0))), (q2, .inl (E.2.1, 7, .inl (fun _ => 0))), (q3, .inl (E.2.1, 68, .inl (fun _ => 0))), (q4, .inl (E.2.1, 68, .inl (fun _ => 0))), (q5, .inl (E.2.1, 120, .inl (fun _ => 0))), (q6, .inl (E.2.1, 4, .inl (fun _ => 0)))]) hC (hnm rfl) hD hW ffX5_25 0 rfl rfl rfl (Nat.le_of_ble_eq_true rfl) rfl rfl dX5_init_48 (fun H locs hW => ?_)
  refine lv_aload_n hx hb dX5_init_51 rfl (lv_at hl 0 rfl) ?_
  refine lv_iconst (v := 4) hx hb dX5_init_52 (by decide) ?_
  refine r_newi hC hD hW hA rfl na_i 4 rfl (by decide) ⟨by decide, by decide⟩ dX5_init_53 (fun q7 H hD hW => ?_)
  refine r_putF (ws' := [(b, .inr (5, [.ref q1, .ref q2, .ref q3, .ref q4, .ref q5, .int 0, .int 0, .int 0, .int 0, .long 0, .int 0, .int 0, .ref q6, .ref q7, .null, .null, .null, .null, .int 0])), (q1, .inl (E.2.1, 68, .inl (fun _ => 0))), (q2, .inl (E.2.1, 7, .inl (fun _ => 0))), (q3, .inl (E.2.1, 68, .inl (fun _ => 0))), (q4, .inl (E.2.1, 68, .inl (fun _ => 0))), (q5, .inl (E.2.1, 120, .inl (fun _ => 0))), (q6, .inl (E.2.1, 4, .inl (fun _ => 0))), (q7, .inl (E.2.1, 4, .inl (fun _ => 0)))]) hC (hnm rfl) hD hW ffX5_28 0 rfl rfl rfl (Nat.le_of_ble_eq_true rfl) rfl rfl dX5_init_55 (fun H locs hW => ?_)
  refine lv_aload_n hx hb dX5_init_58 rfl (lv_at hl 0 rfl) ?_
  refine lv_sipush (v := 160) hx hb dX5_init_59 (by decide) ?_
  refine r_newl hC hD hW hA rfl na_l 160 rfl (by decide) ⟨by decide, by decide⟩ dX5_init_62 (fun q8 H hD hW => ?_)
  refine r_putF (ws' := [(b, .inr (5, [.ref q1, .ref q2, .ref q3, .ref q4, .ref q5, .int 0, .int 0, .int 0, .int 0, .long 0, .int 0, .int 0, .ref q6, .ref q7, .ref q8, .null, .null, .null, .int 0])), (q1, .inl (E.2.1, 68, .inl (fun _ => 0))), (q2, .inl (E.2.1, 7, .inl (fun _ => 0))), (q3, .inl (E.2.1, 68, .inl (fun _ => 0))), (q4, .inl (E.2.1, 68, .inl (fun _ => 0))), (q5, .inl (E.2.1, 120, .inl (fun _ => 0))), (q6, .inl (E.2.1, 4, .inl (fun _ => 0))), (q7, .inl (E.2.1, 4, .inl (fun _ => 0))), (q8, .inl (E.2.2.1, 160, .inr (.inl (fun _ => 0))))]) hC (hnm rfl) hD hW ffX5_31 0 rfl rfl rfl (Nat.le_of_ble_eq_true rfl) rfl rfl dX5_init_64 (fun H locs hW => ?_)
  refine lv_aload_n hx hb dX5_init_67 rfl (lv_at hl 0 rfl) ?_
  refine lv_bipush (v := 40) hx hb dX5_init_68 (by decide) ?_
  refine r_newl hC hD hW hA rfl na_l 40 rfl (by decide) ⟨by decide, by decide⟩ dX5_init_70 (fun q9 H hD hW => ?_)
  refine r_putF (ws' := [(b, .inr (5, [.ref q1, .ref q2, .ref q3, .ref q4, .ref q5, .int 0, .int 0, .int 0, .int 0, .long 0, .int 0, .int 0, .ref q6, .ref q7, .ref q8, .ref q9, .null, .null, .int 0])), (q1, .inl (E.2.1, 68, .inl (fun _ => 0))), (q2, .inl (E.2.1, 7, .inl (fun _ => 0))), (q3, .inl (E.2.1, 68, .inl (fun _ => 0))), (q4, .inl (E.2.1, 68, .inl (fun _ => 0))), (q5, .inl (E.2.1, 120, .inl (fun _ => 0))), (q6, .inl (E.2.1, 4, .inl (fun _ => 0))), (q7, .inl (E.2.1, 4, .inl (fun _ => 0))), (q8, .inl (E.2.2.1, 160, .inr (.inl (fun _ => 0)))), (q9, .inl (E.2.2.1, 40, .inr (.inl (fun _ => 0))))]) hC (hnm rfl) hD hW ffX5_35 0 rfl rfl rfl (Nat.le_of_ble_eq_true rfl) rfl rfl dX5_init_72 (fun H locs hW => ?_)
  refine lv_aload_n hx hb dX5_init_75 rfl (lv_at hl 0 rfl) ?_
  refine lv_bipush (v := 68) hx hb dX5_init_76 (by decide) ?_
  refine r_newi hC hD hW hA rfl na_i 68 rfl (by decide) ⟨by decide, by decide⟩ dX5_init_78 (fun q10 H hD hW => ?_)
  refine r_putF (ws' := [(b, .inr (5, [.ref q1, .ref q2, .ref q3, .ref q4, .ref q5, .int 0, .int 0, .int 0, .int 0, .long 0, .int 0, .int 0, .ref q6, .ref q7, .ref q8, .ref q9, .ref q10, .null, .int 0])), (q1, .inl (E.2.1, 68, .inl (fun _ => 0))), (q2, .inl (E.2.1, 7, .inl (fun _ => 0))), (q3, .inl (E.2.1, 68, .inl (fun _ => 0))), (q4, .inl (E.2.1, 68, .inl (fun _ => 0))), (q5, .inl (E.2.1, 120, .inl (fun _ => 0))), (q6, .inl (E.2.1, 4, .inl (fun _ => 0))), (q7, .inl (E.2.1, 4, .inl (fun _ => 0))), (q8, .inl (E.2.2.1, 160, .inr (.inl (fun _ => 0)))), (q9, .inl (E.2.2.1, 40, .inr (.inl (fun _ => 0)))), (q10, .inl (E.2.1, 68, .inl (fun _ => 0)))]) hC (hnm rfl) hD hW ffX5_38 0 rfl rfl rfl (Nat.le_of_ble_eq_true rfl) rfl rfl dX5_init_80 (fun H locs hW => ?_)
  refine lv_aload_n hx hb dX5_init_83 rfl (lv_at hl 0 rfl) ?_
  refine lv_bipush (v := 68) hx hb dX5_init_84 (by decide) ?_
  refine r_newi hC hD hW hA rfl na_i 68 rfl (by decide) ⟨by decide, by decide⟩ dX5_init_86 (fun q11 H hD hW => ?_)
  refine r_putF (ws' := [(b, .inr (5, [.ref q1, .ref q2, .ref q3, .ref q4, .ref q5, .int 0, .int 0, .int 0, .int 0, .long 0, .int 0, .int 0, .ref q6, .ref q7, .ref q8, .ref q9, .ref q10, .ref q11, .int 0])), (q1, .inl (E.2.1, 68, .inl (fun _ => 0))), (q2, .inl (E.2.1, 7, .inl (fun _ => 0))), (q3, .inl (E.2.1, 68, .inl (fun _ => 0))), (q4, .inl (E.2.1, 68, .inl (fun _ => 0))), (q5, .inl (E.2.1, 120, .inl (fun _ => 0))), (q6, .inl (E.2.1, 4, .inl (fun _ => 0))), (q7, .inl (E.2.1, 4, .inl (fun _ => 0))), (q8, .inl (E.2.2.1, 160, .inr (.inl (fun _ => 0)))), (q9, .inl (E.2.2.1, 40, .inr (.inl (fun _ => 0)))), (q10, .inl (E.2.1, 68, .inl (fun _ => 0))), (q11, .inl (E.2.1, 68, .inl (fun _ => 0)))]) hC (hnm rfl) hD hW ffX5_41 0 rfl rfl rfl (Nat.le_of_ble_eq_true rfl) rfl rfl dX5_init_88 (fun H locs hW => ?_)
  refine lv_aload_n hx hb dX5_init_91 rfl (lv_at hl 0 rfl) ?_
  refine r_get hC hW flX5_7 0 rfl rfl dX5_init_92 ?_
  refine lv_iconst (v := 1) hx hb dX5_init_95 (by decide) ?_
  refine lv_bipush (v := 60) hx hb dX5_init_96 (by decide) ?_
  refine r_iast (ws' := [(b, .inr (5, [.ref q1, .ref q2, .ref q3, .ref q4, .ref q5, .int 0, .int 0, .int 0, .int 0, .long 0, .int 0, .int 0, .ref q6, .ref q7, .ref q8, .ref q9, .ref q10, .ref q11, .int 0])), (q1, .inl (E.2.1, 68, .inl (upd (fun _ => 0) 1 60))), (q2, .inl (E.2.1, 7, .inl (fun _ => 0))), (q3, .inl (E.2.1, 68, .inl (fun _ => 0))), (q4, .inl (E.2.1, 68, .inl (fun _ => 0))), (q5, .inl (E.2.1, 120, .inl (fun _ => 0))), (q6, .inl (E.2.1, 4, .inl (fun _ => 0))), (q7, .inl (E.2.1, 4, .inl (fun _ => 0))), (q8, .inl (E.2.2.1, 160, .inr (.inl (fun _ => 0)))), (q9, .inl (E.2.2.1, 40, .inr (.inl (fun _ => 0)))), (q10, .inl (E.2.1, 68, .inl (fun _ => 0))), (q11, .inl (E.2.1, 68, .inl (fun _ => 0)))]) hC hD hW 1 rfl 1 rfl (by decide) (by decide) rfl rfl dX5_init_98 (fun H locs hW => ?_)
  exact r_vret hC hQ hD hW (fun k => if k = 1 then q1 else if k = 2 then q2 else if k = 3 then q3 else if k = 4 then q4 else if k = 5 then q5 else if k = 6 then q6 else if k = 7 then q7 else if k = 8 then q8 else if k = 9 then q9 else if k = 10 then q10 else q11) trivial rfl rfl dX5_init_99
