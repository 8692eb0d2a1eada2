def S0 : HS := fun f i => if f = 0 then (if i = 1 then 60 else 0) else 0
set_option maxHeartbeats 8000000 in
set_option maxRecDepth 100000 in
theorem c_X0_init (l : Launch) (E : Ev) (b : Nat) : MV l E yX0_init cX0_init 1 1 20 10 76 [.ref b] [(b, .inr (0, [.int 0, .int 0, .int 0, .null, .null, .null, .null, .int 0, .null, .null, .null, .null, .null, .null]))] (fun (_ : Nat → Nat) => True) (fun (q : Nat → Nat) => HW E (fun k => if k = 0 then b else q k) S0 (fun _ _ => 0)) := by
  refine MV_intro RX0 (by decide) rfl (Nat.le_of_ble_eq_true rfl) ?_
  intro p e R s m args below meth c A Q hQ hC hnm hD hW hA ls hl
  have hx := hC.1
  have hb := hC.2.1
  have hD : Dj A [b] := hD
  have hl : lv_has ls 1 [(0, .ref b)] := hl
  refine lv_aload_n hx hb dX0_init_0 rfl (lv_at hl 0 rfl) ?_
  refine r_obj0 hC loX0_3 lo_i lo_c hl.1 ⟨by decide, by decide⟩ (Nat.le_of_ble_eq_true rfl) dX0_init_1 ?_
  refine lv_aload_n hx hb dX0_init_4 rfl (lv_at hl 0 rfl) ?_
  refine lv_iconst (v := 0) hx hb dX0_init_5 (by decide) ?_
  refine r_put (ws' := [(b, .inr (0, [.int 0, .int 0, .int 0, .null, .null, .null, .null, .int 0, .null, .null, .null, .null, .null, .null]))]) hC hD hW fpX0_9 0 rfl rfl rfl (Nat.le_of_ble_eq_true rfl) rfl rfl dX0_init_6 (fun H locs hW => ?_)
  refine lv_aload_n hx hb dX0_init_9 rfl (lv_at hl 0 rfl) ?_
  refine lv_bipush (v := 60) hx hb dX0_init_10 (by decide) ?_
  refine r_put (ws' := [(b, .inr (0, [.int 0, .int 60, .int 0, .null, .null, .null, .null, .int 0, .null, .null, .null, .null, .null, .null]))]) hC hD hW fpX0_15 0 rfl rfl rfl (Nat.le_of_ble_eq_true rfl) rfl rfl dX0_init_12 (fun H locs hW => ?_)
  refine lv_aload_n hx hb dX0_init_15 rfl (lv_at hl 0 rfl) ?_
  refine lv_iconst (v := 0) hx hb dX0_init_16 (by decide) ?_
  refine r_put (ws' := [(b, .inr (0, [.int 0, .int 60, .int 0, .null, .null, .null, .null, .int 0, .null, .null, .null, .null, .null, .null]))]) hC hD hW fpX0_18 0 rfl rfl rfl (Nat.le_of_ble_eq_true rfl) rfl rfl dX0_init_17 (fun H locs hW => ?_)
  refine lv_aload_n hx hb dX0_init_20 rfl (lv_at hl 0 rfl) ?_
  refine lv_bipush (v := 6) hx hb dX0_init_21 (by decide) ?_
  refine r_newi hC hD hW hA rfl na_i 6 rfl (by decide) ⟨by decide, by decide⟩ dX0_init_23 (fun q1 H hD hW => ?_)
  refine r_putF (ws' := [(b, .inr (0, [.int 0, .int 60, .int 0, .ref q1, .null, .null, .null, .int 0, .null, .null, .null, .null, .null, .null])), (q1, .inl (E.2.1, 6, .inl (fun _ => 0)))]) hC (hnm rfl) hD hW ffX0_21 0 rfl rfl rfl (Nat.le_of_ble_eq_true rfl) rfl rfl dX0_init_25 (fun H locs hW => ?_)
  refine lv_aload_n hx hb dX0_init_28 rfl (lv_at hl 0 rfl) ?_
  refine lv_bipush (v := 6) hx hb dX0_init_29 (by decide) ?_
  refine r_newi hC hD hW hA rfl na_i 6 rfl (by decide) ⟨by decide, by decide⟩ dX0_init_31 (fun q2 H hD hW => ?_)
  refine r_putF (ws' := [(b, .inr (0, [.int 0, .int 60, .int 0, .ref q1, .ref q2, .null, .null, .int 0, .null, .null, .null, .null, .null, .null])), (q1, .inl (E.2.1, 6, .inl (fun _ => 0))), (q2, .inl (E.2.1, 6, .inl (fun _ => 0)))]) hC (hnm rfl) hD hW ffX0_25 0 rfl rfl rfl (Nat.le_of_ble_eq_true rfl) rfl rfl dX0_init_33 (fun H locs hW => ?_)
  refine lv_aload_n hx hb dX0_init_36 rfl (lv_at hl 0 rfl) ?_
  refine lv_bipush (v := 6) hx hb dX0_init_37 (by decide) ?_
  refine r_newi hC hD hW hA rfl na_i 6 rfl (by decide) ⟨by decide, by decide⟩ dX0_init_39 (fun q3 H hD hW => ?_)
  refine r_putF (ws' := [(b, .inr (0, [.int 0, .int 60, .int 0, .ref q1, .ref q2, .ref q3, .null, .int 0, .null, .null, .null, .null, .null, .null])), (q1, .inl (E.2.1, 6, .inl (fun _ => 0))), (q2, .inl (E.2.1, 6, .inl (fun _ => 0))), (q3, .inl (E.2.1, 6, .inl (fun _ => 0)))]) hC (hnm rfl) hD hW ffX0_28 0 rfl rfl rfl (Nat.le_of_ble_eq_true rfl) rfl rfl dX0_init_41 (fun H locs hW => ?_)
  refine lv_aload_n hx hb dX0_init_44 rfl (lv_at hl 0 rfl) ?_
  refine lv_bipush (v := 6) hx hb dX0_init_45 (by decide) ?_
  refine r_newi hC hD hW hA rfl na_i 6 rfl (by decide) ⟨by decide, by decide⟩ dX0_init_47 (fun q4 H hD hW => ?_)
  refine r_putF (ws' := [(b, .inr (0, [.int 0, .int 60, .int 0, .ref q1, .ref q2, .ref q3, .ref q4, .int 0, .null, .null, .null, .null, .null, .null])), (q1, .inl (E.2.1, 6, .inl (fun _ => 0))), (q2, .inl (E.2.1, 6, .inl (fun _ => 0))), (q3, .inl (E.2.1, 6, .inl (fun _ => 0))), (q4, .inl (E.2.1, 6, .inl (fun _ => 0)))]) hC (hnm rfl) hD hW ffX0_31 0 rfl rfl rfl (Nat.le_of_ble_eq_true rfl) rfl rfl dX0_init_49 (fun H locs hW => ?_)
  refine lv_aload_n hx hb dX0_init_52 rfl (lv_at hl 0 rfl) ?_
  refine lv_iconst (v := 0) hx hb dX0_init_53 (by decide) ?_
  refine r_put (ws' := [(b, .inr (0, [.int 0, .int 60, .int 0, .ref q1, .ref q2, .ref q3, .ref q4, .int 0, .null, .null, .null, .null, .null, .null])), (q1, .inl (E.2.1, 6, .inl (fun _ => 0))), (q2, .inl (E.2.1, 6, .inl (fun _ => 0))), (q3, .inl (E.2.1, 6, .inl (fun _ => 0))), (q4, .inl (E.2.1, 6, .inl (fun _ => 0)))]) hC hD hW fpX0_34 0 rfl rfl rfl (Nat.le_of_ble_eq_true rfl) rfl rfl dX0_init_54 (fun H locs hW => ?_)
  refine lv_aload_n hx hb dX0_init_57 rfl (lv_at hl 0 rfl) ?_
  refine lv_bipush (v := 10) hx hb dX0_init_58 (by decide) ?_
  refine r_newi hC hD hW hA rfl na_i 10 rfl (by decide) ⟨by decide, by decide⟩ dX0_init_60 (fun q5 H hD hW => ?_)
  refine r_putF (ws' := [(b, .inr (0, [.int 0, .int 60, .int 0, .ref q1, .ref q2, .ref q3, .ref q4, .int 0, .ref q5, .null, .null, .null, .null, .null])), (q1, .inl (E.2.1, 6, .inl (fun _ => 0))), (q2, .inl (E.2.1, 6, .inl (fun _ => 0))), (q3, .inl (E.2.1, 6, .inl (fun _ => 0))), (q4, .inl (E.2.1, 6, .inl (fun _ => 0))), (q5, .inl (E.2.1, 10, .inl (fun _ => 0)))]) hC (hnm rfl) hD hW ffX0_37 0 rfl rfl rfl (Nat.le_of_ble_eq_true rfl) rfl rfl dX0_init_62 (fun H locs hW => ?_)
  refine lv_aload_n hx hb dX0_init_65 rfl (lv_at hl 0 rfl) ?_
  refine lv_bipush (v := 10) hx hb dX0_init_66 (by decide) ?_
  refine r_newi hC hD hW hA rfl na_i 10 rfl (by decide) ⟨by decide, by decide⟩ dX0_init_68 (fun q6 H hD hW => ?_)
  refine r_putF (ws' := [(b, .inr (0, [.int 0, .int 60, .int 0, .ref q1, .ref q2, .ref q3, .ref q4, .int 0, .ref q5, .ref q6, .null, .null, .null, .null])), (q1, .inl (E.2.1, 6, .inl (fun _ => 0))), (q2, .inl (E.2.1, 6, .inl (fun _ => 0))), (q3, .inl (E.2.1, 6, .inl (fun _ => 0))), (q4, .inl (E.2.1, 6, .inl (fun _ => 0))), (q5, .inl (E.2.1, 10, .inl (fun _ => 0))), (q6, .inl (E.2.1, 10, .inl (fun _ => 0)))]) hC (hnm rfl) hD hW ffX0_40 0 rfl rfl rfl (Nat.le_of_ble_eq_true rfl) rfl rfl dX0_init_70 (fun H locs hW => ?_)
  refine lv_aload_n hx hb dX0_init_73 rfl (lv_at hl 0 rfl) ?_
  refine lv_bipush (v := 10) hx hb dX0_init_74 (by decide) ?_
  refine r_newi hC hD hW hA rfl na_i 10 rfl (by decide) ⟨by decide, by decide⟩ dX0_init_76 (fun q7 H hD hW => ?_)
  refine r_putF (ws' := [(b, .inr (0, [.int 0, .int 60, .int 0, .ref q1, .ref q2, .ref q3, .ref q4, .int 0, .ref q5, .ref q6, .ref q7, .null, .null, .null])), (q1, .inl (E.2.1, 6, .inl (fun _ => 0))), (q2, .inl (E.2.1, 6, .inl (fun _ => 0))), (q3, .inl (E.2.1, 6, .inl (fun _ => 0))), (q4, .inl (E.2.1, 6, .inl (fun _ => 0))), (q5, .inl (E.2.1, 10, .inl (fun _ => 0))), (q6, .inl (E.2.1, 10, .inl (fun _ => 0))), (q7, .inl (E.2.1, 10, .inl (fun _ => 0)))]) hC (hnm rfl) hD hW ffX0_43 0 rfl rfl rfl (Nat.le_of_ble_eq_true rfl) rfl rfl dX0_init_78 (fun H locs hW => ?_)
  refine lv_aload_n hx hb dX0_init_81 rfl (lv_at hl 0 rfl) ?_
  refine lv_bipush (v := 10) hx hb dX0_init_82 (by decide) ?_
  refine r_newi hC hD hW hA rfl na_i 10 rfl (by decide) ⟨by decide, by decide⟩ dX0_init_84 (fun q8 H hD hW => ?_)
  refine r_putF (ws' := [(b, .inr (0, [.int 0, .int 60, .int 0, .ref q1, .ref q2, .ref q3, .ref q4, .int 0, .ref q5, .ref q6, .ref q7, .ref q8, .null, .null])), (q1, .inl (E.2.1, 6, .inl (fun _ => 0))), (q2, .inl (E.2.1, 6, .inl (fun _ => 0))), (q3, .inl (E.2.1, 6, .inl (fun _ => 0))), (q4, .inl (E.2.1, 6, .inl (fun _ => 0))), (q5, .inl (E.2.1, 10, .inl (fun _ => 0))), (q6, .inl (E.2.1, 10, .inl (fun _ => 0))), (q7, .inl (E.2.1, 10, .inl (fun _ => 0))), (q8, .inl (E.2.1, 10, .inl (fun _ => 0)))]) hC (hnm rfl) hD hW ffX0_46 0 rfl rfl rfl (Nat.le_of_ble_eq_true rfl) rfl rfl dX0_init_86 (fun H locs hW => ?_)
  refine lv_aload_n hx hb dX0_init_89 rfl (lv_at hl 0 rfl) ?_
  refine lv_bipush (v := 6) hx hb dX0_init_90 (by decide) ?_
  refine r_newi hC hD hW hA rfl na_i 6 rfl (by decide) ⟨by decide, by decide⟩ dX0_init_92 (fun q9 H hD hW => ?_)
  refine r_putF (ws' := [(b, .inr (0, [.int 0, .int 60, .int 0, .ref q1, .ref q2, .ref q3, .ref q4, .int 0, .ref q5, .ref q6, .ref q7, .ref q8, .ref q9, .null])), (q1, .inl (E.2.1, 6, .inl (fun _ => 0))), (q2, .inl (E.2.1, 6, .inl (fun _ => 0))), (q3, .inl (E.2.1, 6, .inl (fun _ => 0))), (q4, .inl (E.2.1, 6, .inl (fun _ => 0))), (q5, .inl (E.2.1, 10, .inl (fun _ => 0))), (q6, .inl (E.2.1, 10, .inl (fun _ => 0))), (q7, .inl (E.2.1, 10, .inl (fun _ => 0))), (q8, .inl (E.2.1, 10, .inl (fun _ => 0))), (q9, .inl (E.2.1, 6, .inl (fun _ => 0)))]) hC (hnm rfl) hD hW ffX0_49 0 rfl rfl rfl (Nat.le_of_ble_eq_true rfl) rfl rfl dX0_init_94 (fun H locs hW => ?_)
  refine lv_aload_n hx hb dX0_init_97 rfl (lv_at hl 0 rfl) ?_
  refine lv_bipush (v := 6) hx hb dX0_init_98 (by decide) ?_
  refine r_newi hC hD hW hA rfl na_i 6 rfl (by decide) ⟨by decide, by decide⟩ dX0_init_100 (fun q10 H hD hW => ?_)
  refine r_putF (ws' := [(b, .inr (0, [.int 0, .int 60, .int 0, .ref q1, .ref q2, .ref q3, .ref q4, .int 0, .ref q5, .ref q6, .ref q7, .ref q8, .ref q9, .ref q10])), (q1, .inl (E.2.1, 6, .inl (fun _ => 0))), (q2, .inl (E.2.1, 6, .inl (fun _ => 0))), (q3, .inl (E.2.1, 6, .inl (fun _ => 0))), (q4, .inl (E.2.1, 6, .inl (fun _ => 0))), (q5, .inl (E.2.1, 10, .inl (fun _ => 0))), (q6, .inl (E.2.1, 10, .inl (fun _ => 0))), (q7, .inl (E.2.1, 10, .inl (fun _ => 0))), (q8, .inl (E.2.1, 10, .inl (fun _ => 0))), (q9, .inl (E.2.1, 6, .inl (fun _ => 0))), (q10, .inl (E.2.1, 6, .inl (fun _ => 0)))]) hC (hnm rfl) hD hW ffX0_52 0 rfl rfl rfl (Nat.le_of_ble_eq_true rfl) rfl rfl dX0_init_102 (fun H locs hW => ?_)
  exact r_vret hC hQ hD hW (fun k => if k = 1 then q1 else if k = 2 then q2 else if k = 3 then q3 else if k = 4 then q4 else if k = 5 then q5 else if k = 6 then q6 else if k = 7 then q7 else if k = 8 then q8 else if k = 9 then q9 else q10) trivial rfl rfl dX0_init_105
