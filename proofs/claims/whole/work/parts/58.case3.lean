section CASES
variable {p : Program} {l : Launch} {e : Env} {s : State} {m : MethodId} {below : List Frame} {meth : Method} {c : Code} {H : Heap} {locs : List Loc} {Q : State → Prop} {args : Array Value}
variable {E : Ev} {A : Nat → Prop} {sb L k pc : Nat} {xs : Nat → Int32} {o vl vt vk vy aa nn b ad av : NN} {qf : Nat → Option Nat} {ls : Array Slot} {rest : List Value}
set_option maxHeartbeats 4000000 in
theorem lc_home (hC : Cx p room_1 s m args meth c cL_law 4 RL ret E room_1) (hD : Dj A (asL o vl vt vk vy aa nn b)) (hA : ∀ q, s.heap.size ≤ q → A q) (hX : va_X sb L xs s s.heap) (hbl : sb < s.heap.size) (hbA : ¬ A sb) (hk : k + 6 ≤ L) (hL : L ≤ 3072) (hqf : ∀ i, i < 4 → qf i = some (aa i)) (hl : lv_has ls 4 [(3, .int (nI k)), (2, .ref (b 0)), (1, .ref (o 0)), (0, .ref sb)]) (hSX : SX ad av A s s.heap) (h : LI E A s.heap o vl vt vk vy aa nn b qf H locs)
    (kk : ∀ (H : Heap) (locs : List Loc), LI E A s.heap o vl vt vk vy aa nn b qf H locs → W p l e room_1 s m args below meth c H locs 600000 7302250 Q (F0 m 1301 ls [])) : W p l e room_1 s m args below meth c H locs 600000 7302250 Q (F0 m 934 ls []) := by
  obtain ⟨S, Tl, St, Tt, K, Tk, Kr, F, B, kp, it, y, tp, z, tl, Z, N, w, f3, f4, f11, f9, hS, hKK, hkp, hz6, hyl, hzl, ht1, hB, hZ, hW⟩ := h
  obtain ⟨P, G, hV⟩ := id hS
  have hx := hC.1
  have hb := hC.2.1
  refine lv_aload_n hx hb dL_law_934 rfl (lv_at hl 2 rfl) ?_
  refine r_callCis hC hD hW hA hSX lkL_113 (c_X4_home l E ad av o vl vt vk vy kp S Tl P G hV St Tt y tp tl ht1 hB hyl it) rfl rfl ⟨Nat.le_of_ble_eq_true rfl, Nat.le_of_ble_eq_true rfl, Nat.le_refl _, Nat.le_refl _⟩ [0, 5, 4, 1, 2] rfl rfl rfl (fun _ => rfl) hl.1 rfl rfl (Nat.le_of_ble_eq_true rfl) dL_law_935 (fun r1 u1 H locs g1 hW => ?_)
  have hW : Wd E A s.heap (wcat [CO o vl vt vk vy kp, HW E vl ((mHome S P G tp tl).2.1) Tl, HW E vt u1.2.1 Tt, HW E vk K Tk, TPW E vy u1.1 tp, [(o 1, .inr (1, [.ref (vy 0), .ref (vt 0), .int u1.2.2]))], [(o 2, .inl (E.2.2.2, 4, .inr (.inr (.inr (.inr qf)))))], SHc E aa nn B Z N 0, SHc E aa nn B Z N 1, SHc E aa nn B Z N 2, SHc E aa nn B Z N 3, IA E (o 3) 7 F, MJ b z w, IA E (b 1) 68 (enc S), IA E (b 2) 7 F, IA E (b 3) 68 f3, IA E (b 4) 68 f4, IA E (b 5) 120 tp, IA E (b 6) 4 B, IA E (b 7) 4 (szA Z), LA E (b 8) 160 (en4 N), LA E (b 9) 40 f9, IA E (b 10) 68 (enc Kr), IA E (b 11) 68 f11]) H locs := hW
  refine lv_aload_n hx hb dL_law_938 rfl (lv_at hl 1 rfl) ?_
  refine r_callCi hC hD hW hA lkL_116 (c_X5_home l E b z w tp tl ht1 hB hzl S P G hV f11) rfl rfl ⟨Nat.le_of_ble_eq_true rfl, Nat.le_of_ble_eq_true rfl, Nat.le_refl _, Nat.le_refl _⟩ [12, 17, 13, 23] rfl rfl rfl (fun _ => rfl) hl.1 rfl rfl (Nat.le_of_ble_eq_true rfl) dL_law_939 (fun r2 u2 H locs g2 hW => ?_)
  have hW : Wd E A s.heap (wcat [CO o vl vt vk vy kp, HW E vl ((mHome S P G tp tl).2.1) Tl, HW E vt u1.2.1 Tt, HW E vk K Tk, TPW E vy u1.1 tp, [(o 1, .inr (1, [.ref (vy 0), .ref (vt 0), .int u1.2.2]))], [(o 2, .inl (E.2.2.2, 4, .inr (.inr (.inr (.inr qf)))))], SHc E aa nn B Z N 0, SHc E aa nn B Z N 1, SHc E aa nn B Z N 2, SHc E aa nn B Z N 3, IA E (o 3) 7 F, MJ b u2.1.1 u2.1.2, IA E (b 1) 68 (enc ((mHome S P G tp tl).2.1)), IA E (b 2) 7 F, IA E (b 3) 68 f3, IA E (b 4) 68 f4, IA E (b 5) 120 tp, IA E (b 6) 4 B, IA E (b 7) 4 (szA Z), LA E (b 8) 160 (en4 N), LA E (b 9) 40 f9, IA E (b 10) 68 (enc Kr), IA E (b 11) 68 u2.2]) H locs := hW
  refine lv_icmp_eq (tgt := 1301) hx hb dL_law_942 (by decide) (fun _ => ?_) (fun hc => absurd (g1.1.trans g2.1.symm) hc)
  exact kk H locs ⟨(mHome S P G tp tl).2.1, Tl, u1.2.1, Tt, K, Tk, Kr, F, B, kp, u1.2.2, u1.1, tp, u2.1.1, 0, Z, N, u2.1.2, f3, f4, u2.2, f9, HX_home tp tl hV, hKK, hkp, g2.2.2.trans hz6, g1.2, g2.2.1, Nat.zero_le _, tBY_0, hZ, hW⟩
set_option maxHeartbeats 4000000 in
theorem lc_sheet (hC : Cx p room_1 s m args meth c cL_law 4 RL ret E room_1) (hD : Dj A (asL o vl vt vk vy aa nn b)) (hA : ∀ q, s.heap.size ≤ q → A q) (hX : va_X sb L xs s s.heap) (hbl : sb < s.heap.size) (hbA : ¬ A sb) (hk : k + 6 ≤ L) (hL : L ≤ 3072) (hqf : ∀ i, i < 4 → qf i = some (aa i)) (hl : lv_has ls 4 [(3, .int (nI k)), (2, .ref (b 0)), (1, .ref (o 0)), (0, .ref sb)]) (h : LI E A s.heap o vl vt vk vy aa nn b qf H locs)
    (kk : ∀ (H : Heap) (locs : List Loc), LI E A s.heap o vl vt vk vy aa nn b qf H locs → W p l e room_1 s m args below meth c H locs 600000 7302250 Q (F0 m 1301 ls [])) : W p l e room_1 s m args below meth c H locs 600000 7302250 Q (F0 m 947 ls []) := by
  obtain ⟨S, Tl, St, Tt, K, Tk, Kr, F, B, kp, it, y, tp, z, tl, Z, N, w, f3, f4, f11, f9, hS, hKK, hkp, hz6, hyl, hzl, ht1, hB, hZ, hW⟩ := h
  obtain ⟨P, G, hV⟩ := id hS
  have hx := hC.1
  have hb := hC.2.1
  obtain ⟨x1, h1⟩ : ∃ x, xs (k + 1) = x := ⟨_, rfl⟩
  obtain ⟨x2, h2⟩ : ∃ x, xs (k + 2) = x := ⟨_, rfl⟩
  obtain ⟨x3, h3⟩ : ∃ x, xs (k + 3) = x := ⟨_, rfl⟩
  refine lv_aload_n hx hb dL_law_947 rfl (lv_at hl 2 rfl) ?_
  refine r_scr (j := 1) hC hW hX hbl hbA hk hL hl (by decide) rfl h1 dL_law_948 dL_law_949 dL_law_950 dL_law_951 dL_law_952 ?_
  refine r_scr (j := 2) hC hW hX hbl hbA hk hL hl (by decide) rfl h2 dL_law_953 dL_law_954 dL_law_955 dL_law_956 dL_law_957 ?_
  refine r_scr (j := 3) hC hW hX hbl hbA hk hL hl (by decide) rfl h3 dL_law_958 dL_law_959 dL_law_960 dL_law_961 dL_law_962 ?_
  refine lr_sheet hC hD hW hA hqf hZ hl.1 dL_law_963 x1 x2 x3 (fun H locs hW => ?_)
  refine lv_aload_n hx hb dL_law_966 rfl (lv_at hl 1 rfl) ?_
  refine r_scr (j := 1) hC hW hX hbl hbA hk hL hl (by decide) rfl h1 dL_law_967 dL_law_968 dL_law_969 dL_law_970 dL_law_971 ?_
  refine r_scr (j := 2) hC hW hX hbl hbA hk hL hl (by decide) rfl h2 dL_law_972 dL_law_973 dL_law_974 dL_law_975 dL_law_976 ?_
  refine r_scr (j := 3) hC hW hX hbl hbA hk hL hl (by decide) rfl h3 dL_law_977 dL_law_978 dL_law_979 dL_law_980 dL_law_981 ?_
  refine r_callCi hC hD hW hA lkL_120 (c_X5_sheet l E b z w F B Z N hZ x1 x2 x3) rfl rfl ⟨Nat.le_of_ble_eq_true rfl, Nat.le_of_ble_eq_true rfl, Nat.le_refl _, Nat.le_refl _⟩ [12, 14, 18, 19, 20] rfl rfl rfl (fun _ => rfl) hl.1 rfl rfl (Nat.le_of_ble_eq_true rfl) dL_law_982 (fun r2 _ H locs g2 hW => ?_)
  have hW : Wd E A s.heap (wcat [CO o vl vt vk vy kp, HW E vl S Tl, HW E vt St Tt, HW E vk K Tk, TPW E vy y tp, [(o 1, .inr (1, [.ref (vy 0), .ref (vt 0), .int it]))], [(o 2, .inl (E.2.2.2, 4, .inr (.inr (.inr (.inr qf)))))], SHc E aa nn ((mSheet F B Z N x1 x2 x3).2.2.1) ((mSheet F B Z N x1 x2 x3).2.2.2.1) ((mSheet F B Z N x1 x2 x3).2.2.2.2) 0, SHc E aa nn ((mSheet F B Z N x1 x2 x3).2.2.1) ((mSheet F B Z N x1 x2 x3).2.2.2.1) ((mSheet F B Z N x1 x2 x3).2.2.2.2) 1, SHc E aa nn ((mSheet F B Z N x1 x2 x3).2.2.1) ((mSheet F B Z N x1 x2 x3).2.2.2.1) ((mSheet F B Z N x1 x2 x3).2.2.2.2) 2, SHc E aa nn ((mSheet F B Z N x1 x2 x3).2.2.1) ((mSheet F B Z N x1 x2 x3).2.2.2.1) ((mSheet F B Z N x1 x2 x3).2.2.2.2) 3, IA E (o 3) 7 ((mSheet F B Z N x1 x2 x3).2.1), MJ b z w, IA E (b 1) 68 (enc S), IA E (b 2) 7 ((mSheet F B Z N x1 x2 x3).2.1), IA E (b 3) 68 f3, IA E (b 4) 68 f4, IA E (b 5) 120 tp, IA E (b 6) 4 ((mSheet F B Z N x1 x2 x3).2.2.1), IA E (b 7) 4 (szA ((mSheet F B Z N x1 x2 x3).2.2.2.1)), LA E (b 8) 160 (en4 ((mSheet F B Z N x1 x2 x3).2.2.2.2)), LA E (b 9) 40 f9, IA E (b 10) 68 (enc Kr), IA E (b 11) 68 f11]) H locs := hW
  refine lv_icmp_eq (tgt := 1301) hx hb dL_law_985 (by decide) (fun _ => ?_) (fun hc => absurd (g2.symm) hc)
  exact kk H locs ⟨S, Tl, St, Tt, K, Tk, Kr, (mSheet F B Z N x1 x2 x3).2.1, (mSheet F B Z N x1 x2 x3).2.2.1, kp, it, y, tp, z, tl, (mSheet F B Z N x1 x2 x3).2.2.2.1, (mSheet F B Z N x1 x2 x3).2.2.2.2, w, f3, f4, f11, f9, hS, hKK, hkp, hz6, hyl, hzl, ht1, hB, ZX_sheet F B N x1 x2 x3 hZ, hW⟩
set_option maxHeartbeats 4000000 in
theorem lc_write (hC : Cx p room_1 s m args meth c cL_law 4 RL ret E room_1) (hD : Dj A (asL o vl vt vk vy aa nn b)) (hA : ∀ q, s.heap.size ≤ q → A q) (hX : va_X sb L xs s s.heap) (hbl : sb < s.heap.size) (hbA : ¬ A sb) (hk : k + 6 ≤ L) (hL : L ≤ 3072) (hqf : ∀ i, i < 4 → qf i = some (aa i)) (hl : lv_has ls 4 [(3, .int (nI k)), (2, .ref (b 0)), (1, .ref (o 0)), (0, .ref sb)]) (h : LI E A s.heap o vl vt vk vy aa nn b qf H locs)
    (kk : ∀ (H : Heap) (locs : List Loc), LI E A s.heap o vl vt vk vy aa nn b qf H locs → W p l e room_1 s m args below meth c H locs 600000 7302250 Q (F0 m 1301 ls [])) : W p l e room_1 s m args below meth c H locs 600000 7302250 Q (F0 m 990 ls []) := by
  obtain ⟨S, Tl, St, Tt, K, Tk, Kr, F, B, kp, it, y, tp, z, tl, Z, N, w, f3, f4, f11, f9, hS, hKK, hkp, hz6, hyl, hzl, ht1, hB, hZ, hW⟩ := h
  obtain ⟨P, G, hV⟩ := id hS
  have hx := hC.1
  have hb := hC.2.1
  obtain ⟨x1, h1⟩ : ∃ x, xs (k + 1) = x := ⟨_, rfl⟩
  obtain ⟨x2, h2⟩ : ∃ x, xs (k + 2) = x := ⟨_, rfl⟩
  obtain ⟨x3, h3⟩ : ∃ x, xs (k + 3) = x := ⟨_, rfl⟩
  obtain ⟨x4, h4⟩ : ∃ x, xs (k + 4) = x := ⟨_, rfl⟩
  obtain ⟨v, hv⟩ : ∃ v : Int64, x3.toInt64 <<< ((32 : Int32).toInt64 &&& 63) ||| x4.toInt64 &&& 4294967295 = v := ⟨_, rfl⟩
  refine lv_aload_n hx hb dL_law_990 rfl (lv_at hl 2 rfl) ?_
  refine r_scr (j := 1) hC hW hX hbl hbA hk hL hl (by decide) rfl h1 dL_law_991 dL_law_992 dL_law_993 dL_law_994 dL_law_995 ?_
  refine r_scr (j := 2) hC hW hX hbl hbA hk hL hl (by decide) rfl h2 dL_law_996 dL_law_997 dL_law_998 dL_law_999 dL_law_1000 ?_
  refine r_scr (j := 3) hC hW hX hbl hbA hk hL hl (by decide) rfl h3 dL_law_1001 dL_law_1002 dL_law_1003 dL_law_1004 dL_law_1005 ?_
  refine lv_i2l hx hb dL_law_1006 rfl ?_
  refine lv_bipush (v := 32) hx hb dL_law_1007 (by decide) ?_
  refine lv_lshl hx hb dL_law_1009 rfl ?_
  refine r_scr (j := 4) hC hW hX hbl hbA hk hL hl (by decide) rfl h4 dL_law_1010 dL_law_1011 dL_law_1012 dL_law_1013 dL_law_1014 ?_
  refine lv_i2l hx hb dL_law_1015 rfl ?_
  refine r_ldc2 hC clL_121 dL_law_1016 ?_
  refine lv_land hx hb dL_law_1019 ?_
  refine lv_lor hx hb dL_law_1020 ?_
  rw [hv]
  refine lr_write hC hD hW hA hqf hZ hl.1 dL_law_1021 x1 x2 v (fun H locs hW => ?_)
  refine lv_aload_n hx hb dL_law_1024 rfl (lv_at hl 1 rfl) ?_
  refine r_scr (j := 1) hC hW hX hbl hbA hk hL hl (by decide) rfl h1 dL_law_1025 dL_law_1026 dL_law_1027 dL_law_1028 dL_law_1029 ?_
  refine r_scr (j := 2) hC hW hX hbl hbA hk hL hl (by decide) rfl h2 dL_law_1030 dL_law_1031 dL_law_1032 dL_law_1033 dL_law_1034 ?_
  refine r_scr (j := 3) hC hW hX hbl hbA hk hL hl (by decide) rfl h3 dL_law_1035 dL_law_1036 dL_law_1037 dL_law_1038 dL_law_1039 ?_
  refine lv_i2l hx hb dL_law_1040 rfl ?_
  refine lv_bipush (v := 32) hx hb dL_law_1041 (by decide) ?_
  refine lv_lshl hx hb dL_law_1043 rfl ?_
  refine r_scr (j := 4) hC hW hX hbl hbA hk hL hl (by decide) rfl h4 dL_law_1044 dL_law_1045 dL_law_1046 dL_law_1047 dL_law_1048 ?_
  refine lv_i2l hx hb dL_law_1049 rfl ?_
  refine r_ldc2 hC clL_121 dL_law_1050 ?_
  refine lv_land hx hb dL_law_1053 ?_
  refine lv_lor hx hb dL_law_1054 ?_
  rw [hv]
  refine r_callCl hC hD hW hA lkL_127 (c_X5_write l E b z w F B Z N hZ x1 x2 v) rfl rfl ⟨Nat.le_of_ble_eq_true rfl, Nat.le_of_ble_eq_true rfl, Nat.le_refl _, Nat.le_refl _⟩ [12, 14, 18, 19, 20] rfl rfl rfl (fun _ => rfl) hl.1 rfl rfl (Nat.le_of_ble_eq_true rfl) dL_law_1055 (fun r2 _ H locs g2 hW => ?_)
  have hW : Wd E A s.heap (wcat [CO o vl vt vk vy kp, HW E vl S Tl, HW E vt St Tt, HW E vk K Tk, TPW E vy y tp, [(o 1, .inr (1, [.ref (vy 0), .ref (vt 0), .int it]))], [(o 2, .inl (E.2.2.2, 4, .inr (.inr (.inr (.inr qf)))))], SHc E aa nn B Z ((mWrite F B Z N x1 x2 v).2.2) 0, SHc E aa nn B Z ((mWrite F B Z N x1 x2 v).2.2) 1, SHc E aa nn B Z ((mWrite F B Z N x1 x2 v).2.2) 2, SHc E aa nn B Z ((mWrite F B Z N x1 x2 v).2.2) 3, IA E (o 3) 7 ((mWrite F B Z N x1 x2 v).2.1), MJ b z w, IA E (b 1) 68 (enc S), IA E (b 2) 7 ((mWrite F B Z N x1 x2 v).2.1), IA E (b 3) 68 f3, IA E (b 4) 68 f4, IA E (b 5) 120 tp, IA E (b 6) 4 B, IA E (b 7) 4 (szA Z), LA E (b 8) 160 (en4 ((mWrite F B Z N x1 x2 v).2.2)), LA E (b 9) 40 f9, IA E (b 10) 68 (enc Kr), IA E (b 11) 68 f11]) H locs := hW
  refine W.lcmp hx hb dL_law_1058 ?_
  rw [show r2 = _ from g2]
  refine lv_if_eq (tgt := 1301) hx hb dL_law_1059 (by decide) (fun _ => ?_) (fun hc => absurd (lg_cmp_self _) hc)
  exact kk H locs ⟨S, Tl, St, Tt, K, Tk, Kr, (mWrite F B Z N x1 x2 v).2.1, B, kp, it, y, tp, z, tl, Z, (mWrite F B Z N x1 x2 v).2.2, w, f3, f4, f11, f9, hS, hKK, hkp, hz6, hyl, hzl, ht1, hB, hZ, hW⟩
set_option maxHeartbeats 4000000 in
theorem lc_copy (hC : Cx p room_1 s m args meth c cL_law 4 RL ret E room_1) (hD : Dj A (asL o vl vt vk vy aa nn b)) (hA : ∀ q, s.heap.size ≤ q → A q) (hX : va_X sb L xs s s.heap) (hbl : sb < s.heap.size) (hbA : ¬ A sb) (hk : k + 6 ≤ L) (hL : L ≤ 3072) (hqf : ∀ i, i < 4 → qf i = some (aa i)) (hl : lv_has ls 4 [(3, .int (nI k)), (2, .ref (b 0)), (1, .ref (o 0)), (0, .ref sb)]) (h : LI E A s.heap o vl vt vk vy aa nn b qf H locs)
    (kk : ∀ (H : Heap) (locs : List Loc), LI E A s.heap o vl vt vk vy aa nn b qf H locs → W p l e room_1 s m args below meth c H locs 600000 7302250 Q (F0 m 1301 ls [])) : W p l e room_1 s m args below meth c H locs 600000 7302250 Q (F0 m 1064 ls []) := by
  obtain ⟨S, Tl, St, Tt, K, Tk, Kr, F, B, kp, it, y, tp, z, tl, Z, N, w, f3, f4, f11, f9, hS, hKK, hkp, hz6, hyl, hzl, ht1, hB, hZ, hW⟩ := h
  obtain ⟨P, G, hV⟩ := id hS
  have hx := hC.1
  have hb := hC.2.1
  obtain ⟨x1, h1⟩ : ∃ x, xs (k + 1) = x := ⟨_, rfl⟩
  obtain ⟨x2, h2⟩ : ∃ x, xs (k + 2) = x := ⟨_, rfl⟩
  obtain ⟨x3, h3⟩ : ∃ x, xs (k + 3) = x := ⟨_, rfl⟩
  obtain ⟨x4, h4⟩ : ∃ x, xs (k + 4) = x := ⟨_, rfl⟩
  obtain ⟨x5, h5⟩ : ∃ x, xs (k + 5) = x := ⟨_, rfl⟩
  refine lv_aload_n hx hb dL_law_1064 rfl (lv_at hl 2 rfl) ?_
  refine r_scr (j := 1) hC hW hX hbl hbA hk hL hl (by decide) rfl h1 dL_law_1065 dL_law_1066 dL_law_1067 dL_law_1068 dL_law_1069 ?_
  refine r_scr (j := 2) hC hW hX hbl hbA hk hL hl (by decide) rfl h2 dL_law_1070 dL_law_1071 dL_law_1072 dL_law_1073 dL_law_1074 ?_
  refine r_scr (j := 3) hC hW hX hbl hbA hk hL hl (by decide) rfl h3 dL_law_1075 dL_law_1076 dL_law_1077 dL_law_1078 dL_law_1079 ?_
  refine r_scr (j := 4) hC hW hX hbl hbA hk hL hl (by decide) rfl h4 dL_law_1080 dL_law_1081 dL_law_1082 dL_law_1083 dL_law_1084 ?_
  refine r_scr (j := 5) hC hW hX hbl hbA hk hL hl (by decide) rfl h5 dL_law_1085 dL_law_1086 dL_law_1087 dL_law_1088 dL_law_1089 ?_
  refine lr_copy hC hD hW hA hqf hZ hl.1 dL_law_1090 x1 x2 x3 x4 x5 (fun H locs hW => ?_)
  refine lv_aload_n hx hb dL_law_1093 rfl (lv_at hl 1 rfl) ?_
  refine r_scr (j := 1) hC hW hX hbl hbA hk hL hl (by decide) rfl h1 dL_law_1094 dL_law_1095 dL_law_1096 dL_law_1097 dL_law_1098 ?_
  refine r_scr (j := 2) hC hW hX hbl hbA hk hL hl (by decide) rfl h2 dL_law_1099 dL_law_1100 dL_law_1101 dL_law_1102 dL_law_1103 ?_
  refine r_scr (j := 3) hC hW hX hbl hbA hk hL hl (by decide) rfl h3 dL_law_1104 dL_law_1105 dL_law_1106 dL_law_1107 dL_law_1108 ?_
  refine r_scr (j := 4) hC hW hX hbl hbA hk hL hl (by decide) rfl h4 dL_law_1109 dL_law_1110 dL_law_1111 dL_law_1112 dL_law_1113 ?_
  refine r_scr (j := 5) hC hW hX hbl hbA hk hL hl (by decide) rfl h5 dL_law_1114 dL_law_1115 dL_law_1116 dL_law_1117 dL_law_1118 ?_
  refine r_callCi hC hD hW hA lkL_132 (c_X5_copy l E b z w F B Z N hZ f9 x1 x2 x3 x4 x5) rfl rfl ⟨Nat.le_of_ble_eq_true rfl, Nat.le_of_ble_eq_true rfl, Nat.le_refl _, Nat.le_refl _⟩ [12, 14, 18, 19, 20, 21] rfl rfl rfl (fun _ => rfl) hl.1 rfl rfl (Nat.le_of_ble_eq_true rfl) dL_law_1119 (fun r2 u2 H locs g2 hW => ?_)
  have hW : Wd E A s.heap (wcat [CO o vl vt vk vy kp, HW E vl S Tl, HW E vt St Tt, HW E vk K Tk, TPW E vy y tp, [(o 1, .inr (1, [.ref (vy 0), .ref (vt 0), .int it]))], [(o 2, .inl (E.2.2.2, 4, .inr (.inr (.inr (.inr qf)))))], SHc E aa nn B Z ((mCopy F B Z N x1 x2 x3 x4 x5).2.2) 0, SHc E aa nn B Z ((mCopy F B Z N x1 x2 x3 x4 x5).2.2) 1, SHc E aa nn B Z ((mCopy F B Z N x1 x2 x3 x4 x5).2.2) 2, SHc E aa nn B Z ((mCopy F B Z N x1 x2 x3 x4 x5).2.2) 3, IA E (o 3) 7 ((mCopy F B Z N x1 x2 x3 x4 x5).2.1), MJ b z w, IA E (b 1) 68 (enc S), IA E (b 2) 7 ((mCopy F B Z N x1 x2 x3 x4 x5).2.1), IA E (b 3) 68 f3, IA E (b 4) 68 f4, IA E (b 5) 120 tp, IA E (b 6) 4 B, IA E (b 7) 4 (szA Z), LA E (b 8) 160 (en4 ((mCopy F B Z N x1 x2 x3 x4 x5).2.2)), LA E (b 9) 40 u2, IA E (b 10) 68 (enc Kr), IA E (b 11) 68 f11]) H locs := hW
  refine lv_icmp_eq (tgt := 1301) hx hb dL_law_1122 (by decide) (fun _ => ?_) (fun hc => absurd (g2.symm) hc)
  exact kk H locs ⟨S, Tl, St, Tt, K, Tk, Kr, (mCopy F B Z N x1 x2 x3 x4 x5).2.1, B, kp, it, y, tp, z, tl, Z, (mCopy F B Z N x1 x2 x3 x4 x5).2.2, w, f3, f4, f11, u2, hS, hKK, hkp, hz6, hyl, hzl, ht1, hB, hZ, hW⟩
set_option maxHeartbeats 4000000 in
theorem lc_lays (hC : Cx p room_1 s m args meth c cL_law 4 RL ret E room_1) (hD : Dj A (asL o vl vt vk vy aa nn b)) (hA : ∀ q, s.heap.size ≤ q → A q) (hX : va_X sb L xs s s.heap) (hbl : sb < s.heap.size) (hbA : ¬ A sb) (hk : k + 6 ≤ L) (hL : L ≤ 3072) (hqf : ∀ i, i < 4 → qf i = some (aa i)) (hl : lv_has ls 4 [(3, .int (nI k)), (2, .ref (b 0)), (1, .ref (o 0)), (0, .ref sb)]) (h : LI E A s.heap o vl vt vk vy aa nn b qf H locs)
    (kk : ∀ (H : Heap) (locs : List Loc), LI E A s.heap o vl vt vk vy aa nn b qf H locs → W p l e room_1 s m args below meth c H locs 600000 7302250 Q (F0 m 1301 ls [])) : W p l e room_1 s m args below meth c H locs 600000 7302250 Q (F0 m 1127 ls []) := by
  obtain ⟨S, Tl, St, Tt, K, Tk, Kr, F, B, kp, it, y, tp, z, tl, Z, N, w, f3, f4, f11, f9, hS, hKK, hkp, hz6, hyl, hzl, ht1, hB, hZ, hW⟩ := h
  obtain ⟨P, G, hV⟩ := id hS
  have hx := hC.1
  have hb := hC.2.1
  obtain ⟨x1, h1⟩ : ∃ x, xs (k + 1) = x := ⟨_, rfl⟩
  refine lv_aload_n hx hb dL_law_1127 rfl (lv_at hl 2 rfl) ?_
  refine r_scr (j := 1) hC hW hX hbl hbA hk hL hl (by decide) rfl h1 dL_law_1128 dL_law_1129 dL_law_1130 dL_law_1131 dL_law_1132 ?_
  refine lr_lays hC hD hW hA hV hqf hZ hl.1 dL_law_1133 x1 (fun H locs hW => ?_)
  refine lv_aload_n hx hb dL_law_1136 rfl (lv_at hl 1 rfl) ?_
  refine r_scr (j := 1) hC hW hX hbl hbA hk hL hl (by decide) rfl h1 dL_law_1137 dL_law_1138 dL_law_1139 dL_law_1140 dL_law_1141 ?_
  refine r_callCi hC hD hW hA lkL_136 (c_X5_lays l E b z w S F P G hV B Z N hZ x1) rfl rfl ⟨Nat.le_of_ble_eq_true rfl, Nat.le_of_ble_eq_true rfl, Nat.le_refl _, Nat.le_refl _⟩ [12, 13, 14, 18, 19, 20] rfl rfl rfl (fun _ => rfl) hl.1 rfl rfl (Nat.le_of_ble_eq_true rfl) dL_law_1142 (fun r2 _ H locs g2 hW => ?_)
  have hW : Wd E A s.heap (wcat [CO o vl vt vk vy kp, HW E vl ((mLays S F G B Z N x1).2.1) Tl, HW E vt St Tt, HW E vk K Tk, TPW E vy y tp, [(o 1, .inr (1, [.ref (vy 0), .ref (vt 0), .int it]))], [(o 2, .inl (E.2.2.2, 4, .inr (.inr (.inr (.inr qf)))))], SHc E aa nn B Z N 0, SHc E aa nn B Z N 1, SHc E aa nn B Z N 2, SHc E aa nn B Z N 3, IA E (o 3) 7 ((mLays S F G B Z N x1).2.2), MJ b z w, IA E (b 1) 68 (enc ((mLays S F G B Z N x1).2.1)), IA E (b 2) 7 ((mLays S F G B Z N x1).2.2), IA E (b 3) 68 f3, IA E (b 4) 68 f4, IA E (b 5) 120 tp, IA E (b 6) 4 B, IA E (b 7) 4 (szA Z), LA E (b 8) 160 (en4 N), LA E (b 9) 40 f9, IA E (b 10) 68 (enc Kr), IA E (b 11) 68 f11]) H locs := hW
  refine lv_icmp_eq (tgt := 1301) hx hb dL_law_1145 (by decide) (fun _ => ?_) (fun hc => absurd (g2.symm) hc)
  exact kk H locs ⟨(mLays S F G B Z N x1).2.1, Tl, St, Tt, K, Tk, Kr, (mLays S F G B Z N x1).2.2, B, kp, it, y, tp, z, tl, Z, N, w, f3, f4, f11, f9, HX_lays F B Z N x1 hV, hKK, hkp, hz6, hyl, hzl, ht1, hB, hZ, hW⟩
set_option maxHeartbeats 4000000 in
theorem lc_book (hC : Cx p room_1 s m args meth c cL_law 4 RL ret E room_1) (hD : Dj A (asL o vl vt vk vy aa nn b)) (hA : ∀ q, s.heap.size ≤ q → A q) (hX : va_X sb L xs s s.heap) (hbl : sb < s.heap.size) (hbA : ¬ A sb) (hk : k + 6 ≤ L) (hL : L ≤ 3072) (hqf : ∀ i, i < 4 → qf i = some (aa i)) (hl : lv_has ls 4 [(3, .int (nI k)), (2, .ref (b 0)), (1, .ref (o 0)), (0, .ref sb)]) (h : LI E A s.heap o vl vt vk vy aa nn b qf H locs)
    (kk : ∀ (H : Heap) (locs : List Loc), LI E A s.heap o vl vt vk vy aa nn b qf H locs → W p l e room_1 s m args below meth c H locs 600000 7302250 Q (F0 m 1301 ls [])) : W p l e room_1 s m args below meth c H locs 600000 7302250 Q (F0 m 1150 ls []) := by
  obtain ⟨S, Tl, St, Tt, K, Tk, Kr, F, B, kp, it, y, tp, z, tl, Z, N, w, f3, f4, f11, f9, hS, hKK, hkp, hz6, hyl, hzl, ht1, hB, hZ, hW⟩ := h
  obtain ⟨P, G, hV⟩ := id hS
  have hx := hC.1
  have hb := hC.2.1
  obtain ⟨x1, h1⟩ : ∃ x, xs (k + 1) = x := ⟨_, rfl⟩
  obtain ⟨x2, h2⟩ : ∃ x, xs (k + 2) = x := ⟨_, rfl⟩
  refine lv_aload_n hx hb dL_law_1150 rfl (lv_at hl 2 rfl) ?_
  refine r_scr (j := 1) hC hW hX hbl hbA hk hL hl (by decide) rfl h1 dL_law_1151 dL_law_1152 dL_law_1153 dL_law_1154 dL_law_1155 ?_
  refine r_scr (j := 2) hC hW hX hbl hbA hk hL hl (by decide) rfl h2 dL_law_1156 dL_law_1157 dL_law_1158 dL_law_1159 dL_law_1160 ?_
  refine lr_book hC hD hW hA hV hqf hZ hl.1 dL_law_1161 x1 x2 (fun Sa Ta H locs hW => ?_)
  refine lv_aload_n hx hb dL_law_1164 rfl (lv_at hl 1 rfl) ?_
  refine r_scr (j := 1) hC hW hX hbl hbA hk hL hl (by decide) rfl h1 dL_law_1165 dL_law_1166 dL_law_1167 dL_law_1168 dL_law_1169 ?_
  refine r_scr (j := 2) hC hW hX hbl hbA hk hL hl (by decide) rfl h2 dL_law_1170 dL_law_1171 dL_law_1172 dL_law_1173 dL_law_1174 ?_
  refine r_callCi hC hD hW hA lkL_140 (c_X5_book l E b z w S F P G hV B Z N hZ f3 x1 x2) rfl rfl ⟨Nat.le_of_ble_eq_true rfl, Nat.le_of_ble_eq_true rfl, Nat.le_refl _, Nat.le_refl _⟩ [12, 13, 14, 15, 18, 19, 20] rfl rfl rfl (fun _ => rfl) hl.1 rfl rfl (Nat.le_of_ble_eq_true rfl) dL_law_1175 (fun r2 u2 H locs g2 hW => ?_)
  have hW : Wd E A s.heap (wcat [CO o vl vt vk vy kp, HW E vl S Tl, HW E vt Sa Ta, HW E vk K Tk, TPW E vy y tp, [(o 1, .inr (1, [.ref (vy 0), .ref (vt 0), .int it]))], [(o 2, .inl (E.2.2.2, 4, .inr (.inr (.inr (.inr qf)))))], SHc E aa nn B Z ((mBook S F P G B Z N x1 x2).2.2) 0, SHc E aa nn B Z ((mBook S F P G B Z N x1 x2).2.2) 1, SHc E aa nn B Z ((mBook S F P G B Z N x1 x2).2.2) 2, SHc E aa nn B Z ((mBook S F P G B Z N x1 x2).2.2) 3, IA E (o 3) 7 ((mBook S F P G B Z N x1 x2).2.1), MJ b z w, IA E (b 1) 68 (enc S), IA E (b 2) 7 ((mBook S F P G B Z N x1 x2).2.1), IA E (b 3) 68 u2, IA E (b 4) 68 f4, IA E (b 5) 120 tp, IA E (b 6) 4 B, IA E (b 7) 4 (szA Z), LA E (b 8) 160 (en4 ((mBook S F P G B Z N x1 x2).2.2)), LA E (b 9) 40 f9, IA E (b 10) 68 (enc Kr), IA E (b 11) 68 f11]) H locs := hW
  refine lv_icmp_eq (tgt := 1301) hx hb dL_law_1178 (by decide) (fun _ => ?_) (fun hc => absurd (g2.symm) hc)
  exact kk H locs ⟨S, Tl, Sa, Ta, K, Tk, Kr, (mBook S F P G B Z N x1 x2).2.1, B, kp, it, y, tp, z, tl, Z, (mBook S F P G B Z N x1 x2).2.2, w, u2, f4, f11, f9, hS, hKK, hkp, hz6, hyl, hzl, ht1, hB, hZ, hW⟩
set_option maxHeartbeats 4000000 in
theorem lc_read (hC : Cx p room_1 s m args meth c cL_law 4 RL ret E room_1) (hD : Dj A (asL o vl vt vk vy aa nn b)) (hA : ∀ q, s.heap.size ≤ q → A q) (hX : va_X sb L xs s s.heap) (hbl : sb < s.heap.size) (hbA : ¬ A sb) (hk : k + 6 ≤ L) (hL : L ≤ 3072) (hqf : ∀ i, i < 4 → qf i = some (aa i)) (hl : lv_has ls 4 [(3, .int (nI k)), (2, .ref (b 0)), (1, .ref (o 0)), (0, .ref sb)]) (h : LI E A s.heap o vl vt vk vy aa nn b qf H locs)
    (kk : ∀ (H : Heap) (locs : List Loc), LI E A s.heap o vl vt vk vy aa nn b qf H locs → W p l e room_1 s m args below meth c H locs 600000 7302250 Q (F0 m 1301 ls [])) : W p l e room_1 s m args below meth c H locs 600000 7302250 Q (F0 m 1183 ls []) := by
  obtain ⟨S, Tl, St, Tt, K, Tk, Kr, F, B, kp, it, y, tp, z, tl, Z, N, w, f3, f4, f11, f9, hS, hKK, hkp, hz6, hyl, hzl, ht1, hB, hZ, hW⟩ := h
  obtain ⟨P, G, hV⟩ := id hS
  have hx := hC.1
  have hb := hC.2.1
  obtain ⟨x1, h1⟩ : ∃ x, xs (k + 1) = x := ⟨_, rfl⟩
  obtain ⟨x2, h2⟩ : ∃ x, xs (k + 2) = x := ⟨_, rfl⟩
  refine lv_aload_n hx hb dL_law_1183 rfl (lv_at hl 2 rfl) ?_
  refine r_scr (j := 1) hC hW hX hbl hbA hk hL hl (by decide) rfl h1 dL_law_1184 dL_law_1185 dL_law_1186 dL_law_1187 dL_law_1188 ?_
  refine r_scr (j := 2) hC hW hX hbl hbA hk hL hl (by decide) rfl h2 dL_law_1189 dL_law_1190 dL_law_1191 dL_law_1192 dL_law_1193 ?_
  refine lr_read hC hD hW hA hV hqf hZ hl.1 dL_law_1194 x1 x2 (fun Sa Ta H locs hW => ?_)
  refine lv_aload_n hx hb dL_law_1197 rfl (lv_at hl 1 rfl) ?_
  refine r_scr (j := 1) hC hW hX hbl hbA hk hL hl (by decide) rfl h1 dL_law_1198 dL_law_1199 dL_law_1200 dL_law_1201 dL_law_1202 ?_
  refine r_scr (j := 2) hC hW hX hbl hbA hk hL hl (by decide) rfl h2 dL_law_1203 dL_law_1204 dL_law_1205 dL_law_1206 dL_law_1207 ?_
  refine r_callCi hC hD hW hA lkL_144 (c_X5_read l E b z w S F P G hV B Z N hZ f4 x1 x2) rfl rfl ⟨Nat.le_of_ble_eq_true rfl, Nat.le_of_ble_eq_true rfl, Nat.le_refl _, Nat.le_refl _⟩ [12, 13, 14, 16, 18, 19, 20] rfl rfl rfl (fun _ => rfl) hl.1 rfl rfl (Nat.le_of_ble_eq_true rfl) dL_law_1208 (fun r2 u2 H locs g2 hW => ?_)
  have hW : Wd E A s.heap (wcat [CO o vl vt vk vy kp, HW E vl S Tl, HW E vt Sa Ta, HW E vk K Tk, TPW E vy y tp, [(o 1, .inr (1, [.ref (vy 0), .ref (vt 0), .int it]))], [(o 2, .inl (E.2.2.2, 4, .inr (.inr (.inr (.inr qf)))))], SHc E aa nn B Z N 0, SHc E aa nn B Z N 1, SHc E aa nn B Z N 2, SHc E aa nn B Z N 3, IA E (o 3) 7 ((mRead S F P G B Z N x1 x2).2), MJ b z w, IA E (b 1) 68 (enc S), IA E (b 2) 7 ((mRead S F P G B Z N x1 x2).2), IA E (b 3) 68 f3, IA E (b 4) 68 u2, IA E (b 5) 120 tp, IA E (b 6) 4 B, IA E (b 7) 4 (szA Z), LA E (b 8) 160 (en4 N), LA E (b 9) 40 f9, IA E (b 10) 68 (enc Kr), IA E (b 11) 68 f11]) H locs := hW
  refine lv_icmp_eq (tgt := 1301) hx hb dL_law_1211 (by decide) (fun _ => ?_) (fun hc => absurd (g2.symm) hc)
  exact kk H locs ⟨S, Tl, Sa, Ta, K, Tk, Kr, (mRead S F P G B Z N x1 x2).2, B, kp, it, y, tp, z, tl, Z, N, w, f3, u2, f11, f9, hS, hKK, hkp, hz6, hyl, hzl, ht1, hB, hZ, hW⟩
set_option maxHeartbeats 4000000 in
theorem lc_image (hC : Cx p room_1 s m args meth c cL_law 4 RL ret E room_1) (hD : Dj A (asL o vl vt vk vy aa nn b)) (hA : ∀ q, s.heap.size ≤ q → A q) (hX : va_X sb L xs s s.heap) (hbl : sb < s.heap.size) (hbA : ¬ A sb) (hk : k + 6 ≤ L) (hL : L ≤ 3072) (hqf : ∀ i, i < 4 → qf i = some (aa i)) (hl : lv_has ls 4 [(3, .int (nI k)), (2, .ref (b 0)), (1, .ref (o 0)), (0, .ref sb)]) (h : LI E A s.heap o vl vt vk vy aa nn b qf H locs)
    (kk : ∀ (H : Heap) (locs : List Loc), LI E A s.heap o vl vt vk vy aa nn b qf H locs → W p l e room_1 s m args below meth c H locs 600000 7302250 Q (F0 m 1301 ls [])) : W p l e room_1 s m args below meth c H locs 600000 7302250 Q (F0 m 1216 ls []) := by
  obtain ⟨S, Tl, St, Tt, K, Tk, Kr, F, B, kp, it, y, tp, z, tl, Z, N, w, f3, f4, f11, f9, hS, hKK, hkp, hz6, hyl, hzl, ht1, hB, hZ, hW⟩ := h
  obtain ⟨P, G, hV⟩ := id hS
  have hx := hC.1
  have hb := hC.2.1
  refine lv_aload_n hx hb dL_law_1216 rfl (lv_at hl 2 rfl) ?_
  refine r_callCi hC hD hW hA lkL_145 (c_X4_image l E o vl vt vk vy kp S Tl K Tk) rfl rfl ⟨Nat.le_of_ble_eq_true rfl, Nat.le_of_ble_eq_true rfl, Nat.le_refl _, Nat.le_refl _⟩ [0, 1, 3] rfl rfl rfl (fun _ => rfl) hl.1 rfl rfl (Nat.le_of_ble_eq_true rfl) dL_law_1217 (fun r1 _ H locs g1 hW => ?_)
  have hW : Wd E A s.heap (wcat [CO o vl vt vk vy 1, HW E vl S Tl, HW E vt St Tt, HW E vk S Tk, TPW E vy y tp, [(o 1, .inr (1, [.ref (vy 0), .ref (vt 0), .int it]))], [(o 2, .inl (E.2.2.2, 4, .inr (.inr (.inr (.inr qf)))))], SHc E aa nn B Z N 0, SHc E aa nn B Z N 1, SHc E aa nn B Z N 2, SHc E aa nn B Z N 3, IA E (o 3) 7 F, MJ b z w, IA E (b 1) 68 (enc S), IA E (b 2) 7 F, IA E (b 3) 68 f3, IA E (b 4) 68 f4, IA E (b 5) 120 tp, IA E (b 6) 4 B, IA E (b 7) 4 (szA Z), LA E (b 8) 160 (en4 N), LA E (b 9) 40 f9, IA E (b 10) 68 (enc Kr), IA E (b 11) 68 f11]) H locs := hW
  refine lv_aload_n hx hb dL_law_1220 rfl (lv_at hl 1 rfl) ?_
  refine r_callCi hC hD hW hA lkL_148 (c_X5_image l E b z w S (enc Kr)) rfl rfl ⟨Nat.le_of_ble_eq_true rfl, Nat.le_of_ble_eq_true rfl, Nat.le_refl _, Nat.le_refl _⟩ [12, 13, 22] rfl rfl rfl (fun _ => rfl) hl.1 rfl rfl (Nat.le_of_ble_eq_true rfl) dL_law_1221 (fun r2 _ H locs g2 hW => ?_)
  have hW : Wd E A s.heap (wcat [CO o vl vt vk vy 1, HW E vl S Tl, HW E vt St Tt, HW E vk S Tk, TPW E vy y tp, [(o 1, .inr (1, [.ref (vy 0), .ref (vt 0), .int it]))], [(o 2, .inl (E.2.2.2, 4, .inr (.inr (.inr (.inr qf)))))], SHc E aa nn B Z N 0, SHc E aa nn B Z N 1, SHc E aa nn B Z N 2, SHc E aa nn B Z N 3, IA E (o 3) 7 F, MJ b (upd z 6 1) w, IA E (b 1) 68 (enc S), IA E (b 2) 7 F, IA E (b 3) 68 f3, IA E (b 4) 68 f4, IA E (b 5) 120 tp, IA E (b 6) 4 B, IA E (b 7) 4 (szA Z), LA E (b 8) 160 (en4 N), LA E (b 9) 40 f9, IA E (b 10) 68 (enc S), IA E (b 11) 68 f11]) H locs := hW
  refine lv_icmp_eq (tgt := 1301) hx hb dL_law_1224 (by decide) (fun _ => ?_) (fun hc => absurd (g1.trans g2.symm) hc)
  exact kk H locs ⟨S, Tl, St, Tt, S, Tk, S, F, B, 1, it, y, tp, upd z 6 1, tl, Z, N, w, f3, f4, f11, f9, hS, fun _ => ⟨rfl, hS⟩, Or.inr rfl, rfl, hyl, hzl, ht1, hB, hZ, hW⟩
set_option maxHeartbeats 4000000 in
theorem lc_undo (hC : Cx p room_1 s m args meth c cL_law 4 RL ret E room_1) (hD : Dj A (asL o vl vt vk vy aa nn b)) (hA : ∀ q, s.heap.size ≤ q → A q) (hX : va_X sb L xs s s.heap) (hbl : sb < s.heap.size) (hbA : ¬ A sb) (hk : k + 6 ≤ L) (hL : L ≤ 3072) (hqf : ∀ i, i < 4 → qf i = some (aa i)) (hl : lv_has ls 4 [(3, .int (nI k)), (2, .ref (b 0)), (1, .ref (o 0)), (0, .ref sb)]) (h : LI E A s.heap o vl vt vk vy aa nn b qf H locs)
    (kk : ∀ (H : Heap) (locs : List Loc), LI E A s.heap o vl vt vk vy aa nn b qf H locs → W p l e room_1 s m args below meth c H locs 600000 7302250 Q (F0 m 1301 ls [])) : W p l e room_1 s m args below meth c H locs 600000 7302250 Q (F0 m 1229 ls []) := by
  obtain ⟨S, Tl, St, Tt, K, Tk, Kr, F, B, kp, it, y, tp, z, tl, Z, N, w, f3, f4, f11, f9, hS, hKK, hkp, hz6, hyl, hzl, ht1, hB, hZ, hW⟩ := h
  obtain ⟨P, G, hV⟩ := id hS
  have hx := hC.1
  have hb := hC.2.1
  refine lv_aload_n hx hb dL_law_1229 rfl (lv_at hl 2 rfl) ?_
  refine r_callCi hC hD hW hA lkL_149 (c_X4_undo l E o vl vt vk vy kp S Tl F K Tk) rfl rfl ⟨Nat.le_of_ble_eq_true rfl, Nat.le_of_ble_eq_true rfl, Nat.le_refl _, Nat.le_refl _⟩ [0, 11, 1, 3] rfl rfl rfl (fun _ => rfl) hl.1 rfl rfl (Nat.le_of_ble_eq_true rfl) dL_law_1230 (fun r1 _ H locs g1 hW => ?_)
  have hW : Wd E A s.heap (wcat [CO o vl vt vk vy kp, HW E vl ((mUndo S K F kp).2.1) Tl, HW E vt St Tt, HW E vk K Tk, TPW E vy y tp, [(o 1, .inr (1, [.ref (vy 0), .ref (vt 0), .int it]))], [(o 2, .inl (E.2.2.2, 4, .inr (.inr (.inr (.inr qf)))))], SHc E aa nn B Z N 0, SHc E aa nn B Z N 1, SHc E aa nn B Z N 2, SHc E aa nn B Z N 3, IA E (o 3) 7 ((mUndo S K F kp).2.2), MJ b z w, IA E (b 1) 68 (enc S), IA E (b 2) 7 F, IA E (b 3) 68 f3, IA E (b 4) 68 f4, IA E (b 5) 120 tp, IA E (b 6) 4 B, IA E (b 7) 4 (szA Z), LA E (b 8) 160 (en4 N), LA E (b 9) 40 f9, IA E (b 10) 68 (enc Kr), IA E (b 11) 68 f11]) H locs := hW
  refine lv_aload_n hx hb dL_law_1233 rfl (lv_at hl 1 rfl) ?_
  refine r_callCi hC hD hW hA lkL_152 (c_X5_undo l E b z w S F Kr) rfl rfl ⟨Nat.le_of_ble_eq_true rfl, Nat.le_of_ble_eq_true rfl, Nat.le_refl _, Nat.le_refl _⟩ [12, 13, 14, 22] rfl rfl rfl (fun _ => rfl) hl.1 rfl rfl (Nat.le_of_ble_eq_true rfl) dL_law_1234 (fun r2 _ H locs g2 hW => ?_)
  have hW : Wd E A s.heap (wcat [CO o vl vt vk vy kp, HW E vl ((mUndo S K F kp).2.1) Tl, HW E vt St Tt, HW E vk K Tk, TPW E vy y tp, [(o 1, .inr (1, [.ref (vy 0), .ref (vt 0), .int it]))], [(o 2, .inl (E.2.2.2, 4, .inr (.inr (.inr (.inr qf)))))], SHc E aa nn B Z N 0, SHc E aa nn B Z N 1, SHc E aa nn B Z N 2, SHc E aa nn B Z N 3, IA E (o 3) 7 ((mUndo S K F kp).2.2), MJ b z w, IA E (b 1) 68 (enc ((mUndo S Kr F (z 6)).2.1)), IA E (b 2) 7 ((mUndo S Kr F (z 6)).2.2), IA E (b 3) 68 f3, IA E (b 4) 68 f4, IA E (b 5) 120 tp, IA E (b 6) 4 B, IA E (b 7) 4 (szA Z), LA E (b 8) 160 (en4 N), LA E (b 9) 40 f9, IA E (b 10) 68 (enc Kr), IA E (b 11) 68 f11]) H locs := hW
  rw [undo_eq hz6 hkp hKK] at g2 hW
  refine lv_icmp_eq (tgt := 1301) hx hb dL_law_1237 (by decide) (fun _ => ?_) (fun hc => absurd (g1.trans g2.symm) hc)
  exact kk H locs ⟨(mUndo S K F kp).2.1, Tl, St, Tt, K, Tk, Kr, (mUndo S K F kp).2.2, B, kp, it, y, tp, z, tl, Z, N, w, f3, f4, f11, f9, HX_undo F kp hS (fun h => (hKK h).2), hKK, hkp, hz6, hyl, hzl, ht1, hB, hZ, hW⟩
set_option maxHeartbeats 4000000 in
theorem lc_tear (hC : Cx p room_1 s m args meth c cL_law 4 RL ret E room_1) (hD : Dj A (asL o vl vt vk vy aa nn b)) (hA : ∀ q, s.heap.size ≤ q → A q) (hX : va_X sb L xs s s.heap) (hbl : sb < s.heap.size) (hbA : ¬ A sb) (hk : k + 6 ≤ L) (hL : L ≤ 3072) (hqf : ∀ i, i < 4 → qf i = some (aa i)) (hl : lv_has ls 4 [(3, .int (nI k)), (2, .ref (b 0)), (1, .ref (o 0)), (0, .ref sb)]) (h : LI E A s.heap o vl vt vk vy aa nn b qf H locs)
    (kk : ∀ (H : Heap) (locs : List Loc), LI E A s.heap o vl vt vk vy aa nn b qf H locs → W p l e room_1 s m args below meth c H locs 600000 7302250 Q (F0 m 1301 ls [])) : W p l e room_1 s m args below meth c H locs 600000 7302250 Q (F0 m 1242 ls []) := by
  obtain ⟨S, Tl, St, Tt, K, Tk, Kr, F, B, kp, it, y, tp, z, tl, Z, N, w, f3, f4, f11, f9, hS, hKK, hkp, hz6, hyl, hzl, ht1, hB, hZ, hW⟩ := h
  obtain ⟨P, G, hV⟩ := id hS
  have hx := hC.1
  have hb := hC.2.1
  refine lv_aload_n hx hb dL_law_1242 rfl (lv_at hl 2 rfl) ?_
  refine r_callCi hC hD hW hA lkL_153 (c_X4_tear l E o vl vt vk vy kp hkp) rfl rfl ⟨Nat.le_of_ble_eq_true rfl, Nat.le_of_ble_eq_true rfl, Nat.le_refl _, Nat.le_refl _⟩ [0] rfl rfl rfl (fun _ => rfl) hl.1 rfl rfl (Nat.le_of_ble_eq_true rfl) dL_law_1243 (fun r1 _ H locs g1 hW => ?_)
  have hW : Wd E A s.heap (wcat [CO o vl vt vk vy 0, HW E vl S Tl, HW E vt St Tt, HW E vk K Tk, TPW E vy y tp, [(o 1, .inr (1, [.ref (vy 0), .ref (vt 0), .int it]))], [(o 2, .inl (E.2.2.2, 4, .inr (.inr (.inr (.inr qf)))))], SHc E aa nn B Z N 0, SHc E aa nn B Z N 1, SHc E aa nn B Z N 2, SHc E aa nn B Z N 3, IA E (o 3) 7 F, MJ b z w, IA E (b 1) 68 (enc S), IA E (b 2) 7 F, IA E (b 3) 68 f3, IA E (b 4) 68 f4, IA E (b 5) 120 tp, IA E (b 6) 4 B, IA E (b 7) 4 (szA Z), LA E (b 8) 160 (en4 N), LA E (b 9) 40 f9, IA E (b 10) 68 (enc Kr), IA E (b 11) 68 f11]) H locs := hW
  refine lv_aload_n hx hb dL_law_1246 rfl (lv_at hl 1 rfl) ?_
  refine r_callCi hC hD hW hA lkL_156 (c_X5_tear l E b z w (by rw [hz6]; exact hkp)) rfl rfl ⟨Nat.le_of_ble_eq_true rfl, Nat.le_of_ble_eq_true rfl, Nat.le_refl _, Nat.le_refl _⟩ [12] rfl rfl rfl (fun _ => rfl) hl.1 rfl rfl (Nat.le_of_ble_eq_true rfl) dL_law_1247 (fun r2 _ H locs g2 hW => ?_)
  have hW : Wd E A s.heap (wcat [CO o vl vt vk vy 0, HW E vl S Tl, HW E vt St Tt, HW E vk K Tk, TPW E vy y tp, [(o 1, .inr (1, [.ref (vy 0), .ref (vt 0), .int it]))], [(o 2, .inl (E.2.2.2, 4, .inr (.inr (.inr (.inr qf)))))], SHc E aa nn B Z N 0, SHc E aa nn B Z N 1, SHc E aa nn B Z N 2, SHc E aa nn B Z N 3, IA E (o 3) 7 F, MJ b (upd z 6 0) w, IA E (b 1) 68 (enc S), IA E (b 2) 7 F, IA E (b 3) 68 f3, IA E (b 4) 68 f4, IA E (b 5) 120 tp, IA E (b 6) 4 B, IA E (b 7) 4 (szA Z), LA E (b 8) 160 (en4 N), LA E (b 9) 40 f9, IA E (b 10) 68 (enc Kr), IA E (b 11) 68 f11]) H locs := hW
  refine lv_icmp_eq (tgt := 1301) hx hb dL_law_1250 (by decide) (fun _ => ?_) (fun hc => absurd (g1.trans (hz6.symm.trans g2.symm)) hc)
  exact kk H locs ⟨S, Tl, St, Tt, K, Tk, Kr, F, B, 0, it, y, tp, upd z 6 0, tl, Z, N, w, f3, f4, f11, f9, hS, fun h => absurd rfl h, Or.inl rfl, rfl, hyl, hzl, ht1, hB, hZ, hW⟩
set_option maxHeartbeats 4000000 in
theorem lc_count (hC : Cx p room_1 s m args meth c cL_law 4 RL ret E room_1) (hD : Dj A (asL o vl vt vk vy aa nn b)) (hA : ∀ q, s.heap.size ≤ q → A q) (hX : va_X sb L xs s s.heap) (hbl : sb < s.heap.size) (hbA : ¬ A sb) (hk : k + 6 ≤ L) (hL : L ≤ 3072) (hqf : ∀ i, i < 4 → qf i = some (aa i)) (hl : lv_has ls 4 [(3, .int (nI k)), (2, .ref (b 0)), (1, .ref (o 0)), (0, .ref sb)]) (h : LI E A s.heap o vl vt vk vy aa nn b qf H locs)
    (kk : ∀ (H : Heap) (locs : List Loc), LI E A s.heap o vl vt vk vy aa nn b qf H locs → W p l e room_1 s m args below meth c H locs 600000 7302250 Q (F0 m 1301 ls [])) : W p l e room_1 s m args below meth c H locs 600000 7302250 Q (F0 m 1255 ls []) := by
  obtain ⟨S, Tl, St, Tt, K, Tk, Kr, F, B, kp, it, y, tp, z, tl, Z, N, w, f3, f4, f11, f9, hS, hKK, hkp, hz6, hyl, hzl, ht1, hB, hZ, hW⟩ := h
  obtain ⟨P, G, hV⟩ := id hS
  have hx := hC.1
  have hb := hC.2.1
  obtain ⟨x1, h1⟩ : ∃ x, xs (k + 1) = x := ⟨_, rfl⟩
  refine lv_aload_n hx hb dL_law_1255 rfl (lv_at hl 2 rfl) ?_
  refine r_scr (j := 1) hC hW hX hbl hbA hk hL hl (by decide) rfl h1 dL_law_1256 dL_law_1257 dL_law_1258 dL_law_1259 dL_law_1260 ?_
  refine r_callCi hC hD hW hA lkL_157 (c_X4_count l E o vl vt vk vy kp S Tl F P G hV y tp tl hyl x1) rfl rfl ⟨Nat.le_of_ble_eq_true rfl, Nat.le_of_ble_eq_true rfl, Nat.le_refl _, Nat.le_refl _⟩ [0, 11, 1, 4] rfl rfl rfl (fun _ => rfl) hl.1 rfl rfl (Nat.le_of_ble_eq_true rfl) dL_law_1261 (fun r1 _ H locs g1 hW => ?_)
  have hW : Wd E A s.heap (wcat [CO o vl vt vk vy kp, HW E vl S Tl, HW E vt St Tt, HW E vk K Tk, TPW E vy y tp, [(o 1, .inr (1, [.ref (vy 0), .ref (vt 0), .int it]))], [(o 2, .inl (E.2.2.2, 4, .inr (.inr (.inr (.inr qf)))))], SHc E aa nn B Z N 0, SHc E aa nn B Z N 1, SHc E aa nn B Z N 2, SHc E aa nn B Z N 3, IA E (o 3) 7 ((mCount S F G tl x1).2), MJ b z w, IA E (b 1) 68 (enc S), IA E (b 2) 7 F, IA E (b 3) 68 f3, IA E (b 4) 68 f4, IA E (b 5) 120 tp, IA E (b 6) 4 B, IA E (b 7) 4 (szA Z), LA E (b 8) 160 (en4 N), LA E (b 9) 40 f9, IA E (b 10) 68 (enc Kr), IA E (b 11) 68 f11]) H locs := hW
  refine lv_aload_n hx hb dL_law_1264 rfl (lv_at hl 1 rfl) ?_
  refine r_scr (j := 1) hC hW hX hbl hbA hk hL hl (by decide) rfl h1 dL_law_1265 dL_law_1266 dL_law_1267 dL_law_1268 dL_law_1269 ?_
  refine r_callCi hC hD hW hA lkL_160 (c_X5_count l E b z w S F P G hV tl hzl ht1 x1) rfl rfl ⟨Nat.le_of_ble_eq_true rfl, Nat.le_of_ble_eq_true rfl, Nat.le_refl _, Nat.le_refl _⟩ [12, 13, 14] rfl rfl rfl (fun _ => rfl) hl.1 rfl rfl (Nat.le_of_ble_eq_true rfl) dL_law_1270 (fun r2 _ H locs g2 hW => ?_)
  have hW : Wd E A s.heap (wcat [CO o vl vt vk vy kp, HW E vl S Tl, HW E vt St Tt, HW E vk K Tk, TPW E vy y tp, [(o 1, .inr (1, [.ref (vy 0), .ref (vt 0), .int it]))], [(o 2, .inl (E.2.2.2, 4, .inr (.inr (.inr (.inr qf)))))], SHc E aa nn B Z N 0, SHc E aa nn B Z N 1, SHc E aa nn B Z N 2, SHc E aa nn B Z N 3, IA E (o 3) 7 ((mCount S F G tl x1).2), MJ b z w, IA E (b 1) 68 (enc S), IA E (b 2) 7 ((mCount S F G tl x1).2), IA E (b 3) 68 f3, IA E (b 4) 68 f4, IA E (b 5) 120 tp, IA E (b 6) 4 B, IA E (b 7) 4 (szA Z), LA E (b 8) 160 (en4 N), LA E (b 9) 40 f9, IA E (b 10) 68 (enc Kr), IA E (b 11) 68 f11]) H locs := hW
  refine lv_icmp_eq (tgt := 1301) hx hb dL_law_1273 (by decide) (fun _ => ?_) (fun hc => absurd (g1.trans g2.symm) hc)
  exact kk H locs ⟨S, Tl, St, Tt, K, Tk, Kr, (mCount S F G tl x1).2, B, kp, it, y, tp, z, tl, Z, N, w, f3, f4, f11, f9, hS, hKK, hkp, hz6, hyl, hzl, ht1, hB, hZ, hW⟩
set_option maxHeartbeats 4000000 in
theorem lc_status (hC : Cx p room_1 s m args meth c cL_law 4 RL ret E room_1) (hD : Dj A (asL o vl vt vk vy aa nn b)) (hA : ∀ q, s.heap.size ≤ q → A q) (hX : va_X sb L xs s s.heap) (hbl : sb < s.heap.size) (hbA : ¬ A sb) (hk : k + 6 ≤ L) (hL : L ≤ 3072) (hqf : ∀ i, i < 4 → qf i = some (aa i)) (hl : lv_has ls 4 [(3, .int (nI k)), (2, .ref (b 0)), (1, .ref (o 0)), (0, .ref sb)]) (h : LI E A s.heap o vl vt vk vy aa nn b qf H locs)
    (kk : ∀ (H : Heap) (locs : List Loc), LI E A s.heap o vl vt vk vy aa nn b qf H locs → W p l e room_1 s m args below meth c H locs 600000 7302250 Q (F0 m 1301 ls [])) : W p l e room_1 s m args below meth c H locs 600000 7302250 Q (F0 m 1278 ls []) := by
  obtain ⟨S, Tl, St, Tt, K, Tk, Kr, F, B, kp, it, y, tp, z, tl, Z, N, w, f3, f4, f11, f9, hS, hKK, hkp, hz6, hyl, hzl, ht1, hB, hZ, hW⟩ := h
  obtain ⟨P, G, hV⟩ := id hS
  have hx := hC.1
  have hb := hC.2.1
  obtain ⟨x1, h1⟩ : ∃ x, xs (k + 1) = x := ⟨_, rfl⟩
  refine lv_aload_n hx hb dL_law_1278 rfl (lv_at hl 2 rfl) ?_
  refine r_scr (j := 1) hC hW hX hbl hbA hk hL hl (by decide) rfl h1 dL_law_1279 dL_law_1280 dL_law_1281 dL_law_1282 dL_law_1283 ?_
  refine r_callCi hC hD hW hA lkL_161 (c_X4_status l E o vl vt vk vy kp F x1) rfl rfl ⟨Nat.le_of_ble_eq_true rfl, Nat.le_of_ble_eq_true rfl, Nat.le_refl _, Nat.le_refl _⟩ [0, 11] rfl rfl rfl (fun _ => rfl) hl.1 rfl rfl (Nat.le_of_ble_eq_true rfl) dL_law_1284 (fun r1 _ H locs g1 hW => ?_)
  have hW : Wd E A s.heap (wcat [CO o vl vt vk vy kp, HW E vl S Tl, HW E vt St Tt, HW E vk K Tk, TPW E vy y tp, [(o 1, .inr (1, [.ref (vy 0), .ref (vt 0), .int it]))], [(o 2, .inl (E.2.2.2, 4, .inr (.inr (.inr (.inr qf)))))], SHc E aa nn B Z N 0, SHc E aa nn B Z N 1, SHc E aa nn B Z N 2, SHc E aa nn B Z N 3, IA E (o 3) 7 ((mStatus F x1).2), MJ b z w, IA E (b 1) 68 (enc S), IA E (b 2) 7 F, IA E (b 3) 68 f3, IA E (b 4) 68 f4, IA E (b 5) 120 tp, IA E (b 6) 4 B, IA E (b 7) 4 (szA Z), LA E (b 8) 160 (en4 N), LA E (b 9) 40 f9, IA E (b 10) 68 (enc Kr), IA E (b 11) 68 f11]) H locs := hW
  refine lv_aload_n hx hb dL_law_1287 rfl (lv_at hl 1 rfl) ?_
  refine r_scr (j := 1) hC hW hX hbl hbA hk hL hl (by decide) rfl h1 dL_law_1288 dL_law_1289 dL_law_1290 dL_law_1291 dL_law_1292 ?_
  refine r_callCi hC hD hW hA lkL_164 (c_X5_status l E b z w F x1) rfl rfl ⟨Nat.le_of_ble_eq_true rfl, Nat.le_of_ble_eq_true rfl, Nat.le_refl _, Nat.le_refl _⟩ [12, 14] rfl rfl rfl (fun _ => rfl) hl.1 rfl rfl (Nat.le_of_ble_eq_true rfl) dL_law_1293 (fun r2 _ H locs g2 hW => ?_)
  have hW : Wd E A s.heap (wcat [CO o vl vt vk vy kp, HW E vl S Tl, HW E vt St Tt, HW E vk K Tk, TPW E vy y tp, [(o 1, .inr (1, [.ref (vy 0), .ref (vt 0), .int it]))], [(o 2, .inl (E.2.2.2, 4, .inr (.inr (.inr (.inr qf)))))], SHc E aa nn B Z N 0, SHc E aa nn B Z N 1, SHc E aa nn B Z N 2, SHc E aa nn B Z N 3, IA E (o 3) 7 ((mStatus F x1).2), MJ b z w, IA E (b 1) 68 (enc S), IA E (b 2) 7 ((mStatus F x1).2), IA E (b 3) 68 f3, IA E (b 4) 68 f4, IA E (b 5) 120 tp, IA E (b 6) 4 B, IA E (b 7) 4 (szA Z), LA E (b 8) 160 (en4 N), LA E (b 9) 40 f9, IA E (b 10) 68 (enc Kr), IA E (b 11) 68 f11]) H locs := hW
  refine lv_icmp_eq (tgt := 1301) hx hb dL_law_1296 (by decide) (fun _ => ?_) (fun hc => absurd (g1.trans g2.symm) hc)
  exact kk H locs ⟨S, Tl, St, Tt, K, Tk, Kr, (mStatus F x1).2, B, kp, it, y, tp, z, tl, Z, N, w, f3, f4, f11, f9, hS, hKK, hkp, hz6, hyl, hzl, ht1, hB, hZ, hW⟩
end CASES
