section CASES
variable {p : Program} {l : Launch} {e : Env} {s : State} {m : MethodId} {below : List Frame} {meth : Method} {c : Code} {H : Heap} {locs : List Loc} {Q : State → Prop} {args : Array Value}
variable {E : Ev} {A : Nat → Prop} {sb L k pc : Nat} {xs : Nat → Int32} {o vl vt vk vy aa nn b ad av : NN} {qf : Nat → Option Nat} {ls : Array Slot} {rest : List Value}
set_option maxHeartbeats 4000000 in
theorem lc_on (hC : Cx p room_1 s m args meth c cL_law 4 RL ret E room_1) (hD : Dj A (asL o vl vt vk vy aa nn b)) (hA : ∀ q, s.heap.size ≤ q → A q) (hX : va_X sb L xs s s.heap) (hbl : sb < s.heap.size) (hbA : ¬ A sb) (hk : k + 6 ≤ L) (hL : L ≤ 3072) (hqf : ∀ i, i < 4 → qf i = some (aa i)) (hl : lv_has ls 4 [(3, .int (nI k)), (2, .ref (b 0)), (1, .ref (o 0)), (0, .ref sb)]) (h : LI E A s.heap o vl vt vk vy aa nn b qf H locs)
    (kk : ∀ (H : Heap) (locs : List Loc), LI E A s.heap o vl vt vk vy aa nn b qf H locs → W p l e room_1 s m args below meth c H locs 600000 7302250 Q (F0 m 1301 ls [])) : W p l e room_1 s m args below meth c H locs 600000 7302250 Q (F0 m 578 ls []) := by
  obtain ⟨S, Tl, St, Tt, K, Tk, Kr, F, B, kp, it, y, tp, z, tl, Z, N, w, f3, f4, f11, f9, hS, hKK, hkp, hz6, hyl, hzl, ht1, hB, hZ, hW⟩ := h
  obtain ⟨P, G, hV⟩ := id hS
  have hx := hC.1
  have hb := hC.2.1
  obtain ⟨x1, h1⟩ : ∃ x, xs (k + 1) = x := ⟨_, rfl⟩
  obtain ⟨x2, h2⟩ : ∃ x, xs (k + 2) = x := ⟨_, rfl⟩
  obtain ⟨x3, h3⟩ : ∃ x, xs (k + 3) = x := ⟨_, rfl⟩
  refine lv_aload_n hx hb dL_law_578 rfl (lv_at hl 2 rfl) ?_
  refine r_scr (j := 1) hC hW hX hbl hbA hk hL hl (by decide) rfl h1 dL_law_579 dL_law_580 dL_law_581 dL_law_582 dL_law_583 ?_
  refine r_scr (j := 2) hC hW hX hbl hbA hk hL hl (by decide) rfl h2 dL_law_584 dL_law_585 dL_law_586 dL_law_587 dL_law_588 ?_
  refine r_scr (j := 3) hC hW hX hbl hbA hk hL hl (by decide) rfl h3 dL_law_589 dL_law_590 dL_law_591 dL_law_592 dL_law_593 ?_
  refine r_callCi hC hD hW hA lkL_64 (c_X4_on l E o vl vt vk vy kp S Tl F P G hV St Tt x1 x2 x3) rfl rfl ⟨Nat.le_of_ble_eq_true rfl, Nat.le_of_ble_eq_true rfl, Nat.le_refl _, Nat.le_refl _⟩ [0, 11, 1, 2] rfl rfl rfl (fun _ => rfl) hl.1 rfl rfl (Nat.le_of_ble_eq_true rfl) dL_law_594 (fun r1 u1 H locs g1 hW => ?_)
  have hW : Wd E A s.heap (wcat [CO o vl vt vk vy kp, HW E vl S Tl, HW E vt u1.1 u1.2, HW E vk K Tk, TPW E vy y tp, [(o 1, .inr (1, [.ref (vy 0), .ref (vt 0), .int it]))], [(o 2, .inl (E.2.2.2, 4, .inr (.inr (.inr (.inr qf)))))], SHc E aa nn B Z N 0, SHc E aa nn B Z N 1, SHc E aa nn B Z N 2, SHc E aa nn B Z N 3, IA E (o 3) 7 ((mOn S F P G x1 x2 x3).2), MJ b z w, IA E (b 1) 68 (enc S), IA E (b 2) 7 F, IA E (b 3) 68 f3, IA E (b 4) 68 f4, IA E (b 5) 120 tp, IA E (b 6) 4 B, IA E (b 7) 4 (szA Z), LA E (b 8) 160 (en4 N), LA E (b 9) 40 f9, IA E (b 10) 68 (enc Kr), IA E (b 11) 68 f11]) H locs := hW
  refine lv_aload_n hx hb dL_law_597 rfl (lv_at hl 1 rfl) ?_
  refine r_scr (j := 1) hC hW hX hbl hbA hk hL hl (by decide) rfl h1 dL_law_598 dL_law_599 dL_law_600 dL_law_601 dL_law_602 ?_
  refine r_scr (j := 2) hC hW hX hbl hbA hk hL hl (by decide) rfl h2 dL_law_603 dL_law_604 dL_law_605 dL_law_606 dL_law_607 ?_
  refine r_scr (j := 3) hC hW hX hbl hbA hk hL hl (by decide) rfl h3 dL_law_608 dL_law_609 dL_law_610 dL_law_611 dL_law_612 ?_
  refine r_callCi hC hD hW hA lkL_67 (c_X5_on l E b z w S F P G hV f3 x1 x2 x3) rfl rfl ⟨Nat.le_of_ble_eq_true rfl, Nat.le_of_ble_eq_true rfl, Nat.le_refl _, Nat.le_refl _⟩ [12, 13, 14, 15] rfl rfl rfl (fun _ => rfl) hl.1 rfl rfl (Nat.le_of_ble_eq_true rfl) dL_law_613 (fun r2 u2 H locs g2 hW => ?_)
  have hW : Wd E A s.heap (wcat [CO o vl vt vk vy kp, HW E vl S Tl, HW E vt u1.1 u1.2, HW E vk K Tk, TPW E vy y tp, [(o 1, .inr (1, [.ref (vy 0), .ref (vt 0), .int it]))], [(o 2, .inl (E.2.2.2, 4, .inr (.inr (.inr (.inr qf)))))], SHc E aa nn B Z N 0, SHc E aa nn B Z N 1, SHc E aa nn B Z N 2, SHc E aa nn B Z N 3, IA E (o 3) 7 ((mOn S F P G x1 x2 x3).2), MJ b z w, IA E (b 1) 68 (enc S), IA E (b 2) 7 ((mOn S F P G x1 x2 x3).2), IA E (b 3) 68 u2, IA E (b 4) 68 f4, IA E (b 5) 120 tp, IA E (b 6) 4 B, IA E (b 7) 4 (szA Z), LA E (b 8) 160 (en4 N), LA E (b 9) 40 f9, IA E (b 10) 68 (enc Kr), IA E (b 11) 68 f11]) H locs := hW
  refine lv_icmp_eq (tgt := 1301) hx hb dL_law_616 (by decide) (fun _ => ?_) (fun hc => absurd (g1.trans g2.symm) hc)
  exact kk H locs ⟨S, Tl, u1.1, u1.2, K, Tk, Kr, (mOn S F P G x1 x2 x3).2, B, kp, it, y, tp, z, tl, Z, N, w, u2, f4, f11, f9, hS, hKK, hkp, hz6, hyl, hzl, ht1, hB, hZ, hW⟩
set_option maxHeartbeats 4000000 in
theorem lc_then (hC : Cx p room_1 s m args meth c cL_law 4 RL ret E room_1) (hD : Dj A (asL o vl vt vk vy aa nn b)) (hA : ∀ q, s.heap.size ≤ q → A q) (hX : va_X sb L xs s s.heap) (hbl : sb < s.heap.size) (hbA : ¬ A sb) (hk : k + 6 ≤ L) (hL : L ≤ 3072) (hqf : ∀ i, i < 4 → qf i = some (aa i)) (hl : lv_has ls 4 [(3, .int (nI k)), (2, .ref (b 0)), (1, .ref (o 0)), (0, .ref sb)]) (h : LI E A s.heap o vl vt vk vy aa nn b qf H locs)
    (kk : ∀ (H : Heap) (locs : List Loc), LI E A s.heap o vl vt vk vy aa nn b qf H locs → W p l e room_1 s m args below meth c H locs 600000 7302250 Q (F0 m 1301 ls [])) : W p l e room_1 s m args below meth c H locs 600000 7302250 Q (F0 m 621 ls []) := by
  obtain ⟨S, Tl, St, Tt, K, Tk, Kr, F, B, kp, it, y, tp, z, tl, Z, N, w, f3, f4, f11, f9, hS, hKK, hkp, hz6, hyl, hzl, ht1, hB, hZ, hW⟩ := h
  obtain ⟨P, G, hV⟩ := id hS
  have hx := hC.1
  have hb := hC.2.1
  obtain ⟨x1, h1⟩ : ∃ x, xs (k + 1) = x := ⟨_, rfl⟩
  obtain ⟨x2, h2⟩ : ∃ x, xs (k + 2) = x := ⟨_, rfl⟩
  refine lv_aload_n hx hb dL_law_621 rfl (lv_at hl 2 rfl) ?_
  refine r_scr (j := 1) hC hW hX hbl hbA hk hL hl (by decide) rfl h1 dL_law_622 dL_law_623 dL_law_624 dL_law_625 dL_law_626 ?_
  refine r_scr (j := 2) hC hW hX hbl hbA hk hL hl (by decide) rfl h2 dL_law_627 dL_law_628 dL_law_629 dL_law_630 dL_law_631 ?_
  refine r_callCi hC hD hW hA lkL_68 (c_X4_then l E o vl vt vk vy kp S Tl F P G hV St Tt x1 x2) rfl rfl ⟨Nat.le_of_ble_eq_true rfl, Nat.le_of_ble_eq_true rfl, Nat.le_refl _, Nat.le_refl _⟩ [0, 11, 1, 2] rfl rfl rfl (fun _ => rfl) hl.1 rfl rfl (Nat.le_of_ble_eq_true rfl) dL_law_632 (fun r1 u1 H locs g1 hW => ?_)
  have hW : Wd E A s.heap (wcat [CO o vl vt vk vy kp, HW E vl S Tl, HW E vt u1.1 u1.2, HW E vk K Tk, TPW E vy y tp, [(o 1, .inr (1, [.ref (vy 0), .ref (vt 0), .int it]))], [(o 2, .inl (E.2.2.2, 4, .inr (.inr (.inr (.inr qf)))))], SHc E aa nn B Z N 0, SHc E aa nn B Z N 1, SHc E aa nn B Z N 2, SHc E aa nn B Z N 3, IA E (o 3) 7 ((mThen S F P G x1 x2).2), MJ b z w, IA E (b 1) 68 (enc S), IA E (b 2) 7 F, IA E (b 3) 68 f3, IA E (b 4) 68 f4, IA E (b 5) 120 tp, IA E (b 6) 4 B, IA E (b 7) 4 (szA Z), LA E (b 8) 160 (en4 N), LA E (b 9) 40 f9, IA E (b 10) 68 (enc Kr), IA E (b 11) 68 f11]) H locs := hW
  refine lv_aload_n hx hb dL_law_635 rfl (lv_at hl 1 rfl) ?_
  refine r_scr (j := 1) hC hW hX hbl hbA hk hL hl (by decide) rfl h1 dL_law_636 dL_law_637 dL_law_638 dL_law_639 dL_law_640 ?_
  refine r_scr (j := 2) hC hW hX hbl hbA hk hL hl (by decide) rfl h2 dL_law_641 dL_law_642 dL_law_643 dL_law_644 dL_law_645 ?_
  refine r_callCi hC hD hW hA lkL_71 (c_X5_then l E b z w S F P G hV f3 x1 x2) rfl rfl ⟨Nat.le_of_ble_eq_true rfl, Nat.le_of_ble_eq_true rfl, Nat.le_refl _, Nat.le_refl _⟩ [12, 13, 14, 15] rfl rfl rfl (fun _ => rfl) hl.1 rfl rfl (Nat.le_of_ble_eq_true rfl) dL_law_646 (fun r2 u2 H locs g2 hW => ?_)
  have hW : Wd E A s.heap (wcat [CO o vl vt vk vy kp, HW E vl S Tl, HW E vt u1.1 u1.2, HW E vk K Tk, TPW E vy y tp, [(o 1, .inr (1, [.ref (vy 0), .ref (vt 0), .int it]))], [(o 2, .inl (E.2.2.2, 4, .inr (.inr (.inr (.inr qf)))))], SHc E aa nn B Z N 0, SHc E aa nn B Z N 1, SHc E aa nn B Z N 2, SHc E aa nn B Z N 3, IA E (o 3) 7 ((mThen S F P G x1 x2).2), MJ b z w, IA E (b 1) 68 (enc S), IA E (b 2) 7 ((mThen S F P G x1 x2).2), IA E (b 3) 68 u2, IA E (b 4) 68 f4, IA E (b 5) 120 tp, IA E (b 6) 4 B, IA E (b 7) 4 (szA Z), LA E (b 8) 160 (en4 N), LA E (b 9) 40 f9, IA E (b 10) 68 (enc Kr), IA E (b 11) 68 f11]) H locs := hW
  refine lv_icmp_eq (tgt := 1301) hx hb dL_law_649 (by decide) (fun _ => ?_) (fun hc => absurd (g1.trans g2.symm) hc)
  exact kk H locs ⟨S, Tl, u1.1, u1.2, K, Tk, Kr, (mThen S F P G x1 x2).2, B, kp, it, y, tp, z, tl, Z, N, w, u2, f4, f11, f9, hS, hKK, hkp, hz6, hyl, hzl, ht1, hB, hZ, hW⟩
set_option maxHeartbeats 4000000 in
theorem lc_lost (hC : Cx p room_1 s m args meth c cL_law 4 RL ret E room_1) (hD : Dj A (asL o vl vt vk vy aa nn b)) (hA : ∀ q, s.heap.size ≤ q → A q) (hX : va_X sb L xs s s.heap) (hbl : sb < s.heap.size) (hbA : ¬ A sb) (hk : k + 6 ≤ L) (hL : L ≤ 3072) (hqf : ∀ i, i < 4 → qf i = some (aa i)) (hl : lv_has ls 4 [(3, .int (nI k)), (2, .ref (b 0)), (1, .ref (o 0)), (0, .ref sb)]) (h : LI E A s.heap o vl vt vk vy aa nn b qf H locs)
    (kk : ∀ (H : Heap) (locs : List Loc), LI E A s.heap o vl vt vk vy aa nn b qf H locs → W p l e room_1 s m args below meth c H locs 600000 7302250 Q (F0 m 1301 ls [])) : W p l e room_1 s m args below meth c H locs 600000 7302250 Q (F0 m 654 ls []) := by
  obtain ⟨S, Tl, St, Tt, K, Tk, Kr, F, B, kp, it, y, tp, z, tl, Z, N, w, f3, f4, f11, f9, hS, hKK, hkp, hz6, hyl, hzl, ht1, hB, hZ, hW⟩ := h
  obtain ⟨P, G, hV⟩ := id hS
  have hx := hC.1
  have hb := hC.2.1
  obtain ⟨x1, h1⟩ : ∃ x, xs (k + 1) = x := ⟨_, rfl⟩
  refine lv_aload_n hx hb dL_law_654 rfl (lv_at hl 2 rfl) ?_
  refine r_scr (j := 1) hC hW hX hbl hbA hk hL hl (by decide) rfl h1 dL_law_655 dL_law_656 dL_law_657 dL_law_658 dL_law_659 ?_
  refine r_callCi hC hD hW hA lkL_72 (c_X4_lost l E o vl vt vk vy kp S Tl F P G hV St Tt x1) rfl rfl ⟨Nat.le_of_ble_eq_true rfl, Nat.le_of_ble_eq_true rfl, Nat.le_refl _, Nat.le_refl _⟩ [0, 11, 1, 2] rfl rfl rfl (fun _ => rfl) hl.1 rfl rfl (Nat.le_of_ble_eq_true rfl) dL_law_660 (fun r1 u1 H locs g1 hW => ?_)
  have hW : Wd E A s.heap (wcat [CO o vl vt vk vy kp, HW E vl S Tl, HW E vt u1.1 u1.2, HW E vk K Tk, TPW E vy y tp, [(o 1, .inr (1, [.ref (vy 0), .ref (vt 0), .int it]))], [(o 2, .inl (E.2.2.2, 4, .inr (.inr (.inr (.inr qf)))))], SHc E aa nn B Z N 0, SHc E aa nn B Z N 1, SHc E aa nn B Z N 2, SHc E aa nn B Z N 3, IA E (o 3) 7 ((mLost S F P G x1).2), MJ b z w, IA E (b 1) 68 (enc S), IA E (b 2) 7 F, IA E (b 3) 68 f3, IA E (b 4) 68 f4, IA E (b 5) 120 tp, IA E (b 6) 4 B, IA E (b 7) 4 (szA Z), LA E (b 8) 160 (en4 N), LA E (b 9) 40 f9, IA E (b 10) 68 (enc Kr), IA E (b 11) 68 f11]) H locs := hW
  refine lv_aload_n hx hb dL_law_663 rfl (lv_at hl 1 rfl) ?_
  refine r_scr (j := 1) hC hW hX hbl hbA hk hL hl (by decide) rfl h1 dL_law_664 dL_law_665 dL_law_666 dL_law_667 dL_law_668 ?_
  refine r_callCi hC hD hW hA lkL_75 (c_X5_lost l E b z w S F P G hV f3 x1) rfl rfl ⟨Nat.le_of_ble_eq_true rfl, Nat.le_of_ble_eq_true rfl, Nat.le_refl _, Nat.le_refl _⟩ [12, 13, 14, 15] rfl rfl rfl (fun _ => rfl) hl.1 rfl rfl (Nat.le_of_ble_eq_true rfl) dL_law_669 (fun r2 u2 H locs g2 hW => ?_)
  have hW : Wd E A s.heap (wcat [CO o vl vt vk vy kp, HW E vl S Tl, HW E vt u1.1 u1.2, HW E vk K Tk, TPW E vy y tp, [(o 1, .inr (1, [.ref (vy 0), .ref (vt 0), .int it]))], [(o 2, .inl (E.2.2.2, 4, .inr (.inr (.inr (.inr qf)))))], SHc E aa nn B Z N 0, SHc E aa nn B Z N 1, SHc E aa nn B Z N 2, SHc E aa nn B Z N 3, IA E (o 3) 7 ((mLost S F P G x1).2), MJ b z w, IA E (b 1) 68 (enc S), IA E (b 2) 7 ((mLost S F P G x1).2), IA E (b 3) 68 u2, IA E (b 4) 68 f4, IA E (b 5) 120 tp, IA E (b 6) 4 B, IA E (b 7) 4 (szA Z), LA E (b 8) 160 (en4 N), LA E (b 9) 40 f9, IA E (b 10) 68 (enc Kr), IA E (b 11) 68 f11]) H locs := hW
  refine lv_icmp_eq (tgt := 1301) hx hb dL_law_672 (by decide) (fun _ => ?_) (fun hc => absurd (g1.trans g2.symm) hc)
  exact kk H locs ⟨S, Tl, u1.1, u1.2, K, Tk, Kr, (mLost S F P G x1).2, B, kp, it, y, tp, z, tl, Z, N, w, u2, f4, f11, f9, hS, hKK, hkp, hz6, hyl, hzl, ht1, hB, hZ, hW⟩
set_option maxHeartbeats 4000000 in
theorem lc_comes (hC : Cx p room_1 s m args meth c cL_law 4 RL ret E room_1) (hD : Dj A (asL o vl vt vk vy aa nn b)) (hA : ∀ q, s.heap.size ≤ q → A q) (hX : va_X sb L xs s s.heap) (hbl : sb < s.heap.size) (hbA : ¬ A sb) (hk : k + 6 ≤ L) (hL : L ≤ 3072) (hqf : ∀ i, i < 4 → qf i = some (aa i)) (hl : lv_has ls 4 [(3, .int (nI k)), (2, .ref (b 0)), (1, .ref (o 0)), (0, .ref sb)]) (h : LI E A s.heap o vl vt vk vy aa nn b qf H locs)
    (kk : ∀ (H : Heap) (locs : List Loc), LI E A s.heap o vl vt vk vy aa nn b qf H locs → W p l e room_1 s m args below meth c H locs 600000 7302250 Q (F0 m 1301 ls [])) : W p l e room_1 s m args below meth c H locs 600000 7302250 Q (F0 m 677 ls []) := by
  obtain ⟨S, Tl, St, Tt, K, Tk, Kr, F, B, kp, it, y, tp, z, tl, Z, N, w, f3, f4, f11, f9, hS, hKK, hkp, hz6, hyl, hzl, ht1, hB, hZ, hW⟩ := h
  obtain ⟨P, G, hV⟩ := id hS
  have hx := hC.1
  have hb := hC.2.1
  obtain ⟨x1, h1⟩ : ∃ x, xs (k + 1) = x := ⟨_, rfl⟩
  obtain ⟨x2, h2⟩ : ∃ x, xs (k + 2) = x := ⟨_, rfl⟩
  refine lv_aload_n hx hb dL_law_677 rfl (lv_at hl 2 rfl) ?_
  refine r_scr (j := 1) hC hW hX hbl hbA hk hL hl (by decide) rfl h1 dL_law_678 dL_law_679 dL_law_680 dL_law_681 dL_law_682 ?_
  refine r_scr (j := 2) hC hW hX hbl hbA hk hL hl (by decide) rfl h2 dL_law_683 dL_law_684 dL_law_685 dL_law_686 dL_law_687 ?_
  refine r_callCi hC hD hW hA lkL_76 (c_X4_comes l E o vl vt vk vy kp S Tl F P G hV St Tt x1 x2) rfl rfl ⟨Nat.le_of_ble_eq_true rfl, Nat.le_of_ble_eq_true rfl, Nat.le_refl _, Nat.le_refl _⟩ [0, 11, 1, 2] rfl rfl rfl (fun _ => rfl) hl.1 rfl rfl (Nat.le_of_ble_eq_true rfl) dL_law_688 (fun r1 u1 H locs g1 hW => ?_)
  have hW : Wd E A s.heap (wcat [CO o vl vt vk vy kp, HW E vl S Tl, HW E vt u1.1 u1.2, HW E vk K Tk, TPW E vy y tp, [(o 1, .inr (1, [.ref (vy 0), .ref (vt 0), .int it]))], [(o 2, .inl (E.2.2.2, 4, .inr (.inr (.inr (.inr qf)))))], SHc E aa nn B Z N 0, SHc E aa nn B Z N 1, SHc E aa nn B Z N 2, SHc E aa nn B Z N 3, IA E (o 3) 7 ((mComes S F P G x1 x2).2), MJ b z w, IA E (b 1) 68 (enc S), IA E (b 2) 7 F, IA E (b 3) 68 f3, IA E (b 4) 68 f4, IA E (b 5) 120 tp, IA E (b 6) 4 B, IA E (b 7) 4 (szA Z), LA E (b 8) 160 (en4 N), LA E (b 9) 40 f9, IA E (b 10) 68 (enc Kr), IA E (b 11) 68 f11]) H locs := hW
  refine lv_aload_n hx hb dL_law_691 rfl (lv_at hl 1 rfl) ?_
  refine r_scr (j := 1) hC hW hX hbl hbA hk hL hl (by decide) rfl h1 dL_law_692 dL_law_693 dL_law_694 dL_law_695 dL_law_696 ?_
  refine r_scr (j := 2) hC hW hX hbl hbA hk hL hl (by decide) rfl h2 dL_law_697 dL_law_698 dL_law_699 dL_law_700 dL_law_701 ?_
  refine r_callCi hC hD hW hA lkL_79 (c_X5_comes l E b z w S F P G hV f3 x1 x2) rfl rfl ⟨Nat.le_of_ble_eq_true rfl, Nat.le_of_ble_eq_true rfl, Nat.le_refl _, Nat.le_refl _⟩ [12, 13, 14, 15] rfl rfl rfl (fun _ => rfl) hl.1 rfl rfl (Nat.le_of_ble_eq_true rfl) dL_law_702 (fun r2 u2 H locs g2 hW => ?_)
  have hW : Wd E A s.heap (wcat [CO o vl vt vk vy kp, HW E vl S Tl, HW E vt u1.1 u1.2, HW E vk K Tk, TPW E vy y tp, [(o 1, .inr (1, [.ref (vy 0), .ref (vt 0), .int it]))], [(o 2, .inl (E.2.2.2, 4, .inr (.inr (.inr (.inr qf)))))], SHc E aa nn B Z N 0, SHc E aa nn B Z N 1, SHc E aa nn B Z N 2, SHc E aa nn B Z N 3, IA E (o 3) 7 ((mComes S F P G x1 x2).2), MJ b z w, IA E (b 1) 68 (enc S), IA E (b 2) 7 ((mComes S F P G x1 x2).2), IA E (b 3) 68 u2, IA E (b 4) 68 f4, IA E (b 5) 120 tp, IA E (b 6) 4 B, IA E (b 7) 4 (szA Z), LA E (b 8) 160 (en4 N), LA E (b 9) 40 f9, IA E (b 10) 68 (enc Kr), IA E (b 11) 68 f11]) H locs := hW
  refine lv_icmp_eq (tgt := 1301) hx hb dL_law_705 (by decide) (fun _ => ?_) (fun hc => absurd (g1.trans g2.symm) hc)
  exact kk H locs ⟨S, Tl, u1.1, u1.2, K, Tk, Kr, (mComes S F P G x1 x2).2, B, kp, it, y, tp, z, tl, Z, N, w, u2, f4, f11, f9, hS, hKK, hkp, hz6, hyl, hzl, ht1, hB, hZ, hW⟩
set_option maxHeartbeats 4000000 in
theorem lc_mark (hC : Cx p room_1 s m args meth c cL_law 4 RL ret E room_1) (hD : Dj A (asL o vl vt vk vy aa nn b)) (hA : ∀ q, s.heap.size ≤ q → A q) (hX : va_X sb L xs s s.heap) (hbl : sb < s.heap.size) (hbA : ¬ A sb) (hk : k + 6 ≤ L) (hL : L ≤ 3072) (hqf : ∀ i, i < 4 → qf i = some (aa i)) (hl : lv_has ls 4 [(3, .int (nI k)), (2, .ref (b 0)), (1, .ref (o 0)), (0, .ref sb)]) (h : LI E A s.heap o vl vt vk vy aa nn b qf H locs)
    (kk : ∀ (H : Heap) (locs : List Loc), LI E A s.heap o vl vt vk vy aa nn b qf H locs → W p l e room_1 s m args below meth c H locs 600000 7302250 Q (F0 m 1301 ls [])) : W p l e room_1 s m args below meth c H locs 600000 7302250 Q (F0 m 710 ls []) := by
  obtain ⟨S, Tl, St, Tt, K, Tk, Kr, F, B, kp, it, y, tp, z, tl, Z, N, w, f3, f4, f11, f9, hS, hKK, hkp, hz6, hyl, hzl, ht1, hB, hZ, hW⟩ := h
  obtain ⟨P, G, hV⟩ := id hS
  have hx := hC.1
  have hb := hC.2.1
  obtain ⟨x1, h1⟩ : ∃ x, xs (k + 1) = x := ⟨_, rfl⟩
  obtain ⟨x2, h2⟩ : ∃ x, xs (k + 2) = x := ⟨_, rfl⟩
  refine lv_aload_n hx hb dL_law_710 rfl (lv_at hl 2 rfl) ?_
  refine r_scr (j := 1) hC hW hX hbl hbA hk hL hl (by decide) rfl h1 dL_law_711 dL_law_712 dL_law_713 dL_law_714 dL_law_715 ?_
  refine r_scr (j := 2) hC hW hX hbl hbA hk hL hl (by decide) rfl h2 dL_law_716 dL_law_717 dL_law_718 dL_law_719 dL_law_720 ?_
  refine r_callCi hC hD hW hA lkL_80 (c_X4_mark l E o vl vt vk vy kp S Tl F P G hV St Tt x1 x2) rfl rfl ⟨Nat.le_of_ble_eq_true rfl, Nat.le_of_ble_eq_true rfl, Nat.le_refl _, Nat.le_refl _⟩ [0, 11, 1, 2] rfl rfl rfl (fun _ => rfl) hl.1 rfl rfl (Nat.le_of_ble_eq_true rfl) dL_law_721 (fun r1 u1 H locs g1 hW => ?_)
  have hW : Wd E A s.heap (wcat [CO o vl vt vk vy kp, HW E vl S Tl, HW E vt u1.1 u1.2, HW E vk K Tk, TPW E vy y tp, [(o 1, .inr (1, [.ref (vy 0), .ref (vt 0), .int it]))], [(o 2, .inl (E.2.2.2, 4, .inr (.inr (.inr (.inr qf)))))], SHc E aa nn B Z N 0, SHc E aa nn B Z N 1, SHc E aa nn B Z N 2, SHc E aa nn B Z N 3, IA E (o 3) 7 ((mMark S F P G x1 x2).2), MJ b z w, IA E (b 1) 68 (enc S), IA E (b 2) 7 F, IA E (b 3) 68 f3, IA E (b 4) 68 f4, IA E (b 5) 120 tp, IA E (b 6) 4 B, IA E (b 7) 4 (szA Z), LA E (b 8) 160 (en4 N), LA E (b 9) 40 f9, IA E (b 10) 68 (enc Kr), IA E (b 11) 68 f11]) H locs := hW
  refine lv_aload_n hx hb dL_law_724 rfl (lv_at hl 1 rfl) ?_
  refine r_scr (j := 1) hC hW hX hbl hbA hk hL hl (by decide) rfl h1 dL_law_725 dL_law_726 dL_law_727 dL_law_728 dL_law_729 ?_
  refine r_scr (j := 2) hC hW hX hbl hbA hk hL hl (by decide) rfl h2 dL_law_730 dL_law_731 dL_law_732 dL_law_733 dL_law_734 ?_
  refine r_callCi hC hD hW hA lkL_83 (c_X5_mark l E b z w S F P G hV f3 x1 x2) rfl rfl ⟨Nat.le_of_ble_eq_true rfl, Nat.le_of_ble_eq_true rfl, Nat.le_refl _, Nat.le_refl _⟩ [12, 13, 14, 15] rfl rfl rfl (fun _ => rfl) hl.1 rfl rfl (Nat.le_of_ble_eq_true rfl) dL_law_735 (fun r2 u2 H locs g2 hW => ?_)
  have hW : Wd E A s.heap (wcat [CO o vl vt vk vy kp, HW E vl S Tl, HW E vt u1.1 u1.2, HW E vk K Tk, TPW E vy y tp, [(o 1, .inr (1, [.ref (vy 0), .ref (vt 0), .int it]))], [(o 2, .inl (E.2.2.2, 4, .inr (.inr (.inr (.inr qf)))))], SHc E aa nn B Z N 0, SHc E aa nn B Z N 1, SHc E aa nn B Z N 2, SHc E aa nn B Z N 3, IA E (o 3) 7 ((mMark S F P G x1 x2).2), MJ b z w, IA E (b 1) 68 (enc S), IA E (b 2) 7 ((mMark S F P G x1 x2).2), IA E (b 3) 68 u2, IA E (b 4) 68 f4, IA E (b 5) 120 tp, IA E (b 6) 4 B, IA E (b 7) 4 (szA Z), LA E (b 8) 160 (en4 N), LA E (b 9) 40 f9, IA E (b 10) 68 (enc Kr), IA E (b 11) 68 f11]) H locs := hW
  refine lv_icmp_eq (tgt := 1301) hx hb dL_law_738 (by decide) (fun _ => ?_) (fun hc => absurd (g1.trans g2.symm) hc)
  exact kk H locs ⟨S, Tl, u1.1, u1.2, K, Tk, Kr, (mMark S F P G x1 x2).2, B, kp, it, y, tp, z, tl, Z, N, w, u2, f4, f11, f9, hS, hKK, hkp, hz6, hyl, hzl, ht1, hB, hZ, hW⟩
set_option maxHeartbeats 4000000 in
theorem lc_kind (hC : Cx p room_1 s m args meth c cL_law 4 RL ret E room_1) (hD : Dj A (asL o vl vt vk vy aa nn b)) (hA : ∀ q, s.heap.size ≤ q → A q) (hX : va_X sb L xs s s.heap) (hbl : sb < s.heap.size) (hbA : ¬ A sb) (hk : k + 6 ≤ L) (hL : L ≤ 3072) (hqf : ∀ i, i < 4 → qf i = some (aa i)) (hl : lv_has ls 4 [(3, .int (nI k)), (2, .ref (b 0)), (1, .ref (o 0)), (0, .ref sb)]) (h : LI E A s.heap o vl vt vk vy aa nn b qf H locs)
    (kk : ∀ (H : Heap) (locs : List Loc), LI E A s.heap o vl vt vk vy aa nn b qf H locs → W p l e room_1 s m args below meth c H locs 600000 7302250 Q (F0 m 1301 ls [])) : W p l e room_1 s m args below meth c H locs 600000 7302250 Q (F0 m 743 ls []) := by
  obtain ⟨S, Tl, St, Tt, K, Tk, Kr, F, B, kp, it, y, tp, z, tl, Z, N, w, f3, f4, f11, f9, hS, hKK, hkp, hz6, hyl, hzl, ht1, hB, hZ, hW⟩ := h
  obtain ⟨P, G, hV⟩ := id hS
  have hx := hC.1
  have hb := hC.2.1
  obtain ⟨x1, h1⟩ : ∃ x, xs (k + 1) = x := ⟨_, rfl⟩
  obtain ⟨x2, h2⟩ : ∃ x, xs (k + 2) = x := ⟨_, rfl⟩
  refine lv_aload_n hx hb dL_law_743 rfl (lv_at hl 2 rfl) ?_
  refine r_scr (j := 1) hC hW hX hbl hbA hk hL hl (by decide) rfl h1 dL_law_744 dL_law_745 dL_law_746 dL_law_747 dL_law_748 ?_
  refine r_scr (j := 2) hC hW hX hbl hbA hk hL hl (by decide) rfl h2 dL_law_749 dL_law_750 dL_law_751 dL_law_752 dL_law_753 ?_
  refine r_callCi hC hD hW hA lkL_84 (c_X4_kind l E o vl vt vk vy kp S Tl F P G hV St Tt x1 x2) rfl rfl ⟨Nat.le_of_ble_eq_true rfl, Nat.le_of_ble_eq_true rfl, Nat.le_refl _, Nat.le_refl _⟩ [0, 11, 1, 2] rfl rfl rfl (fun _ => rfl) hl.1 rfl rfl (Nat.le_of_ble_eq_true rfl) dL_law_754 (fun r1 u1 H locs g1 hW => ?_)
  have hW : Wd E A s.heap (wcat [CO o vl vt vk vy kp, HW E vl S Tl, HW E vt u1.1 u1.2, HW E vk K Tk, TPW E vy y tp, [(o 1, .inr (1, [.ref (vy 0), .ref (vt 0), .int it]))], [(o 2, .inl (E.2.2.2, 4, .inr (.inr (.inr (.inr qf)))))], SHc E aa nn B Z N 0, SHc E aa nn B Z N 1, SHc E aa nn B Z N 2, SHc E aa nn B Z N 3, IA E (o 3) 7 ((mKind S F P G x1 x2).2), MJ b z w, IA E (b 1) 68 (enc S), IA E (b 2) 7 F, IA E (b 3) 68 f3, IA E (b 4) 68 f4, IA E (b 5) 120 tp, IA E (b 6) 4 B, IA E (b 7) 4 (szA Z), LA E (b 8) 160 (en4 N), LA E (b 9) 40 f9, IA E (b 10) 68 (enc Kr), IA E (b 11) 68 f11]) H locs := hW
  refine lv_aload_n hx hb dL_law_757 rfl (lv_at hl 1 rfl) ?_
  refine r_scr (j := 1) hC hW hX hbl hbA hk hL hl (by decide) rfl h1 dL_law_758 dL_law_759 dL_law_760 dL_law_761 dL_law_762 ?_
  refine r_scr (j := 2) hC hW hX hbl hbA hk hL hl (by decide) rfl h2 dL_law_763 dL_law_764 dL_law_765 dL_law_766 dL_law_767 ?_
  refine r_callCi hC hD hW hA lkL_87 (c_X5_kind l E b z w S F P G hV f3 x1 x2) rfl rfl ⟨Nat.le_of_ble_eq_true rfl, Nat.le_of_ble_eq_true rfl, Nat.le_refl _, Nat.le_refl _⟩ [12, 13, 14, 15] rfl rfl rfl (fun _ => rfl) hl.1 rfl rfl (Nat.le_of_ble_eq_true rfl) dL_law_768 (fun r2 u2 H locs g2 hW => ?_)
  have hW : Wd E A s.heap (wcat [CO o vl vt vk vy kp, HW E vl S Tl, HW E vt u1.1 u1.2, HW E vk K Tk, TPW E vy y tp, [(o 1, .inr (1, [.ref (vy 0), .ref (vt 0), .int it]))], [(o 2, .inl (E.2.2.2, 4, .inr (.inr (.inr (.inr qf)))))], SHc E aa nn B Z N 0, SHc E aa nn B Z N 1, SHc E aa nn B Z N 2, SHc E aa nn B Z N 3, IA E (o 3) 7 ((mKind S F P G x1 x2).2), MJ b z w, IA E (b 1) 68 (enc S), IA E (b 2) 7 ((mKind S F P G x1 x2).2), IA E (b 3) 68 u2, IA E (b 4) 68 f4, IA E (b 5) 120 tp, IA E (b 6) 4 B, IA E (b 7) 4 (szA Z), LA E (b 8) 160 (en4 N), LA E (b 9) 40 f9, IA E (b 10) 68 (enc Kr), IA E (b 11) 68 f11]) H locs := hW
  refine lv_icmp_eq (tgt := 1301) hx hb dL_law_771 (by decide) (fun _ => ?_) (fun hc => absurd (g1.trans g2.symm) hc)
  exact kk H locs ⟨S, Tl, u1.1, u1.2, K, Tk, Kr, (mKind S F P G x1 x2).2, B, kp, it, y, tp, z, tl, Z, N, w, u2, f4, f11, f9, hS, hKK, hkp, hz6, hyl, hzl, ht1, hB, hZ, hW⟩
set_option maxHeartbeats 4000000 in
theorem lc_warmest (hC : Cx p room_1 s m args meth c cL_law 4 RL ret E room_1) (hD : Dj A (asL o vl vt vk vy aa nn b)) (hA : ∀ q, s.heap.size ≤ q → A q) (hX : va_X sb L xs s s.heap) (hbl : sb < s.heap.size) (hbA : ¬ A sb) (hk : k + 6 ≤ L) (hL : L ≤ 3072) (hqf : ∀ i, i < 4 → qf i = some (aa i)) (hl : lv_has ls 4 [(3, .int (nI k)), (2, .ref (b 0)), (1, .ref (o 0)), (0, .ref sb)]) (h : LI E A s.heap o vl vt vk vy aa nn b qf H locs)
    (kk : ∀ (H : Heap) (locs : List Loc), LI E A s.heap o vl vt vk vy aa nn b qf H locs → W p l e room_1 s m args below meth c H locs 600000 7302250 Q (F0 m 1301 ls [])) : W p l e room_1 s m args below meth c H locs 600000 7302250 Q (F0 m 776 ls []) := by
  obtain ⟨S, Tl, St, Tt, K, Tk, Kr, F, B, kp, it, y, tp, z, tl, Z, N, w, f3, f4, f11, f9, hS, hKK, hkp, hz6, hyl, hzl, ht1, hB, hZ, hW⟩ := h
  obtain ⟨P, G, hV⟩ := id hS
  have hx := hC.1
  have hb := hC.2.1
  obtain ⟨x1, h1⟩ : ∃ x, xs (k + 1) = x := ⟨_, rfl⟩
  obtain ⟨x2, h2⟩ : ∃ x, xs (k + 2) = x := ⟨_, rfl⟩
  refine lv_aload_n hx hb dL_law_776 rfl (lv_at hl 2 rfl) ?_
  refine r_scr (j := 1) hC hW hX hbl hbA hk hL hl (by decide) rfl h1 dL_law_777 dL_law_778 dL_law_779 dL_law_780 dL_law_781 ?_
  refine r_scr (j := 2) hC hW hX hbl hbA hk hL hl (by decide) rfl h2 dL_law_782 dL_law_783 dL_law_784 dL_law_785 dL_law_786 ?_
  refine r_callCi hC hD hW hA lkL_88 (c_X4_warmest l E o vl vt vk vy kp S Tl F P G hV St Tt x1 x2) rfl rfl ⟨Nat.le_of_ble_eq_true rfl, Nat.le_of_ble_eq_true rfl, Nat.le_refl _, Nat.le_refl _⟩ [0, 11, 1, 2] rfl rfl rfl (fun _ => rfl) hl.1 rfl rfl (Nat.le_of_ble_eq_true rfl) dL_law_787 (fun r1 u1 H locs g1 hW => ?_)
  have hW : Wd E A s.heap (wcat [CO o vl vt vk vy kp, HW E vl S Tl, HW E vt u1.1 u1.2, HW E vk K Tk, TPW E vy y tp, [(o 1, .inr (1, [.ref (vy 0), .ref (vt 0), .int it]))], [(o 2, .inl (E.2.2.2, 4, .inr (.inr (.inr (.inr qf)))))], SHc E aa nn B Z N 0, SHc E aa nn B Z N 1, SHc E aa nn B Z N 2, SHc E aa nn B Z N 3, IA E (o 3) 7 ((mWarm S F P G x1 x2).2), MJ b z w, IA E (b 1) 68 (enc S), IA E (b 2) 7 F, IA E (b 3) 68 f3, IA E (b 4) 68 f4, IA E (b 5) 120 tp, IA E (b 6) 4 B, IA E (b 7) 4 (szA Z), LA E (b 8) 160 (en4 N), LA E (b 9) 40 f9, IA E (b 10) 68 (enc Kr), IA E (b 11) 68 f11]) H locs := hW
  refine lv_aload_n hx hb dL_law_790 rfl (lv_at hl 1 rfl) ?_
  refine r_scr (j := 1) hC hW hX hbl hbA hk hL hl (by decide) rfl h1 dL_law_791 dL_law_792 dL_law_793 dL_law_794 dL_law_795 ?_
  refine r_scr (j := 2) hC hW hX hbl hbA hk hL hl (by decide) rfl h2 dL_law_796 dL_law_797 dL_law_798 dL_law_799 dL_law_800 ?_
  refine r_callCi hC hD hW hA lkL_91 (c_X5_warmest l E b z w S F P G hV f3 x1 x2) rfl rfl ⟨Nat.le_of_ble_eq_true rfl, Nat.le_of_ble_eq_true rfl, Nat.le_refl _, Nat.le_refl _⟩ [12, 13, 14, 15] rfl rfl rfl (fun _ => rfl) hl.1 rfl rfl (Nat.le_of_ble_eq_true rfl) dL_law_801 (fun r2 u2 H locs g2 hW => ?_)
  have hW : Wd E A s.heap (wcat [CO o vl vt vk vy kp, HW E vl S Tl, HW E vt u1.1 u1.2, HW E vk K Tk, TPW E vy y tp, [(o 1, .inr (1, [.ref (vy 0), .ref (vt 0), .int it]))], [(o 2, .inl (E.2.2.2, 4, .inr (.inr (.inr (.inr qf)))))], SHc E aa nn B Z N 0, SHc E aa nn B Z N 1, SHc E aa nn B Z N 2, SHc E aa nn B Z N 3, IA E (o 3) 7 ((mWarm S F P G x1 x2).2), MJ b z w, IA E (b 1) 68 (enc S), IA E (b 2) 7 ((mWarm S F P G x1 x2).2), IA E (b 3) 68 u2, IA E (b 4) 68 f4, IA E (b 5) 120 tp, IA E (b 6) 4 B, IA E (b 7) 4 (szA Z), LA E (b 8) 160 (en4 N), LA E (b 9) 40 f9, IA E (b 10) 68 (enc Kr), IA E (b 11) 68 f11]) H locs := hW
  refine lv_icmp_eq (tgt := 1301) hx hb dL_law_804 (by decide) (fun _ => ?_) (fun hc => absurd (g1.trans g2.symm) hc)
  exact kk H locs ⟨S, Tl, u1.1, u1.2, K, Tk, Kr, (mWarm S F P G x1 x2).2, B, kp, it, y, tp, z, tl, Z, N, w, u2, f4, f11, f9, hS, hKK, hkp, hz6, hyl, hzl, ht1, hB, hZ, hW⟩
set_option maxHeartbeats 4000000 in
theorem lc_plain (hC : Cx p room_1 s m args meth c cL_law 4 RL ret E room_1) (hD : Dj A (asL o vl vt vk vy aa nn b)) (hA : ∀ q, s.heap.size ≤ q → A q) (hX : va_X sb L xs s s.heap) (hbl : sb < s.heap.size) (hbA : ¬ A sb) (hk : k + 6 ≤ L) (hL : L ≤ 3072) (hqf : ∀ i, i < 4 → qf i = some (aa i)) (hl : lv_has ls 4 [(3, .int (nI k)), (2, .ref (b 0)), (1, .ref (o 0)), (0, .ref sb)]) (h : LI E A s.heap o vl vt vk vy aa nn b qf H locs)
    (kk : ∀ (H : Heap) (locs : List Loc), LI E A s.heap o vl vt vk vy aa nn b qf H locs → W p l e room_1 s m args below meth c H locs 600000 7302250 Q (F0 m 1301 ls [])) : W p l e room_1 s m args below meth c H locs 600000 7302250 Q (F0 m 809 ls []) := by
  obtain ⟨S, Tl, St, Tt, K, Tk, Kr, F, B, kp, it, y, tp, z, tl, Z, N, w, f3, f4, f11, f9, hS, hKK, hkp, hz6, hyl, hzl, ht1, hB, hZ, hW⟩ := h
  obtain ⟨P, G, hV⟩ := id hS
  have hx := hC.1
  have hb := hC.2.1
  obtain ⟨x1, h1⟩ : ∃ x, xs (k + 1) = x := ⟨_, rfl⟩
  obtain ⟨x2, h2⟩ : ∃ x, xs (k + 2) = x := ⟨_, rfl⟩
  refine lv_aload_n hx hb dL_law_809 rfl (lv_at hl 2 rfl) ?_
  refine r_scr (j := 1) hC hW hX hbl hbA hk hL hl (by decide) rfl h1 dL_law_810 dL_law_811 dL_law_812 dL_law_813 dL_law_814 ?_
  refine r_scr (j := 2) hC hW hX hbl hbA hk hL hl (by decide) rfl h2 dL_law_815 dL_law_816 dL_law_817 dL_law_818 dL_law_819 ?_
  refine r_callCi hC hD hW hA lkL_92 (c_X4_plain l E o vl vt vk vy kp S Tl F P G hV St Tt x1 x2) rfl rfl ⟨Nat.le_of_ble_eq_true rfl, Nat.le_of_ble_eq_true rfl, Nat.le_refl _, Nat.le_refl _⟩ [0, 11, 1, 2] rfl rfl rfl (fun _ => rfl) hl.1 rfl rfl (Nat.le_of_ble_eq_true rfl) dL_law_820 (fun r1 u1 H locs g1 hW => ?_)
  have hW : Wd E A s.heap (wcat [CO o vl vt vk vy kp, HW E vl S Tl, HW E vt u1.1 u1.2, HW E vk K Tk, TPW E vy y tp, [(o 1, .inr (1, [.ref (vy 0), .ref (vt 0), .int it]))], [(o 2, .inl (E.2.2.2, 4, .inr (.inr (.inr (.inr qf)))))], SHc E aa nn B Z N 0, SHc E aa nn B Z N 1, SHc E aa nn B Z N 2, SHc E aa nn B Z N 3, IA E (o 3) 7 ((mPlain S F P G x1 x2).2), MJ b z w, IA E (b 1) 68 (enc S), IA E (b 2) 7 F, IA E (b 3) 68 f3, IA E (b 4) 68 f4, IA E (b 5) 120 tp, IA E (b 6) 4 B, IA E (b 7) 4 (szA Z), LA E (b 8) 160 (en4 N), LA E (b 9) 40 f9, IA E (b 10) 68 (enc Kr), IA E (b 11) 68 f11]) H locs := hW
  refine lv_aload_n hx hb dL_law_823 rfl (lv_at hl 1 rfl) ?_
  refine r_scr (j := 1) hC hW hX hbl hbA hk hL hl (by decide) rfl h1 dL_law_824 dL_law_825 dL_law_826 dL_law_827 dL_law_828 ?_
  refine r_scr (j := 2) hC hW hX hbl hbA hk hL hl (by decide) rfl h2 dL_law_829 dL_law_830 dL_law_831 dL_law_832 dL_law_833 ?_
  refine r_callCi hC hD hW hA lkL_95 (c_X5_plain l E b z w S F P G hV f3 x1 x2) rfl rfl ⟨Nat.le_of_ble_eq_true rfl, Nat.le_of_ble_eq_true rfl, Nat.le_refl _, Nat.le_refl _⟩ [12, 13, 14, 15] rfl rfl rfl (fun _ => rfl) hl.1 rfl rfl (Nat.le_of_ble_eq_true rfl) dL_law_834 (fun r2 u2 H locs g2 hW => ?_)
  have hW : Wd E A s.heap (wcat [CO o vl vt vk vy kp, HW E vl S Tl, HW E vt u1.1 u1.2, HW E vk K Tk, TPW E vy y tp, [(o 1, .inr (1, [.ref (vy 0), .ref (vt 0), .int it]))], [(o 2, .inl (E.2.2.2, 4, .inr (.inr (.inr (.inr qf)))))], SHc E aa nn B Z N 0, SHc E aa nn B Z N 1, SHc E aa nn B Z N 2, SHc E aa nn B Z N 3, IA E (o 3) 7 ((mPlain S F P G x1 x2).2), MJ b z w, IA E (b 1) 68 (enc S), IA E (b 2) 7 ((mPlain S F P G x1 x2).2), IA E (b 3) 68 u2, IA E (b 4) 68 f4, IA E (b 5) 120 tp, IA E (b 6) 4 B, IA E (b 7) 4 (szA Z), LA E (b 8) 160 (en4 N), LA E (b 9) 40 f9, IA E (b 10) 68 (enc Kr), IA E (b 11) 68 f11]) H locs := hW
  refine lv_icmp_eq (tgt := 1301) hx hb dL_law_837 (by decide) (fun _ => ?_) (fun hc => absurd (g1.trans g2.symm) hc)
  exact kk H locs ⟨S, Tl, u1.1, u1.2, K, Tk, Kr, (mPlain S F P G x1 x2).2, B, kp, it, y, tp, z, tl, Z, N, w, u2, f4, f11, f9, hS, hKK, hkp, hz6, hyl, hzl, ht1, hB, hZ, hW⟩
set_option maxHeartbeats 4000000 in
theorem lc_teach (hC : Cx p room_1 s m args meth c cL_law 4 RL ret E room_1) (hD : Dj A (asL o vl vt vk vy aa nn b)) (hA : ∀ q, s.heap.size ≤ q → A q) (hX : va_X sb L xs s s.heap) (hbl : sb < s.heap.size) (hbA : ¬ A sb) (hk : k + 6 ≤ L) (hL : L ≤ 3072) (hqf : ∀ i, i < 4 → qf i = some (aa i)) (hl : lv_has ls 4 [(3, .int (nI k)), (2, .ref (b 0)), (1, .ref (o 0)), (0, .ref sb)]) (h : LI E A s.heap o vl vt vk vy aa nn b qf H locs)
    (kk : ∀ (H : Heap) (locs : List Loc), LI E A s.heap o vl vt vk vy aa nn b qf H locs → W p l e room_1 s m args below meth c H locs 600000 7302250 Q (F0 m 1301 ls [])) : W p l e room_1 s m args below meth c H locs 600000 7302250 Q (F0 m 842 ls []) := by
  obtain ⟨S, Tl, St, Tt, K, Tk, Kr, F, B, kp, it, y, tp, z, tl, Z, N, w, f3, f4, f11, f9, hS, hKK, hkp, hz6, hyl, hzl, ht1, hB, hZ, hW⟩ := h
  obtain ⟨P, G, hV⟩ := id hS
  have hx := hC.1
  have hb := hC.2.1
  obtain ⟨x1, h1⟩ : ∃ x, xs (k + 1) = x := ⟨_, rfl⟩
  refine lv_aload_n hx hb dL_law_842 rfl (lv_at hl 2 rfl) ?_
  refine r_scr (j := 1) hC hW hX hbl hbA hk hL hl (by decide) rfl h1 dL_law_843 dL_law_844 dL_law_845 dL_law_846 dL_law_847 ?_
  refine r_callCi hC hD hW hA lkL_96 (c_X4_teach l E o vl vt vk vy kp S Tl F P G hV St Tt x1) rfl rfl ⟨Nat.le_of_ble_eq_true rfl, Nat.le_of_ble_eq_true rfl, Nat.le_refl _, Nat.le_refl _⟩ [0, 11, 1, 2] rfl rfl rfl (fun _ => rfl) hl.1 rfl rfl (Nat.le_of_ble_eq_true rfl) dL_law_848 (fun r1 u1 H locs g1 hW => ?_)
  have hW : Wd E A s.heap (wcat [CO o vl vt vk vy kp, HW E vl S Tl, HW E vt u1.1 u1.2, HW E vk K Tk, TPW E vy y tp, [(o 1, .inr (1, [.ref (vy 0), .ref (vt 0), .int it]))], [(o 2, .inl (E.2.2.2, 4, .inr (.inr (.inr (.inr qf)))))], SHc E aa nn B Z N 0, SHc E aa nn B Z N 1, SHc E aa nn B Z N 2, SHc E aa nn B Z N 3, IA E (o 3) 7 ((mTeach S F P G x1).2), MJ b z w, IA E (b 1) 68 (enc S), IA E (b 2) 7 F, IA E (b 3) 68 f3, IA E (b 4) 68 f4, IA E (b 5) 120 tp, IA E (b 6) 4 B, IA E (b 7) 4 (szA Z), LA E (b 8) 160 (en4 N), LA E (b 9) 40 f9, IA E (b 10) 68 (enc Kr), IA E (b 11) 68 f11]) H locs := hW
  refine lv_aload_n hx hb dL_law_851 rfl (lv_at hl 1 rfl) ?_
  refine r_scr (j := 1) hC hW hX hbl hbA hk hL hl (by decide) rfl h1 dL_law_852 dL_law_853 dL_law_854 dL_law_855 dL_law_856 ?_
  refine r_callCi hC hD hW hA lkL_99 (c_X5_teach l E b z w S F P G hV f3 x1) rfl rfl ⟨Nat.le_of_ble_eq_true rfl, Nat.le_of_ble_eq_true rfl, Nat.le_refl _, Nat.le_refl _⟩ [12, 13, 14, 15] rfl rfl rfl (fun _ => rfl) hl.1 rfl rfl (Nat.le_of_ble_eq_true rfl) dL_law_857 (fun r2 u2 H locs g2 hW => ?_)
  have hW : Wd E A s.heap (wcat [CO o vl vt vk vy kp, HW E vl S Tl, HW E vt u1.1 u1.2, HW E vk K Tk, TPW E vy y tp, [(o 1, .inr (1, [.ref (vy 0), .ref (vt 0), .int it]))], [(o 2, .inl (E.2.2.2, 4, .inr (.inr (.inr (.inr qf)))))], SHc E aa nn B Z N 0, SHc E aa nn B Z N 1, SHc E aa nn B Z N 2, SHc E aa nn B Z N 3, IA E (o 3) 7 ((mTeach S F P G x1).2), MJ b z w, IA E (b 1) 68 (enc S), IA E (b 2) 7 ((mTeach S F P G x1).2), IA E (b 3) 68 u2, IA E (b 4) 68 f4, IA E (b 5) 120 tp, IA E (b 6) 4 B, IA E (b 7) 4 (szA Z), LA E (b 8) 160 (en4 N), LA E (b 9) 40 f9, IA E (b 10) 68 (enc Kr), IA E (b 11) 68 f11]) H locs := hW
  refine lv_icmp_eq (tgt := 1301) hx hb dL_law_860 (by decide) (fun _ => ?_) (fun hc => absurd (g1.trans g2.symm) hc)
  exact kk H locs ⟨S, Tl, u1.1, u1.2, K, Tk, Kr, (mTeach S F P G x1).2, B, kp, it, y, tp, z, tl, Z, N, w, u2, f4, f11, f9, hS, hKK, hkp, hz6, hyl, hzl, ht1, hB, hZ, hW⟩
set_option maxHeartbeats 4000000 in
theorem lc_best (hC : Cx p room_1 s m args meth c cL_law 4 RL ret E room_1) (hD : Dj A (asL o vl vt vk vy aa nn b)) (hA : ∀ q, s.heap.size ≤ q → A q) (hX : va_X sb L xs s s.heap) (hbl : sb < s.heap.size) (hbA : ¬ A sb) (hk : k + 6 ≤ L) (hL : L ≤ 3072) (hqf : ∀ i, i < 4 → qf i = some (aa i)) (hl : lv_has ls 4 [(3, .int (nI k)), (2, .ref (b 0)), (1, .ref (o 0)), (0, .ref sb)]) (h : LI E A s.heap o vl vt vk vy aa nn b qf H locs)
    (kk : ∀ (H : Heap) (locs : List Loc), LI E A s.heap o vl vt vk vy aa nn b qf H locs → W p l e room_1 s m args below meth c H locs 600000 7302250 Q (F0 m 1301 ls [])) : W p l e room_1 s m args below meth c H locs 600000 7302250 Q (F0 m 865 ls []) := by
  obtain ⟨S, Tl, St, Tt, K, Tk, Kr, F, B, kp, it, y, tp, z, tl, Z, N, w, f3, f4, f11, f9, hS, hKK, hkp, hz6, hyl, hzl, ht1, hB, hZ, hW⟩ := h
  obtain ⟨P, G, hV⟩ := id hS
  have hx := hC.1
  have hb := hC.2.1
  obtain ⟨x1, h1⟩ : ∃ x, xs (k + 1) = x := ⟨_, rfl⟩
  refine lv_aload_n hx hb dL_law_865 rfl (lv_at hl 2 rfl) ?_
  refine r_scr (j := 1) hC hW hX hbl hbA hk hL hl (by decide) rfl h1 dL_law_866 dL_law_867 dL_law_868 dL_law_869 dL_law_870 ?_
  refine r_callCi hC hD hW hA lkL_100 (c_X4_best l E o vl vt vk vy kp S Tl F P G hV St Tt x1) rfl rfl ⟨Nat.le_of_ble_eq_true rfl, Nat.le_of_ble_eq_true rfl, Nat.le_refl _, Nat.le_refl _⟩ [0, 11, 1, 2] rfl rfl rfl (fun _ => rfl) hl.1 rfl rfl (Nat.le_of_ble_eq_true rfl) dL_law_871 (fun r1 u1 H locs g1 hW => ?_)
  have hW : Wd E A s.heap (wcat [CO o vl vt vk vy kp, HW E vl S Tl, HW E vt u1.1 u1.2, HW E vk K Tk, TPW E vy y tp, [(o 1, .inr (1, [.ref (vy 0), .ref (vt 0), .int it]))], [(o 2, .inl (E.2.2.2, 4, .inr (.inr (.inr (.inr qf)))))], SHc E aa nn B Z N 0, SHc E aa nn B Z N 1, SHc E aa nn B Z N 2, SHc E aa nn B Z N 3, IA E (o 3) 7 ((mBest S F P G x1).2), MJ b z w, IA E (b 1) 68 (enc S), IA E (b 2) 7 F, IA E (b 3) 68 f3, IA E (b 4) 68 f4, IA E (b 5) 120 tp, IA E (b 6) 4 B, IA E (b 7) 4 (szA Z), LA E (b 8) 160 (en4 N), LA E (b 9) 40 f9, IA E (b 10) 68 (enc Kr), IA E (b 11) 68 f11]) H locs := hW
  refine lv_aload_n hx hb dL_law_874 rfl (lv_at hl 1 rfl) ?_
  refine r_scr (j := 1) hC hW hX hbl hbA hk hL hl (by decide) rfl h1 dL_law_875 dL_law_876 dL_law_877 dL_law_878 dL_law_879 ?_
  refine r_callCi hC hD hW hA lkL_103 (c_X5_best l E b z w S F P G hV f3 x1) rfl rfl ⟨Nat.le_of_ble_eq_true rfl, Nat.le_of_ble_eq_true rfl, Nat.le_refl _, Nat.le_refl _⟩ [12, 13, 14, 15] rfl rfl rfl (fun _ => rfl) hl.1 rfl rfl (Nat.le_of_ble_eq_true rfl) dL_law_880 (fun r2 u2 H locs g2 hW => ?_)
  have hW : Wd E A s.heap (wcat [CO o vl vt vk vy kp, HW E vl S Tl, HW E vt u1.1 u1.2, HW E vk K Tk, TPW E vy y tp, [(o 1, .inr (1, [.ref (vy 0), .ref (vt 0), .int it]))], [(o 2, .inl (E.2.2.2, 4, .inr (.inr (.inr (.inr qf)))))], SHc E aa nn B Z N 0, SHc E aa nn B Z N 1, SHc E aa nn B Z N 2, SHc E aa nn B Z N 3, IA E (o 3) 7 ((mBest S F P G x1).2), MJ b z w, IA E (b 1) 68 (enc S), IA E (b 2) 7 ((mBest S F P G x1).2), IA E (b 3) 68 u2, IA E (b 4) 68 f4, IA E (b 5) 120 tp, IA E (b 6) 4 B, IA E (b 7) 4 (szA Z), LA E (b 8) 160 (en4 N), LA E (b 9) 40 f9, IA E (b 10) 68 (enc Kr), IA E (b 11) 68 f11]) H locs := hW
  refine lv_icmp_eq (tgt := 1301) hx hb dL_law_883 (by decide) (fun _ => ?_) (fun hc => absurd (g1.trans g2.symm) hc)
  exact kk H locs ⟨S, Tl, u1.1, u1.2, K, Tk, Kr, (mBest S F P G x1).2, B, kp, it, y, tp, z, tl, Z, N, w, u2, f4, f11, f9, hS, hKK, hkp, hz6, hyl, hzl, ht1, hB, hZ, hW⟩
set_option maxHeartbeats 4000000 in
theorem lc_feed (hC : Cx p room_1 s m args meth c cL_law 4 RL ret E room_1) (hD : Dj A (asL o vl vt vk vy aa nn b)) (hA : ∀ q, s.heap.size ≤ q → A q) (hX : va_X sb L xs s s.heap) (hbl : sb < s.heap.size) (hbA : ¬ A sb) (hk : k + 6 ≤ L) (hL : L ≤ 3072) (hqf : ∀ i, i < 4 → qf i = some (aa i)) (hl : lv_has ls 4 [(3, .int (nI k)), (2, .ref (b 0)), (1, .ref (o 0)), (0, .ref sb)]) (h : LI E A s.heap o vl vt vk vy aa nn b qf H locs)
    (kk : ∀ (H : Heap) (locs : List Loc), LI E A s.heap o vl vt vk vy aa nn b qf H locs → W p l e room_1 s m args below meth c H locs 600000 7302250 Q (F0 m 1301 ls [])) : W p l e room_1 s m args below meth c H locs 600000 7302250 Q (F0 m 888 ls []) := by
  obtain ⟨S, Tl, St, Tt, K, Tk, Kr, F, B, kp, it, y, tp, z, tl, Z, N, w, f3, f4, f11, f9, hS, hKK, hkp, hz6, hyl, hzl, ht1, hB, hZ, hW⟩ := h
  obtain ⟨P, G, hV⟩ := id hS
  have hx := hC.1
  have hb := hC.2.1
  obtain ⟨x1, h1⟩ : ∃ x, xs (k + 1) = x := ⟨_, rfl⟩
  obtain ⟨x2, h2⟩ : ∃ x, xs (k + 2) = x := ⟨_, rfl⟩
  refine lv_aload_n hx hb dL_law_888 rfl (lv_at hl 2 rfl) ?_
  refine r_scr (j := 1) hC hW hX hbl hbA hk hL hl (by decide) rfl h1 dL_law_889 dL_law_890 dL_law_891 dL_law_892 dL_law_893 ?_
  refine r_scr (j := 2) hC hW hX hbl hbA hk hL hl (by decide) rfl h2 dL_law_894 dL_law_895 dL_law_896 dL_law_897 dL_law_898 ?_
  refine r_callCi hC hD hW hA lkL_104 (c_X4_feed l E o vl vt vk vy kp F y tp tl hyl ht1 x1 x2) rfl rfl ⟨Nat.le_of_ble_eq_true rfl, Nat.le_of_ble_eq_true rfl, Nat.le_refl _, Nat.le_refl _⟩ [0, 11, 4] rfl rfl rfl (fun _ => rfl) hl.1 rfl rfl (Nat.le_of_ble_eq_true rfl) dL_law_899 (fun r1 _ H locs g1 hW => ?_)
  have hW : Wd E A s.heap (wcat [CO o vl vt vk vy kp, HW E vl S Tl, HW E vt St Tt, HW E vk K Tk, TPW E vy (upd y 0 (nI (mFeed F tp tl x1 x2).2.2.2)) ((mFeed F tp tl x1 x2).2.2.1), [(o 1, .inr (1, [.ref (vy 0), .ref (vt 0), .int it]))], [(o 2, .inl (E.2.2.2, 4, .inr (.inr (.inr (.inr qf)))))], SHc E aa nn B Z N 0, SHc E aa nn B Z N 1, SHc E aa nn B Z N 2, SHc E aa nn B Z N 3, IA E (o 3) 7 ((mFeed F tp tl x1 x2).2.1), MJ b z w, IA E (b 1) 68 (enc S), IA E (b 2) 7 F, IA E (b 3) 68 f3, IA E (b 4) 68 f4, IA E (b 5) 120 tp, IA E (b 6) 4 B, IA E (b 7) 4 (szA Z), LA E (b 8) 160 (en4 N), LA E (b 9) 40 f9, IA E (b 10) 68 (enc Kr), IA E (b 11) 68 f11]) H locs := hW
  refine lv_aload_n hx hb dL_law_902 rfl (lv_at hl 1 rfl) ?_
  refine r_scr (j := 1) hC hW hX hbl hbA hk hL hl (by decide) rfl h1 dL_law_903 dL_law_904 dL_law_905 dL_law_906 dL_law_907 ?_
  refine r_scr (j := 2) hC hW hX hbl hbA hk hL hl (by decide) rfl h2 dL_law_908 dL_law_909 dL_law_910 dL_law_911 dL_law_912 ?_
  refine r_callCi hC hD hW hA lkL_107 (c_X5_feed l E b z w F tp tl hzl ht1 x1 x2) rfl rfl ⟨Nat.le_of_ble_eq_true rfl, Nat.le_of_ble_eq_true rfl, Nat.le_refl _, Nat.le_refl _⟩ [12, 14, 17] rfl rfl rfl (fun _ => rfl) hl.1 rfl rfl (Nat.le_of_ble_eq_true rfl) dL_law_913 (fun r2 _ H locs g2 hW => ?_)
  have hW : Wd E A s.heap (wcat [CO o vl vt vk vy kp, HW E vl S Tl, HW E vt St Tt, HW E vk K Tk, TPW E vy (upd y 0 (nI (mFeed F tp tl x1 x2).2.2.2)) ((mFeed F tp tl x1 x2).2.2.1), [(o 1, .inr (1, [.ref (vy 0), .ref (vt 0), .int it]))], [(o 2, .inl (E.2.2.2, 4, .inr (.inr (.inr (.inr qf)))))], SHc E aa nn B Z N 0, SHc E aa nn B Z N 1, SHc E aa nn B Z N 2, SHc E aa nn B Z N 3, IA E (o 3) 7 ((mFeed F tp tl x1 x2).2.1), MJ b (upd z 0 (nI (mFeed F tp tl x1 x2).2.2.2)) w, IA E (b 1) 68 (enc S), IA E (b 2) 7 ((mFeed F tp tl x1 x2).2.1), IA E (b 3) 68 f3, IA E (b 4) 68 f4, IA E (b 5) 120 ((mFeed F tp tl x1 x2).2.2.1), IA E (b 6) 4 B, IA E (b 7) 4 (szA Z), LA E (b 8) 160 (en4 N), LA E (b 9) 40 f9, IA E (b 10) 68 (enc Kr), IA E (b 11) 68 f11]) H locs := hW
  refine lv_icmp_eq (tgt := 1301) hx hb dL_law_916 (by decide) (fun _ => ?_) (fun hc => absurd (g1.trans g2.symm) hc)
  exact kk H locs ⟨S, Tl, St, Tt, K, Tk, Kr, (mFeed F tp tl x1 x2).2.1, B, kp, it, upd y 0 (nI (mFeed F tp tl x1 x2).2.2.2), (mFeed F tp tl x1 x2).2.2.1, upd z 0 (nI (mFeed F tp tl x1 x2).2.2.2), (mFeed F tp tl x1 x2).2.2.2, Z, N, w, f3, f4, f11, f9, hS, hKK, hkp, hz6, rfl, rfl, (TX_feed F x1 x2 hB ht1).2, (TX_feed F x1 x2 hB ht1).1, hZ, hW⟩
set_option maxHeartbeats 4000000 in
theorem lc_wipe (hC : Cx p room_1 s m args meth c cL_law 4 RL ret E room_1) (hD : Dj A (asL o vl vt vk vy aa nn b)) (hA : ∀ q, s.heap.size ≤ q → A q) (hX : va_X sb L xs s s.heap) (hbl : sb < s.heap.size) (hbA : ¬ A sb) (hk : k + 6 ≤ L) (hL : L ≤ 3072) (hqf : ∀ i, i < 4 → qf i = some (aa i)) (hl : lv_has ls 4 [(3, .int (nI k)), (2, .ref (b 0)), (1, .ref (o 0)), (0, .ref sb)]) (h : LI E A s.heap o vl vt vk vy aa nn b qf H locs)
    (kk : ∀ (H : Heap) (locs : List Loc), LI E A s.heap o vl vt vk vy aa nn b qf H locs → W p l e room_1 s m args below meth c H locs 600000 7302250 Q (F0 m 1301 ls [])) : W p l e room_1 s m args below meth c H locs 600000 7302250 Q (F0 m 921 ls []) := by
  obtain ⟨S, Tl, St, Tt, K, Tk, Kr, F, B, kp, it, y, tp, z, tl, Z, N, w, f3, f4, f11, f9, hS, hKK, hkp, hz6, hyl, hzl, ht1, hB, hZ, hW⟩ := h
  obtain ⟨P, G, hV⟩ := id hS
  have hx := hC.1
  have hb := hC.2.1
  refine lv_aload_n hx hb dL_law_921 rfl (lv_at hl 2 rfl) ?_
  refine r_callCi hC hD hW hA lkL_108 (c_X4_wipe l E o vl vt vk vy kp y tp) rfl rfl ⟨Nat.le_of_ble_eq_true rfl, Nat.le_of_ble_eq_true rfl, Nat.le_refl _, Nat.le_refl _⟩ [0, 4] rfl rfl rfl (fun _ => rfl) hl.1 rfl rfl (Nat.le_of_ble_eq_true rfl) dL_law_922 (fun r1 _ H locs g1 hW => ?_)
  have hW : Wd E A s.heap (wcat [CO o vl vt vk vy kp, HW E vl S Tl, HW E vt St Tt, HW E vk K Tk, TPW E vy (upd y 0 0) tp, [(o 1, .inr (1, [.ref (vy 0), .ref (vt 0), .int it]))], [(o 2, .inl (E.2.2.2, 4, .inr (.inr (.inr (.inr qf)))))], SHc E aa nn B Z N 0, SHc E aa nn B Z N 1, SHc E aa nn B Z N 2, SHc E aa nn B Z N 3, IA E (o 3) 7 F, MJ b z w, IA E (b 1) 68 (enc S), IA E (b 2) 7 F, IA E (b 3) 68 f3, IA E (b 4) 68 f4, IA E (b 5) 120 tp, IA E (b 6) 4 B, IA E (b 7) 4 (szA Z), LA E (b 8) 160 (en4 N), LA E (b 9) 40 f9, IA E (b 10) 68 (enc Kr), IA E (b 11) 68 f11]) H locs := hW
  refine lv_aload_n hx hb dL_law_925 rfl (lv_at hl 1 rfl) ?_
  refine r_callCi hC hD hW hA lkL_112 (c_X5_wipe l E b z w) rfl rfl ⟨Nat.le_of_ble_eq_true rfl, Nat.le_of_ble_eq_true rfl, Nat.le_refl _, Nat.le_refl _⟩ [12] rfl rfl rfl (fun _ => rfl) hl.1 rfl rfl (Nat.le_of_ble_eq_true rfl) dL_law_926 (fun r2 _ H locs g2 hW => ?_)
  have hW : Wd E A s.heap (wcat [CO o vl vt vk vy kp, HW E vl S Tl, HW E vt St Tt, HW E vk K Tk, TPW E vy (upd y 0 0) tp, [(o 1, .inr (1, [.ref (vy 0), .ref (vt 0), .int it]))], [(o 2, .inl (E.2.2.2, 4, .inr (.inr (.inr (.inr qf)))))], SHc E aa nn B Z N 0, SHc E aa nn B Z N 1, SHc E aa nn B Z N 2, SHc E aa nn B Z N 3, IA E (o 3) 7 F, MJ b (upd z 0 0) w, IA E (b 1) 68 (enc S), IA E (b 2) 7 F, IA E (b 3) 68 f3, IA E (b 4) 68 f4, IA E (b 5) 120 tp, IA E (b 6) 4 B, IA E (b 7) 4 (szA Z), LA E (b 8) 160 (en4 N), LA E (b 9) 40 f9, IA E (b 10) 68 (enc Kr), IA E (b 11) 68 f11]) H locs := hW
  refine lv_icmp_eq (tgt := 1301) hx hb dL_law_929 (by decide) (fun _ => ?_) (fun hc => absurd (g1.trans (hyl.trans (hzl.symm.trans g2.symm))) hc)
  exact kk H locs ⟨S, Tl, St, Tt, K, Tk, Kr, F, B, kp, it, upd y 0 0, tp, upd z 0 0, 0, Z, N, w, f3, f4, f11, f9, hS, hKK, hkp, hz6, rfl, rfl, Nat.zero_le _, tBY_0, hZ, hW⟩
end CASES
