theorem tBY_0 {tp : Nat → Int32} : tBY tp 0 := fun i hi => absurd hi (Nat.not_lt_zero i)
theorem lg_cmp_self (x : Int64) : lg_cmp x x = 0 := by simp [lg_cmp]
section CASES
variable {p : Program} {l : Launch} {e : Env} {s : State} {m : MethodId} {below : List Frame} {meth : Method} {c : Code} {H : Heap} {locs : List Loc} {Q : State → Prop} {args : Array Value}
variable {E : Ev} {A : Nat → Prop} {sb L k pc : Nat} {xs : Nat → Int32} {o vl vt vk vy aa nn b ad av : NN} {qf : Nat → Option Nat} {ls : Array Slot} {rest : List Value}
set_option maxHeartbeats 4000000 in
theorem lc_heat (hC : Cx p room_1 s m args meth c cL_law 4 RL ret E room_1) (hD : Dj A (asL o vl vt vk vy aa nn b)) (hA : ∀ q, s.heap.size ≤ q → A q) (hX : va_X sb L xs s s.heap) (hbl : sb < s.heap.size) (hbA : ¬ A sb) (hk : k + 6 ≤ L) (hL : L ≤ 3072) (hqf : ∀ i, i < 4 → qf i = some (aa i)) (hl : lv_has ls 4 [(3, .int (nI k)), (2, .ref (b 0)), (1, .ref (o 0)), (0, .ref sb)]) (h : LI E A s.heap o vl vt vk vy aa nn b qf H locs)
    (kk : ∀ (H : Heap) (locs : List Loc), LI E A s.heap o vl vt vk vy aa nn b qf H locs → W p l e room_1 s m args below meth c H locs 600000 7302250 Q (F0 m 1301 ls [])) : W p l e room_1 s m args below meth c H locs 600000 7302250 Q (F0 m 192 ls []) := by
  obtain ⟨S, Tl, St, Tt, K, Tk, Kr, F, B, kp, it, y, tp, z, tl, Z, N, w, f3, f4, f11, f9, hS, hKK, hkp, hz6, hyl, hzl, ht1, hB, hZ, hW⟩ := h
  obtain ⟨P, G, hV⟩ := id hS
  have hx := hC.1
  have hb := hC.2.1
  obtain ⟨x1, h1⟩ : ∃ x, xs (k + 1) = x := ⟨_, rfl⟩
  refine lv_aload_n hx hb dL_law_192 rfl (lv_at hl 2 rfl) ?_
  refine r_scr (j := 1) hC hW hX hbl hbA hk hL hl (by decide) rfl h1 dL_law_193 dL_law_194 dL_law_195 dL_law_196 dL_law_197 ?_
  refine r_callCi hC hD hW hA lkL_13 (c_X4_heat l E o vl vt vk vy kp S Tl F P G hV x1) rfl rfl ⟨Nat.le_of_ble_eq_true rfl, Nat.le_of_ble_eq_true rfl, Nat.le_refl _, Nat.le_refl _⟩ [0, 11, 1] rfl rfl rfl (fun _ => rfl) hl.1 rfl rfl (Nat.le_of_ble_eq_true rfl) dL_law_198 (fun r1 _ H locs g1 hW => ?_)
  have hW : Wd E A s.heap (wcat [CO o vl vt vk vy kp, HW E vl ((mHeat S F x1).2.1) Tl, HW E vt St Tt, HW E vk K Tk, TPW E vy y tp, [(o 1, .inr (1, [.ref (vy 0), .ref (vt 0), .int it]))], [(o 2, .inl (E.2.2.2, 4, .inr (.inr (.inr (.inr qf)))))], SHc E aa nn B Z N 0, SHc E aa nn B Z N 1, SHc E aa nn B Z N 2, SHc E aa nn B Z N 3, IA E (o 3) 7 ((mHeat S F x1).2.2), MJ b z w, IA E (b 1) 68 (enc S), IA E (b 2) 7 F, IA E (b 3) 68 f3, IA E (b 4) 68 f4, IA E (b 5) 120 tp, IA E (b 6) 4 B, IA E (b 7) 4 (szA Z), LA E (b 8) 160 (en4 N), LA E (b 9) 40 f9, IA E (b 10) 68 (enc Kr), IA E (b 11) 68 f11]) H locs := hW
  refine lv_aload_n hx hb dL_law_201 rfl (lv_at hl 1 rfl) ?_
  refine r_scr (j := 1) hC hW hX hbl hbA hk hL hl (by decide) rfl h1 dL_law_202 dL_law_203 dL_law_204 dL_law_205 dL_law_206 ?_
  refine r_callCi hC hD hW hA lkL_17 (c_X5_heat l E b z w S F P G hV x1) rfl rfl ⟨Nat.le_of_ble_eq_true rfl, Nat.le_of_ble_eq_true rfl, Nat.le_refl _, Nat.le_refl _⟩ [12, 13, 14] rfl rfl rfl (fun _ => rfl) hl.1 rfl rfl (Nat.le_of_ble_eq_true rfl) dL_law_207 (fun r2 _ H locs g2 hW => ?_)
  have hW : Wd E A s.heap (wcat [CO o vl vt vk vy kp, HW E vl ((mHeat S F x1).2.1) Tl, HW E vt St Tt, HW E vk K Tk, TPW E vy y tp, [(o 1, .inr (1, [.ref (vy 0), .ref (vt 0), .int it]))], [(o 2, .inl (E.2.2.2, 4, .inr (.inr (.inr (.inr qf)))))], SHc E aa nn B Z N 0, SHc E aa nn B Z N 1, SHc E aa nn B Z N 2, SHc E aa nn B Z N 3, IA E (o 3) 7 ((mHeat S F x1).2.2), MJ b z w, IA E (b 1) 68 (enc ((mHeat S F x1).2.1)), IA E (b 2) 7 ((mHeat S F x1).2.2), IA E (b 3) 68 f3, IA E (b 4) 68 f4, IA E (b 5) 120 tp, IA E (b 6) 4 B, IA E (b 7) 4 (szA Z), LA E (b 8) 160 (en4 N), LA E (b 9) 40 f9, IA E (b 10) 68 (enc Kr), IA E (b 11) 68 f11]) H locs := hW
  refine lv_icmp_eq (tgt := 1301) hx hb dL_law_210 (by decide) (fun _ => ?_) (fun hc => absurd (g1.trans g2.symm) hc)
  exact kk H locs ⟨(mHeat S F x1).2.1, Tl, St, Tt, K, Tk, Kr, (mHeat S F x1).2.2, B, kp, it, y, tp, z, tl, Z, N, w, f3, f4, f11, f9, HX_heat F x1 hS, hKK, hkp, hz6, hyl, hzl, ht1, hB, hZ, hW⟩
set_option maxHeartbeats 4000000 in
theorem lc_now (hC : Cx p room_1 s m args meth c cL_law 4 RL ret E room_1) (hD : Dj A (asL o vl vt vk vy aa nn b)) (hA : ∀ q, s.heap.size ≤ q → A q) (hX : va_X sb L xs s s.heap) (hbl : sb < s.heap.size) (hbA : ¬ A sb) (hk : k + 6 ≤ L) (hL : L ≤ 3072) (hqf : ∀ i, i < 4 → qf i = some (aa i)) (hl : lv_has ls 4 [(3, .int (nI k)), (2, .ref (b 0)), (1, .ref (o 0)), (0, .ref sb)]) (h : LI E A s.heap o vl vt vk vy aa nn b qf H locs)
    (kk : ∀ (H : Heap) (locs : List Loc), LI E A s.heap o vl vt vk vy aa nn b qf H locs → W p l e room_1 s m args below meth c H locs 600000 7302250 Q (F0 m 1301 ls [])) : W p l e room_1 s m args below meth c H locs 600000 7302250 Q (F0 m 215 ls []) := by
  obtain ⟨S, Tl, St, Tt, K, Tk, Kr, F, B, kp, it, y, tp, z, tl, Z, N, w, f3, f4, f11, f9, hS, hKK, hkp, hz6, hyl, hzl, ht1, hB, hZ, hW⟩ := h
  obtain ⟨P, G, hV⟩ := id hS
  have hx := hC.1
  have hb := hC.2.1
  obtain ⟨x1, h1⟩ : ∃ x, xs (k + 1) = x := ⟨_, rfl⟩
  refine lv_aload_n hx hb dL_law_215 rfl (lv_at hl 2 rfl) ?_
  refine r_scr (j := 1) hC hW hX hbl hbA hk hL hl (by decide) rfl h1 dL_law_216 dL_law_217 dL_law_218 dL_law_219 dL_law_220 ?_
  refine r_callCi hC hD hW hA lkL_18 (c_X4_now l E o vl vt vk vy kp S Tl F P G hV x1) rfl rfl ⟨Nat.le_of_ble_eq_true rfl, Nat.le_of_ble_eq_true rfl, Nat.le_refl _, Nat.le_refl _⟩ [0, 11, 1] rfl rfl rfl (fun _ => rfl) hl.1 rfl rfl (Nat.le_of_ble_eq_true rfl) dL_law_221 (fun r1 _ H locs g1 hW => ?_)
  have hW : Wd E A s.heap (wcat [CO o vl vt vk vy kp, HW E vl S Tl, HW E vt St Tt, HW E vk K Tk, TPW E vy y tp, [(o 1, .inr (1, [.ref (vy 0), .ref (vt 0), .int it]))], [(o 2, .inl (E.2.2.2, 4, .inr (.inr (.inr (.inr qf)))))], SHc E aa nn B Z N 0, SHc E aa nn B Z N 1, SHc E aa nn B Z N 2, SHc E aa nn B Z N 3, IA E (o 3) 7 ((mNow S F P G x1).2), MJ b z w, IA E (b 1) 68 (enc S), IA E (b 2) 7 F, IA E (b 3) 68 f3, IA E (b 4) 68 f4, IA E (b 5) 120 tp, IA E (b 6) 4 B, IA E (b 7) 4 (szA Z), LA E (b 8) 160 (en4 N), LA E (b 9) 40 f9, IA E (b 10) 68 (enc Kr), IA E (b 11) 68 f11]) H locs := hW
  refine lv_aload_n hx hb dL_law_224 rfl (lv_at hl 1 rfl) ?_
  refine r_scr (j := 1) hC hW hX hbl hbA hk hL hl (by decide) rfl h1 dL_law_225 dL_law_226 dL_law_227 dL_law_228 dL_law_229 ?_
  refine r_callCi hC hD hW hA lkL_21 (c_X5_now l E b z w S F P G hV x1) rfl rfl ⟨Nat.le_of_ble_eq_true rfl, Nat.le_of_ble_eq_true rfl, Nat.le_refl _, Nat.le_refl _⟩ [12, 13, 14] rfl rfl rfl (fun _ => rfl) hl.1 rfl rfl (Nat.le_of_ble_eq_true rfl) dL_law_230 (fun r2 _ H locs g2 hW => ?_)
  have hW : Wd E A s.heap (wcat [CO o vl vt vk vy kp, HW E vl S Tl, HW E vt St Tt, HW E vk K Tk, TPW E vy y tp, [(o 1, .inr (1, [.ref (vy 0), .ref (vt 0), .int it]))], [(o 2, .inl (E.2.2.2, 4, .inr (.inr (.inr (.inr qf)))))], SHc E aa nn B Z N 0, SHc E aa nn B Z N 1, SHc E aa nn B Z N 2, SHc E aa nn B Z N 3, IA E (o 3) 7 ((mNow S F P G x1).2), MJ b z w, IA E (b 1) 68 (enc S), IA E (b 2) 7 ((mNow S F P G x1).2), IA E (b 3) 68 f3, IA E (b 4) 68 f4, IA E (b 5) 120 tp, IA E (b 6) 4 B, IA E (b 7) 4 (szA Z), LA E (b 8) 160 (en4 N), LA E (b 9) 40 f9, IA E (b 10) 68 (enc Kr), IA E (b 11) 68 f11]) H locs := hW
  refine lv_icmp_eq (tgt := 1301) hx hb dL_law_233 (by decide) (fun _ => ?_) (fun hc => absurd (g1.trans g2.symm) hc)
  exact kk H locs ⟨S, Tl, St, Tt, K, Tk, Kr, (mNow S F P G x1).2, B, kp, it, y, tp, z, tl, Z, N, w, f3, f4, f11, f9, hS, hKK, hkp, hz6, hyl, hzl, ht1, hB, hZ, hW⟩
set_option maxHeartbeats 4000000 in
theorem lc_person (hC : Cx p room_1 s m args meth c cL_law 4 RL ret E room_1) (hD : Dj A (asL o vl vt vk vy aa nn b)) (hA : ∀ q, s.heap.size ≤ q → A q) (hX : va_X sb L xs s s.heap) (hbl : sb < s.heap.size) (hbA : ¬ A sb) (hk : k + 6 ≤ L) (hL : L ≤ 3072) (hqf : ∀ i, i < 4 → qf i = some (aa i)) (hl : lv_has ls 4 [(3, .int (nI k)), (2, .ref (b 0)), (1, .ref (o 0)), (0, .ref sb)]) (h : LI E A s.heap o vl vt vk vy aa nn b qf H locs)
    (kk : ∀ (H : Heap) (locs : List Loc), LI E A s.heap o vl vt vk vy aa nn b qf H locs → W p l e room_1 s m args below meth c H locs 600000 7302250 Q (F0 m 1301 ls [])) : W p l e room_1 s m args below meth c H locs 600000 7302250 Q (F0 m 238 ls []) := by
  obtain ⟨S, Tl, St, Tt, K, Tk, Kr, F, B, kp, it, y, tp, z, tl, Z, N, w, f3, f4, f11, f9, hS, hKK, hkp, hz6, hyl, hzl, ht1, hB, hZ, hW⟩ := h
  obtain ⟨P, G, hV⟩ := id hS
  have hx := hC.1
  have hb := hC.2.1
  obtain ⟨x1, h1⟩ : ∃ x, xs (k + 1) = x := ⟨_, rfl⟩
  refine lv_aload_n hx hb dL_law_238 rfl (lv_at hl 2 rfl) ?_
  refine r_scr (j := 1) hC hW hX hbl hbA hk hL hl (by decide) rfl h1 dL_law_239 dL_law_240 dL_law_241 dL_law_242 dL_law_243 ?_
  refine r_callCi hC hD hW hA lkL_22 (c_X4_person l E o vl vt vk vy kp S Tl F P G hV x1) rfl rfl ⟨Nat.le_of_ble_eq_true rfl, Nat.le_of_ble_eq_true rfl, Nat.le_refl _, Nat.le_refl _⟩ [0, 11, 1] rfl rfl rfl (fun _ => rfl) hl.1 rfl rfl (Nat.le_of_ble_eq_true rfl) dL_law_244 (fun r1 _ H locs g1 hW => ?_)
  have hW : Wd E A s.heap (wcat [CO o vl vt vk vy kp, HW E vl ((mPerson S F P x1).2.1) Tl, HW E vt St Tt, HW E vk K Tk, TPW E vy y tp, [(o 1, .inr (1, [.ref (vy 0), .ref (vt 0), .int it]))], [(o 2, .inl (E.2.2.2, 4, .inr (.inr (.inr (.inr qf)))))], SHc E aa nn B Z N 0, SHc E aa nn B Z N 1, SHc E aa nn B Z N 2, SHc E aa nn B Z N 3, IA E (o 3) 7 ((mPerson S F P x1).2.2), MJ b z w, IA E (b 1) 68 (enc S), IA E (b 2) 7 F, IA E (b 3) 68 f3, IA E (b 4) 68 f4, IA E (b 5) 120 tp, IA E (b 6) 4 B, IA E (b 7) 4 (szA Z), LA E (b 8) 160 (en4 N), LA E (b 9) 40 f9, IA E (b 10) 68 (enc Kr), IA E (b 11) 68 f11]) H locs := hW
  refine lv_aload_n hx hb dL_law_247 rfl (lv_at hl 1 rfl) ?_
  refine r_scr (j := 1) hC hW hX hbl hbA hk hL hl (by decide) rfl h1 dL_law_248 dL_law_249 dL_law_250 dL_law_251 dL_law_252 ?_
  refine r_callCi hC hD hW hA lkL_25 (c_X5_person l E b z w S F P G hV x1) rfl rfl ⟨Nat.le_of_ble_eq_true rfl, Nat.le_of_ble_eq_true rfl, Nat.le_refl _, Nat.le_refl _⟩ [12, 13, 14] rfl rfl rfl (fun _ => rfl) hl.1 rfl rfl (Nat.le_of_ble_eq_true rfl) dL_law_253 (fun r2 _ H locs g2 hW => ?_)
  have hW : Wd E A s.heap (wcat [CO o vl vt vk vy kp, HW E vl ((mPerson S F P x1).2.1) Tl, HW E vt St Tt, HW E vk K Tk, TPW E vy y tp, [(o 1, .inr (1, [.ref (vy 0), .ref (vt 0), .int it]))], [(o 2, .inl (E.2.2.2, 4, .inr (.inr (.inr (.inr qf)))))], SHc E aa nn B Z N 0, SHc E aa nn B Z N 1, SHc E aa nn B Z N 2, SHc E aa nn B Z N 3, IA E (o 3) 7 ((mPerson S F P x1).2.2), MJ b z w, IA E (b 1) 68 (enc ((mPerson S F P x1).2.1)), IA E (b 2) 7 ((mPerson S F P x1).2.2), IA E (b 3) 68 f3, IA E (b 4) 68 f4, IA E (b 5) 120 tp, IA E (b 6) 4 B, IA E (b 7) 4 (szA Z), LA E (b 8) 160 (en4 N), LA E (b 9) 40 f9, IA E (b 10) 68 (enc Kr), IA E (b 11) 68 f11]) H locs := hW
  refine lv_icmp_eq (tgt := 1301) hx hb dL_law_256 (by decide) (fun _ => ?_) (fun hc => absurd (g1.trans g2.symm) hc)
  exact kk H locs ⟨(mPerson S F P x1).2.1, Tl, St, Tt, K, Tk, Kr, (mPerson S F P x1).2.2, B, kp, it, y, tp, z, tl, Z, N, w, f3, f4, f11, f9, HX_person F x1 hV, hKK, hkp, hz6, hyl, hzl, ht1, hB, hZ, hW⟩
set_option maxHeartbeats 4000000 in
theorem lc_of (hC : Cx p room_1 s m args meth c cL_law 4 RL ret E room_1) (hD : Dj A (asL o vl vt vk vy aa nn b)) (hA : ∀ q, s.heap.size ≤ q → A q) (hX : va_X sb L xs s s.heap) (hbl : sb < s.heap.size) (hbA : ¬ A sb) (hk : k + 6 ≤ L) (hL : L ≤ 3072) (hqf : ∀ i, i < 4 → qf i = some (aa i)) (hl : lv_has ls 4 [(3, .int (nI k)), (2, .ref (b 0)), (1, .ref (o 0)), (0, .ref sb)]) (h : LI E A s.heap o vl vt vk vy aa nn b qf H locs)
    (kk : ∀ (H : Heap) (locs : List Loc), LI E A s.heap o vl vt vk vy aa nn b qf H locs → W p l e room_1 s m args below meth c H locs 600000 7302250 Q (F0 m 1301 ls [])) : W p l e room_1 s m args below meth c H locs 600000 7302250 Q (F0 m 261 ls []) := by
  obtain ⟨S, Tl, St, Tt, K, Tk, Kr, F, B, kp, it, y, tp, z, tl, Z, N, w, f3, f4, f11, f9, hS, hKK, hkp, hz6, hyl, hzl, ht1, hB, hZ, hW⟩ := h
  obtain ⟨P, G, hV⟩ := id hS
  have hx := hC.1
  have hb := hC.2.1
  obtain ⟨x1, h1⟩ : ∃ x, xs (k + 1) = x := ⟨_, rfl⟩
  obtain ⟨x2, h2⟩ : ∃ x, xs (k + 2) = x := ⟨_, rfl⟩
  refine lv_aload_n hx hb dL_law_261 rfl (lv_at hl 2 rfl) ?_
  refine r_scr (j := 1) hC hW hX hbl hbA hk hL hl (by decide) rfl h1 dL_law_262 dL_law_263 dL_law_264 dL_law_265 dL_law_266 ?_
  refine r_scr (j := 2) hC hW hX hbl hbA hk hL hl (by decide) rfl h2 dL_law_267 dL_law_268 dL_law_269 dL_law_270 dL_law_271 ?_
  refine r_callCi hC hD hW hA lkL_26 (c_X4_of l E o vl vt vk vy kp S Tl F P G hV x1 x2) rfl rfl ⟨Nat.le_of_ble_eq_true rfl, Nat.le_of_ble_eq_true rfl, Nat.le_refl _, Nat.le_refl _⟩ [0, 11, 1] rfl rfl rfl (fun _ => rfl) hl.1 rfl rfl (Nat.le_of_ble_eq_true rfl) dL_law_272 (fun r1 u1 H locs g1 hW => ?_)
  have hW : Wd E A s.heap (wcat [CO o vl vt vk vy kp, HW E vl S u1, HW E vt St Tt, HW E vk K Tk, TPW E vy y tp, [(o 1, .inr (1, [.ref (vy 0), .ref (vt 0), .int it]))], [(o 2, .inl (E.2.2.2, 4, .inr (.inr (.inr (.inr qf)))))], SHc E aa nn B Z N 0, SHc E aa nn B Z N 1, SHc E aa nn B Z N 2, SHc E aa nn B Z N 3, IA E (o 3) 7 ((mOf S F P G x1 x2).2), MJ b z w, IA E (b 1) 68 (enc S), IA E (b 2) 7 F, IA E (b 3) 68 f3, IA E (b 4) 68 f4, IA E (b 5) 120 tp, IA E (b 6) 4 B, IA E (b 7) 4 (szA Z), LA E (b 8) 160 (en4 N), LA E (b 9) 40 f9, IA E (b 10) 68 (enc Kr), IA E (b 11) 68 f11]) H locs := hW
  refine lv_aload_n hx hb dL_law_275 rfl (lv_at hl 1 rfl) ?_
  refine r_scr (j := 1) hC hW hX hbl hbA hk hL hl (by decide) rfl h1 dL_law_276 dL_law_277 dL_law_278 dL_law_279 dL_law_280 ?_
  refine r_scr (j := 2) hC hW hX hbl hbA hk hL hl (by decide) rfl h2 dL_law_281 dL_law_282 dL_law_283 dL_law_284 dL_law_285 ?_
  refine r_callCi hC hD hW hA lkL_30 (c_X5_of l E b z w S F P G hV x1 x2) rfl rfl ⟨Nat.le_of_ble_eq_true rfl, Nat.le_of_ble_eq_true rfl, Nat.le_refl _, Nat.le_refl _⟩ [12, 13, 14] rfl rfl rfl (fun _ => rfl) hl.1 rfl rfl (Nat.le_of_ble_eq_true rfl) dL_law_286 (fun r2 _ H locs g2 hW => ?_)
  have hW : Wd E A s.heap (wcat [CO o vl vt vk vy kp, HW E vl S u1, HW E vt St Tt, HW E vk K Tk, TPW E vy y tp, [(o 1, .inr (1, [.ref (vy 0), .ref (vt 0), .int it]))], [(o 2, .inl (E.2.2.2, 4, .inr (.inr (.inr (.inr qf)))))], SHc E aa nn B Z N 0, SHc E aa nn B Z N 1, SHc E aa nn B Z N 2, SHc E aa nn B Z N 3, IA E (o 3) 7 ((mOf S F P G x1 x2).2), MJ b z w, IA E (b 1) 68 (enc S), IA E (b 2) 7 ((mOf S F P G x1 x2).2), IA E (b 3) 68 f3, IA E (b 4) 68 f4, IA E (b 5) 120 tp, IA E (b 6) 4 B, IA E (b 7) 4 (szA Z), LA E (b 8) 160 (en4 N), LA E (b 9) 40 f9, IA E (b 10) 68 (enc Kr), IA E (b 11) 68 f11]) H locs := hW
  refine lv_icmp_eq (tgt := 1301) hx hb dL_law_289 (by decide) (fun _ => ?_) (fun hc => absurd (g1.trans g2.symm) hc)
  exact kk H locs ⟨S, u1, St, Tt, K, Tk, Kr, (mOf S F P G x1 x2).2, B, kp, it, y, tp, z, tl, Z, N, w, f3, f4, f11, f9, hS, hKK, hkp, hz6, hyl, hzl, ht1, hB, hZ, hW⟩
set_option maxHeartbeats 4000000 in
theorem lc_set (hC : Cx p room_1 s m args meth c cL_law 4 RL ret E room_1) (hD : Dj A (asL o vl vt vk vy aa nn b)) (hA : ∀ q, s.heap.size ≤ q → A q) (hX : va_X sb L xs s s.heap) (hbl : sb < s.heap.size) (hbA : ¬ A sb) (hk : k + 6 ≤ L) (hL : L ≤ 3072) (hqf : ∀ i, i < 4 → qf i = some (aa i)) (hl : lv_has ls 4 [(3, .int (nI k)), (2, .ref (b 0)), (1, .ref (o 0)), (0, .ref sb)]) (h : LI E A s.heap o vl vt vk vy aa nn b qf H locs)
    (kk : ∀ (H : Heap) (locs : List Loc), LI E A s.heap o vl vt vk vy aa nn b qf H locs → W p l e room_1 s m args below meth c H locs 600000 7302250 Q (F0 m 1301 ls [])) : W p l e room_1 s m args below meth c H locs 600000 7302250 Q (F0 m 294 ls []) := by
  obtain ⟨S, Tl, St, Tt, K, Tk, Kr, F, B, kp, it, y, tp, z, tl, Z, N, w, f3, f4, f11, f9, hS, hKK, hkp, hz6, hyl, hzl, ht1, hB, hZ, hW⟩ := h
  obtain ⟨P, G, hV⟩ := id hS
  have hx := hC.1
  have hb := hC.2.1
  obtain ⟨x1, h1⟩ : ∃ x, xs (k + 1) = x := ⟨_, rfl⟩
  obtain ⟨x2, h2⟩ : ∃ x, xs (k + 2) = x := ⟨_, rfl⟩
  obtain ⟨x3, h3⟩ : ∃ x, xs (k + 3) = x := ⟨_, rfl⟩
  refine lv_aload_n hx hb dL_law_294 rfl (lv_at hl 2 rfl) ?_
  refine r_scr (j := 1) hC hW hX hbl hbA hk hL hl (by decide) rfl h1 dL_law_295 dL_law_296 dL_law_297 dL_law_298 dL_law_299 ?_
  refine r_scr (j := 2) hC hW hX hbl hbA hk hL hl (by decide) rfl h2 dL_law_300 dL_law_301 dL_law_302 dL_law_303 dL_law_304 ?_
  refine r_scr (j := 3) hC hW hX hbl hbA hk hL hl (by decide) rfl h3 dL_law_305 dL_law_306 dL_law_307 dL_law_308 dL_law_309 ?_
  refine r_callCi hC hD hW hA lkL_31 (c_X4_set l E o vl vt vk vy kp S Tl F P G hV x1 x2 x3) rfl rfl ⟨Nat.le_of_ble_eq_true rfl, Nat.le_of_ble_eq_true rfl, Nat.le_refl _, Nat.le_refl _⟩ [0, 11, 1] rfl rfl rfl (fun _ => rfl) hl.1 rfl rfl (Nat.le_of_ble_eq_true rfl) dL_law_310 (fun r1 _ H locs g1 hW => ?_)
  have hW : Wd E A s.heap (wcat [CO o vl vt vk vy kp, HW E vl ((mSet S F P x1 x2 x3).2.1) Tl, HW E vt St Tt, HW E vk K Tk, TPW E vy y tp, [(o 1, .inr (1, [.ref (vy 0), .ref (vt 0), .int it]))], [(o 2, .inl (E.2.2.2, 4, .inr (.inr (.inr (.inr qf)))))], SHc E aa nn B Z N 0, SHc E aa nn B Z N 1, SHc E aa nn B Z N 2, SHc E aa nn B Z N 3, IA E (o 3) 7 ((mSet S F P x1 x2 x3).2.2), MJ b z w, IA E (b 1) 68 (enc S), IA E (b 2) 7 F, IA E (b 3) 68 f3, IA E (b 4) 68 f4, IA E (b 5) 120 tp, IA E (b 6) 4 B, IA E (b 7) 4 (szA Z), LA E (b 8) 160 (en4 N), LA E (b 9) 40 f9, IA E (b 10) 68 (enc Kr), IA E (b 11) 68 f11]) H locs := hW
  refine lv_aload_n hx hb dL_law_313 rfl (lv_at hl 1 rfl) ?_
  refine r_scr (j := 1) hC hW hX hbl hbA hk hL hl (by decide) rfl h1 dL_law_314 dL_law_315 dL_law_316 dL_law_317 dL_law_318 ?_
  refine r_scr (j := 2) hC hW hX hbl hbA hk hL hl (by decide) rfl h2 dL_law_319 dL_law_320 dL_law_321 dL_law_322 dL_law_323 ?_
  refine r_scr (j := 3) hC hW hX hbl hbA hk hL hl (by decide) rfl h3 dL_law_324 dL_law_325 dL_law_326 dL_law_327 dL_law_328 ?_
  refine r_callCi hC hD hW hA lkL_35 (c_X5_set l E b z w S F P G hV x1 x2 x3) rfl rfl ⟨Nat.le_of_ble_eq_true rfl, Nat.le_of_ble_eq_true rfl, Nat.le_refl _, Nat.le_refl _⟩ [12, 13, 14] rfl rfl rfl (fun _ => rfl) hl.1 rfl rfl (Nat.le_of_ble_eq_true rfl) dL_law_329 (fun r2 _ H locs g2 hW => ?_)
  have hW : Wd E A s.heap (wcat [CO o vl vt vk vy kp, HW E vl ((mSet S F P x1 x2 x3).2.1) Tl, HW E vt St Tt, HW E vk K Tk, TPW E vy y tp, [(o 1, .inr (1, [.ref (vy 0), .ref (vt 0), .int it]))], [(o 2, .inl (E.2.2.2, 4, .inr (.inr (.inr (.inr qf)))))], SHc E aa nn B Z N 0, SHc E aa nn B Z N 1, SHc E aa nn B Z N 2, SHc E aa nn B Z N 3, IA E (o 3) 7 ((mSet S F P x1 x2 x3).2.2), MJ b z w, IA E (b 1) 68 (enc ((mSet S F P x1 x2 x3).2.1)), IA E (b 2) 7 ((mSet S F P x1 x2 x3).2.2), IA E (b 3) 68 f3, IA E (b 4) 68 f4, IA E (b 5) 120 tp, IA E (b 6) 4 B, IA E (b 7) 4 (szA Z), LA E (b 8) 160 (en4 N), LA E (b 9) 40 f9, IA E (b 10) 68 (enc Kr), IA E (b 11) 68 f11]) H locs := hW
  refine lv_icmp_eq (tgt := 1301) hx hb dL_law_332 (by decide) (fun _ => ?_) (fun hc => absurd (g1.trans g2.symm) hc)
  exact kk H locs ⟨(mSet S F P x1 x2 x3).2.1, Tl, St, Tt, K, Tk, Kr, (mSet S F P x1 x2 x3).2.2, B, kp, it, y, tp, z, tl, Z, N, w, f3, f4, f11, f9, HX_set F x1 x2 x3 hV, hKK, hkp, hz6, hyl, hzl, ht1, hB, hZ, hW⟩
set_option maxHeartbeats 4000000 in
theorem lc_would (hC : Cx p room_1 s m args meth c cL_law 4 RL ret E room_1) (hD : Dj A (asL o vl vt vk vy aa nn b)) (hA : ∀ q, s.heap.size ≤ q → A q) (hX : va_X sb L xs s s.heap) (hbl : sb < s.heap.size) (hbA : ¬ A sb) (hk : k + 6 ≤ L) (hL : L ≤ 3072) (hqf : ∀ i, i < 4 → qf i = some (aa i)) (hl : lv_has ls 4 [(3, .int (nI k)), (2, .ref (b 0)), (1, .ref (o 0)), (0, .ref sb)]) (h : LI E A s.heap o vl vt vk vy aa nn b qf H locs)
    (kk : ∀ (H : Heap) (locs : List Loc), LI E A s.heap o vl vt vk vy aa nn b qf H locs → W p l e room_1 s m args below meth c H locs 600000 7302250 Q (F0 m 1301 ls [])) : W p l e room_1 s m args below meth c H locs 600000 7302250 Q (F0 m 337 ls []) := by
  obtain ⟨S, Tl, St, Tt, K, Tk, Kr, F, B, kp, it, y, tp, z, tl, Z, N, w, f3, f4, f11, f9, hS, hKK, hkp, hz6, hyl, hzl, ht1, hB, hZ, hW⟩ := h
  obtain ⟨P, G, hV⟩ := id hS
  have hx := hC.1
  have hb := hC.2.1
  obtain ⟨x1, h1⟩ : ∃ x, xs (k + 1) = x := ⟨_, rfl⟩
  obtain ⟨x2, h2⟩ : ∃ x, xs (k + 2) = x := ⟨_, rfl⟩
  obtain ⟨x3, h3⟩ : ∃ x, xs (k + 3) = x := ⟨_, rfl⟩
  refine lv_aload_n hx hb dL_law_337 rfl (lv_at hl 2 rfl) ?_
  refine r_scr (j := 1) hC hW hX hbl hbA hk hL hl (by decide) rfl h1 dL_law_338 dL_law_339 dL_law_340 dL_law_341 dL_law_342 ?_
  refine r_scr (j := 2) hC hW hX hbl hbA hk hL hl (by decide) rfl h2 dL_law_343 dL_law_344 dL_law_345 dL_law_346 dL_law_347 ?_
  refine r_scr (j := 3) hC hW hX hbl hbA hk hL hl (by decide) rfl h3 dL_law_348 dL_law_349 dL_law_350 dL_law_351 dL_law_352 ?_
  refine r_callCi hC hD hW hA lkL_36 (c_X4_would l E o vl vt vk vy kp S Tl F P G hV x1 x2 x3) rfl rfl ⟨Nat.le_of_ble_eq_true rfl, Nat.le_of_ble_eq_true rfl, Nat.le_refl _, Nat.le_refl _⟩ [0, 11, 1] rfl rfl rfl (fun _ => rfl) hl.1 rfl rfl (Nat.le_of_ble_eq_true rfl) dL_law_353 (fun r1 u1 H locs g1 hW => ?_)
  have hW : Wd E A s.heap (wcat [CO o vl vt vk vy kp, HW E vl S u1, HW E vt St Tt, HW E vk K Tk, TPW E vy y tp, [(o 1, .inr (1, [.ref (vy 0), .ref (vt 0), .int it]))], [(o 2, .inl (E.2.2.2, 4, .inr (.inr (.inr (.inr qf)))))], SHc E aa nn B Z N 0, SHc E aa nn B Z N 1, SHc E aa nn B Z N 2, SHc E aa nn B Z N 3, IA E (o 3) 7 ((mWould S F P G x1 x2 x3).2), MJ b z w, IA E (b 1) 68 (enc S), IA E (b 2) 7 F, IA E (b 3) 68 f3, IA E (b 4) 68 f4, IA E (b 5) 120 tp, IA E (b 6) 4 B, IA E (b 7) 4 (szA Z), LA E (b 8) 160 (en4 N), LA E (b 9) 40 f9, IA E (b 10) 68 (enc Kr), IA E (b 11) 68 f11]) H locs := hW
  refine lv_aload_n hx hb dL_law_356 rfl (lv_at hl 1 rfl) ?_
  refine r_scr (j := 1) hC hW hX hbl hbA hk hL hl (by decide) rfl h1 dL_law_357 dL_law_358 dL_law_359 dL_law_360 dL_law_361 ?_
  refine r_scr (j := 2) hC hW hX hbl hbA hk hL hl (by decide) rfl h2 dL_law_362 dL_law_363 dL_law_364 dL_law_365 dL_law_366 ?_
  refine r_scr (j := 3) hC hW hX hbl hbA hk hL hl (by decide) rfl h3 dL_law_367 dL_law_368 dL_law_369 dL_law_370 dL_law_371 ?_
  refine r_callCi hC hD hW hA lkL_39 (c_X5_would l E b z w S F P G hV x1 x2 x3) rfl rfl ⟨Nat.le_of_ble_eq_true rfl, Nat.le_of_ble_eq_true rfl, Nat.le_refl _, Nat.le_refl _⟩ [12, 13, 14] rfl rfl rfl (fun _ => rfl) hl.1 rfl rfl (Nat.le_of_ble_eq_true rfl) dL_law_372 (fun r2 _ H locs g2 hW => ?_)
  have hW : Wd E A s.heap (wcat [CO o vl vt vk vy kp, HW E vl S u1, HW E vt St Tt, HW E vk K Tk, TPW E vy y tp, [(o 1, .inr (1, [.ref (vy 0), .ref (vt 0), .int it]))], [(o 2, .inl (E.2.2.2, 4, .inr (.inr (.inr (.inr qf)))))], SHc E aa nn B Z N 0, SHc E aa nn B Z N 1, SHc E aa nn B Z N 2, SHc E aa nn B Z N 3, IA E (o 3) 7 ((mWould S F P G x1 x2 x3).2), MJ b z w, IA E (b 1) 68 (enc S), IA E (b 2) 7 ((mWould S F P G x1 x2 x3).2), IA E (b 3) 68 f3, IA E (b 4) 68 f4, IA E (b 5) 120 tp, IA E (b 6) 4 B, IA E (b 7) 4 (szA Z), LA E (b 8) 160 (en4 N), LA E (b 9) 40 f9, IA E (b 10) 68 (enc Kr), IA E (b 11) 68 f11]) H locs := hW
  refine lv_icmp_eq (tgt := 1301) hx hb dL_law_375 (by decide) (fun _ => ?_) (fun hc => absurd (g1.trans g2.symm) hc)
  exact kk H locs ⟨S, u1, St, Tt, K, Tk, Kr, (mWould S F P G x1 x2 x3).2, B, kp, it, y, tp, z, tl, Z, N, w, f3, f4, f11, f9, hS, hKK, hkp, hz6, hyl, hzl, ht1, hB, hZ, hW⟩
set_option maxHeartbeats 4000000 in
theorem lc_turn (hC : Cx p room_1 s m args meth c cL_law 4 RL ret E room_1) (hD : Dj A (asL o vl vt vk vy aa nn b)) (hA : ∀ q, s.heap.size ≤ q → A q) (hX : va_X sb L xs s s.heap) (hbl : sb < s.heap.size) (hbA : ¬ A sb) (hk : k + 6 ≤ L) (hL : L ≤ 3072) (hqf : ∀ i, i < 4 → qf i = some (aa i)) (hl : lv_has ls 4 [(3, .int (nI k)), (2, .ref (b 0)), (1, .ref (o 0)), (0, .ref sb)]) (h : LI E A s.heap o vl vt vk vy aa nn b qf H locs)
    (kk : ∀ (H : Heap) (locs : List Loc), LI E A s.heap o vl vt vk vy aa nn b qf H locs → W p l e room_1 s m args below meth c H locs 600000 7302250 Q (F0 m 1301 ls [])) : W p l e room_1 s m args below meth c H locs 600000 7302250 Q (F0 m 380 ls []) := by
  obtain ⟨S, Tl, St, Tt, K, Tk, Kr, F, B, kp, it, y, tp, z, tl, Z, N, w, f3, f4, f11, f9, hS, hKK, hkp, hz6, hyl, hzl, ht1, hB, hZ, hW⟩ := h
  obtain ⟨P, G, hV⟩ := id hS
  have hx := hC.1
  have hb := hC.2.1
  obtain ⟨x1, h1⟩ : ∃ x, xs (k + 1) = x := ⟨_, rfl⟩
  obtain ⟨x2, h2⟩ : ∃ x, xs (k + 2) = x := ⟨_, rfl⟩
  refine lv_aload_n hx hb dL_law_380 rfl (lv_at hl 2 rfl) ?_
  refine r_scr (j := 1) hC hW hX hbl hbA hk hL hl (by decide) rfl h1 dL_law_381 dL_law_382 dL_law_383 dL_law_384 dL_law_385 ?_
  refine r_scr (j := 2) hC hW hX hbl hbA hk hL hl (by decide) rfl h2 dL_law_386 dL_law_387 dL_law_388 dL_law_389 dL_law_390 ?_
  refine r_callCi hC hD hW hA lkL_40 (c_X4_turn l E o vl vt vk vy kp S Tl F P G hV x1 x2) rfl rfl ⟨Nat.le_of_ble_eq_true rfl, Nat.le_of_ble_eq_true rfl, Nat.le_refl _, Nat.le_refl _⟩ [0, 11, 1] rfl rfl rfl (fun _ => rfl) hl.1 rfl rfl (Nat.le_of_ble_eq_true rfl) dL_law_391 (fun r1 _ H locs g1 hW => ?_)
  have hW : Wd E A s.heap (wcat [CO o vl vt vk vy kp, HW E vl ((mTurn S F P x1 x2).2.1) Tl, HW E vt St Tt, HW E vk K Tk, TPW E vy y tp, [(o 1, .inr (1, [.ref (vy 0), .ref (vt 0), .int it]))], [(o 2, .inl (E.2.2.2, 4, .inr (.inr (.inr (.inr qf)))))], SHc E aa nn B Z N 0, SHc E aa nn B Z N 1, SHc E aa nn B Z N 2, SHc E aa nn B Z N 3, IA E (o 3) 7 ((mTurn S F P x1 x2).2.2), MJ b z w, IA E (b 1) 68 (enc S), IA E (b 2) 7 F, IA E (b 3) 68 f3, IA E (b 4) 68 f4, IA E (b 5) 120 tp, IA E (b 6) 4 B, IA E (b 7) 4 (szA Z), LA E (b 8) 160 (en4 N), LA E (b 9) 40 f9, IA E (b 10) 68 (enc Kr), IA E (b 11) 68 f11]) H locs := hW
  refine lv_aload_n hx hb dL_law_394 rfl (lv_at hl 1 rfl) ?_
  refine r_scr (j := 1) hC hW hX hbl hbA hk hL hl (by decide) rfl h1 dL_law_395 dL_law_396 dL_law_397 dL_law_398 dL_law_399 ?_
  refine r_scr (j := 2) hC hW hX hbl hbA hk hL hl (by decide) rfl h2 dL_law_400 dL_law_401 dL_law_402 dL_law_403 dL_law_404 ?_
  refine r_callCi hC hD hW hA lkL_43 (c_X5_turn l E b z w S F P G hV x1 x2) rfl rfl ⟨Nat.le_of_ble_eq_true rfl, Nat.le_of_ble_eq_true rfl, Nat.le_refl _, Nat.le_refl _⟩ [12, 13, 14] rfl rfl rfl (fun _ => rfl) hl.1 rfl rfl (Nat.le_of_ble_eq_true rfl) dL_law_405 (fun r2 _ H locs g2 hW => ?_)
  have hW : Wd E A s.heap (wcat [CO o vl vt vk vy kp, HW E vl ((mTurn S F P x1 x2).2.1) Tl, HW E vt St Tt, HW E vk K Tk, TPW E vy y tp, [(o 1, .inr (1, [.ref (vy 0), .ref (vt 0), .int it]))], [(o 2, .inl (E.2.2.2, 4, .inr (.inr (.inr (.inr qf)))))], SHc E aa nn B Z N 0, SHc E aa nn B Z N 1, SHc E aa nn B Z N 2, SHc E aa nn B Z N 3, IA E (o 3) 7 ((mTurn S F P x1 x2).2.2), MJ b z w, IA E (b 1) 68 (enc ((mTurn S F P x1 x2).2.1)), IA E (b 2) 7 ((mTurn S F P x1 x2).2.2), IA E (b 3) 68 f3, IA E (b 4) 68 f4, IA E (b 5) 120 tp, IA E (b 6) 4 B, IA E (b 7) 4 (szA Z), LA E (b 8) 160 (en4 N), LA E (b 9) 40 f9, IA E (b 10) 68 (enc Kr), IA E (b 11) 68 f11]) H locs := hW
  refine lv_icmp_eq (tgt := 1301) hx hb dL_law_408 (by decide) (fun _ => ?_) (fun hc => absurd (g1.trans g2.symm) hc)
  exact kk H locs ⟨(mTurn S F P x1 x2).2.1, Tl, St, Tt, K, Tk, Kr, (mTurn S F P x1 x2).2.2, B, kp, it, y, tp, z, tl, Z, N, w, f3, f4, f11, f9, HX_turn F x1 x2 hV, hKK, hkp, hz6, hyl, hzl, ht1, hB, hZ, hW⟩
set_option maxHeartbeats 4000000 in
theorem lc_as (hC : Cx p room_1 s m args meth c cL_law 4 RL ret E room_1) (hD : Dj A (asL o vl vt vk vy aa nn b)) (hA : ∀ q, s.heap.size ≤ q → A q) (hX : va_X sb L xs s s.heap) (hbl : sb < s.heap.size) (hbA : ¬ A sb) (hk : k + 6 ≤ L) (hL : L ≤ 3072) (hqf : ∀ i, i < 4 → qf i = some (aa i)) (hl : lv_has ls 4 [(3, .int (nI k)), (2, .ref (b 0)), (1, .ref (o 0)), (0, .ref sb)]) (h : LI E A s.heap o vl vt vk vy aa nn b qf H locs)
    (kk : ∀ (H : Heap) (locs : List Loc), LI E A s.heap o vl vt vk vy aa nn b qf H locs → W p l e room_1 s m args below meth c H locs 600000 7302250 Q (F0 m 1301 ls [])) : W p l e room_1 s m args below meth c H locs 600000 7302250 Q (F0 m 413 ls []) := by
  obtain ⟨S, Tl, St, Tt, K, Tk, Kr, F, B, kp, it, y, tp, z, tl, Z, N, w, f3, f4, f11, f9, hS, hKK, hkp, hz6, hyl, hzl, ht1, hB, hZ, hW⟩ := h
  obtain ⟨P, G, hV⟩ := id hS
  have hx := hC.1
  have hb := hC.2.1
  obtain ⟨x1, h1⟩ : ∃ x, xs (k + 1) = x := ⟨_, rfl⟩
  obtain ⟨x2, h2⟩ : ∃ x, xs (k + 2) = x := ⟨_, rfl⟩
  refine lv_aload_n hx hb dL_law_413 rfl (lv_at hl 2 rfl) ?_
  refine r_scr (j := 1) hC hW hX hbl hbA hk hL hl (by decide) rfl h1 dL_law_414 dL_law_415 dL_law_416 dL_law_417 dL_law_418 ?_
  refine r_scr (j := 2) hC hW hX hbl hbA hk hL hl (by decide) rfl h2 dL_law_419 dL_law_420 dL_law_421 dL_law_422 dL_law_423 ?_
  refine r_callCi hC hD hW hA lkL_44 (c_X4_as l E o vl vt vk vy kp S Tl F P G hV x1 x2) rfl rfl ⟨Nat.le_of_ble_eq_true rfl, Nat.le_of_ble_eq_true rfl, Nat.le_refl _, Nat.le_refl _⟩ [0, 11, 1] rfl rfl rfl (fun _ => rfl) hl.1 rfl rfl (Nat.le_of_ble_eq_true rfl) dL_law_424 (fun r1 _ H locs g1 hW => ?_)
  have hW : Wd E A s.heap (wcat [CO o vl vt vk vy kp, HW E vl S Tl, HW E vt St Tt, HW E vk K Tk, TPW E vy y tp, [(o 1, .inr (1, [.ref (vy 0), .ref (vt 0), .int it]))], [(o 2, .inl (E.2.2.2, 4, .inr (.inr (.inr (.inr qf)))))], SHc E aa nn B Z N 0, SHc E aa nn B Z N 1, SHc E aa nn B Z N 2, SHc E aa nn B Z N 3, IA E (o 3) 7 ((mAs S F P x1 x2).2), MJ b z w, IA E (b 1) 68 (enc S), IA E (b 2) 7 F, IA E (b 3) 68 f3, IA E (b 4) 68 f4, IA E (b 5) 120 tp, IA E (b 6) 4 B, IA E (b 7) 4 (szA Z), LA E (b 8) 160 (en4 N), LA E (b 9) 40 f9, IA E (b 10) 68 (enc Kr), IA E (b 11) 68 f11]) H locs := hW
  refine lv_aload_n hx hb dL_law_427 rfl (lv_at hl 1 rfl) ?_
  refine r_scr (j := 1) hC hW hX hbl hbA hk hL hl (by decide) rfl h1 dL_law_428 dL_law_429 dL_law_430 dL_law_431 dL_law_432 ?_
  refine r_scr (j := 2) hC hW hX hbl hbA hk hL hl (by decide) rfl h2 dL_law_433 dL_law_434 dL_law_435 dL_law_436 dL_law_437 ?_
  refine r_callCi hC hD hW hA lkL_47 (c_X5_as l E b z w S F P G hV x1 x2) rfl rfl ⟨Nat.le_of_ble_eq_true rfl, Nat.le_of_ble_eq_true rfl, Nat.le_refl _, Nat.le_refl _⟩ [12, 13, 14] rfl rfl rfl (fun _ => rfl) hl.1 rfl rfl (Nat.le_of_ble_eq_true rfl) dL_law_438 (fun r2 _ H locs g2 hW => ?_)
  have hW : Wd E A s.heap (wcat [CO o vl vt vk vy kp, HW E vl S Tl, HW E vt St Tt, HW E vk K Tk, TPW E vy y tp, [(o 1, .inr (1, [.ref (vy 0), .ref (vt 0), .int it]))], [(o 2, .inl (E.2.2.2, 4, .inr (.inr (.inr (.inr qf)))))], SHc E aa nn B Z N 0, SHc E aa nn B Z N 1, SHc E aa nn B Z N 2, SHc E aa nn B Z N 3, IA E (o 3) 7 ((mAs S F P x1 x2).2), MJ b z w, IA E (b 1) 68 (enc S), IA E (b 2) 7 ((mAs S F P x1 x2).2), IA E (b 3) 68 f3, IA E (b 4) 68 f4, IA E (b 5) 120 tp, IA E (b 6) 4 B, IA E (b 7) 4 (szA Z), LA E (b 8) 160 (en4 N), LA E (b 9) 40 f9, IA E (b 10) 68 (enc Kr), IA E (b 11) 68 f11]) H locs := hW
  refine lv_icmp_eq (tgt := 1301) hx hb dL_law_441 (by decide) (fun _ => ?_) (fun hc => absurd (g1.trans g2.symm) hc)
  exact kk H locs ⟨S, Tl, St, Tt, K, Tk, Kr, (mAs S F P x1 x2).2, B, kp, it, y, tp, z, tl, Z, N, w, f3, f4, f11, f9, hS, hKK, hkp, hz6, hyl, hzl, ht1, hB, hZ, hW⟩
set_option maxHeartbeats 4000000 in
theorem lc_garment (hC : Cx p room_1 s m args meth c cL_law 4 RL ret E room_1) (hD : Dj A (asL o vl vt vk vy aa nn b)) (hA : ∀ q, s.heap.size ≤ q → A q) (hX : va_X sb L xs s s.heap) (hbl : sb < s.heap.size) (hbA : ¬ A sb) (hk : k + 6 ≤ L) (hL : L ≤ 3072) (hqf : ∀ i, i < 4 → qf i = some (aa i)) (hl : lv_has ls 4 [(3, .int (nI k)), (2, .ref (b 0)), (1, .ref (o 0)), (0, .ref sb)]) (h : LI E A s.heap o vl vt vk vy aa nn b qf H locs)
    (kk : ∀ (H : Heap) (locs : List Loc), LI E A s.heap o vl vt vk vy aa nn b qf H locs → W p l e room_1 s m args below meth c H locs 600000 7302250 Q (F0 m 1301 ls [])) : W p l e room_1 s m args below meth c H locs 600000 7302250 Q (F0 m 446 ls []) := by
  obtain ⟨S, Tl, St, Tt, K, Tk, Kr, F, B, kp, it, y, tp, z, tl, Z, N, w, f3, f4, f11, f9, hS, hKK, hkp, hz6, hyl, hzl, ht1, hB, hZ, hW⟩ := h
  obtain ⟨P, G, hV⟩ := id hS
  have hx := hC.1
  have hb := hC.2.1
  obtain ⟨x1, h1⟩ : ∃ x, xs (k + 1) = x := ⟨_, rfl⟩
  obtain ⟨x2, h2⟩ : ∃ x, xs (k + 2) = x := ⟨_, rfl⟩
  refine lv_aload_n hx hb dL_law_446 rfl (lv_at hl 2 rfl) ?_
  refine r_scr (j := 1) hC hW hX hbl hbA hk hL hl (by decide) rfl h1 dL_law_447 dL_law_448 dL_law_449 dL_law_450 dL_law_451 ?_
  refine r_scr (j := 2) hC hW hX hbl hbA hk hL hl (by decide) rfl h2 dL_law_452 dL_law_453 dL_law_454 dL_law_455 dL_law_456 ?_
  refine r_callCi hC hD hW hA lkL_48 (c_X4_garment l E o vl vt vk vy kp S Tl F P G hV x1 x2) rfl rfl ⟨Nat.le_of_ble_eq_true rfl, Nat.le_of_ble_eq_true rfl, Nat.le_refl _, Nat.le_refl _⟩ [0, 11, 1] rfl rfl rfl (fun _ => rfl) hl.1 rfl rfl (Nat.le_of_ble_eq_true rfl) dL_law_457 (fun r1 _ H locs g1 hW => ?_)
  have hW : Wd E A s.heap (wcat [CO o vl vt vk vy kp, HW E vl ((mGarment S F P G x1 x2).2.1) Tl, HW E vt St Tt, HW E vk K Tk, TPW E vy y tp, [(o 1, .inr (1, [.ref (vy 0), .ref (vt 0), .int it]))], [(o 2, .inl (E.2.2.2, 4, .inr (.inr (.inr (.inr qf)))))], SHc E aa nn B Z N 0, SHc E aa nn B Z N 1, SHc E aa nn B Z N 2, SHc E aa nn B Z N 3, IA E (o 3) 7 ((mGarment S F P G x1 x2).2.2), MJ b z w, IA E (b 1) 68 (enc S), IA E (b 2) 7 F, IA E (b 3) 68 f3, IA E (b 4) 68 f4, IA E (b 5) 120 tp, IA E (b 6) 4 B, IA E (b 7) 4 (szA Z), LA E (b 8) 160 (en4 N), LA E (b 9) 40 f9, IA E (b 10) 68 (enc Kr), IA E (b 11) 68 f11]) H locs := hW
  refine lv_aload_n hx hb dL_law_460 rfl (lv_at hl 1 rfl) ?_
  refine r_scr (j := 1) hC hW hX hbl hbA hk hL hl (by decide) rfl h1 dL_law_461 dL_law_462 dL_law_463 dL_law_464 dL_law_465 ?_
  refine r_scr (j := 2) hC hW hX hbl hbA hk hL hl (by decide) rfl h2 dL_law_466 dL_law_467 dL_law_468 dL_law_469 dL_law_470 ?_
  refine r_callCi hC hD hW hA lkL_51 (c_X5_garment l E b z w S F P G hV x1 x2) rfl rfl ⟨Nat.le_of_ble_eq_true rfl, Nat.le_of_ble_eq_true rfl, Nat.le_refl _, Nat.le_refl _⟩ [12, 13, 14] rfl rfl rfl (fun _ => rfl) hl.1 rfl rfl (Nat.le_of_ble_eq_true rfl) dL_law_471 (fun r2 _ H locs g2 hW => ?_)
  have hW : Wd E A s.heap (wcat [CO o vl vt vk vy kp, HW E vl ((mGarment S F P G x1 x2).2.1) Tl, HW E vt St Tt, HW E vk K Tk, TPW E vy y tp, [(o 1, .inr (1, [.ref (vy 0), .ref (vt 0), .int it]))], [(o 2, .inl (E.2.2.2, 4, .inr (.inr (.inr (.inr qf)))))], SHc E aa nn B Z N 0, SHc E aa nn B Z N 1, SHc E aa nn B Z N 2, SHc E aa nn B Z N 3, IA E (o 3) 7 ((mGarment S F P G x1 x2).2.2), MJ b z w, IA E (b 1) 68 (enc ((mGarment S F P G x1 x2).2.1)), IA E (b 2) 7 ((mGarment S F P G x1 x2).2.2), IA E (b 3) 68 f3, IA E (b 4) 68 f4, IA E (b 5) 120 tp, IA E (b 6) 4 B, IA E (b 7) 4 (szA Z), LA E (b 8) 160 (en4 N), LA E (b 9) 40 f9, IA E (b 10) 68 (enc Kr), IA E (b 11) 68 f11]) H locs := hW
  refine lv_icmp_eq (tgt := 1301) hx hb dL_law_474 (by decide) (fun _ => ?_) (fun hc => absurd (g1.trans g2.symm) hc)
  exact kk H locs ⟨(mGarment S F P G x1 x2).2.1, Tl, St, Tt, K, Tk, Kr, (mGarment S F P G x1 x2).2.2, B, kp, it, y, tp, z, tl, Z, N, w, f3, f4, f11, f9, HX_garment F x1 x2 hV, hKK, hkp, hz6, hyl, hzl, ht1, hB, hZ, hW⟩
set_option maxHeartbeats 4000000 in
theorem lc_garmentOf (hC : Cx p room_1 s m args meth c cL_law 4 RL ret E room_1) (hD : Dj A (asL o vl vt vk vy aa nn b)) (hA : ∀ q, s.heap.size ≤ q → A q) (hX : va_X sb L xs s s.heap) (hbl : sb < s.heap.size) (hbA : ¬ A sb) (hk : k + 6 ≤ L) (hL : L ≤ 3072) (hqf : ∀ i, i < 4 → qf i = some (aa i)) (hl : lv_has ls 4 [(3, .int (nI k)), (2, .ref (b 0)), (1, .ref (o 0)), (0, .ref sb)]) (h : LI E A s.heap o vl vt vk vy aa nn b qf H locs)
    (kk : ∀ (H : Heap) (locs : List Loc), LI E A s.heap o vl vt vk vy aa nn b qf H locs → W p l e room_1 s m args below meth c H locs 600000 7302250 Q (F0 m 1301 ls [])) : W p l e room_1 s m args below meth c H locs 600000 7302250 Q (F0 m 479 ls []) := by
  obtain ⟨S, Tl, St, Tt, K, Tk, Kr, F, B, kp, it, y, tp, z, tl, Z, N, w, f3, f4, f11, f9, hS, hKK, hkp, hz6, hyl, hzl, ht1, hB, hZ, hW⟩ := h
  obtain ⟨P, G, hV⟩ := id hS
  have hx := hC.1
  have hb := hC.2.1
  obtain ⟨x1, h1⟩ : ∃ x, xs (k + 1) = x := ⟨_, rfl⟩
  obtain ⟨x2, h2⟩ : ∃ x, xs (k + 2) = x := ⟨_, rfl⟩
  refine lv_aload_n hx hb dL_law_479 rfl (lv_at hl 2 rfl) ?_
  refine r_scr (j := 1) hC hW hX hbl hbA hk hL hl (by decide) rfl h1 dL_law_480 dL_law_481 dL_law_482 dL_law_483 dL_law_484 ?_
  refine r_scr (j := 2) hC hW hX hbl hbA hk hL hl (by decide) rfl h2 dL_law_485 dL_law_486 dL_law_487 dL_law_488 dL_law_489 ?_
  refine r_callCi hC hD hW hA lkL_52 (c_X4_garmentOf l E o vl vt vk vy kp S Tl F P G hV x1 x2) rfl rfl ⟨Nat.le_of_ble_eq_true rfl, Nat.le_of_ble_eq_true rfl, Nat.le_refl _, Nat.le_refl _⟩ [0, 11, 1] rfl rfl rfl (fun _ => rfl) hl.1 rfl rfl (Nat.le_of_ble_eq_true rfl) dL_law_490 (fun r1 _ H locs g1 hW => ?_)
  have hW : Wd E A s.heap (wcat [CO o vl vt vk vy kp, HW E vl S Tl, HW E vt St Tt, HW E vk K Tk, TPW E vy y tp, [(o 1, .inr (1, [.ref (vy 0), .ref (vt 0), .int it]))], [(o 2, .inl (E.2.2.2, 4, .inr (.inr (.inr (.inr qf)))))], SHc E aa nn B Z N 0, SHc E aa nn B Z N 1, SHc E aa nn B Z N 2, SHc E aa nn B Z N 3, IA E (o 3) 7 ((mGarmentOf S F P G x1 x2).2), MJ b z w, IA E (b 1) 68 (enc S), IA E (b 2) 7 F, IA E (b 3) 68 f3, IA E (b 4) 68 f4, IA E (b 5) 120 tp, IA E (b 6) 4 B, IA E (b 7) 4 (szA Z), LA E (b 8) 160 (en4 N), LA E (b 9) 40 f9, IA E (b 10) 68 (enc Kr), IA E (b 11) 68 f11]) H locs := hW
  refine lv_aload_n hx hb dL_law_493 rfl (lv_at hl 1 rfl) ?_
  refine r_scr (j := 1) hC hW hX hbl hbA hk hL hl (by decide) rfl h1 dL_law_494 dL_law_495 dL_law_496 dL_law_497 dL_law_498 ?_
  refine r_scr (j := 2) hC hW hX hbl hbA hk hL hl (by decide) rfl h2 dL_law_499 dL_law_500 dL_law_501 dL_law_502 dL_law_503 ?_
  refine r_callCi hC hD hW hA lkL_55 (c_X5_garmentOf l E b z w S F P G hV x1 x2) rfl rfl ⟨Nat.le_of_ble_eq_true rfl, Nat.le_of_ble_eq_true rfl, Nat.le_refl _, Nat.le_refl _⟩ [12, 13, 14] rfl rfl rfl (fun _ => rfl) hl.1 rfl rfl (Nat.le_of_ble_eq_true rfl) dL_law_504 (fun r2 _ H locs g2 hW => ?_)
  have hW : Wd E A s.heap (wcat [CO o vl vt vk vy kp, HW E vl S Tl, HW E vt St Tt, HW E vk K Tk, TPW E vy y tp, [(o 1, .inr (1, [.ref (vy 0), .ref (vt 0), .int it]))], [(o 2, .inl (E.2.2.2, 4, .inr (.inr (.inr (.inr qf)))))], SHc E aa nn B Z N 0, SHc E aa nn B Z N 1, SHc E aa nn B Z N 2, SHc E aa nn B Z N 3, IA E (o 3) 7 ((mGarmentOf S F P G x1 x2).2), MJ b z w, IA E (b 1) 68 (enc S), IA E (b 2) 7 ((mGarmentOf S F P G x1 x2).2), IA E (b 3) 68 f3, IA E (b 4) 68 f4, IA E (b 5) 120 tp, IA E (b 6) 4 B, IA E (b 7) 4 (szA Z), LA E (b 8) 160 (en4 N), LA E (b 9) 40 f9, IA E (b 10) 68 (enc Kr), IA E (b 11) 68 f11]) H locs := hW
  refine lv_icmp_eq (tgt := 1301) hx hb dL_law_507 (by decide) (fun _ => ?_) (fun hc => absurd (g1.trans g2.symm) hc)
  exact kk H locs ⟨S, Tl, St, Tt, K, Tk, Kr, (mGarmentOf S F P G x1 x2).2, B, kp, it, y, tp, z, tl, Z, N, w, f3, f4, f11, f9, hS, hKK, hkp, hz6, hyl, hzl, ht1, hB, hZ, hW⟩
set_option maxHeartbeats 4000000 in
theorem lc_sew (hC : Cx p room_1 s m args meth c cL_law 4 RL ret E room_1) (hD : Dj A (asL o vl vt vk vy aa nn b)) (hA : ∀ q, s.heap.size ≤ q → A q) (hX : va_X sb L xs s s.heap) (hbl : sb < s.heap.size) (hbA : ¬ A sb) (hk : k + 6 ≤ L) (hL : L ≤ 3072) (hqf : ∀ i, i < 4 → qf i = some (aa i)) (hl : lv_has ls 4 [(3, .int (nI k)), (2, .ref (b 0)), (1, .ref (o 0)), (0, .ref sb)]) (h : LI E A s.heap o vl vt vk vy aa nn b qf H locs)
    (kk : ∀ (H : Heap) (locs : List Loc), LI E A s.heap o vl vt vk vy aa nn b qf H locs → W p l e room_1 s m args below meth c H locs 600000 7302250 Q (F0 m 1301 ls [])) : W p l e room_1 s m args below meth c H locs 600000 7302250 Q (F0 m 512 ls []) := by
  obtain ⟨S, Tl, St, Tt, K, Tk, Kr, F, B, kp, it, y, tp, z, tl, Z, N, w, f3, f4, f11, f9, hS, hKK, hkp, hz6, hyl, hzl, ht1, hB, hZ, hW⟩ := h
  obtain ⟨P, G, hV⟩ := id hS
  have hx := hC.1
  have hb := hC.2.1
  obtain ⟨x1, h1⟩ : ∃ x, xs (k + 1) = x := ⟨_, rfl⟩
  obtain ⟨x2, h2⟩ : ∃ x, xs (k + 2) = x := ⟨_, rfl⟩
  obtain ⟨x3, h3⟩ : ∃ x, xs (k + 3) = x := ⟨_, rfl⟩
  refine lv_aload_n hx hb dL_law_512 rfl (lv_at hl 2 rfl) ?_
  refine r_scr (j := 1) hC hW hX hbl hbA hk hL hl (by decide) rfl h1 dL_law_513 dL_law_514 dL_law_515 dL_law_516 dL_law_517 ?_
  refine r_scr (j := 2) hC hW hX hbl hbA hk hL hl (by decide) rfl h2 dL_law_518 dL_law_519 dL_law_520 dL_law_521 dL_law_522 ?_
  refine r_scr (j := 3) hC hW hX hbl hbA hk hL hl (by decide) rfl h3 dL_law_523 dL_law_524 dL_law_525 dL_law_526 dL_law_527 ?_
  refine r_callCi hC hD hW hA lkL_56 (c_X4_sew l E o vl vt vk vy kp S Tl F P G hV x1 x2 x3) rfl rfl ⟨Nat.le_of_ble_eq_true rfl, Nat.le_of_ble_eq_true rfl, Nat.le_refl _, Nat.le_refl _⟩ [0, 11, 1] rfl rfl rfl (fun _ => rfl) hl.1 rfl rfl (Nat.le_of_ble_eq_true rfl) dL_law_528 (fun r1 _ H locs g1 hW => ?_)
  have hW : Wd E A s.heap (wcat [CO o vl vt vk vy kp, HW E vl ((mSew S F P G x1 x2 x3).2.1) Tl, HW E vt St Tt, HW E vk K Tk, TPW E vy y tp, [(o 1, .inr (1, [.ref (vy 0), .ref (vt 0), .int it]))], [(o 2, .inl (E.2.2.2, 4, .inr (.inr (.inr (.inr qf)))))], SHc E aa nn B Z N 0, SHc E aa nn B Z N 1, SHc E aa nn B Z N 2, SHc E aa nn B Z N 3, IA E (o 3) 7 ((mSew S F P G x1 x2 x3).2.2), MJ b z w, IA E (b 1) 68 (enc S), IA E (b 2) 7 F, IA E (b 3) 68 f3, IA E (b 4) 68 f4, IA E (b 5) 120 tp, IA E (b 6) 4 B, IA E (b 7) 4 (szA Z), LA E (b 8) 160 (en4 N), LA E (b 9) 40 f9, IA E (b 10) 68 (enc Kr), IA E (b 11) 68 f11]) H locs := hW
  refine lv_aload_n hx hb dL_law_531 rfl (lv_at hl 1 rfl) ?_
  refine r_scr (j := 1) hC hW hX hbl hbA hk hL hl (by decide) rfl h1 dL_law_532 dL_law_533 dL_law_534 dL_law_535 dL_law_536 ?_
  refine r_scr (j := 2) hC hW hX hbl hbA hk hL hl (by decide) rfl h2 dL_law_537 dL_law_538 dL_law_539 dL_law_540 dL_law_541 ?_
  refine r_scr (j := 3) hC hW hX hbl hbA hk hL hl (by decide) rfl h3 dL_law_542 dL_law_543 dL_law_544 dL_law_545 dL_law_546 ?_
  refine r_callCi hC hD hW hA lkL_59 (c_X5_sew l E b z w S F P G hV x1 x2 x3) rfl rfl ⟨Nat.le_of_ble_eq_true rfl, Nat.le_of_ble_eq_true rfl, Nat.le_refl _, Nat.le_refl _⟩ [12, 13, 14] rfl rfl rfl (fun _ => rfl) hl.1 rfl rfl (Nat.le_of_ble_eq_true rfl) dL_law_547 (fun r2 _ H locs g2 hW => ?_)
  have hW : Wd E A s.heap (wcat [CO o vl vt vk vy kp, HW E vl ((mSew S F P G x1 x2 x3).2.1) Tl, HW E vt St Tt, HW E vk K Tk, TPW E vy y tp, [(o 1, .inr (1, [.ref (vy 0), .ref (vt 0), .int it]))], [(o 2, .inl (E.2.2.2, 4, .inr (.inr (.inr (.inr qf)))))], SHc E aa nn B Z N 0, SHc E aa nn B Z N 1, SHc E aa nn B Z N 2, SHc E aa nn B Z N 3, IA E (o 3) 7 ((mSew S F P G x1 x2 x3).2.2), MJ b z w, IA E (b 1) 68 (enc ((mSew S F P G x1 x2 x3).2.1)), IA E (b 2) 7 ((mSew S F P G x1 x2 x3).2.2), IA E (b 3) 68 f3, IA E (b 4) 68 f4, IA E (b 5) 120 tp, IA E (b 6) 4 B, IA E (b 7) 4 (szA Z), LA E (b 8) 160 (en4 N), LA E (b 9) 40 f9, IA E (b 10) 68 (enc Kr), IA E (b 11) 68 f11]) H locs := hW
  refine lv_icmp_eq (tgt := 1301) hx hb dL_law_550 (by decide) (fun _ => ?_) (fun hc => absurd (g1.trans g2.symm) hc)
  exact kk H locs ⟨(mSew S F P G x1 x2 x3).2.1, Tl, St, Tt, K, Tk, Kr, (mSew S F P G x1 x2 x3).2.2, B, kp, it, y, tp, z, tl, Z, N, w, f3, f4, f11, f9, HX_sew F x1 x2 x3 hV, hKK, hkp, hz6, hyl, hzl, ht1, hB, hZ, hW⟩
set_option maxHeartbeats 4000000 in
theorem lc_weeks (hC : Cx p room_1 s m args meth c cL_law 4 RL ret E room_1) (hD : Dj A (asL o vl vt vk vy aa nn b)) (hA : ∀ q, s.heap.size ≤ q → A q) (hX : va_X sb L xs s s.heap) (hbl : sb < s.heap.size) (hbA : ¬ A sb) (hk : k + 6 ≤ L) (hL : L ≤ 3072) (hqf : ∀ i, i < 4 → qf i = some (aa i)) (hl : lv_has ls 4 [(3, .int (nI k)), (2, .ref (b 0)), (1, .ref (o 0)), (0, .ref sb)]) (h : LI E A s.heap o vl vt vk vy aa nn b qf H locs)
    (kk : ∀ (H : Heap) (locs : List Loc), LI E A s.heap o vl vt vk vy aa nn b qf H locs → W p l e room_1 s m args below meth c H locs 600000 7302250 Q (F0 m 1301 ls [])) : W p l e room_1 s m args below meth c H locs 600000 7302250 Q (F0 m 555 ls []) := by
  obtain ⟨S, Tl, St, Tt, K, Tk, Kr, F, B, kp, it, y, tp, z, tl, Z, N, w, f3, f4, f11, f9, hS, hKK, hkp, hz6, hyl, hzl, ht1, hB, hZ, hW⟩ := h
  obtain ⟨P, G, hV⟩ := id hS
  have hx := hC.1
  have hb := hC.2.1
  obtain ⟨x1, h1⟩ : ∃ x, xs (k + 1) = x := ⟨_, rfl⟩
  refine lv_aload_n hx hb dL_law_555 rfl (lv_at hl 2 rfl) ?_
  refine r_scr (j := 1) hC hW hX hbl hbA hk hL hl (by decide) rfl h1 dL_law_556 dL_law_557 dL_law_558 dL_law_559 dL_law_560 ?_
  refine r_callCi hC hD hW hA lkL_60 (c_X4_weeks l E o vl vt vk vy kp S Tl F P G hV x1) rfl rfl ⟨Nat.le_of_ble_eq_true rfl, Nat.le_of_ble_eq_true rfl, Nat.le_refl _, Nat.le_refl _⟩ [0, 11, 1] rfl rfl rfl (fun _ => rfl) hl.1 rfl rfl (Nat.le_of_ble_eq_true rfl) dL_law_561 (fun r1 u1 H locs g1 hW => ?_)
  have hW : Wd E A s.heap (wcat [CO o vl vt vk vy kp, HW E vl ((mWeeks S F P G x1).2.1) u1, HW E vt St Tt, HW E vk K Tk, TPW E vy y tp, [(o 1, .inr (1, [.ref (vy 0), .ref (vt 0), .int it]))], [(o 2, .inl (E.2.2.2, 4, .inr (.inr (.inr (.inr qf)))))], SHc E aa nn B Z N 0, SHc E aa nn B Z N 1, SHc E aa nn B Z N 2, SHc E aa nn B Z N 3, IA E (o 3) 7 ((mWeeks S F P G x1).2.2), MJ b z w, IA E (b 1) 68 (enc S), IA E (b 2) 7 F, IA E (b 3) 68 f3, IA E (b 4) 68 f4, IA E (b 5) 120 tp, IA E (b 6) 4 B, IA E (b 7) 4 (szA Z), LA E (b 8) 160 (en4 N), LA E (b 9) 40 f9, IA E (b 10) 68 (enc Kr), IA E (b 11) 68 f11]) H locs := hW
  refine lv_aload_n hx hb dL_law_564 rfl (lv_at hl 1 rfl) ?_
  refine r_scr (j := 1) hC hW hX hbl hbA hk hL hl (by decide) rfl h1 dL_law_565 dL_law_566 dL_law_567 dL_law_568 dL_law_569 ?_
  refine r_callCi hC hD hW hA lkL_63 (c_X5_weeks l E b z w S F P G hV x1) rfl rfl ⟨Nat.le_of_ble_eq_true rfl, Nat.le_of_ble_eq_true rfl, Nat.le_refl _, Nat.le_refl _⟩ [12, 13, 14] rfl rfl rfl (fun _ => rfl) hl.1 rfl rfl (Nat.le_of_ble_eq_true rfl) dL_law_570 (fun r2 _ H locs g2 hW => ?_)
  have hW : Wd E A s.heap (wcat [CO o vl vt vk vy kp, HW E vl ((mWeeks S F P G x1).2.1) u1, HW E vt St Tt, HW E vk K Tk, TPW E vy y tp, [(o 1, .inr (1, [.ref (vy 0), .ref (vt 0), .int it]))], [(o 2, .inl (E.2.2.2, 4, .inr (.inr (.inr (.inr qf)))))], SHc E aa nn B Z N 0, SHc E aa nn B Z N 1, SHc E aa nn B Z N 2, SHc E aa nn B Z N 3, IA E (o 3) 7 ((mWeeks S F P G x1).2.2), MJ b z w, IA E (b 1) 68 (enc ((mWeeks S F P G x1).2.1)), IA E (b 2) 7 ((mWeeks S F P G x1).2.2), IA E (b 3) 68 f3, IA E (b 4) 68 f4, IA E (b 5) 120 tp, IA E (b 6) 4 B, IA E (b 7) 4 (szA Z), LA E (b 8) 160 (en4 N), LA E (b 9) 40 f9, IA E (b 10) 68 (enc Kr), IA E (b 11) 68 f11]) H locs := hW
  refine lv_icmp_eq (tgt := 1301) hx hb dL_law_573 (by decide) (fun _ => ?_) (fun hc => absurd (g1.trans g2.symm) hc)
  exact kk H locs ⟨(mWeeks S F P G x1).2.1, u1, St, Tt, K, Tk, Kr, (mWeeks S F P G x1).2.2, B, kp, it, y, tp, z, tl, Z, N, w, f3, f4, f11, f9, HX_weeks F x1 hV, hKK, hkp, hz6, hyl, hzl, ht1, hB, hZ, hW⟩
end CASES
