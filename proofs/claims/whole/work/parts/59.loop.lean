section LOOP
variable {p : Program} {l : Launch} {e : Env} {s : State} {m : MethodId} {below : List Frame} {meth : Method} {c : Code} {H : Heap} {locs : List Loc} {Q : State → Prop} {args : Array Value}
variable {E : Ev} {A : Nat → Prop} {sb L k pc : Nat} {xs : Nat → Int32} {o vl vt vk vy aa nn b ad av : NN} {qf : Nat → Option Nat} {ls : Array Slot} {rest : List Value}
theorem lp_go {a n : Nat} (ha : a ≤ 3072) (hn : n ≤ 3072) (h : ¬ nI n - 6 < nI a) : a + 6 ≤ n := by
  have h6 : (nI n - nI 6).toInt = (n : Int) - (6 : Nat) := pk_sub_toInt (by omega) (by omega)
  rw [show (6 : Int32) = nI 6 from rfl, Int32.lt_iff_toInt_lt, h6, nI_toInt (by omega)] at h
  omega
set_option maxHeartbeats 8000000 in
theorem law_loop (hC : Cx p room_1 s m args meth c cL_law 4 RL ret E room_1) (hD : Dj A (asL o vl vt vk vy aa nn b)) (hA : ∀ q, s.heap.size ≤ q → A q) (hX : va_X sb L xs s s.heap) (hbl : sb < s.heap.size) (hbA : ¬ A sb) (hL : L ≤ 3072) (hqf : ∀ i, i < 4 → qf i = some (aa i)) (hSX : SX ad av A s s.heap)
    (kend : ∀ (H : Heap) (locs : List Loc) (ls : Array Slot), (∀ q ∈ locs, A q.base) → W p l e room_1 s m args below meth c H locs 600000 7302250 Q (F0 m 1307 ls [])) :
    ∀ (n k : Nat) (H : Heap) (locs : List Loc) (ls : Array Slot), L ≤ k + n → k ≤ 3072 → lv_has ls 4 [(3, .int (nI k)), (2, .ref (b 0)), (1, .ref (o 0)), (0, .ref sb)] → LI E A s.heap o vl vt vk vy aa nn b qf H locs → W p l e room_1 s m args below meth c H locs 600000 7302250 Q (F0 m 18 ls []) := by
  intro n
  induction n with
  | zero =>
    intro k H locs ls hLk hk3 hl h
    have hx := hC.1
    have hb := hC.2.1
    have hW : ∃ ws, Wd E A s.heap ws H locs := by
      obtain ⟨S, Tl, St, Tt, K, Tk, Kr, F, B, kp, it, y, tp, z, tl, Z, N, w, f3, f4, f11, f9, hS, hKK, hkp, hz6, hyl, hzl, ht1, hB, hZ, hW⟩ := h
      exact ⟨_, hW⟩
    obtain ⟨ws, hW⟩ := hW
    refine lv_iload_n hx hb dL_law_18 rfl (lv_at hl 0 rfl) ?_
    refine lv_aload_n hx hb dL_law_19 rfl (lv_at hl 3 rfl) ?_
    refine va_slen hx hb hX hbl hbA hW.2 dL_law_20 ?_
    refine lv_bipush (v := 6) hx hb dL_law_21 (by decide) ?_
    refine lv_isub hx hb dL_law_23 ?_
    refine lv_icmp_gt (tgt := 1307) hx hb dL_law_24 (by decide) (fun _ => kend H locs ls hW.2.2.2) (fun hc => ?_)
    exact absurd (lp_go hk3 hL hc) (by omega)
  | succ n ih =>
    intro k H locs ls hLk hk3 hl h
    have hx := hC.1
    have hb := hC.2.1
    have hW : ∃ ws, Wd E A s.heap ws H locs := by
      obtain ⟨S, Tl, St, Tt, K, Tk, Kr, F, B, kp, it, y, tp, z, tl, Z, N, w, f3, f4, f11, f9, hS, hKK, hkp, hz6, hyl, hzl, ht1, hB, hZ, hW⟩ := h
      exact ⟨_, hW⟩
    obtain ⟨ws, hW⟩ := hW
    refine lv_iload_n hx hb dL_law_18 rfl (lv_at hl 0 rfl) ?_
    refine lv_aload_n hx hb dL_law_19 rfl (lv_at hl 3 rfl) ?_
    refine va_slen hx hb hX hbl hbA hW.2 dL_law_20 ?_
    refine lv_bipush (v := 6) hx hb dL_law_21 (by decide) ?_
    refine lv_isub hx hb dL_law_23 ?_
    refine lv_icmp_gt (tgt := 1307) hx hb dL_law_24 (by decide) (fun _ => kend H locs ls hW.2.2.2) (fun hc => ?_)
    have hk : k + 6 ≤ L := lp_go hk3 hL hc
    have k1 : ∀ (H : Heap) (locs : List Loc), LI E A s.heap o vl vt vk vy aa nn b qf H locs → W p l e room_1 s m args below meth c H locs 600000 7302250 Q (F0 m 1301 ls []) := by
      intro H locs h
      refine lv_iinc (v := nI (k + 6)) (lv' := [(3, .int (nI (k + 6))), (2, .ref (b 0)), (1, .ref (o 0)), (0, .ref sb)]) (k := 0) hx hb dL_law_1301 hl rfl (nI_inc k 6) (by decide) rfl (fun ls hl => ?_)
      refine lv_goto (tgt := 18) hx hb dL_law_1304 (by decide) ?_
      exact ih (k + 6) H locs ls (by omega) (by omega) hl h
    refine lv_aload_n hx hb dL_law_27 rfl (lv_at hl 3 rfl) ?_
    refine lv_iload_n hx hb dL_law_28 rfl (lv_at hl 0 rfl) ?_
    refine va_sld hx hb hX hbl hbA hW.2 (vp_in_nI (by omega) (by omega)) dL_law_29 ?_
    refine lv_bipush (v := 63) hx hb dL_law_30 (by decide) ?_
    refine lv_iand hx hb dL_law_32 ?_
    obtain ⟨j, hj, ej⟩ := pk_andE (xs (nI k).toNatClampNeg) (m := 63) 6 (by decide)
    rw [ej]
    have hj' : j = 0 ∨ j = 1 ∨ j = 2 ∨ j = 3 ∨ j = 4 ∨ j = 5 ∨ j = 6 ∨ j = 7 ∨ j = 8 ∨ j = 9 ∨ j = 10 ∨ j = 11 ∨ j = 12 ∨ j = 13 ∨ j = 14 ∨ j = 15 ∨ j = 16 ∨ j = 17 ∨ j = 18 ∨ j = 19 ∨ j = 20 ∨ j = 21 ∨ j = 22 ∨ j = 23 ∨ j = 24 ∨ j = 25 ∨ j = 26 ∨ j = 27 ∨ j = 28 ∨ j = 29 ∨ j = 30 ∨ j = 31 ∨ j = 32 ∨ j = 33 ∨ j = 34 ∨ j = 35 ∨ 36 ≤ j := by omega
    rcases hj' with rfl | rfl | rfl | rfl | rfl | rfl | rfl | rfl | rfl | rfl | rfl | rfl | rfl | rfl | rfl | rfl | rfl | rfl | rfl | rfl | rfl | rfl | rfl | rfl | rfl | rfl | rfl | rfl | rfl | rfl | rfl | rfl | rfl | rfl | rfl | rfl | hj2
    · exact lv_tableIn (off := 159) (tgt := 192) hx hb dL_law_33 (by decide) (by decide) rfl (by decide) (lc_heat hC hD hA hX hbl hbA hk hL hqf hl h k1)
    · exact lv_tableIn (off := 182) (tgt := 215) hx hb dL_law_33 (by decide) (by decide) rfl (by decide) (lc_now hC hD hA hX hbl hbA hk hL hqf hl h k1)
    · exact lv_tableIn (off := 205) (tgt := 238) hx hb dL_law_33 (by decide) (by decide) rfl (by decide) (lc_person hC hD hA hX hbl hbA hk hL hqf hl h k1)
    · exact lv_tableIn (off := 228) (tgt := 261) hx hb dL_law_33 (by decide) (by decide) rfl (by decide) (lc_of hC hD hA hX hbl hbA hk hL hqf hl h k1)
    · exact lv_tableIn (off := 261) (tgt := 294) hx hb dL_law_33 (by decide) (by decide) rfl (by decide) (lc_set hC hD hA hX hbl hbA hk hL hqf hl h k1)
    · exact lv_tableIn (off := 304) (tgt := 337) hx hb dL_law_33 (by decide) (by decide) rfl (by decide) (lc_would hC hD hA hX hbl hbA hk hL hqf hl h k1)
    · exact lv_tableIn (off := 347) (tgt := 380) hx hb dL_law_33 (by decide) (by decide) rfl (by decide) (lc_turn hC hD hA hX hbl hbA hk hL hqf hl h k1)
    · exact lv_tableIn (off := 380) (tgt := 413) hx hb dL_law_33 (by decide) (by decide) rfl (by decide) (lc_as hC hD hA hX hbl hbA hk hL hqf hl h k1)
    · exact lv_tableIn (off := 413) (tgt := 446) hx hb dL_law_33 (by decide) (by decide) rfl (by decide) (lc_garment hC hD hA hX hbl hbA hk hL hqf hl h k1)
    · exact lv_tableIn (off := 446) (tgt := 479) hx hb dL_law_33 (by decide) (by decide) rfl (by decide) (lc_garmentOf hC hD hA hX hbl hbA hk hL hqf hl h k1)
    · exact lv_tableIn (off := 479) (tgt := 512) hx hb dL_law_33 (by decide) (by decide) rfl (by decide) (lc_sew hC hD hA hX hbl hbA hk hL hqf hl h k1)
    · exact lv_tableIn (off := 522) (tgt := 555) hx hb dL_law_33 (by decide) (by decide) rfl (by decide) (lc_weeks hC hD hA hX hbl hbA hk hL hqf hl h k1)
    · exact lv_tableIn (off := 545) (tgt := 578) hx hb dL_law_33 (by decide) (by decide) rfl (by decide) (lc_on hC hD hA hX hbl hbA hk hL hqf hl h k1)
    · exact lv_tableIn (off := 588) (tgt := 621) hx hb dL_law_33 (by decide) (by decide) rfl (by decide) (lc_then hC hD hA hX hbl hbA hk hL hqf hl h k1)
    · exact lv_tableIn (off := 621) (tgt := 654) hx hb dL_law_33 (by decide) (by decide) rfl (by decide) (lc_lost hC hD hA hX hbl hbA hk hL hqf hl h k1)
    · exact lv_tableIn (off := 644) (tgt := 677) hx hb dL_law_33 (by decide) (by decide) rfl (by decide) (lc_comes hC hD hA hX hbl hbA hk hL hqf hl h k1)
    · exact lv_tableIn (off := 677) (tgt := 710) hx hb dL_law_33 (by decide) (by decide) rfl (by decide) (lc_mark hC hD hA hX hbl hbA hk hL hqf hl h k1)
    · exact lv_tableIn (off := 710) (tgt := 743) hx hb dL_law_33 (by decide) (by decide) rfl (by decide) (lc_kind hC hD hA hX hbl hbA hk hL hqf hl h k1)
    · exact lv_tableIn (off := 743) (tgt := 776) hx hb dL_law_33 (by decide) (by decide) rfl (by decide) (lc_warmest hC hD hA hX hbl hbA hk hL hqf hl h k1)
    · exact lv_tableIn (off := 776) (tgt := 809) hx hb dL_law_33 (by decide) (by decide) rfl (by decide) (lc_plain hC hD hA hX hbl hbA hk hL hqf hl h k1)
    · exact lv_tableIn (off := 809) (tgt := 842) hx hb dL_law_33 (by decide) (by decide) rfl (by decide) (lc_teach hC hD hA hX hbl hbA hk hL hqf hl h k1)
    · exact lv_tableIn (off := 832) (tgt := 865) hx hb dL_law_33 (by decide) (by decide) rfl (by decide) (lc_best hC hD hA hX hbl hbA hk hL hqf hl h k1)
    · exact lv_tableIn (off := 855) (tgt := 888) hx hb dL_law_33 (by decide) (by decide) rfl (by decide) (lc_feed hC hD hA hX hbl hbA hk hL hqf hl h k1)
    · exact lv_tableIn (off := 888) (tgt := 921) hx hb dL_law_33 (by decide) (by decide) rfl (by decide) (lc_wipe hC hD hA hX hbl hbA hk hL hqf hl h k1)
    · exact lv_tableIn (off := 901) (tgt := 934) hx hb dL_law_33 (by decide) (by decide) rfl (by decide) (lc_home hC hD hA hX hbl hbA hk hL hqf hl hSX h k1)
    · exact lv_tableIn (off := 914) (tgt := 947) hx hb dL_law_33 (by decide) (by decide) rfl (by decide) (lc_sheet hC hD hA hX hbl hbA hk hL hqf hl h k1)
    · exact lv_tableIn (off := 957) (tgt := 990) hx hb dL_law_33 (by decide) (by decide) rfl (by decide) (lc_write hC hD hA hX hbl hbA hk hL hqf hl h k1)
    · exact lv_tableIn (off := 1031) (tgt := 1064) hx hb dL_law_33 (by decide) (by decide) rfl (by decide) (lc_copy hC hD hA hX hbl hbA hk hL hqf hl h k1)
    · exact lv_tableIn (off := 1094) (tgt := 1127) hx hb dL_law_33 (by decide) (by decide) rfl (by decide) (lc_lays hC hD hA hX hbl hbA hk hL hqf hl h k1)
    · exact lv_tableIn (off := 1117) (tgt := 1150) hx hb dL_law_33 (by decide) (by decide) rfl (by decide) (lc_book hC hD hA hX hbl hbA hk hL hqf hl h k1)
    · exact lv_tableIn (off := 1150) (tgt := 1183) hx hb dL_law_33 (by decide) (by decide) rfl (by decide) (lc_read hC hD hA hX hbl hbA hk hL hqf hl h k1)
    · exact lv_tableIn (off := 1183) (tgt := 1216) hx hb dL_law_33 (by decide) (by decide) rfl (by decide) (lc_image hC hD hA hX hbl hbA hk hL hqf hl h k1)
    · exact lv_tableIn (off := 1196) (tgt := 1229) hx hb dL_law_33 (by decide) (by decide) rfl (by decide) (lc_undo hC hD hA hX hbl hbA hk hL hqf hl h k1)
    · exact lv_tableIn (off := 1209) (tgt := 1242) hx hb dL_law_33 (by decide) (by decide) rfl (by decide) (lc_tear hC hD hA hX hbl hbA hk hL hqf hl h k1)
    · exact lv_tableIn (off := 1222) (tgt := 1255) hx hb dL_law_33 (by decide) (by decide) rfl (by decide) (lc_count hC hD hA hX hbl hbA hk hL hqf hl h k1)
    · exact lv_tableIn (off := 1245) (tgt := 1278) hx hb dL_law_33 (by decide) (by decide) rfl (by decide) (lc_status hC hD hA hX hbl hbA hk hL hqf hl h k1)
    · exact lv_tableOut (tgt := 1301) hx hb dL_law_33 (Or.inr (by rw [nI_toInt (by omega)]; omega)) (by decide) (k1 H locs h)
end LOOP
