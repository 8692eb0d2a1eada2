theorem lkJ0_335 : LkV RJ0 335 RJ0 yJ0_coder_7d493 cJ0_coder_7d493 1 0 (some .byte) := ⟨GL_all [521, 522, 523, 59, 524] (by decide +kernel) (by decide +kernel), by decide +kernel⟩
theorem lkJ0_492 : LkV RJ0 492 RJ0 yJ0_isLatin1_aae02 cJ0_isLatin1_aae02 1 0 (some .boolean) := ⟨GL_all [531, 532, 533, 59, 534] (by decide +kernel) (by decide +kernel), by decide +kernel⟩
theorem lkJ0_495 : LkS RJ0 495 yJ1_charAt_3b067 cJ1_charAt_3b067 2 2 (some .char) := ⟨GL_all [535, 536, 60, 537] (by decide +kernel) (by decide +kernel), by decide +kernel⟩
theorem lkJ1_9 : LkS RJ1 9 yJ0_checkIndex_df160 cJ0_checkIndex_df160 2 2 none := ⟨GL_all [538, 539, 59, 540] (by decide +kernel) (by decide +kernel), by decide +kernel⟩
theorem lkJ0_1059 : LkS RJ0 1059 yJ3_checkIndex_8e157 cJ3_checkIndex_8e157 3 3 (some .int) := ⟨GL_all [543, 544, 61, 545] (by decide +kernel) (by decide +kernel), by decide +kernel⟩
theorem flJ0_38 : Cond.fieldLink RJ0 38 "java/lang/String" "COMPACT_STRINGS" "Z" ∈ GL := GL_of (i := 525) (by decide +kernel) rfl
theorem flJ0_1053 : Cond.fieldLink RJ0 1053 "jdk/internal/util/Preconditions" "SIOOBE_FORMATTER" "Ljava/util/function/BiFunction;" ∈ GL := GL_of (i := 541) (by decide +kernel) rfl
theorem flJ0_9 : Cond.fieldLink RJ0 9 "java/lang/String" "value" "[B" ∈ GL := GL_of (i := 1125) (by decide +kernel) rfl
theorem flJ0_15 : Cond.fieldLink RJ0 15 "java/lang/String" "coder" "B" ∈ GL := GL_of (i := 1126) (by decide +kernel) rfl
theorem r_nret {p : Program} {l : Launch} {e : Env} {R : Room} {s : State} {m : MethodId} {args : Array Value} {below : List Frame} {meth : Method} {c : Code} {H : Heap} {locs : List Loc} {Q : State → Prop} {cc : ByteArray} {mL pc : Nat} {ls : Array Slot} {A : Nat → Prop} {ws : va_W} {E : Ev} {own : String} {ty : FieldType} {rm : Room} {as : List Nat} {X : Type} {post : Int32 → X → Prop} {w' : X → va_W} {mc ms : Nat} (hC : Cx p R s m args meth c cc mL own (some ty) E rm) (hQ : Q = MQ below (va_Qi post (PostC E A w') A) args s mc ms A) (hD : Dj A as) (hW : Wd E A s.heap ws H locs) {v : Int32} (hv : narrow ty (.int v) = .int v) (u : X) (hp : post v u) (hws : w' u = ws) (has : ws.map (fun q => q.1) = as) (hdg : decode cc pc = .ok (.ireturn, 1)) : W p l e R s m args below meth c H locs mc ms Q (F0 m pc ls [.int v]) := by
  obtain ⟨hx, hb, hml, hown, hr, hlk, hK, -⟩ := hC
  subst hQ
  subst hws
  exact W.zret hx hb hr hv (fun t ht _ => ⟨⟨v, u, rfl, hp, by rw [ht]; exact hW.1, hD.to has⟩, hW.2.F ht⟩) hW.2.2.2 hdg hlk
theorem shr_0 {n : Nat} (h : n < 2 ^ 31) : nI n >>> ((0 : Int32) &&& 31) = nI n := sc_shr0 h
set_option maxHeartbeats 4000000 in
set_option maxRecDepth 100000 in
theorem c_J3_checkIndex_n (l : Launch) (E : Ev) (k : Nat) (n : Nat) (hk : k < n) (hn : n < 2 ^ 31) : MI l E yJ3_checkIndex_8e157 cJ3_checkIndex_8e157 3 .int 0 0 0 0 [.int (nI k), .int (nI n), .null] [] (fun (r : Int32) (_ : Unit) => r = nI k) (fun (_ : Unit) => []) := by
  refine MI_intro RJ3 (by decide) rfl (Nat.le_of_ble_eq_true rfl) ?_
  intro p e R s m args below meth c A Q hQ hC hD hW hA ls hl
  have hx := hC.1
  have hb := hC.2.1
  have hW : Wd E A s.heap [] s.heap [] := hW
  have hl : lv_has ls 3 [(0, .int (nI k)), (1, .int (nI n)), (2, .null)] := hl
  refine lv_iload_n hx hb dJ3_checkIndex_8e157_0 rfl (lv_at hl 0 rfl) ?_
  refine lv_if_lt (tgt := 9) hx hb dJ3_checkIndex_8e157_1 (by decide) (fun c_1 => absurd c_1 (nI_pos (by omega))) (fun c_1 => ?_)
  have c_1 : ¬ k < 0 := fun z_ => c_1 ((nI_ltI (a := k) (b := 0) (by omega) (by omega)).mpr z_)
  refine lv_iload_n hx hb dJ3_checkIndex_8e157_4 rfl (lv_at hl 0 rfl) ?_
  refine lv_iload_n hx hb dJ3_checkIndex_8e157_5 rfl (lv_at hl 1 rfl) ?_
  refine lv_icmp_lt (tgt := 16) hx hb dJ3_checkIndex_8e157_6 (by decide) (fun c_2 => ?_) (fun c_2 => absurd c_2 (fun z => z (nI_lt hk hn)))
  have c_2 : k < n := (nI_ltI (a := k) (b := n) (by omega) (by omega)).mp c_2
  refine lv_iload_n hx hb dJ3_checkIndex_8e157_16 rfl (lv_at hl 0 rfl) ?_
  exact r_iret hC hQ hD hW () rfl rfl rfl dJ3_checkIndex_8e157_17
set_option maxHeartbeats 4000000 in
set_option maxRecDepth 100000 in
theorem c_J3_checkIndex_r (l : Launch) (E : Ev) (k : Nat) (n : Nat) (hk : k < n) (hn : n < 2 ^ 31) (t : Nat) : MI l E yJ3_checkIndex_8e157 cJ3_checkIndex_8e157 3 .int 0 0 0 0 [.int (nI k), .int (nI n), .ref t] [] (fun (r : Int32) (_ : Unit) => r = nI k) (fun (_ : Unit) => []) := by
  refine MI_intro RJ3 (by decide) rfl (Nat.le_of_ble_eq_true rfl) ?_
  intro p e R s m args below meth c A Q hQ hC hD hW hA ls hl
  have hx := hC.1
  have hb := hC.2.1
  have hW : Wd E A s.heap [] s.heap [] := hW
  have hl : lv_has ls 3 [(0, .int (nI k)), (1, .int (nI n)), (2, .ref t)] := hl
  refine lv_iload_n hx hb dJ3_checkIndex_8e157_0 rfl (lv_at hl 0 rfl) ?_
  refine lv_if_lt (tgt := 9) hx hb dJ3_checkIndex_8e157_1 (by decide) (fun c_1 => absurd c_1 (nI_pos (by omega))) (fun c_1 => ?_)
  have c_1 : ¬ k < 0 := fun z_ => c_1 ((nI_ltI (a := k) (b := 0) (by omega) (by omega)).mpr z_)
  refine lv_iload_n hx hb dJ3_checkIndex_8e157_4 rfl (lv_at hl 0 rfl) ?_
  refine lv_iload_n hx hb dJ3_checkIndex_8e157_5 rfl (lv_at hl 1 rfl) ?_
  refine lv_icmp_lt (tgt := 16) hx hb dJ3_checkIndex_8e157_6 (by decide) (fun c_2 => ?_) (fun c_2 => absurd c_2 (fun z => z (nI_lt hk hn)))
  have c_2 : k < n := (nI_ltI (a := k) (b := n) (by omega) (by omega)).mp c_2
  refine lv_iload_n hx hb dJ3_checkIndex_8e157_16 rfl (lv_at hl 0 rfl) ?_
  exact r_iret hC hQ hD hW () rfl rfl rfl dJ3_checkIndex_8e157_17
set_option maxHeartbeats 4000000 in
theorem c_coder (l : Launch) (E : Ev) (ad av : Nat → Nat) (i : Nat) (hi : i < 14) : MIs l E ad av yJ0_coder_7d493 cJ0_coder_7d493 1 .byte 0 0 [.ref (ad i)] [] (fun (r : Int32) (_ : Unit) => r = 0) (fun (_ : Unit) => []) := by
  refine MIs_intro RJ0 (by decide) rfl (Nat.le_of_ble_eq_true rfl) ?_
  intro p e R s m args below meth c A Q hQ hC hD hW hA hSX ls hl
  have hx := hC.1
  have hb := hC.2.1
  have hts : ∀ w ∈ GL, w.before args s = true := fun w hw => hC.2.2.2.2.2.2.1.2.1 w hw args
  have hD : Dj A [] := hD
  have hW : Wd E A s.heap [] s.heap [] := hW
  have hl : lv_has ls 1 [(0, .ref (ad i))] := hl
  refine va_gets hx hb hSX.2.1 hW.2 hC.2.2.2.1 (hts _ flJ0_38) (fun x h => h) dJ0_coder_7d493_0 ?_
  refine lv_if_eq (tgt := 13) hx hb dJ0_coder_7d493_3 (by decide) (fun c => absurd c (by decide)) (fun _ => ?_)
  refine lv_aload_n hx hb dJ0_coder_7d493_6 rfl (lv_at hl 0 rfl) ?_
  refine vk_getf hx hb (hSX.1.1 i hi).2.1 hW.2 hC.2.2.2.1 (hts _ flJ0_15) (fun x h => h) dJ0_coder_7d493_7 ?_
  refine lv_goto (tgt := 14) hx hb dJ0_coder_7d493_10 (by decide) ?_
  exact r_nret hC hQ hD hW rfl () rfl rfl rfl dJ0_coder_7d493_14
set_option maxHeartbeats 4000000 in
theorem c_isLatin1 (l : Launch) (E : Ev) (ad av : Nat → Nat) (i : Nat) (hi : i < 14) : MIs l E ad av yJ0_isLatin1_aae02 cJ0_isLatin1_aae02 1 .boolean 0 0 [.ref (ad i)] [] (fun (r : Int32) (_ : Unit) => r = 1) (fun (_ : Unit) => []) := by
  refine MIs_intro RJ0 (by decide) rfl (Nat.le_of_ble_eq_true rfl) ?_
  intro p e R s m args below meth c A Q hQ hC hD hW hA hSX ls hl
  have hx := hC.1
  have hb := hC.2.1
  have hts : ∀ w ∈ GL, w.before args s = true := fun w hw => hC.2.2.2.2.2.2.1.2.1 w hw args
  have hD : Dj A [] := hD
  have hW : Wd E A s.heap [] s.heap [] := hW
  have hl : lv_has ls 1 [(0, .ref (ad i))] := hl
  refine va_gets hx hb hSX.2.1 hW.2 hC.2.2.2.1 (hts _ flJ0_38) (fun x h => h) dJ0_isLatin1_aae02_0 ?_
  refine lv_if_eq (tgt := 17) hx hb dJ0_isLatin1_aae02_3 (by decide) (fun c => absurd c (by decide)) (fun _ => ?_)
  refine lv_aload_n hx hb dJ0_isLatin1_aae02_6 rfl (lv_at hl 0 rfl) ?_
  refine vk_getf hx hb (hSX.1.1 i hi).2.1 hW.2 hC.2.2.2.1 (hts _ flJ0_15) (fun x h => h) dJ0_isLatin1_aae02_7 ?_
  refine lv_if_ne (tgt := 17) hx hb dJ0_isLatin1_aae02_10 (by decide) (fun c => absurd c (by decide)) (fun _ => ?_)
  refine lv_iconst (v := 1) hx hb dJ0_isLatin1_aae02_13 (by decide) ?_
  refine lv_goto (tgt := 18) hx hb dJ0_isLatin1_aae02_14 (by decide) ?_
  exact r_nret hC hQ hD hW rfl () rfl rfl rfl dJ0_isLatin1_aae02_18
def sch (i k : Nat) : Int32 := (sbyt.getD i []).getD k 0
theorem sch_all : ∀ i, i < 14 → slen.getD i 0 < 20 ∧ ∀ k, k < slen.getD i 0 → ((sch i k &&& 255).toUInt32 % 65536).toInt32 = sch i k ∧ narrow .char (.int (sch i k)) = .int (sch i k) := by decide +kernel
set_option maxHeartbeats 4000000 in
theorem c_length (l : Launch) (E : Ev) (ad av : Nat → Nat) (i : Nat) (hi : i < 14) : MIs l E ad av yJ0_length_8abf5 cJ0_length_8abf5 1 .int 1 20 [.ref (ad i)] [] (fun (r : Int32) (_ : Unit) => r = nI (slen.getD i 0)) (fun (_ : Unit) => []) := by
  refine MIs_intro RJ0 (by decide) rfl (Nat.le_of_ble_eq_true rfl) ?_
  intro p e R s m args below meth c A Q hQ hC hD hW hA hSX ls hl
  have hx := hC.1
  have hb := hC.2.1
  have hts : ∀ w ∈ GL, w.before args s = true := fun w hw => hC.2.2.2.2.2.2.1.2.1 w hw args
  have hD : Dj A [] := hD
  have hW : Wd E A s.heap [] s.heap [] := hW
  have hl : lv_has ls 1 [(0, .ref (ad i))] := hl
  refine lv_aload_n hx hb dJ0_length_8abf5_0 rfl (lv_at hl 0 rfl) ?_
  refine vk_getf hx hb (hSX.1.1 i hi).2.2.1 hW.2 hC.2.2.2.1 (hts _ flJ0_9) (fun x h => h) dJ0_length_8abf5_1 ?_
  refine va_tlen (v := nI (slen.getD i 0)) hx hb (hSX.1.1 i hi).2.2.2 hW.2 rfl dJ0_length_8abf5_4 ?_
  refine lv_aload_n hx hb dJ0_length_8abf5_5 rfl (lv_at hl 0 rfl) ?_
  refine r_callTi hC hD hW hA hSX lkJ0_335 (c_coder l E ad av i hi) hi ⟨by decide, by decide, by decide, by decide⟩ rfl hl.1 rfl rfl (Nat.le_of_ble_eq_true rfl) dJ0_length_8abf5_6 (fun r _ H locs hr hW => ?_)
  have hr : r = 0 := hr
  subst hr
  refine n_ishr (v := nI (slen.getD i 0)) hx hb dJ0_length_8abf5_9 (shr_0 (by have := (sch_all i hi).1; omega)) ?_
  exact r_iret hC hQ hD hW () rfl rfl rfl dJ0_length_8abf5_10
set_option maxHeartbeats 4000000 in
theorem c_checkIx (l : Launch) (E : Ev) (ad av : Nat → Nat) (k n : Nat) (hk : k < n) (hn : n < 2 ^ 31) : MVs l E ad av yJ0_checkIndex_df160 cJ0_checkIndex_df160 2 1 22 [.int (nI k), .int (nI n)] [] (fun (_ : Unit) => True) (fun (_ : Unit) => []) := by
  refine MVs_intro RJ0 (by decide) rfl (Nat.le_of_ble_eq_true rfl) ?_
  intro p e R s m args below meth c A Q hQ hC hD hW hA hSX ls hl
  have hx := hC.1
  have hb := hC.2.1
  have hts : ∀ w ∈ GL, w.before args s = true := fun w hw => hC.2.2.2.2.2.2.1.2.1 w hw args
  have hD : Dj A [] := hD
  have hW : Wd E A s.heap [] s.heap [] := hW
  have hl : lv_has ls 2 [(0, .int (nI k)), (1, .int (nI n))] := hl
  refine lv_iload_n hx hb dJ0_checkIndex_df160_0 rfl (lv_at hl 0 rfl) ?_
  refine lv_iload_n hx hb dJ0_checkIndex_df160_1 rfl (lv_at hl 1 rfl) ?_
  rcases hSX.2.2.1 with hz | ⟨t, hz⟩
  · refine va_gets hx hb hz hW.2 hC.2.2.2.1 (hts _ flJ0_1053) (fun x h => h) dJ0_checkIndex_df160_2 ?_
    refine r_callSi hC hD hW hA lkJ0_1059 (c_J3_checkIndex_n l E k n hk hn) ⟨by decide, by decide, by decide, by decide⟩ rfl hl.1 rfl rfl (Nat.le_of_ble_eq_true rfl) dJ0_checkIndex_df160_5 (fun r _ H locs hr hW => ?_)
    refine lv_pop hx hb dJ0_checkIndex_df160_8 rfl ?_
    exact r_vret hC hQ hD hW () trivial rfl rfl dJ0_checkIndex_df160_9
  · refine va_gets hx hb hz hW.2 hC.2.2.2.1 (hts _ flJ0_1053) (fun x h => h) dJ0_checkIndex_df160_2 ?_
    refine r_callSi hC hD hW hA lkJ0_1059 (c_J3_checkIndex_r l E k n hk hn t) ⟨by decide, by decide, by decide, by decide⟩ rfl hl.1 rfl rfl (Nat.le_of_ble_eq_true rfl) dJ0_checkIndex_df160_5 (fun r _ H locs hr hW => ?_)
    refine lv_pop hx hb dJ0_checkIndex_df160_8 rfl ?_
    exact r_vret hC hQ hD hW () trivial rfl rfl dJ0_checkIndex_df160_9
set_option maxHeartbeats 4000000 in
theorem c_charAt1 (l : Launch) (E : Ev) (ad av : Nat → Nat) (i k : Nat) (hi : i < 14) (hk : k < slen.getD i 0) : MIs l E ad av yJ1_charAt_3b067 cJ1_charAt_3b067 2 .char 2 43 [.ref (av i), .int (nI k)] [] (fun (r : Int32) (_ : Unit) => r = sch i k) (fun (_ : Unit) => []) := by
  refine MIs_intro RJ1 (by decide) rfl (Nat.le_of_ble_eq_true rfl) ?_
  intro p e R s m args below meth c A Q hQ hC hD hW hA hSX ls hl
  have hx := hC.1
  have hb := hC.2.1
  have hts : ∀ w ∈ GL, w.before args s = true := fun w hw => hC.2.2.2.2.2.2.1.2.1 w hw args
  have hD : Dj A [] := hD
  have hW : Wd E A s.heap [] s.heap [] := hW
  have hl : lv_has ls 2 [(0, .ref (av i)), (1, .int (nI k))] := hl
  have hq := sch_all i hi
  refine lv_iload_n hx hb dJ1_charAt_3b067_0 rfl (lv_at hl 1 rfl) ?_
  refine lv_aload_n hx hb dJ1_charAt_3b067_1 rfl (lv_at hl 0 rfl) ?_
  refine va_tlen (v := nI (slen.getD i 0)) hx hb (hSX.1.1 i hi).2.2.2 hW.2 rfl dJ1_charAt_3b067_2 ?_
  refine r_callSvs hC hD hW hA hSX lkJ1_9 (c_checkIx l E ad av k (slen.getD i 0) hk (by omega)) ⟨by decide, by decide, by decide, by decide⟩ rfl hl.1 rfl rfl (Nat.le_of_ble_eq_true rfl) dJ1_charAt_3b067_3 (fun _ H locs hr hW => ?_)
  refine lv_aload_n hx hb dJ1_charAt_3b067_6 rfl (lv_at hl 0 rfl) ?_
  refine lv_iload_n hx hb dJ1_charAt_3b067_7 rfl (lv_at hl 1 rfl) ?_
  refine va_tb (v := .int (sch i k)) hx hb (hSX.1.1 i hi).2.2.2 hW.2 (vp_in_nI hk (by omega)) (by rw [nI_clamp (by omega)]; rfl) dJ1_charAt_3b067_8 ?_
  refine lv_sipush (v := 255) hx hb dJ1_charAt_3b067_9 (by decide) ?_
  refine n_iand (v := sch i k &&& 255) hx hb dJ1_charAt_3b067_12 rfl ?_
  refine lv_i2c (v := sch i k) hx hb dJ1_charAt_3b067_13 (hq.2 k hk).1 ?_
  exact r_nret hC hQ hD hW (hq.2 k hk).2 () rfl rfl rfl dJ1_charAt_3b067_14
set_option maxHeartbeats 4000000 in
theorem c_charAt (l : Launch) (E : Ev) (ad av : Nat → Nat) (i k : Nat) (hi : i < 14) (hk : k < slen.getD i 0) : MIs l E ad av yJ0_charAt_5068e cJ0_charAt_5068e 2 .char 3 64 [.ref (ad i), .int (nI k)] [] (fun (r : Int32) (_ : Unit) => r = sch i k) (fun (_ : Unit) => []) := by
  refine MIs_intro RJ0 (by decide) rfl (Nat.le_of_ble_eq_true rfl) ?_
  intro p e R s m args below meth c A Q hQ hC hD hW hA hSX ls hl
  have hx := hC.1
  have hb := hC.2.1
  have hts : ∀ w ∈ GL, w.before args s = true := fun w hw => hC.2.2.2.2.2.2.1.2.1 w hw args
  have hD : Dj A [] := hD
  have hW : Wd E A s.heap [] s.heap [] := hW
  have hl : lv_has ls 2 [(0, .ref (ad i)), (1, .int (nI k))] := hl
  have hq := sch_all i hi
  refine lv_aload_n hx hb dJ0_charAt_5068e_0 rfl (lv_at hl 0 rfl) ?_
  refine r_callTi hC hD hW hA hSX lkJ0_492 (c_isLatin1 l E ad av i hi) hi ⟨by decide, by decide, by decide, by decide⟩ rfl hl.1 rfl rfl (Nat.le_of_ble_eq_true rfl) dJ0_charAt_5068e_1 (fun r _ H locs hr hW => ?_)
  have hr : r = 1 := hr
  subst hr
  refine lv_if_eq (tgt := 16) hx hb dJ0_charAt_5068e_4 (by decide) (fun c => absurd c (by decide)) (fun _ => ?_)
  refine lv_aload_n hx hb dJ0_charAt_5068e_7 rfl (lv_at hl 0 rfl) ?_
  refine vk_getf hx hb (hSX.1.1 i hi).2.2.1 hW.2 hC.2.2.2.1 (hts _ flJ0_9) (fun x h => h) dJ0_charAt_5068e_8 ?_
  refine lv_iload_n hx hb dJ0_charAt_5068e_11 rfl (lv_at hl 1 rfl) ?_
  refine r_callSis hC hD hW hA hSX lkJ0_495 (c_charAt1 l E ad av i k hi hk) ⟨by decide, by decide, by decide, by decide⟩ rfl hl.1 rfl rfl (Nat.le_of_ble_eq_true rfl) dJ0_charAt_5068e_12 (fun r _ H locs hr hW => ?_)
  have hr : r = sch i k := hr
  subst hr
  exact r_nret hC hQ hD hW (hq.2 k hk).2 () rfl rfl rfl dJ0_charAt_5068e_15
