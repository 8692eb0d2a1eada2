set_option maxHeartbeats 4000000 in
set_option maxRecDepth 100000 in
theorem c_X5_fades (l : Launch) (E : Ev) (a : Nat) (b : Nat) (fs : List Value) (hf : fs[0]? = some (.ref b)) (S : HS) (P : Nat) (G : Nat) (hV : HV S P G) (g : Nat) (hg : g < G) : MI l E yX5_fades cX5_fades 3 .int 1 22 0 0 [.ref a, .int (nI g)] (wcat [MR E a b fs S]) (fun (r : Int32) (_ : Unit) => r = nI (fdn S g)) (fun (_ : Unit) => (wcat [MR E a b fs S])) := by
  refine MI_intro RX5 (by decide) rfl (Nat.le_of_ble_eq_true rfl) ?_
  intro p e R s m args below meth c A Q hQ hC hD hW hA ls hl
  have hx := hC.1
  have hb := hC.2.1
  have hW : Wd E A s.heap (wcat [MR E a b fs S]) s.heap [] := hW
  have hD : Dj A [a, b] := hD
  have hl : lv_has ls 3 [(0, .ref a), (1, .int (nI g))] := hl
  have hP := hV.p
  have hP1 := hV.p6
  have hG := hV.g
  have hG1 := hV.g10
  have hht := hV.ht
  refine lv_aload_n hx hb dX5_fades_0 rfl (lv_at hl 0 rfl) ?_
  refine r_get hC hW flX5_7 0 rfl hf dX5_fades_1 ?_
  refine lv_iconst (v := 1) hx hb dX5_fades_4 (by decide) ?_
  refine r_iald hC hW 1 rfl 1 rfl (by omega) (by decide) dX5_fades_5 ?_
  refine n_top (enc_0 S (by decide)) ?_
  refine n_top hV.ht.1 ?_
  refine lv_istore_n (lv' := [(2, .int (nI (ht S))), (0, .ref a), (1, .int (nI g))]) hx hb dX5_fades_6 rfl hl (by decide) rfl (fun ls hl => ?_)
  refine lv_aload_n hx hb dX5_fades_7 rfl (lv_at hl 1 rfl) ?_
  refine lv_iload_n hx hb dX5_fades_8 rfl (lv_at hl 2 rfl) ?_
  refine lv_iconst (v := 1) hx hb dX5_fades_9 (by decide) ?_
  refine r_callCi hC hD hW hA lkX5_49 (c_X5_worn l E a b fs hf S g 1 (by omega) (by omega)) rfl rfl ⟨by decide, by decide, by decide, by decide⟩ [0] rfl rfl rfl (fun _ => rfl) hl.1 rfl rfl (Nat.le_of_ble_eq_true rfl) dX5_fades_10 (fun r_1 _ H locs hr_1 hW => ?_)
  have hW : Wd E A s.heap (wcat [MR E a b fs S]) H locs := hW
  have hr_1 : r_1 = (S 6 g) := hr_1
  subst hr_1
  by_cases k_2 : (S 6 g) = 0
  · refine lv_lookup (off := 27) (tgt := 40) hx hb dX5_fades_13 (by decide) (by rw [k_2]; decide) (by decide) ?_
    refine lv_iconst (v := 1) hx hb dX5_fades_40 (by decide) ?_
    exact r_iret hC hQ hD hW () (by unfold fdn; rw [k_2]; rfl) rfl rfl dX5_fades_41
  by_cases k_3 : (S 6 g) = 1
  · refine lv_lookup (off := 29) (tgt := 42) hx hb dX5_fades_13 (by decide) (by rw [k_3]; decide) (by decide) ?_
    refine lv_iload_n hx hb dX5_fades_42 rfl (lv_at hl 0 rfl) ?_
    refine lv_bipush (v := 50) hx hb dX5_fades_43 (by decide) ?_
    refine lv_icmp_le (tgt := 61) hx hb dX5_fades_45 (by decide) (fun c_4 => ?_) (fun c_4 => ?_)
    · have c_4 : ht S ≤ 50 := (nI_leI (a := ht S) (b := 50) (by omega) (by omega)).mp c_4
      refine lv_bipush (v := 9) hx hb dX5_fades_61 (by decide) ?_
      exact r_iret hC hQ hD hW () (by unfold fdn; rw [if_pos k_3, show (ht S - 50) / 10 = 0 by omega]; rfl) rfl rfl dX5_fades_63
    · have c_4 : ¬ ht S ≤ 50 := fun z_ => c_4 ((nI_leI (a := ht S) (b := 50) (by omega) (by omega)).mpr z_)
      refine lv_bipush (v := 9) hx hb dX5_fades_48 (by decide) ?_
      refine lv_iload_n hx hb dX5_fades_50 rfl (lv_at hl 0 rfl) ?_
      refine lv_bipush (v := 50) hx hb dX5_fades_51 (by decide) ?_
      refine n_isub (v := (nI (ht S - 50))) hx hb dX5_fades_53 (pk_sub (a := ht S) (b := 50) (by omega)) ?_
      refine lv_bipush (v := 10) hx hb dX5_fades_54 (by decide) ?_
      refine n_idiv (v := (nI ((ht S - 50) / 10))) hx hb dX5_fades_56 (by decide) (pk_div (a := ht S - 50) (d := 10) (by omega) (by decide) (by decide)) ?_
      refine n_iadd (v := (nI (9 + ((ht S - 50) / 10)))) hx hb dX5_fades_57 (nI_add 9 ((ht S - 50) / 10)) ?_
      refine lv_goto (tgt := 63) hx hb dX5_fades_58 (by decide) ?_
      exact r_iret hC hQ hD hW () (congrArg nI (by unfold fdn; rw [if_pos k_3])) rfl rfl dX5_fades_63
  refine lv_lookup (off := 51) (tgt := 64) hx hb dX5_fades_13 (by decide) (by rw [lv_osw k_2 (by decide), lv_osw k_3 (by decide)]; rfl) (by decide) ?_
  refine lv_iload_n hx hb dX5_fades_64 rfl (lv_at hl 0 rfl) ?_
  refine lv_bipush (v := 6) hx hb dX5_fades_65 (by decide) ?_
  refine n_idiv (v := (nI (ht S / 6))) hx hb dX5_fades_67 (by decide) (pk_div (a := ht S) (d := 6) (by omega) (by decide) (by decide)) ?_
  exact r_iret hC hQ hD hW () (congrArg nI (by unfold fdn; rw [if_neg k_3, if_pos ((hV.gv hg).2.1.resolve_left k_2 |>.resolve_left k_3)])) rfl rfl dX5_fades_68
set_option maxHeartbeats 4000000 in
set_option maxRecDepth 100000 in
theorem c_X5_reads (l : Launch) (E : Ev) (a : Nat) (b : Nat) (fs : List Value) (hf : fs[0]? = some (.ref b)) (S : HS) (P : Nat) (G : Nat) (hV : HV S P G) (g : Nat) (hg : g < G) : MI l E yX5_reads cX5_reads 6 .int 1 22 0 0 [.ref a, .int (nI g)] (wcat [MR E a b fs S]) (fun (r : Int32) (_ : Unit) => r = rdI S P g) (fun (_ : Unit) => (wcat [MR E a b fs S])) := by
  refine MI_intro RX5 (by decide) rfl (Nat.le_of_ble_eq_true rfl) ?_
  intro p e R s m args below meth c A Q hQ hC hD hW hA ls hl
  have hx := hC.1
  have hb := hC.2.1
  have hW : Wd E A s.heap (wcat [MR E a b fs S]) s.heap [] := hW
  have hD : Dj A [a, b] := hD
  have hl : lv_has ls 6 [(0, .ref a), (1, .int (nI g))] := hl
  have hP := hV.p
  have hP1 := hV.p6
  have hG := hV.g
  have hG1 := hV.g10
  have hou := (hV.gv hg).ow hP1
  have hnm := hV.nm99 hg
  refine lv_aload_n hx hb dX5_reads_0 rfl (lv_at hl 0 rfl) ?_
  refine lv_iload_n hx hb dX5_reads_1 rfl (lv_at hl 1 rfl) ?_
  refine lv_iconst (v := 0) hx hb dX5_reads_2 (by decide) ?_
  refine r_callCi hC hD hW hA lkX5_49 (c_X5_worn l E a b fs hf S g 0 (by omega) (by omega)) rfl rfl ⟨by decide, by decide, by decide, by decide⟩ [0] rfl rfl rfl (fun _ => rfl) hl.1 rfl rfl (Nat.le_of_ble_eq_true rfl) dX5_reads_3 (fun r_1 _ H locs hr_1 hW => ?_)
  have hW : Wd E A s.heap (wcat [MR E a b fs S]) H locs := hW
  have hr_1 : r_1 = (S 5 g) := hr_1
  subst hr_1
  refine n_top hou.1 ?_
  refine lv_istore_n (lv' := [(2, .int (nI (ow S g))), (0, .ref a), (1, .int (nI g))]) hx hb dX5_reads_6 rfl hl (by decide) rfl (fun ls hl => ?_)
  refine lv_aload_n hx hb dX5_reads_7 rfl (lv_at hl 1 rfl) ?_
  refine lv_iload_n hx hb dX5_reads_8 rfl (lv_at hl 2 rfl) ?_
  refine lv_iconst (v := 2) hx hb dX5_reads_9 (by decide) ?_
  refine r_callCi hC hD hW hA lkX5_49 (c_X5_worn l E a b fs hf S g 2 (by omega) (by omega)) rfl rfl ⟨by decide, by decide, by decide, by decide⟩ [0] rfl rfl rfl (fun _ => rfl) hl.1 rfl rfl (Nat.le_of_ble_eq_true rfl) dX5_reads_10 (fun r_2 _ H locs hr_2 hW => ?_)
  have hW : Wd E A s.heap (wcat [MR E a b fs S]) H locs := hW
  have hr_2 : r_2 = (S 7 g) := hr_2
  subst hr_2
  refine n_top (hV.nmv hg) ?_
  refine lv_istore_n (lv' := [(3, .int (nI (nm S g))), (2, .int (nI (ow S g))), (0, .ref a), (1, .int (nI g))]) hx hb dX5_reads_13 rfl hl (by decide) rfl (fun ls hl => ?_)
  refine lv_iload_n hx hb dX5_reads_14 rfl (lv_at hl 0 rfl) ?_
  refine lv_bipush (v := 60) hx hb dX5_reads_15 (by decide) ?_
  refine lv_icmp_lt (tgt := 31) hx hb dX5_reads_17 (by decide) (fun c_3 => ?_) (fun c_3 => ?_)
  · have c_3 : nm S g < 60 := (nI_ltI (a := nm S g) (b := 60) (by omega) (by omega)).mp c_3
    refine lv_iconst (v := (-1)) hx hb dX5_reads_31 (by decide) ?_
    refine lv_istore (lv' := [(4, .int (-1)), (3, .int (nI (nm S g))), (2, .int (nI (ow S g))), (0, .ref a), (1, .int (nI g))]) hx hb dX5_reads_32 hl (by decide) rfl (fun ls hl => ?_)
    refine lv_aload_n hx hb dX5_reads_34 rfl (lv_at hl 3 rfl) ?_
    refine r_get hC hW flX5_7 0 rfl hf dX5_reads_35 ?_
    refine lv_iconst (v := 2) hx hb dX5_reads_38 (by decide) ?_
    refine r_iald hC hW 1 rfl 2 rfl (by omega) (by decide) dX5_reads_39 ?_
    refine n_top (enc_0 S (by decide)) ?_
    refine n_top hV.p ?_
    refine lv_iconst (v := 1) hx hb dX5_reads_40 (by decide) ?_
    refine n_isub (v := ((nI P) - 1)) hx hb dX5_reads_41 rfl ?_
    refine lv_istore (lv' := [(5, .int ((nI P) - 1)), (4, .int (-1)), (3, .int (nI (nm S g))), (2, .int (nI (ow S g))), (0, .ref a), (1, .int (nI g))]) hx hb dX5_reads_42 hl (by decide) rfl (fun ls hl => ?_)
    have L44 : ∀ (n_ : Nat) (q : Nat) (x : Int32) (H : Heap) (locs : List Loc) (ls : Array Slot), q < n_ → q ≤ P → (20 ≤ nm S g → LSq (bnd S g) q P x) → (nm S g < 20 → x = -1) → ¬ (60 ≤ nm S g ∧ S 4 (ow S g) = 0) → Wd E A s.heap (wcat [MR E a b fs S]) H locs → lv_has ls 6 [(0, .ref a), (1, .int (nI g)), (2, .int (nI (ow S g))), (3, .int (nI (nm S g))), (4, .int x), (5, .int (nI q - 1))] → W p l e R s m args below meth c H locs 0 0 Q (F0 m 44 ls []) := by
      intro n_
      induction n_ with
      | zero => intro q x H locs ls hm; exact absurd hm (Nat.not_lt_zero _)
      | succ n_ ih =>
        intro q x H locs ls hm hq hX1 hn h60 hW hl
        rcases q with _ | q
        · have hl : lv_has ls 6 [(0, .ref a), (1, .int (nI g)), (2, .int (nI (ow S g))), (3, .int (nI (nm S g))), (4, .int x), (5, .int (-1))] := hl
          refine lv_iload hx hb dX5_reads_44 (lv_at hl 5 rfl) ?_
          refine lv_if_lt (tgt := 96) hx hb dX5_reads_46 (by decide) (fun _ => ?_) (fun c => absurd c (by decide))
          refine lv_iload hx hb dX5_reads_96 (lv_at hl 4 rfl) ?_
          exact r_iret hC hQ hD hW () (rdI_out hP1 h60 hX1 hn (Or.inl rfl)) rfl rfl dX5_reads_98
        · rw [show nI (q + 1) - 1 = nI q from nI_pred q] at hl
          refine lv_iload hx hb dX5_reads_44 (lv_at hl 5 rfl) ?_
          refine lv_if_lt (tgt := 96) hx hb dX5_reads_46 (by decide) (fun c_4 => absurd c_4 (nI_pos (by omega))) (fun c_4 => ?_)
          have c_4 : ¬ q < 0 := fun z_ => c_4 ((nI_ltI (a := q) (b := 0) (by omega) (by omega)).mpr z_)
          refine lv_iload_n hx hb dX5_reads_49 rfl (lv_at hl 3 rfl) ?_
          refine lv_bipush (v := 20) hx hb dX5_reads_50 (by decide) ?_
          refine lv_icmp_lt (tgt := 96) hx hb dX5_reads_52 (by decide) (fun c_5 => ?_) (fun c_5 => ?_)
          · have c_5 : nm S g < 20 := (nI_ltI (a := nm S g) (b := 20) (by omega) (by omega)).mp c_5
            refine lv_iload hx hb dX5_reads_96 (lv_at hl 4 rfl) ?_
            exact r_iret hC hQ hD hW () (rdI_out hP1 h60 hX1 hn (Or.inr (by omega))) rfl rfl dX5_reads_98
          · have c_5 : ¬ nm S g < 20 := fun z_ => c_5 ((nI_ltI (a := nm S g) (b := 20) (by omega) (by omega)).mpr z_)
            refine lv_aload_n hx hb dX5_reads_55 rfl (lv_at hl 0 rfl) ?_
            refine lv_iload hx hb dX5_reads_56 (lv_at hl 5 rfl) ?_
            refine lv_iconst (v := 1) hx hb dX5_reads_58 (by decide) ?_
            refine r_callCi hC hD hW hA lkX5_57 (c_X5_its l E a b fs hf S q 1 (by omega) (by omega)) rfl rfl ⟨by decide, by decide, by decide, by decide⟩ [0] rfl rfl rfl (fun _ => rfl) hl.1 rfl rfl (Nat.le_of_ble_eq_true rfl) dX5_reads_59 (fun r_6 _ H locs hr_6 hW => ?_)
            have hW : Wd E A s.heap (wcat [MR E a b fs S]) H locs := hW
            have hr_6 : r_6 = (S 2 q) := hr_6
            subst hr_6
            refine lv_aload_n hx hb dX5_reads_62 rfl (lv_at hl 0 rfl) ?_
            refine lv_iload_n hx hb dX5_reads_63 rfl (lv_at hl 2 rfl) ?_
            refine lv_iconst (v := 1) hx hb dX5_reads_64 (by decide) ?_
            refine r_callCi hC hD hW hA lkX5_57 (c_X5_its l E a b fs hf S (ow S g) 1 (by omega) (by omega)) rfl rfl ⟨by decide, by decide, by decide, by decide⟩ [0] rfl rfl rfl (fun _ => rfl) hl.1 rfl rfl (Nat.le_of_ble_eq_true rfl) dX5_reads_65 (fun r_7 _ H locs hr_7 hW => ?_)
            have hW : Wd E A s.heap (wcat [MR E a b fs S]) H locs := hW
            have hr_7 : r_7 = (S 2 (ow S g)) := hr_7
            subst hr_7
            refine lv_icmp_ne (tgt := 86) hx hb dX5_reads_68 (by decide) (fun c_8 => ?_) (fun c_8 => ?_)
            · refine lv_iload hx hb dX5_reads_86 (lv_at hl 4 rfl) ?_
              refine lv_istore (lv' := [(4, .int x), (0, .ref a), (1, .int (nI g)), (2, .int (nI (ow S g))), (3, .int (nI (nm S g))), (5, .int (nI q))]) hx hb dX5_reads_88 hl (by decide) rfl (fun ls hl => ?_)
              refine lv_iinc (v := (nI q - 1)) (lv' := [(5, .int (nI q - 1)), (4, .int x), (0, .ref a), (1, .int (nI g)), (2, .int (nI (ow S g))), (3, .int (nI (nm S g)))]) (k := 5) hx hb dX5_reads_90 hl rfl (nI_dec q) (by decide) rfl (fun ls hl => ?_)
              refine lv_goto (tgt := 44) hx hb dX5_reads_93 (by decide) ?_
              exact ih q x _ _ _ (by omega) (by omega) (fun z => LSq_f (decide_eq_false (fun w => c_8 w.1)) (hX1 z)) (fun z => by omega) h60 hW (lv_sub hl [2, 3, 4, 5, 1, 0] rfl)
            · refine lv_aload_n hx hb dX5_reads_71 rfl (lv_at hl 0 rfl) ?_
              refine lv_iload hx hb dX5_reads_72 (lv_at hl 5 rfl) ?_
              refine lv_iconst (v := 3) hx hb dX5_reads_74 (by decide) ?_
              refine r_callCi hC hD hW hA lkX5_57 (c_X5_its l E a b fs hf S q 3 (by omega) (by omega)) rfl rfl ⟨by decide, by decide, by decide, by decide⟩ [0] rfl rfl rfl (fun _ => rfl) hl.1 rfl rfl (Nat.le_of_ble_eq_true rfl) dX5_reads_75 (fun r_9 _ H locs hr_9 hW => ?_)
              have hW : Wd E A s.heap (wcat [MR E a b fs S]) H locs := hW
              have hr_9 : r_9 = (S 4 q) := hr_9
              subst hr_9
              refine lv_if_ne (tgt := 86) hx hb dX5_reads_78 (by decide) (fun c_10 => ?_) (fun c_10 => ?_)
              · refine lv_iload hx hb dX5_reads_86 (lv_at hl 4 rfl) ?_
                refine lv_istore (lv' := [(4, .int x), (0, .ref a), (1, .int (nI g)), (2, .int (nI (ow S g))), (3, .int (nI (nm S g))), (5, .int (nI q))]) hx hb dX5_reads_88 hl (by decide) rfl (fun ls hl => ?_)
                refine lv_iinc (v := (nI q - 1)) (lv' := [(5, .int (nI q - 1)), (4, .int x), (0, .ref a), (1, .int (nI g)), (2, .int (nI (ow S g))), (3, .int (nI (nm S g)))]) (k := 5) hx hb dX5_reads_90 hl rfl (nI_dec q) (by decide) rfl (fun ls hl => ?_)
                refine lv_goto (tgt := 44) hx hb dX5_reads_93 (by decide) ?_
                exact ih q x _ _ _ (by omega) (by omega) (fun z => LSq_f (decide_eq_false (fun w => c_10 w.2)) (hX1 z)) (fun z => by omega) h60 hW (lv_sub hl [2, 3, 4, 5, 1, 0] rfl)
              · refine lv_iload hx hb dX5_reads_81 (lv_at hl 5 rfl) ?_
                refine lv_goto (tgt := 88) hx hb dX5_reads_83 (by decide) ?_
                refine lv_istore (lv' := [(4, .int (nI q)), (0, .ref a), (1, .int (nI g)), (2, .int (nI (ow S g))), (3, .int (nI (nm S g))), (5, .int (nI q))]) hx hb dX5_reads_88 hl (by decide) rfl (fun ls hl => ?_)
                refine lv_iinc (v := (nI q - 1)) (lv' := [(5, .int (nI q - 1)), (4, .int (nI q)), (0, .ref a), (1, .int (nI g)), (2, .int (nI (ow S g))), (3, .int (nI (nm S g)))]) (k := 5) hx hb dX5_reads_90 hl rfl (nI_dec q) (by decide) rfl (fun ls hl => ?_)
                refine lv_goto (tgt := 44) hx hb dX5_reads_93 (by decide) ?_
                exact ih q (nI q) _ _ _ (by omega) (by omega) (fun _ => LSq_t (decide_eq_true ⟨c_8, c_10⟩) (by omega)) (fun z => by omega) h60 hW (lv_sub hl [2, 3, 4, 5, 1, 0] rfl)
    exact L44 (P + 1) P (-1) _ _ _ (Nat.lt_succ_self _) (by omega) (fun _ => LSq_init _ P) (fun _ => rfl) (fun z => by omega) hW (lv_sub hl [4, 5, 3, 2, 1, 0] rfl)
  · have c_3 : ¬ nm S g < 60 := fun z_ => c_3 ((nI_ltI (a := nm S g) (b := 60) (by omega) (by omega)).mpr z_)
    refine lv_aload_n hx hb dX5_reads_20 rfl (lv_at hl 2 rfl) ?_
    refine lv_iload_n hx hb dX5_reads_21 rfl (lv_at hl 1 rfl) ?_
    refine lv_iconst (v := 3) hx hb dX5_reads_22 (by decide) ?_
    refine r_callCi hC hD hW hA lkX5_57 (c_X5_its l E a b fs hf S (ow S g) 3 (by omega) (by omega)) rfl rfl ⟨by decide, by decide, by decide, by decide⟩ [0] rfl rfl rfl (fun _ => rfl) hl.1 rfl rfl (Nat.le_of_ble_eq_true rfl) dX5_reads_23 (fun r_11 _ H locs hr_11 hW => ?_)
    have hW : Wd E A s.heap (wcat [MR E a b fs S]) H locs := hW
    have hr_11 : r_11 = (S 4 (ow S g)) := hr_11
    subst hr_11
    refine lv_if_ne (tgt := 31) hx hb dX5_reads_26 (by decide) (fun c_12 => ?_) (fun c_12 => ?_)
    · refine lv_iconst (v := (-1)) hx hb dX5_reads_31 (by decide) ?_
      refine lv_istore (lv' := [(4, .int (-1)), (3, .int (nI (nm S g))), (2, .int (nI (ow S g))), (0, .ref a), (1, .int (nI g))]) hx hb dX5_reads_32 hl (by decide) rfl (fun ls hl => ?_)
      refine lv_aload_n hx hb dX5_reads_34 rfl (lv_at hl 3 rfl) ?_
      refine r_get hC hW flX5_7 0 rfl hf dX5_reads_35 ?_
      refine lv_iconst (v := 2) hx hb dX5_reads_38 (by decide) ?_
      refine r_iald hC hW 1 rfl 2 rfl (by omega) (by decide) dX5_reads_39 ?_
      refine n_top (enc_0 S (by decide)) ?_
      refine n_top hV.p ?_
      refine lv_iconst (v := 1) hx hb dX5_reads_40 (by decide) ?_
      refine n_isub (v := ((nI P) - 1)) hx hb dX5_reads_41 rfl ?_
      refine lv_istore (lv' := [(5, .int ((nI P) - 1)), (4, .int (-1)), (3, .int (nI (nm S g))), (2, .int (nI (ow S g))), (0, .ref a), (1, .int (nI g))]) hx hb dX5_reads_42 hl (by decide) rfl (fun ls hl => ?_)
      have L44 : ∀ (n_ : Nat) (q : Nat) (x : Int32) (H : Heap) (locs : List Loc) (ls : Array Slot), q < n_ → q ≤ P → (20 ≤ nm S g → LSq (bnd S g) q P x) → (nm S g < 20 → x = -1) → ¬ (60 ≤ nm S g ∧ S 4 (ow S g) = 0) → Wd E A s.heap (wcat [MR E a b fs S]) H locs → lv_has ls 6 [(0, .ref a), (1, .int (nI g)), (2, .int (nI (ow S g))), (3, .int (nI (nm S g))), (4, .int x), (5, .int (nI q - 1))] → W p l e R s m args below meth c H locs 0 0 Q (F0 m 44 ls []) := by
        intro n_
        induction n_ with
        | zero => intro q x H locs ls hm; exact absurd hm (Nat.not_lt_zero _)
        | succ n_ ih =>
          intro q x H locs ls hm hq hX1 hn h60 hW hl
          rcases q with _ | q
          · have hl : lv_has ls 6 [(0, .ref a), (1, .int (nI g)), (2, .int (nI (ow S g))), (3, .int (nI (nm S g))), (4, .int x), (5, .int (-1))] := hl
            refine lv_iload hx hb dX5_reads_44 (lv_at hl 5 rfl) ?_
            refine lv_if_lt (tgt := 96) hx hb dX5_reads_46 (by decide) (fun _ => ?_) (fun c => absurd c (by decide))
            refine lv_iload hx hb dX5_reads_96 (lv_at hl 4 rfl) ?_
            exact r_iret hC hQ hD hW () (rdI_out hP1 h60 hX1 hn (Or.inl rfl)) rfl rfl dX5_reads_98
          · rw [show nI (q + 1) - 1 = nI q from nI_pred q] at hl
            refine lv_iload hx hb dX5_reads_44 (lv_at hl 5 rfl) ?_
            refine lv_if_lt (tgt := 96) hx hb dX5_reads_46 (by decide) (fun c_13 => absurd c_13 (nI_pos (by omega))) (fun c_13 => ?_)
            have c_13 : ¬ q < 0 := fun z_ => c_13 ((nI_ltI (a := q) (b := 0) (by omega) (by omega)).mpr z_)
            refine lv_iload_n hx hb dX5_reads_49 rfl (lv_at hl 3 rfl) ?_
            refine lv_bipush (v := 20) hx hb dX5_reads_50 (by decide) ?_
            refine lv_icmp_lt (tgt := 96) hx hb dX5_reads_52 (by decide) (fun c_14 => ?_) (fun c_14 => ?_)
            · have c_14 : nm S g < 20 := (nI_ltI (a := nm S g) (b := 20) (by omega) (by omega)).mp c_14
              refine lv_iload hx hb dX5_reads_96 (lv_at hl 4 rfl) ?_
              exact r_iret hC hQ hD hW () (rdI_out hP1 h60 hX1 hn (Or.inr (by omega))) rfl rfl dX5_reads_98
            · have c_14 : ¬ nm S g < 20 := fun z_ => c_14 ((nI_ltI (a := nm S g) (b := 20) (by omega) (by omega)).mpr z_)
              refine lv_aload_n hx hb dX5_reads_55 rfl (lv_at hl 0 rfl) ?_
              refine lv_iload hx hb dX5_reads_56 (lv_at hl 5 rfl) ?_
              refine lv_iconst (v := 1) hx hb dX5_reads_58 (by decide) ?_
              refine r_callCi hC hD hW hA lkX5_57 (c_X5_its l E a b fs hf S q 1 (by omega) (by omega)) rfl rfl ⟨by decide, by decide, by decide, by decide⟩ [0] rfl rfl rfl (fun _ => rfl) hl.1 rfl rfl (Nat.le_of_ble_eq_true rfl) dX5_reads_59 (fun r_15 _ H locs hr_15 hW => ?_)
              have hW : Wd E A s.heap (wcat [MR E a b fs S]) H locs := hW
              have hr_15 : r_15 = (S 2 q) := hr_15
              subst hr_15
              refine lv_aload_n hx hb dX5_reads_62 rfl (lv_at hl 0 rfl) ?_
              refine lv_iload_n hx hb dX5_reads_63 rfl (lv_at hl 2 rfl) ?_
              refine lv_iconst (v := 1) hx hb dX5_reads_64 (by decide) ?_
              refine r_callCi hC hD hW hA lkX5_57 (c_X5_its l E a b fs hf S (ow S g) 1 (by omega) (by omega)) rfl rfl ⟨by decide, by decide, by decide, by decide⟩ [0] rfl rfl rfl (fun _ => rfl) hl.1 rfl rfl (Nat.le_of_ble_eq_true rfl) dX5_reads_65 (fun r_16 _ H locs hr_16 hW => ?_)
              have hW : Wd E A s.heap (wcat [MR E a b fs S]) H locs := hW
              have hr_16 : r_16 = (S 2 (ow S g)) := hr_16
              subst hr_16
              refine lv_icmp_ne (tgt := 86) hx hb dX5_reads_68 (by decide) (fun c_17 => ?_) (fun c_17 => ?_)
              · refine lv_iload hx hb dX5_reads_86 (lv_at hl 4 rfl) ?_
                refine lv_istore (lv' := [(4, .int x), (0, .ref a), (1, .int (nI g)), (2, .int (nI (ow S g))), (3, .int (nI (nm S g))), (5, .int (nI q))]) hx hb dX5_reads_88 hl (by decide) rfl (fun ls hl => ?_)
                refine lv_iinc (v := (nI q - 1)) (lv' := [(5, .int (nI q - 1)), (4, .int x), (0, .ref a), (1, .int (nI g)), (2, .int (nI (ow S g))), (3, .int (nI (nm S g)))]) (k := 5) hx hb dX5_reads_90 hl rfl (nI_dec q) (by decide) rfl (fun ls hl => ?_)
                refine lv_goto (tgt := 44) hx hb dX5_reads_93 (by decide) ?_
                exact ih q x _ _ _ (by omega) (by omega) (fun z => LSq_f (decide_eq_false (fun w => c_17 w.1)) (hX1 z)) (fun z => by omega) h60 hW (lv_sub hl [2, 3, 4, 5, 1, 0] rfl)
              · refine lv_aload_n hx hb dX5_reads_71 rfl (lv_at hl 0 rfl) ?_
                refine lv_iload hx hb dX5_reads_72 (lv_at hl 5 rfl) ?_
                refine lv_iconst (v := 3) hx hb dX5_reads_74 (by decide) ?_
                refine r_callCi hC hD hW hA lkX5_57 (c_X5_its l E a b fs hf S q 3 (by omega) (by omega)) rfl rfl ⟨by decide, by decide, by decide, by decide⟩ [0] rfl rfl rfl (fun _ => rfl) hl.1 rfl rfl (Nat.le_of_ble_eq_true rfl) dX5_reads_75 (fun r_18 _ H locs hr_18 hW => ?_)
                have hW : Wd E A s.heap (wcat [MR E a b fs S]) H locs := hW
                have hr_18 : r_18 = (S 4 q) := hr_18
                subst hr_18
                refine lv_if_ne (tgt := 86) hx hb dX5_reads_78 (by decide) (fun c_19 => ?_) (fun c_19 => ?_)
                · refine lv_iload hx hb dX5_reads_86 (lv_at hl 4 rfl) ?_
                  refine lv_istore (lv' := [(4, .int x), (0, .ref a), (1, .int (nI g)), (2, .int (nI (ow S g))), (3, .int (nI (nm S g))), (5, .int (nI q))]) hx hb dX5_reads_88 hl (by decide) rfl (fun ls hl => ?_)
                  refine lv_iinc (v := (nI q - 1)) (lv' := [(5, .int (nI q - 1)), (4, .int x), (0, .ref a), (1, .int (nI g)), (2, .int (nI (ow S g))), (3, .int (nI (nm S g)))]) (k := 5) hx hb dX5_reads_90 hl rfl (nI_dec q) (by decide) rfl (fun ls hl => ?_)
                  refine lv_goto (tgt := 44) hx hb dX5_reads_93 (by decide) ?_
                  exact ih q x _ _ _ (by omega) (by omega) (fun z => LSq_f (decide_eq_false (fun w => c_19 w.2)) (hX1 z)) (fun z => by omega) h60 hW (lv_sub hl [2, 3, 4, 5, 1, 0] rfl)
                · refine lv_iload hx hb dX5_reads_81 (lv_at hl 5 rfl) ?_
                  refine lv_goto (tgt := 88) hx hb dX5_reads_83 (by decide) ?_
                  refine lv_istore (lv' := [(4, .int (nI q)), (0, .ref a), (1, .int (nI g)), (2, .int (nI (ow S g))), (3, .int (nI (nm S g))), (5, .int (nI q))]) hx hb dX5_reads_88 hl (by decide) rfl (fun ls hl => ?_)
                  refine lv_iinc (v := (nI q - 1)) (lv' := [(5, .int (nI q - 1)), (4, .int (nI q)), (0, .ref a), (1, .int (nI g)), (2, .int (nI (ow S g))), (3, .int (nI (nm S g)))]) (k := 5) hx hb dX5_reads_90 hl rfl (nI_dec q) (by decide) rfl (fun ls hl => ?_)
                  refine lv_goto (tgt := 44) hx hb dX5_reads_93 (by decide) ?_
                  exact ih q (nI q) _ _ _ (by omega) (by omega) (fun _ => LSq_t (decide_eq_true ⟨c_17, c_19⟩) (by omega)) (fun z => by omega) h60 hW (lv_sub hl [2, 3, 4, 5, 1, 0] rfl)
      exact L44 (P + 1) P (-1) _ _ _ (Nat.lt_succ_self _) (by omega) (fun _ => LSq_init _ P) (fun _ => rfl) (fun z => c_12 z.2) hW (lv_sub hl [4, 5, 3, 2, 1, 0] rfl)
    · refine lv_iload_n hx hb dX5_reads_29 rfl (lv_at hl 1 rfl) ?_
      exact r_iret hC hQ hD hW () (by unfold rdI; rw [if_pos ⟨by omega, c_12⟩]) rfl rfl dX5_reads_30
set_option maxHeartbeats 4000000 in
set_option maxRecDepth 100000 in
theorem c_X5_isGiving (l : Launch) (E : Ev) (a : Nat) (b : Nat) (fs : List Value) (hf : fs[0]? = some (.ref b)) (S : HS) (P : Nat) (G : Nat) (hV : HV S P G) (i : Nat) (g : Nat) (hi : i < P) (hg : g < G) : MI l E yX5_isGiving cX5_isGiving 4 .boolean 1 22 0 0 [.ref a, .int (nI i), .int (nI g)] (wcat [MR E a b fs S]) (fun (r : Int32) (_ : Unit) => bz (giv S i g) r) (fun (_ : Unit) => (wcat [MR E a b fs S])) := by
  refine MI_intro RX5 (by decide) rfl (Nat.le_of_ble_eq_true rfl) ?_
  intro p e R s m args below meth c A Q hQ hC hD hW hA ls hl
  have hx := hC.1
  have hb := hC.2.1
  have hW : Wd E A s.heap (wcat [MR E a b fs S]) s.heap [] := hW
  have hD : Dj A [a, b] := hD
  have hl : lv_has ls 4 [(0, .ref a), (1, .int (nI i)), (2, .int (nI g))] := hl
  have hP := hV.p
  have hP1 := hV.p6
  have hG := hV.g
  have hG1 := hV.g10
  have hnm := hV.nm99 hg
  refine lv_aload_n hx hb dX5_isGiving_0 rfl (lv_at hl 0 rfl) ?_
  refine lv_iload_n hx hb dX5_isGiving_1 rfl (lv_at hl 2 rfl) ?_
  refine lv_iconst (v := 2) hx hb dX5_isGiving_2 (by decide) ?_
  refine r_callCi hC hD hW hA lkX5_49 (c_X5_worn l E a b fs hf S g 2 (by omega) (by omega)) rfl rfl ⟨by decide, by decide, by decide, by decide⟩ [0] rfl rfl rfl (fun _ => rfl) hl.1 rfl rfl (Nat.le_of_ble_eq_true rfl) dX5_isGiving_3 (fun r_1 _ H locs hr_1 hW => ?_)
  have hW : Wd E A s.heap (wcat [MR E a b fs S]) H locs := hW
  have hr_1 : r_1 = (S 7 g) := hr_1
  subst hr_1
  refine n_top (hV.nmv hg) ?_
  refine lv_istore_n (lv' := [(3, .int (nI (nm S g))), (0, .ref a), (1, .int (nI i)), (2, .int (nI g))]) hx hb dX5_isGiving_6 rfl hl (by decide) rfl (fun ls hl => ?_)
  refine lv_aload_n hx hb dX5_isGiving_7 rfl (lv_at hl 1 rfl) ?_
  refine lv_iload_n hx hb dX5_isGiving_8 rfl (lv_at hl 2 rfl) ?_
  refine lv_iconst (v := 0) hx hb dX5_isGiving_9 (by decide) ?_
  refine r_callCi hC hD hW hA lkX5_57 (c_X5_its l E a b fs hf S i 0 (by omega) (by omega)) rfl rfl ⟨by decide, by decide, by decide, by decide⟩ [0] rfl rfl rfl (fun _ => rfl) hl.1 rfl rfl (Nat.le_of_ble_eq_true rfl) dX5_isGiving_10 (fun r_2 _ H locs hr_2 hW => ?_)
  have hW : Wd E A s.heap (wcat [MR E a b fs S]) H locs := hW
  have hr_2 : r_2 = (S 1 i) := hr_2
  subst hr_2
  by_cases k_3 : (S 1 i) = 1
  · refine lv_tableIn (off := 35) (tgt := 48) hx hb dX5_isGiving_13 (by rw [k_3]; decide) (by rw [k_3]; decide) (by rw [k_3]; rfl) (by decide) ?_
    refine lv_iconst (v := 1) hx hb dX5_isGiving_48 (by decide) ?_
    exact r_zret hC hQ hD hW (by decide) () (bz_t (giv_1 k_3)) rfl rfl dX5_isGiving_49
  by_cases k_4 : (S 1 i) = 2
  · refine lv_tableIn (off := 37) (tgt := 50) hx hb dX5_isGiving_13 (by rw [k_4]; decide) (by rw [k_4]; decide) (by rw [k_4]; rfl) (by decide) ?_
    refine lv_iconst (v := 0) hx hb dX5_isGiving_50 (by decide) ?_
    exact r_zret hC hQ hD hW (by decide) () (bz_f (giv_2 k_4)) rfl rfl dX5_isGiving_51
  by_cases k_5 : (S 1 i) = 3
  · refine lv_tableIn (off := 39) (tgt := 52) hx hb dX5_isGiving_13 (by rw [k_5]; decide) (by rw [k_5]; decide) (by rw [k_5]; rfl) (by decide) ?_
    refine lv_iload_n hx hb dX5_isGiving_52 rfl (lv_at hl 0 rfl) ?_
    refine lv_bipush (v := 80) hx hb dX5_isGiving_53 (by decide) ?_
    refine lv_icmp_lt (tgt := 62) hx hb dX5_isGiving_55 (by decide) (fun c_6 => ?_) (fun c_6 => ?_)
    · have c_6 : nm S g < 80 := (nI_ltI (a := nm S g) (b := 80) (by omega) (by omega)).mp c_6
      refine lv_iconst (v := 0) hx hb dX5_isGiving_62 (by decide) ?_
      exact r_zret hC hQ hD hW (by decide) () (bz_f (fun z => by have := (giv_3 k_5).mp z; omega)) rfl rfl dX5_isGiving_63
    · have c_6 : ¬ nm S g < 80 := fun z_ => c_6 ((nI_ltI (a := nm S g) (b := 80) (by omega) (by omega)).mpr z_)
      refine lv_iconst (v := 1) hx hb dX5_isGiving_58 (by decide) ?_
      refine lv_goto (tgt := 63) hx hb dX5_isGiving_59 (by decide) ?_
      exact r_zret hC hQ hD hW (by decide) () (bz_t ((giv_3 k_5).mpr (by omega))) rfl rfl dX5_isGiving_63
  by_cases k_7 : (S 1 i) = 4
  · refine lv_tableIn (off := 35) (tgt := 48) hx hb dX5_isGiving_13 (by rw [k_7]; decide) (by rw [k_7]; decide) (by rw [k_7]; rfl) (by decide) ?_
    refine lv_iconst (v := 1) hx hb dX5_isGiving_48 (by decide) ?_
    exact r_zret hC hQ hD hW (by decide) () (bz_t (giv_4 k_7)) rfl rfl dX5_isGiving_49
  by_cases k_8 : (S 1 i) = 5
  · refine lv_tableIn (off := 37) (tgt := 50) hx hb dX5_isGiving_13 (by rw [k_8]; decide) (by rw [k_8]; decide) (by rw [k_8]; rfl) (by decide) ?_
    refine lv_iconst (v := 0) hx hb dX5_isGiving_50 (by decide) ?_
    exact r_zret hC hQ hD hW (by decide) () (bz_f (giv_5 k_8)) rfl rfl dX5_isGiving_51
  have sw_13 : ((S 1 i) : Int32).toInt < 1 ∨ 5 < ((S 1 i) : Int32).toInt := by
    have := sw_ne (k := 1) (z := 1) (by decide) k_3
    have := sw_ne (k := 2) (z := 2) (by decide) k_4
    have := sw_ne (k := 3) (z := 3) (by decide) k_5
    have := sw_ne (k := 4) (z := 4) (by decide) k_7
    have := sw_ne (k := 5) (z := 5) (by decide) k_8
    omega
  refine lv_tableOut (tgt := 64) hx hb dX5_isGiving_13 sw_13 (by decide) ?_
  refine lv_iload_n hx hb dX5_isGiving_64 rfl (lv_at hl 0 rfl) ?_
  refine lv_bipush (v := 60) hx hb dX5_isGiving_65 (by decide) ?_
  refine lv_icmp_lt (tgt := 74) hx hb dX5_isGiving_67 (by decide) (fun c_9 => ?_) (fun c_9 => ?_)
  · have c_9 : nm S g < 60 := (nI_ltI (a := nm S g) (b := 60) (by omega) (by omega)).mp c_9
    refine lv_iconst (v := 0) hx hb dX5_isGiving_74 (by decide) ?_
    exact r_zret hC hQ hD hW (by decide) () (bz_f (fun z => by have := (giv_d k_3 k_4 k_5 k_7 k_8).mp z; omega)) rfl rfl dX5_isGiving_75
  · have c_9 : ¬ nm S g < 60 := fun z_ => c_9 ((nI_ltI (a := nm S g) (b := 60) (by omega) (by omega)).mpr z_)
    refine lv_iconst (v := 1) hx hb dX5_isGiving_70 (by decide) ?_
    refine lv_goto (tgt := 75) hx hb dX5_isGiving_71 (by decide) ?_
    exact r_zret hC hQ hD hW (by decide) () (bz_t ((giv_d k_3 k_4 k_5 k_7 k_8).mpr (by omega))) rfl rfl dX5_isGiving_75
set_option maxHeartbeats 4000000 in
set_option maxRecDepth 100000 in
theorem c_X5_isClaiming (l : Launch) (E : Ev) (a : Nat) (b : Nat) (fs : List Value) (hf : fs[0]? = some (.ref b)) (S : HS) (P : Nat) (G : Nat) (hV : HV S P G) (i : Nat) (g : Nat) (hi : i < P) (hg : g < G) : MI l E yX5_isClaiming cX5_isClaiming 5 .boolean 2 45 0 0 [.ref a, .int (nI i), .int (nI g)] (wcat [MR E a b fs S]) (fun (r : Int32) (_ : Unit) => bz (clm S i g G) r) (fun (_ : Unit) => (wcat [MR E a b fs S])) := by
  refine MI_intro RX5 (by decide) rfl (Nat.le_of_ble_eq_true rfl) ?_
  intro p e R s m args below meth c A Q hQ hC hD hW hA ls hl
  have hx := hC.1
  have hb := hC.2.1
  have hW : Wd E A s.heap (wcat [MR E a b fs S]) s.heap [] := hW
  have hD : Dj A [a, b] := hD
  have hl : lv_has ls 5 [(0, .ref a), (1, .int (nI i)), (2, .int (nI g))] := hl
  have hP := hV.p
  have hP1 := hV.p6
  have hG := hV.g
  have hG1 := hV.g10
  have hnm := hV.nm99 hg
  have hms := mset_lt10 (wth S (nI i)) hG1
  refine lv_aload_n hx hb dX5_isClaiming_0 rfl (lv_at hl 0 rfl) ?_
  refine lv_iload_n hx hb dX5_isClaiming_1 rfl (lv_at hl 2 rfl) ?_
  refine lv_iconst (v := 0) hx hb dX5_isClaiming_2 (by decide) ?_
  refine r_callCi hC hD hW hA lkX5_49 (c_X5_worn l E a b fs hf S g 0 (by omega) (by omega)) rfl rfl ⟨by decide, by decide, by decide, by decide⟩ [0] rfl rfl rfl (fun _ => rfl) hl.1 rfl rfl (Nat.le_of_ble_eq_true rfl) dX5_isClaiming_3 (fun r_1 _ H locs hr_1 hW => ?_)
  have hW : Wd E A s.heap (wcat [MR E a b fs S]) H locs := hW
  have hr_1 : r_1 = (S 5 g) := hr_1
  subst hr_1
  refine lv_iload_n hx hb dX5_isClaiming_6 rfl (lv_at hl 1 rfl) ?_
  refine lv_icmp_ne (tgt := 14) hx hb dX5_isClaiming_7 (by decide) (fun c_2 => ?_) (fun c_2 => ?_)
  · refine lv_iconst (v := 0) hx hb dX5_isClaiming_14 (by decide) ?_
    refine lv_istore_n (lv' := [(3, .int 0), (0, .ref a), (1, .int (nI i)), (2, .int (nI g))]) hx hb dX5_isClaiming_15 rfl hl (by decide) rfl (fun ls hl => ?_)
    refine lv_aload_n hx hb dX5_isClaiming_16 rfl (lv_at hl 1 rfl) ?_
    refine lv_iload_n hx hb dX5_isClaiming_17 rfl (lv_at hl 3 rfl) ?_
    refine lv_iconst (v := 2) hx hb dX5_isClaiming_18 (by decide) ?_
    refine r_callCi hC hD hW hA lkX5_49 (c_X5_worn l E a b fs hf S g 2 (by omega) (by omega)) rfl rfl ⟨by decide, by decide, by decide, by decide⟩ [0] rfl rfl rfl (fun _ => rfl) hl.1 rfl rfl (Nat.le_of_ble_eq_true rfl) dX5_isClaiming_19 (fun r_3 _ H locs hr_3 hW => ?_)
    have hW : Wd E A s.heap (wcat [MR E a b fs S]) H locs := hW
    have hr_3 : r_3 = (S 7 g) := hr_3
    subst hr_3
    refine n_top (hV.nmv hg) ?_
    refine lv_istore (lv' := [(4, .int (nI (nm S g))), (3, .int 0), (0, .ref a), (1, .int (nI i)), (2, .int (nI g))]) hx hb dX5_isClaiming_22 hl (by decide) rfl (fun ls hl => ?_)
    refine lv_aload_n hx hb dX5_isClaiming_24 rfl (lv_at hl 2 rfl) ?_
    refine lv_iload_n hx hb dX5_isClaiming_25 rfl (lv_at hl 3 rfl) ?_
    refine lv_iconst (v := 0) hx hb dX5_isClaiming_26 (by decide) ?_
    refine r_callCi hC hD hW hA lkX5_57 (c_X5_its l E a b fs hf S i 0 (by omega) (by omega)) rfl rfl ⟨by decide, by decide, by decide, by decide⟩ [0] rfl rfl rfl (fun _ => rfl) hl.1 rfl rfl (Nat.le_of_ble_eq_true rfl) dX5_isClaiming_27 (fun r_4 _ H locs hr_4 hW => ?_)
    have hW : Wd E A s.heap (wcat [MR E a b fs S]) H locs := hW
    have hr_4 : r_4 = (S 1 i) := hr_4
    subst hr_4
    by_cases k_5 : (S 1 i) = 1
    · refine lv_tableIn (off := 34) (tgt := 64) hx hb dX5_isClaiming_30 (by rw [k_5]; decide) (by rw [k_5]; decide) (by rw [k_5]; rfl) (by decide) ?_
      refine lv_iload_n hx hb dX5_isClaiming_64 rfl (lv_at hl 1 rfl) ?_
      exact r_zret hC hQ hD hW (by decide) () (bz_f (fun z => c_2 ((clm_1 k_5).mp z))) rfl rfl dX5_isClaiming_65
    by_cases k_6 : (S 1 i) = 2
    · refine lv_tableIn (off := 36) (tgt := 66) hx hb dX5_isClaiming_30 (by rw [k_6]; decide) (by rw [k_6]; decide) (by rw [k_6]; rfl) (by decide) ?_
      refine lv_aload_n hx hb dX5_isClaiming_66 rfl (lv_at hl 2 rfl) ?_
      refine lv_iload_n hx hb dX5_isClaiming_67 rfl (lv_at hl 3 rfl) ?_
      refine r_callCi hC hD hW hA lkX5_60 (c_X5_withWhom l E a b fs hf S G hV.g hV.g10 (nI i)) rfl rfl ⟨by decide, by decide, by decide, by decide⟩ [0] rfl rfl rfl (fun _ => rfl) hl.1 rfl rfl (Nat.le_of_ble_eq_true rfl) dX5_isClaiming_68 (fun r_7 _ H locs hr_7 hW => ?_)
      have hW : Wd E A s.heap (wcat [MR E a b fs S]) H locs := hW
      have hr_7 : r_7 = (nI (mset (wth S (nI i)) G)) := hr_7
      subst hr_7
      refine lv_if_ne (tgt := 78) hx hb dX5_isClaiming_71 (by decide) (fun c_8 => ?_) (fun c_8 => ?_)
      · have c_8 : ¬ mset (wth S (nI i)) G = 0 := fun z_ => c_8 ((nI_eq (a := mset (wth S (nI i)) G) (b := 0) (by omega) (by omega)).mpr z_)
        refine lv_iconst (v := 0) hx hb dX5_isClaiming_78 (by decide) ?_
        exact r_zret hC hQ hD hW (by decide) () (bz_f (fun z => c_8 ((wth_zero S i G).mpr ((clm_2 k_6).mp z)))) rfl rfl dX5_isClaiming_79
      · have c_8 : mset (wth S (nI i)) G = 0 := (nI_eq (a := mset (wth S (nI i)) G) (b := 0) (by omega) (by omega)).mp c_8
        refine lv_iconst (v := 1) hx hb dX5_isClaiming_74 (by decide) ?_
        refine lv_goto (tgt := 79) hx hb dX5_isClaiming_75 (by decide) ?_
        exact r_zret hC hQ hD hW (by decide) () (bz_t ((clm_2 k_6).mpr ((wth_zero S i G).mp c_8))) rfl rfl dX5_isClaiming_79
    by_cases k_9 : (S 1 i) = 3
    · refine lv_tableIn (off := 71) (tgt := 101) hx hb dX5_isClaiming_30 (by rw [k_9]; decide) (by rw [k_9]; decide) (by rw [k_9]; rfl) (by decide) ?_
      refine lv_iload_n hx hb dX5_isClaiming_101 rfl (lv_at hl 1 rfl) ?_
      refine lv_if_eq (tgt := 115) hx hb dX5_isClaiming_102 (by decide) (fun _ => ?_) (fun c => absurd c (by decide))
      refine lv_iconst (v := 0) hx hb dX5_isClaiming_115 (by decide) ?_
      exact r_zret hC hQ hD hW (by decide) () (bz_f (fun z => c_2 ((clm_d (by rw [k_9]; decide) (by rw [k_9]; decide) (by rw [k_9]; decide) (by rw [k_9]; decide)).mp z).1)) rfl rfl dX5_isClaiming_116
    by_cases k_10 : (S 1 i) = 4
    · refine lv_tableIn (off := 34) (tgt := 64) hx hb dX5_isClaiming_30 (by rw [k_10]; decide) (by rw [k_10]; decide) (by rw [k_10]; rfl) (by decide) ?_
      refine lv_iload_n hx hb dX5_isClaiming_64 rfl (lv_at hl 1 rfl) ?_
      exact r_zret hC hQ hD hW (by decide) () (bz_f (fun z => c_2 ((clm_4 k_10).mp z))) rfl rfl dX5_isClaiming_65
    by_cases k_11 : (S 1 i) = 5
    · refine lv_tableIn (off := 50) (tgt := 80) hx hb dX5_isClaiming_30 (by rw [k_11]; decide) (by rw [k_11]; decide) (by rw [k_11]; rfl) (by decide) ?_
      refine lv_iload hx hb dX5_isClaiming_80 (lv_at hl 0 rfl) ?_
      refine lv_bipush (v := 50) hx hb dX5_isClaiming_82 (by decide) ?_
      refine lv_icmp_ge (tgt := 95) hx hb dX5_isClaiming_84 (by decide) (fun c_12 => ?_) (fun c_12 => ?_)
      · have c_12 : 50 ≤ nm S g := (nI_leI (a := 50) (b := nm S g) (by omega) (by omega)).mp c_12
        refine lv_iconst (v := 1) hx hb dX5_isClaiming_95 (by decide) ?_
        refine lv_goto (tgt := 100) hx hb dX5_isClaiming_96 (by decide) ?_
        exact r_zret hC hQ hD hW (by decide) () (bz_t ((clm_5 k_11).mpr (Or.inr (by omega)))) rfl rfl dX5_isClaiming_100
      · have c_12 : ¬ 50 ≤ nm S g := fun z_ => c_12 ((nI_leI (a := 50) (b := nm S g) (by omega) (by omega)).mpr z_)
        refine lv_aload_n hx hb dX5_isClaiming_87 rfl (lv_at hl 2 rfl) ?_
        refine lv_iload_n hx hb dX5_isClaiming_88 rfl (lv_at hl 3 rfl) ?_
        refine r_callCi hC hD hW hA lkX5_60 (c_X5_withWhom l E a b fs hf S G hV.g hV.g10 (nI i)) rfl rfl ⟨by decide, by decide, by decide, by decide⟩ [0] rfl rfl rfl (fun _ => rfl) hl.1 rfl rfl (Nat.le_of_ble_eq_true rfl) dX5_isClaiming_89 (fun r_13 _ H locs hr_13 hW => ?_)
        have hW : Wd E A s.heap (wcat [MR E a b fs S]) H locs := hW
        have hr_13 : r_13 = (nI (mset (wth S (nI i)) G)) := hr_13
        subst hr_13
        refine lv_if_ne (tgt := 99) hx hb dX5_isClaiming_92 (by decide) (fun c_14 => ?_) (fun c_14 => ?_)
        · have c_14 : ¬ mset (wth S (nI i)) G = 0 := fun z_ => c_14 ((nI_eq (a := mset (wth S (nI i)) G) (b := 0) (by omega) (by omega)).mpr z_)
          refine lv_iconst (v := 0) hx hb dX5_isClaiming_99 (by decide) ?_
          exact r_zret hC hQ hD hW (by decide) () (bz_f (fun z => ((clm_5 k_11).mp z).elim (fun y => c_14 ((wth_zero S i G).mpr y)) (fun y => by omega))) rfl rfl dX5_isClaiming_100
        · have c_14 : mset (wth S (nI i)) G = 0 := (nI_eq (a := mset (wth S (nI i)) G) (b := 0) (by omega) (by omega)).mp c_14
          refine lv_iconst (v := 1) hx hb dX5_isClaiming_95 (by decide) ?_
          refine lv_goto (tgt := 100) hx hb dX5_isClaiming_96 (by decide) ?_
          exact r_zret hC hQ hD hW (by decide) () (bz_t ((clm_5 k_11).mpr (Or.inl ((wth_zero S i G).mp c_14)))) rfl rfl dX5_isClaiming_100
    have sw_30 : ((S 1 i) : Int32).toInt < 1 ∨ 5 < ((S 1 i) : Int32).toInt := by
      have := sw_ne (k := 1) (z := 1) (by decide) k_5
      have := sw_ne (k := 2) (z := 2) (by decide) k_6
      have := sw_ne (k := 3) (z := 3) (by decide) k_9
      have := sw_ne (k := 4) (z := 4) (by decide) k_10
      have := sw_ne (k := 5) (z := 5) (by decide) k_11
      omega
    refine lv_tableOut (tgt := 101) hx hb dX5_isClaiming_30 sw_30 (by decide) ?_
    refine lv_iload_n hx hb dX5_isClaiming_101 rfl (lv_at hl 1 rfl) ?_
    refine lv_if_eq (tgt := 115) hx hb dX5_isClaiming_102 (by decide) (fun _ => ?_) (fun c => absurd c (by decide))
    refine lv_iconst (v := 0) hx hb dX5_isClaiming_115 (by decide) ?_
    exact r_zret hC hQ hD hW (by decide) () (bz_f (fun z => c_2 ((clm_d k_5 k_6 k_10 k_11).mp z).1)) rfl rfl dX5_isClaiming_116
  · refine lv_iconst (v := 1) hx hb dX5_isClaiming_10 (by decide) ?_
    refine lv_goto (tgt := 15) hx hb dX5_isClaiming_11 (by decide) ?_
    refine lv_istore_n (lv' := [(3, .int 1), (0, .ref a), (1, .int (nI i)), (2, .int (nI g))]) hx hb dX5_isClaiming_15 rfl hl (by decide) rfl (fun ls hl => ?_)
    refine lv_aload_n hx hb dX5_isClaiming_16 rfl (lv_at hl 1 rfl) ?_
    refine lv_iload_n hx hb dX5_isClaiming_17 rfl (lv_at hl 3 rfl) ?_
    refine lv_iconst (v := 2) hx hb dX5_isClaiming_18 (by decide) ?_
    refine r_callCi hC hD hW hA lkX5_49 (c_X5_worn l E a b fs hf S g 2 (by omega) (by omega)) rfl rfl ⟨by decide, by decide, by decide, by decide⟩ [0] rfl rfl rfl (fun _ => rfl) hl.1 rfl rfl (Nat.le_of_ble_eq_true rfl) dX5_isClaiming_19 (fun r_15 _ H locs hr_15 hW => ?_)
    have hW : Wd E A s.heap (wcat [MR E a b fs S]) H locs := hW
    have hr_15 : r_15 = (S 7 g) := hr_15
    subst hr_15
    refine n_top (hV.nmv hg) ?_
    refine lv_istore (lv' := [(4, .int (nI (nm S g))), (3, .int 1), (0, .ref a), (1, .int (nI i)), (2, .int (nI g))]) hx hb dX5_isClaiming_22 hl (by decide) rfl (fun ls hl => ?_)
    refine lv_aload_n hx hb dX5_isClaiming_24 rfl (lv_at hl 2 rfl) ?_
    refine lv_iload_n hx hb dX5_isClaiming_25 rfl (lv_at hl 3 rfl) ?_
    refine lv_iconst (v := 0) hx hb dX5_isClaiming_26 (by decide) ?_
    refine r_callCi hC hD hW hA lkX5_57 (c_X5_its l E a b fs hf S i 0 (by omega) (by omega)) rfl rfl ⟨by decide, by decide, by decide, by decide⟩ [0] rfl rfl rfl (fun _ => rfl) hl.1 rfl rfl (Nat.le_of_ble_eq_true rfl) dX5_isClaiming_27 (fun r_16 _ H locs hr_16 hW => ?_)
    have hW : Wd E A s.heap (wcat [MR E a b fs S]) H locs := hW
    have hr_16 : r_16 = (S 1 i) := hr_16
    subst hr_16
    by_cases k_17 : (S 1 i) = 1
    · refine lv_tableIn (off := 34) (tgt := 64) hx hb dX5_isClaiming_30 (by rw [k_17]; decide) (by rw [k_17]; decide) (by rw [k_17]; rfl) (by decide) ?_
      refine lv_iload_n hx hb dX5_isClaiming_64 rfl (lv_at hl 1 rfl) ?_
      exact r_zret hC hQ hD hW (by decide) () (bz_t ((clm_1 k_17).mpr c_2)) rfl rfl dX5_isClaiming_65
    by_cases k_18 : (S 1 i) = 2
    · refine lv_tableIn (off := 36) (tgt := 66) hx hb dX5_isClaiming_30 (by rw [k_18]; decide) (by rw [k_18]; decide) (by rw [k_18]; rfl) (by decide) ?_
      refine lv_aload_n hx hb dX5_isClaiming_66 rfl (lv_at hl 2 rfl) ?_
      refine lv_iload_n hx hb dX5_isClaiming_67 rfl (lv_at hl 3 rfl) ?_
      refine r_callCi hC hD hW hA lkX5_60 (c_X5_withWhom l E a b fs hf S G hV.g hV.g10 (nI i)) rfl rfl ⟨by decide, by decide, by decide, by decide⟩ [0] rfl rfl rfl (fun _ => rfl) hl.1 rfl rfl (Nat.le_of_ble_eq_true rfl) dX5_isClaiming_68 (fun r_19 _ H locs hr_19 hW => ?_)
      have hW : Wd E A s.heap (wcat [MR E a b fs S]) H locs := hW
      have hr_19 : r_19 = (nI (mset (wth S (nI i)) G)) := hr_19
      subst hr_19
      refine lv_if_ne (tgt := 78) hx hb dX5_isClaiming_71 (by decide) (fun c_20 => ?_) (fun c_20 => ?_)
      · have c_20 : ¬ mset (wth S (nI i)) G = 0 := fun z_ => c_20 ((nI_eq (a := mset (wth S (nI i)) G) (b := 0) (by omega) (by omega)).mpr z_)
        refine lv_iconst (v := 0) hx hb dX5_isClaiming_78 (by decide) ?_
        exact r_zret hC hQ hD hW (by decide) () (bz_f (fun z => c_20 ((wth_zero S i G).mpr ((clm_2 k_18).mp z)))) rfl rfl dX5_isClaiming_79
      · have c_20 : mset (wth S (nI i)) G = 0 := (nI_eq (a := mset (wth S (nI i)) G) (b := 0) (by omega) (by omega)).mp c_20
        refine lv_iconst (v := 1) hx hb dX5_isClaiming_74 (by decide) ?_
        refine lv_goto (tgt := 79) hx hb dX5_isClaiming_75 (by decide) ?_
        exact r_zret hC hQ hD hW (by decide) () (bz_t ((clm_2 k_18).mpr ((wth_zero S i G).mp c_20))) rfl rfl dX5_isClaiming_79
    by_cases k_21 : (S 1 i) = 3
    · refine lv_tableIn (off := 71) (tgt := 101) hx hb dX5_isClaiming_30 (by rw [k_21]; decide) (by rw [k_21]; decide) (by rw [k_21]; rfl) (by decide) ?_
      refine lv_iload_n hx hb dX5_isClaiming_101 rfl (lv_at hl 1 rfl) ?_
      refine lv_if_eq (tgt := 115) hx hb dX5_isClaiming_102 (by decide) (fun c => absurd c (by decide)) (fun _ => ?_)
      refine lv_iload hx hb dX5_isClaiming_105 (lv_at hl 0 rfl) ?_
      refine lv_iconst (v := 1) hx hb dX5_isClaiming_107 (by decide) ?_
      refine lv_icmp_lt (tgt := 115) hx hb dX5_isClaiming_108 (by decide) (fun c_22 => ?_) (fun c_22 => ?_)
      · have c_22 : nm S g < 1 := (nI_ltI (a := nm S g) (b := 1) (by omega) (by omega)).mp c_22
        refine lv_iconst (v := 0) hx hb dX5_isClaiming_115 (by decide) ?_
        exact r_zret hC hQ hD hW (by decide) () (bz_f (fun z => by have := ((clm_d (by rw [k_21]; decide) (by rw [k_21]; decide) (by rw [k_21]; decide) (by rw [k_21]; decide)).mp z).2; omega)) rfl rfl dX5_isClaiming_116
      · have c_22 : ¬ nm S g < 1 := fun z_ => c_22 ((nI_ltI (a := nm S g) (b := 1) (by omega) (by omega)).mpr z_)
        refine lv_iconst (v := 1) hx hb dX5_isClaiming_111 (by decide) ?_
        refine lv_goto (tgt := 116) hx hb dX5_isClaiming_112 (by decide) ?_
        exact r_zret hC hQ hD hW (by decide) () (bz_t ((clm_d (by rw [k_21]; decide) (by rw [k_21]; decide) (by rw [k_21]; decide) (by rw [k_21]; decide)).mpr ⟨c_2, by omega⟩)) rfl rfl dX5_isClaiming_116
    by_cases k_23 : (S 1 i) = 4
    · refine lv_tableIn (off := 34) (tgt := 64) hx hb dX5_isClaiming_30 (by rw [k_23]; decide) (by rw [k_23]; decide) (by rw [k_23]; rfl) (by decide) ?_
      refine lv_iload_n hx hb dX5_isClaiming_64 rfl (lv_at hl 1 rfl) ?_
      exact r_zret hC hQ hD hW (by decide) () (bz_t ((clm_4 k_23).mpr c_2)) rfl rfl dX5_isClaiming_65
    by_cases k_24 : (S 1 i) = 5
    · refine lv_tableIn (off := 50) (tgt := 80) hx hb dX5_isClaiming_30 (by rw [k_24]; decide) (by rw [k_24]; decide) (by rw [k_24]; rfl) (by decide) ?_
      refine lv_iload hx hb dX5_isClaiming_80 (lv_at hl 0 rfl) ?_
      refine lv_bipush (v := 50) hx hb dX5_isClaiming_82 (by decide) ?_
      refine lv_icmp_ge (tgt := 95) hx hb dX5_isClaiming_84 (by decide) (fun c_25 => ?_) (fun c_25 => ?_)
      · have c_25 : 50 ≤ nm S g := (nI_leI (a := 50) (b := nm S g) (by omega) (by omega)).mp c_25
        refine lv_iconst (v := 1) hx hb dX5_isClaiming_95 (by decide) ?_
        refine lv_goto (tgt := 100) hx hb dX5_isClaiming_96 (by decide) ?_
        exact r_zret hC hQ hD hW (by decide) () (bz_t ((clm_5 k_24).mpr (Or.inr (by omega)))) rfl rfl dX5_isClaiming_100
      · have c_25 : ¬ 50 ≤ nm S g := fun z_ => c_25 ((nI_leI (a := 50) (b := nm S g) (by omega) (by omega)).mpr z_)
        refine lv_aload_n hx hb dX5_isClaiming_87 rfl (lv_at hl 2 rfl) ?_
        refine lv_iload_n hx hb dX5_isClaiming_88 rfl (lv_at hl 3 rfl) ?_
        refine r_callCi hC hD hW hA lkX5_60 (c_X5_withWhom l E a b fs hf S G hV.g hV.g10 (nI i)) rfl rfl ⟨by decide, by decide, by decide, by decide⟩ [0] rfl rfl rfl (fun _ => rfl) hl.1 rfl rfl (Nat.le_of_ble_eq_true rfl) dX5_isClaiming_89 (fun r_26 _ H locs hr_26 hW => ?_)
        have hW : Wd E A s.heap (wcat [MR E a b fs S]) H locs := hW
        have hr_26 : r_26 = (nI (mset (wth S (nI i)) G)) := hr_26
        subst hr_26
        refine lv_if_ne (tgt := 99) hx hb dX5_isClaiming_92 (by decide) (fun c_27 => ?_) (fun c_27 => ?_)
        · have c_27 : ¬ mset (wth S (nI i)) G = 0 := fun z_ => c_27 ((nI_eq (a := mset (wth S (nI i)) G) (b := 0) (by omega) (by omega)).mpr z_)
          refine lv_iconst (v := 0) hx hb dX5_isClaiming_99 (by decide) ?_
          exact r_zret hC hQ hD hW (by decide) () (bz_f (fun z => ((clm_5 k_24).mp z).elim (fun y => c_27 ((wth_zero S i G).mpr y)) (fun y => by omega))) rfl rfl dX5_isClaiming_100
        · have c_27 : mset (wth S (nI i)) G = 0 := (nI_eq (a := mset (wth S (nI i)) G) (b := 0) (by omega) (by omega)).mp c_27
          refine lv_iconst (v := 1) hx hb dX5_isClaiming_95 (by decide) ?_
          refine lv_goto (tgt := 100) hx hb dX5_isClaiming_96 (by decide) ?_
          exact r_zret hC hQ hD hW (by decide) () (bz_t ((clm_5 k_24).mpr (Or.inl ((wth_zero S i G).mp c_27)))) rfl rfl dX5_isClaiming_100
    have sw_30 : ((S 1 i) : Int32).toInt < 1 ∨ 5 < ((S 1 i) : Int32).toInt := by
      have := sw_ne (k := 1) (z := 1) (by decide) k_17
      have := sw_ne (k := 2) (z := 2) (by decide) k_18
      have := sw_ne (k := 3) (z := 3) (by decide) k_21
      have := sw_ne (k := 4) (z := 4) (by decide) k_23
      have := sw_ne (k := 5) (z := 5) (by decide) k_24
      omega
    refine lv_tableOut (tgt := 101) hx hb dX5_isClaiming_30 sw_30 (by decide) ?_
    refine lv_iload_n hx hb dX5_isClaiming_101 rfl (lv_at hl 1 rfl) ?_
    refine lv_if_eq (tgt := 115) hx hb dX5_isClaiming_102 (by decide) (fun c => absurd c (by decide)) (fun _ => ?_)
    refine lv_iload hx hb dX5_isClaiming_105 (lv_at hl 0 rfl) ?_
    refine lv_iconst (v := 1) hx hb dX5_isClaiming_107 (by decide) ?_
    refine lv_icmp_lt (tgt := 115) hx hb dX5_isClaiming_108 (by decide) (fun c_28 => ?_) (fun c_28 => ?_)
    · have c_28 : nm S g < 1 := (nI_ltI (a := nm S g) (b := 1) (by omega) (by omega)).mp c_28
      refine lv_iconst (v := 0) hx hb dX5_isClaiming_115 (by decide) ?_
      exact r_zret hC hQ hD hW (by decide) () (bz_f (fun z => by have := ((clm_d k_17 k_18 k_23 k_24).mp z).2; omega)) rfl rfl dX5_isClaiming_116
    · have c_28 : ¬ nm S g < 1 := fun z_ => c_28 ((nI_ltI (a := nm S g) (b := 1) (by omega) (by omega)).mpr z_)
      refine lv_iconst (v := 1) hx hb dX5_isClaiming_111 (by decide) ?_
      refine lv_goto (tgt := 116) hx hb dX5_isClaiming_112 (by decide) ?_
      exact r_zret hC hQ hD hW (by decide) () (bz_t ((clm_d k_17 k_18 k_23 k_24).mpr ⟨c_2, by omega⟩)) rfl rfl dX5_isClaiming_116
set_option maxHeartbeats 4000000 in
set_option maxRecDepth 100000 in
theorem c_X5_minds (l : Launch) (E : Ev) (a : Nat) (b : Nat) (fs : List Value) (hf : fs[0]? = some (.ref b)) (S : HS) (P : Nat) (G : Nat) (hV : HV S P G) (i : Nat) (hi : i < P) : MI l E yX5_minds cX5_minds 5 .int 2 45 0 0 [.ref a, .int (nI i)] (wcat [MR E a b fs S]) (fun (r : Int32) (_ : Unit) => r = mnd S i G) (fun (_ : Unit) => (wcat [MR E a b fs S])) := by
  refine MI_intro RX5 (by decide) rfl (Nat.le_of_ble_eq_true rfl) ?_
  intro p e R s m args below meth c A Q hQ hC hD hW hA ls hl
  have hx := hC.1
  have hb := hC.2.1
  have hW : Wd E A s.heap (wcat [MR E a b fs S]) s.heap [] := hW
  have hD : Dj A [a, b] := hD
  have hl : lv_has ls 5 [(0, .ref a), (1, .int (nI i))] := hl
  have hP := hV.p
  have hP1 := hV.p6
  have hG := hV.g
  have hG1 := hV.g10
  refine lv_aload_n hx hb dX5_minds_0 rfl (lv_at hl 0 rfl) ?_
  refine lv_iload_n hx hb dX5_minds_1 rfl (lv_at hl 1 rfl) ?_
  refine r_callCi hC hD hW hA lkX5_60 (c_X5_withWhom l E a b fs hf S G hV.g hV.g10 (nI i)) rfl rfl ⟨by decide, by decide, by decide, by decide⟩ [0] rfl rfl rfl (fun _ => rfl) hl.1 rfl rfl (Nat.le_of_ble_eq_true rfl) dX5_minds_2 (fun r_1 _ H locs hr_1 hW => ?_)
  have hW : Wd E A s.heap (wcat [MR E a b fs S]) H locs := hW
  have hr_1 : r_1 = (nI (mset (wth S (nI i)) G)) := hr_1
  subst hr_1
  refine lv_istore_n (lv' := [(2, .int (nI (mset (wth S (nI i)) G))), (0, .ref a), (1, .int (nI i))]) hx hb dX5_minds_5 rfl hl (by decide) rfl (fun ls hl => ?_)
  refine lv_iload_n hx hb dX5_minds_6 rfl (lv_at hl 0 rfl) ?_
  refine lv_aload_n hx hb dX5_minds_7 rfl (lv_at hl 1 rfl) ?_
  refine lv_iload_n hx hb dX5_minds_8 rfl (lv_at hl 2 rfl) ?_
  refine r_callCi hC hD hW hA lkX5_64 (c_X5_ownedBy l E a b fs hf S G hV.g hV.g10 (nI i)) rfl rfl ⟨by decide, by decide, by decide, by decide⟩ [0] rfl rfl rfl (fun _ => rfl) hl.1 rfl rfl (Nat.le_of_ble_eq_true rfl) dX5_minds_9 (fun r_2 _ H locs hr_2 hW => ?_)
  have hW : Wd E A s.heap (wcat [MR E a b fs S]) H locs := hW
  have hr_2 : r_2 = (nI (mset (owd S (nI i)) G)) := hr_2
  subst hr_2
  refine n_iand (v := (nI (mset (own1 S i) G))) hx hb dX5_minds_12 ((nI_and _ _).trans (congrArg nI (mset_and _ _ _))) ?_
  refine r_callSi hC hD hW hA lkX5_67 (c_X5_bits l E (mset (own1 S i) G) (mset_lt10 _ hG1)) ⟨by decide, by decide, by decide, by decide⟩ rfl hl.1 rfl rfl (Nat.le_of_ble_eq_true rfl) dX5_minds_13 (fun r_3 _ H locs hr_3 hW => ?_)
  have hW : Wd E A s.heap (wcat [MR E a b fs S]) H locs := hW
  have hr_3 : r_3 = (nI (pcN (mset (own1 S i) G))) := hr_3
  subst hr_3
  refine n_top (congrArg nI (pcN_mset _ hG1)) ?_
  refine lv_istore_n (lv' := [(3, .int (nI (cOwn S i G))), (2, .int (nI (mset (wth S (nI i)) G))), (0, .ref a), (1, .int (nI i))]) hx hb dX5_minds_16 rfl hl (by decide) rfl (fun ls hl => ?_)
  refine lv_iload_n hx hb dX5_minds_17 rfl (lv_at hl 1 rfl) ?_
  refine r_callSi hC hD hW hA lkX5_67 (c_X5_bits l E (mset (wth S (nI i)) G) (mset_lt10 _ hG1)) ⟨by decide, by decide, by decide, by decide⟩ rfl hl.1 rfl rfl (Nat.le_of_ble_eq_true rfl) dX5_minds_18 (fun r_4 _ H locs hr_4 hW => ?_)
  have hW : Wd E A s.heap (wcat [MR E a b fs S]) H locs := hW
  have hr_4 : r_4 = (nI (pcN (mset (wth S (nI i)) G))) := hr_4
  subst hr_4
  refine n_top (congrArg nI ((pcN_mset _ hG1).trans (ct_wth S i G))) ?_
  refine lv_iload_n hx hb dX5_minds_21 rfl (lv_at hl 0 rfl) ?_
  refine n_isub (v := (nI (cOth S i G))) hx hb dX5_minds_22 ((pk_sub (a := cOwn S i G + cOth S i G) (b := cOwn S i G) (by omega)).trans (congrArg nI (by omega))) ?_
  refine lv_istore (lv' := [(4, .int (nI (cOth S i G))), (3, .int (nI (cOwn S i G))), (2, .int (nI (mset (wth S (nI i)) G))), (0, .ref a), (1, .int (nI i))]) hx hb dX5_minds_23 hl (by decide) rfl (fun ls hl => ?_)
  refine lv_aload_n hx hb dX5_minds_25 rfl (lv_at hl 3 rfl) ?_
  refine lv_iload_n hx hb dX5_minds_26 rfl (lv_at hl 4 rfl) ?_
  refine lv_iconst (v := 0) hx hb dX5_minds_27 (by decide) ?_
  refine r_callCi hC hD hW hA lkX5_57 (c_X5_its l E a b fs hf S i 0 (by omega) (by omega)) rfl rfl ⟨by decide, by decide, by decide, by decide⟩ [0] rfl rfl rfl (fun _ => rfl) hl.1 rfl rfl (Nat.le_of_ble_eq_true rfl) dX5_minds_28 (fun r_5 _ H locs hr_5 hW => ?_)
  have hW : Wd E A s.heap (wcat [MR E a b fs S]) H locs := hW
  have hr_5 : r_5 = (S 1 i) := hr_5
  subst hr_5
  by_cases k_6 : (S 1 i) = 1
  · refine lv_tableIn (off := 33) (tgt := 64) hx hb dX5_minds_31 (by rw [k_6]; decide) (by rw [k_6]; decide) (by rw [k_6]; rfl) (by decide) ?_
    refine lv_iconst (v := 2) hx hb dX5_minds_64 (by decide) ?_
    refine lv_iload_n hx hb dX5_minds_65 rfl (lv_at hl 1 rfl) ?_
    refine n_imul (v := (2 * (nI (cOwn S i G)))) hx hb dX5_minds_66 rfl ?_
    refine lv_iconst (v := 3) hx hb dX5_minds_67 (by decide) ?_
    refine lv_iload hx hb dX5_minds_68 (lv_at hl 0 rfl) ?_
    refine n_imul (v := (3 * (nI (cOth S i G)))) hx hb dX5_minds_70 rfl ?_
    refine n_isub (v := ((2 * (nI (cOwn S i G))) - (3 * (nI (cOth S i G))))) hx hb dX5_minds_71 rfl ?_
    exact r_iret hC hQ hD hW () (mnd_1 k_6).symm rfl rfl dX5_minds_72
  by_cases k_7 : (S 1 i) = 2
  · refine lv_tableIn (off := 64) (tgt := 95) hx hb dX5_minds_31 (by rw [k_7]; decide) (by rw [k_7]; decide) (by rw [k_7]; rfl) (by decide) ?_
    refine lv_iload_n hx hb dX5_minds_95 rfl (lv_at hl 1 rfl) ?_
    refine lv_iload hx hb dX5_minds_96 (lv_at hl 0 rfl) ?_
    refine n_iadd (v := ((nI (cOwn S i G)) + (nI (cOth S i G)))) hx hb dX5_minds_98 rfl ?_
    exact r_iret hC hQ hD hW () (mnd_2 k_7).symm rfl rfl dX5_minds_99
  by_cases k_8 : (S 1 i) = 3
  · refine lv_tableIn (off := 76) (tgt := 107) hx hb dX5_minds_31 (by rw [k_8]; decide) (by rw [k_8]; decide) (by rw [k_8]; rfl) (by decide) ?_
    refine lv_iload_n hx hb dX5_minds_107 rfl (lv_at hl 1 rfl) ?_
    refine lv_iload hx hb dX5_minds_108 (lv_at hl 0 rfl) ?_
    refine n_isub (v := ((nI (cOwn S i G)) - (nI (cOth S i G)))) hx hb dX5_minds_110 rfl ?_
    refine lv_iconst (v := 1) hx hb dX5_minds_111 (by decide) ?_
    refine n_iadd (v := (((nI (cOwn S i G)) - (nI (cOth S i G))) + 1)) hx hb dX5_minds_112 rfl ?_
    exact r_iret hC hQ hD hW () (mnd_3 k_8).symm rfl rfl dX5_minds_113
  by_cases k_9 : (S 1 i) = 4
  · refine lv_tableIn (off := 42) (tgt := 73) hx hb dX5_minds_31 (by rw [k_9]; decide) (by rw [k_9]; decide) (by rw [k_9]; rfl) (by decide) ?_
    refine lv_iload hx hb dX5_minds_73 (lv_at hl 0 rfl) ?_
    refine lv_if_ne (tgt := 86) hx hb dX5_minds_75 (by decide) (fun c_10 => ?_) (fun c_10 => ?_)
    · have hlec := ct_le (oth1 S i) G
      have hlec2 : cOth S i G ≤ G := hlec
      have c_10 : ¬ cOth S i G = 0 := fun q => c_10 ((nI_eq (a := cOth S i G) (b := 0) (by omega) (by omega)).mpr q)
      refine lv_iconst (v := 2) hx hb dX5_minds_86 (by decide) ?_
      refine lv_iload_n hx hb dX5_minds_87 rfl (lv_at hl 1 rfl) ?_
      refine n_imul (v := (2 * (nI (cOwn S i G)))) hx hb dX5_minds_88 rfl ?_
      refine lv_iconst (v := 3) hx hb dX5_minds_89 (by decide) ?_
      refine lv_iload hx hb dX5_minds_90 (lv_at hl 0 rfl) ?_
      refine n_imul (v := (3 * (nI (cOth S i G)))) hx hb dX5_minds_92 rfl ?_
      refine n_isub (v := ((2 * (nI (cOwn S i G))) - (3 * (nI (cOth S i G))))) hx hb dX5_minds_93 rfl ?_
      exact r_iret hC hQ hD hW () (mnd_4b k_9 c_10).symm rfl rfl dX5_minds_94
    · have hlec := ct_le (oth1 S i) G
      have hlec2 : cOth S i G ≤ G := hlec
      have c_10 : cOth S i G = 0 := (nI_eq (a := cOth S i G) (b := 0) (by omega) (by omega)).mp c_10
      refine lv_iconst (v := 2) hx hb dX5_minds_78 (by decide) ?_
      refine lv_iload_n hx hb dX5_minds_79 rfl (lv_at hl 1 rfl) ?_
      refine n_imul (v := (2 * (nI (cOwn S i G)))) hx hb dX5_minds_80 rfl ?_
      refine lv_iconst (v := 2) hx hb dX5_minds_81 (by decide) ?_
      refine n_iadd (v := ((2 * (nI (cOwn S i G))) + 2)) hx hb dX5_minds_82 rfl ?_
      refine lv_goto (tgt := 94) hx hb dX5_minds_83 (by decide) ?_
      exact r_iret hC hQ hD hW () (mnd_4a k_9 c_10).symm rfl rfl dX5_minds_94
  by_cases k_11 : (S 1 i) = 5
  · refine lv_tableIn (off := 69) (tgt := 100) hx hb dX5_minds_31 (by rw [k_11]; decide) (by rw [k_11]; decide) (by rw [k_11]; rfl) (by decide) ?_
    refine lv_iload_n hx hb dX5_minds_100 rfl (lv_at hl 1 rfl) ?_
    refine lv_iconst (v := 2) hx hb dX5_minds_101 (by decide) ?_
    refine lv_iload hx hb dX5_minds_102 (lv_at hl 0 rfl) ?_
    refine n_imul (v := (2 * (nI (cOth S i G)))) hx hb dX5_minds_104 rfl ?_
    refine n_iadd (v := ((nI (cOwn S i G)) + (2 * (nI (cOth S i G))))) hx hb dX5_minds_105 rfl ?_
    exact r_iret hC hQ hD hW () (mnd_5 k_11).symm rfl rfl dX5_minds_106
  have sw_31 : ((S 1 i) : Int32).toInt < 1 ∨ 5 < ((S 1 i) : Int32).toInt := by
    have := sw_ne (k := 1) (z := 1) (by decide) k_6
    have := sw_ne (k := 2) (z := 2) (by decide) k_7
    have := sw_ne (k := 3) (z := 3) (by decide) k_8
    have := sw_ne (k := 4) (z := 4) (by decide) k_9
    have := sw_ne (k := 5) (z := 5) (by decide) k_11
    omega
  refine lv_tableOut (tgt := 114) hx hb dX5_minds_31 sw_31 (by decide) ?_
  refine lv_iload_n hx hb dX5_minds_114 rfl (lv_at hl 1 rfl) ?_
  refine lv_iload hx hb dX5_minds_115 (lv_at hl 0 rfl) ?_
  refine n_isub (v := ((nI (cOwn S i G)) - (nI (cOth S i G)))) hx hb dX5_minds_117 rfl ?_
  exact r_iret hC hQ hD hW () (mnd_d k_6 k_7 k_8 k_9 k_11).symm rfl rfl dX5_minds_118
set_option maxHeartbeats 4000000 in
set_option maxRecDepth 100000 in
theorem c_X5_adds (l : Launch) (E : Ev) (a : Nat) (b : Nat) (fs : List Value) (hf : fs[0]? = some (.ref b)) (S : HS) (P : Nat) (hP : S 0 2 = nI P) (hP1 : P < 6) (x1 : Int32) (x2 : Int32) : MV l E yX5_adds cX5_adds 4 1 23 0 0 [.ref a, .int x1, .int x2] (wcat [MR E a b fs S]) (fun (_ : Unit) => True) (fun (_ : Unit) => (wcat [MR E a b fs (addP S P x1 x2)])) := by
  refine MV_intro RX5 (by decide) rfl (Nat.le_of_ble_eq_true rfl) ?_
  intro p e R s m args below meth c A Q hQ hC hnm hD hW hA ls hl
  have hx := hC.1
  have hb := hC.2.1
  have hW : Wd E A s.heap (wcat [MR E a b fs S]) s.heap [] := hW
  have hD : Dj A [a, b] := hD
  have hl : lv_has ls 4 [(0, .ref a), (1, .int x1), (2, .int x2)] := hl
  refine lv_aload_n hx hb dX5_adds_0 rfl (lv_at hl 0 rfl) ?_
  refine r_get hC hW flX5_7 0 rfl hf dX5_adds_1 ?_
  refine lv_iconst (v := 2) hx hb dX5_adds_4 (by decide) ?_
  refine r_iald hC hW 1 rfl 2 rfl (by omega) (by decide) dX5_adds_5 ?_
  refine n_top (enc_0 S (by decide)) ?_
  refine n_top hP ?_
  refine lv_istore_n (lv' := [(3, .int (nI P)), (0, .ref a), (1, .int x1), (2, .int x2)]) hx hb dX5_adds_6 rfl hl (by decide) rfl (fun ls hl => ?_)
  refine lv_aload_n hx hb dX5_adds_7 rfl (lv_at hl 1 rfl) ?_
  refine lv_iload_n hx hb dX5_adds_8 rfl (lv_at hl 0 rfl) ?_
  refine lv_iconst (v := 0) hx hb dX5_adds_9 (by decide) ?_
  refine lv_iload_n hx hb dX5_adds_10 rfl (lv_at hl 2 rfl) ?_
  refine r_callCv hC hD hW hA lkX5_86 (c_X5_puts l E a b fs hf S P 0 x1 (by omega) (by omega)) rfl rfl ⟨by decide, by decide, by decide, by decide⟩ [0] rfl rfl rfl (fun _ => rfl) hl.1 rfl rfl (Nat.le_of_ble_eq_true rfl) dX5_adds_11 (fun _ H locs hr_1 hW => ?_)
  have hW : Wd E A s.heap (wcat [MR E a b fs (st S 1 P x1)]) H locs := hW
  refine lv_aload_n hx hb dX5_adds_14 rfl (lv_at hl 1 rfl) ?_
  refine lv_iload_n hx hb dX5_adds_15 rfl (lv_at hl 0 rfl) ?_
  refine lv_iconst (v := 1) hx hb dX5_adds_16 (by decide) ?_
  refine lv_iload_n hx hb dX5_adds_17 rfl (lv_at hl 3 rfl) ?_
  refine r_callCv hC hD hW hA lkX5_86 (c_X5_puts l E a b fs hf (st S 1 P x1) P 1 x2 (by omega) (by omega)) rfl rfl ⟨by decide, by decide, by decide, by decide⟩ [0] rfl rfl rfl (fun _ => rfl) hl.1 rfl rfl (Nat.le_of_ble_eq_true rfl) dX5_adds_18 (fun _ H locs hr_2 hW => ?_)
  have hW : Wd E A s.heap (wcat [MR E a b fs (st (st S 1 P x1) 2 P x2)]) H locs := hW
  refine lv_aload_n hx hb dX5_adds_21 rfl (lv_at hl 1 rfl) ?_
  refine lv_iload_n hx hb dX5_adds_22 rfl (lv_at hl 0 rfl) ?_
  refine lv_iconst (v := 2) hx hb dX5_adds_23 (by decide) ?_
  refine lv_iconst (v := 0) hx hb dX5_adds_24 (by decide) ?_
  refine r_callCv hC hD hW hA lkX5_86 (c_X5_puts l E a b fs hf (st (st S 1 P x1) 2 P x2) P 2 0 (by omega) (by omega)) rfl rfl ⟨by decide, by decide, by decide, by decide⟩ [0] rfl rfl rfl (fun _ => rfl) hl.1 rfl rfl (Nat.le_of_ble_eq_true rfl) dX5_adds_25 (fun _ H locs hr_3 hW => ?_)
  have hW : Wd E A s.heap (wcat [MR E a b fs (st (st (st S 1 P x1) 2 P x2) 3 P 0)]) H locs := hW
  refine lv_aload_n hx hb dX5_adds_28 rfl (lv_at hl 1 rfl) ?_
  refine lv_iload_n hx hb dX5_adds_29 rfl (lv_at hl 0 rfl) ?_
  refine lv_iconst (v := 3) hx hb dX5_adds_30 (by decide) ?_
  refine lv_iconst (v := 0) hx hb dX5_adds_31 (by decide) ?_
  refine r_callCv hC hD hW hA lkX5_86 (c_X5_puts l E a b fs hf (st (st (st S 1 P x1) 2 P x2) 3 P 0) P 3 0 (by omega) (by omega)) rfl rfl ⟨by decide, by decide, by decide, by decide⟩ [0] rfl rfl rfl (fun _ => rfl) hl.1 rfl rfl (Nat.le_of_ble_eq_true rfl) dX5_adds_32 (fun _ H locs hr_4 hW => ?_)
  have hW : Wd E A s.heap (wcat [MR E a b fs (st (st (st (st S 1 P x1) 2 P x2) 3 P 0) 4 P 0)]) H locs := hW
  refine lv_aload_n hx hb dX5_adds_35 rfl (lv_at hl 1 rfl) ?_
  refine r_get hC hW flX5_7 0 rfl hf dX5_adds_36 ?_
  refine lv_iconst (v := 2) hx hb dX5_adds_39 (by decide) ?_
  refine lv_dup2_11 hx hb dX5_adds_40 rfl rfl ?_
  refine r_iald hC hW 1 rfl 2 rfl (by omega) (by decide) dX5_adds_41 ?_
  refine n_top (enc_0 (st (st (st (st S 1 P x1) 2 P x2) 3 P 0) 4 P 0) (by decide)) ?_
  refine n_top hP ?_
  refine lv_iconst (v := 1) hx hb dX5_adds_42 (by decide) ?_
  refine n_iadd (v := (nI (P + 1))) hx hb dX5_adds_43 (nI_add P 1) ?_
  refine r_iast (ws' := (wcat [MR E a b fs (addP S P x1 x2)])) hC hD hW 1 rfl 2 rfl (by omega) (by decide) rfl (by rw [upd_0 _ (by decide)]; rfl) dX5_adds_44 (fun H locs hW => ?_)
  exact r_vret hC hQ hD hW () trivial rfl rfl dX5_adds_45
set_option maxHeartbeats 4000000 in
set_option maxRecDepth 100000 in
theorem c_X5_addsGarment (l : Launch) (E : Ev) (a : Nat) (b : Nat) (fs : List Value) (hf : fs[0]? = some (.ref b)) (S : HS) (G : Nat) (hG : S 0 3 = nI G) (hG1 : G < 10) (x1 : Int32) (x2 : Int32) (x3 : Int32) (x4 : Int32) : MV l E yX5_addsGarment cX5_addsGarment 6 1 23 0 0 [.ref a, .int x1, .int x2, .int x3, .int x4] (wcat [MR E a b fs S]) (fun (_ : Unit) => True) (fun (_ : Unit) => (wcat [MR E a b fs (addG S G x1 x2 x3 x4)])) := by
  refine MV_intro RX5 (by decide) rfl (Nat.le_of_ble_eq_true rfl) ?_
  intro p e R s m args below meth c A Q hQ hC hnm hD hW hA ls hl
  have hx := hC.1
  have hb := hC.2.1
  have hW : Wd E A s.heap (wcat [MR E a b fs S]) s.heap [] := hW
  have hD : Dj A [a, b] := hD
  have hl : lv_has ls 6 [(0, .ref a), (1, .int x1), (2, .int x2), (3, .int x3), (4, .int x4)] := hl
  refine lv_aload_n hx hb dX5_addsGarment_0 rfl (lv_at hl 0 rfl) ?_
  refine r_get hC hW flX5_7 0 rfl hf dX5_addsGarment_1 ?_
  refine lv_iconst (v := 3) hx hb dX5_addsGarment_4 (by decide) ?_
  refine r_iald hC hW 1 rfl 3 rfl (by omega) (by decide) dX5_addsGarment_5 ?_
  refine n_top (enc_0 S (by decide)) ?_
  refine n_top hG ?_
  refine lv_istore (lv' := [(5, .int (nI G)), (0, .ref a), (1, .int x1), (2, .int x2), (3, .int x3), (4, .int x4)]) hx hb dX5_addsGarment_6 hl (by decide) rfl (fun ls hl => ?_)
  refine lv_aload_n hx hb dX5_addsGarment_8 rfl (lv_at hl 1 rfl) ?_
  refine lv_iload hx hb dX5_addsGarment_9 (lv_at hl 0 rfl) ?_
  refine lv_iconst (v := 0) hx hb dX5_addsGarment_11 (by decide) ?_
  refine lv_iload_n hx hb dX5_addsGarment_12 rfl (lv_at hl 2 rfl) ?_
  refine r_callCv hC hD hW hA lkX5_118 (c_X5_sews l E a b fs hf S G 0 x1 (by omega) (by omega)) rfl rfl ⟨by decide, by decide, by decide, by decide⟩ [0] rfl rfl rfl (fun _ => rfl) hl.1 rfl rfl (Nat.le_of_ble_eq_true rfl) dX5_addsGarment_13 (fun _ H locs hr_1 hW => ?_)
  have hW : Wd E A s.heap (wcat [MR E a b fs (st S 5 G x1)]) H locs := hW
  refine lv_aload_n hx hb dX5_addsGarment_16 rfl (lv_at hl 1 rfl) ?_
  refine lv_iload hx hb dX5_addsGarment_17 (lv_at hl 0 rfl) ?_
  refine lv_iconst (v := 1) hx hb dX5_addsGarment_19 (by decide) ?_
  refine lv_iload_n hx hb dX5_addsGarment_20 rfl (lv_at hl 3 rfl) ?_
  refine r_callCv hC hD hW hA lkX5_118 (c_X5_sews l E a b fs hf (st S 5 G x1) G 1 x2 (by omega) (by omega)) rfl rfl ⟨by decide, by decide, by decide, by decide⟩ [0] rfl rfl rfl (fun _ => rfl) hl.1 rfl rfl (Nat.le_of_ble_eq_true rfl) dX5_addsGarment_21 (fun _ H locs hr_2 hW => ?_)
  have hW : Wd E A s.heap (wcat [MR E a b fs (st (st S 5 G x1) 6 G x2)]) H locs := hW
  refine lv_aload_n hx hb dX5_addsGarment_24 rfl (lv_at hl 1 rfl) ?_
  refine lv_iload hx hb dX5_addsGarment_25 (lv_at hl 0 rfl) ?_
  refine lv_iconst (v := 2) hx hb dX5_addsGarment_27 (by decide) ?_
  refine lv_iload_n hx hb dX5_addsGarment_28 rfl (lv_at hl 4 rfl) ?_
  refine r_callCv hC hD hW hA lkX5_118 (c_X5_sews l E a b fs hf (st (st S 5 G x1) 6 G x2) G 2 x3 (by omega) (by omega)) rfl rfl ⟨by decide, by decide, by decide, by decide⟩ [0] rfl rfl rfl (fun _ => rfl) hl.1 rfl rfl (Nat.le_of_ble_eq_true rfl) dX5_addsGarment_29 (fun _ H locs hr_3 hW => ?_)
  have hW : Wd E A s.heap (wcat [MR E a b fs (st (st (st S 5 G x1) 6 G x2) 7 G x3)]) H locs := hW
  refine lv_aload_n hx hb dX5_addsGarment_32 rfl (lv_at hl 1 rfl) ?_
  refine lv_iload hx hb dX5_addsGarment_33 (lv_at hl 0 rfl) ?_
  refine lv_iconst (v := 3) hx hb dX5_addsGarment_35 (by decide) ?_
  refine lv_iload hx hb dX5_addsGarment_36 (lv_at hl 5 rfl) ?_
  refine r_callCv hC hD hW hA lkX5_118 (c_X5_sews l E a b fs hf (st (st (st S 5 G x1) 6 G x2) 7 G x3) G 3 x4 (by omega) (by omega)) rfl rfl ⟨by decide, by decide, by decide, by decide⟩ [0] rfl rfl rfl (fun _ => rfl) hl.1 rfl rfl (Nat.le_of_ble_eq_true rfl) dX5_addsGarment_38 (fun _ H locs hr_4 hW => ?_)
  have hW : Wd E A s.heap (wcat [MR E a b fs (st (st (st (st S 5 G x1) 6 G x2) 7 G x3) 8 G x4)]) H locs := hW
  refine lv_aload_n hx hb dX5_addsGarment_41 rfl (lv_at hl 1 rfl) ?_
  refine r_get hC hW flX5_7 0 rfl hf dX5_addsGarment_42 ?_
  refine lv_iconst (v := 3) hx hb dX5_addsGarment_45 (by decide) ?_
  refine lv_dup2_11 hx hb dX5_addsGarment_46 rfl rfl ?_
  refine r_iald hC hW 1 rfl 3 rfl (by omega) (by decide) dX5_addsGarment_47 ?_
  refine n_top (enc_0 (st (st (st (st S 5 G x1) 6 G x2) 7 G x3) 8 G x4) (by decide)) ?_
  refine n_top hG ?_
  refine lv_iconst (v := 1) hx hb dX5_addsGarment_48 (by decide) ?_
  refine n_iadd (v := (nI (G + 1))) hx hb dX5_addsGarment_49 (nI_add G 1) ?_
  refine r_iast (ws' := (wcat [MR E a b fs (addG S G x1 x2 x3 x4)])) hC hD hW 1 rfl 3 rfl (by omega) (by decide) rfl (by rw [upd_0 _ (by decide)]; rfl) dX5_addsGarment_50 (fun H locs hW => ?_)
  exact r_vret hC hQ hD hW () trivial rfl rfl dX5_addsGarment_51
set_option maxHeartbeats 4000000 in
set_option maxRecDepth 100000 in
theorem c_X5_isSewing (l : Launch) (E : Ev) (a : Nat) (b : Nat) (fs : List Value) (hf : fs[0]? = some (.ref b)) (S : HS) (P : Nat) (hP : S 0 2 = nI P) (hP1 : P ≤ 6) (x1 : Int32) (x2 : Int32) : MI l E yX5_isSewing cX5_isSewing 3 .boolean 2 43 0 0 [.ref a, .int x1, .int x2] (wcat [MR E a b fs S]) (fun (r : Int32) (_ : Unit) => bz ((x1 = 0 ∧ ∃ j, j < P ∧ x2 = nI j) ∨ (x1 = 1 ∧ 0 ≤ x2 ∧ x2 ≤ 2) ∨ (x1 = 2 ∧ 0 ≤ x2 ∧ x2 ≤ 99) ∨ (x1 = 3 ∧ (x2 = -1 ∨ ∃ j, j < P ∧ x2 = nI j))) r) (fun (_ : Unit) => (wcat [MR E a b fs S])) := by
  refine MI_intro RX5 (by decide) rfl (Nat.le_of_ble_eq_true rfl) ?_
  intro p e R s m args below meth c A Q hQ hC hD hW hA ls hl
  have hx := hC.1
  have hb := hC.2.1
  have hW : Wd E A s.heap (wcat [MR E a b fs S]) s.heap [] := hW
  have hD : Dj A [a, b] := hD
  have hl : lv_has ls 3 [(0, .ref a), (1, .int x1), (2, .int x2)] := hl
  refine lv_iload_n hx hb dX5_isSewing_0 rfl (lv_at hl 1 rfl) ?_
  by_cases k_1 : x1 = 0
  · refine lv_tableIn (off := 27) (tgt := 28) hx hb dX5_isSewing_1 (by rw [k_1]; decide) (by rw [k_1]; decide) (by rw [k_1]; rfl) (by decide) ?_
    refine lv_aload_n hx hb dX5_isSewing_28 rfl (lv_at hl 0 rfl) ?_
    refine lv_iload_n hx hb dX5_isSewing_29 rfl (lv_at hl 2 rfl) ?_
    refine r_callCi hC hD hW hA lkX5_98 (c_X5_isOne l E a b fs hf S P hP hP1 x2) rfl rfl ⟨by decide, by decide, by decide, by decide⟩ [0] rfl rfl rfl (fun _ => rfl) hl.1 rfl rfl (Nat.le_of_ble_eq_true rfl) dX5_isSewing_30 (fun r_2 _ H locs hr_2 hW => ?_)
    have hW : Wd E A s.heap (wcat [MR E a b fs S]) H locs := hW
    have hr_2 : bz (∃ j, j < P ∧ x2 = nI j) r_2 := hr_2
    exact r_zret hC hQ hD hW (bz_01 hr_2) () (bz_iff ⟨fun z => Or.inl ⟨k_1, z⟩, fun z => by rcases z with ⟨y, z⟩ | ⟨y, z⟩ | ⟨y, z⟩ | ⟨y, z⟩ <;> first | exact z | (rw [k_1] at y; exact absurd y (by decide))⟩ hr_2) rfl rfl dX5_isSewing_33
  by_cases k_4 : x1 = 1
  · refine lv_tableIn (off := 33) (tgt := 34) hx hb dX5_isSewing_1 (by rw [k_4]; decide) (by rw [k_4]; decide) (by rw [k_4]; rfl) (by decide) ?_
    refine lv_iload_n hx hb dX5_isSewing_34 rfl (lv_at hl 2 rfl) ?_
    refine lv_iconst (v := 0) hx hb dX5_isSewing_35 (by decide) ?_
    refine lv_iconst (v := 2) hx hb dX5_isSewing_36 (by decide) ?_
    refine r_callSi hC hD hW hA lkX5_45 (c_X5_in l E x2 0 2) ⟨by decide, by decide, by decide, by decide⟩ rfl hl.1 rfl rfl (Nat.le_of_ble_eq_true rfl) dX5_isSewing_37 (fun r_5 _ H locs hr_5 hW => ?_)
    have hW : Wd E A s.heap (wcat [MR E a b fs S]) H locs := hW
    have hr_5 : bz (0 ≤ x2 ∧ x2 ≤ 2) r_5 := hr_5
    exact r_zret hC hQ hD hW (bz_01 hr_5) () (bz_iff ⟨fun z => Or.inr (Or.inl ⟨k_4, z⟩), fun z => by rcases z with ⟨y, z⟩ | ⟨y, z⟩ | ⟨y, z⟩ | ⟨y, z⟩ <;> first | exact z | (rw [k_4] at y; exact absurd y (by decide))⟩ hr_5) rfl rfl dX5_isSewing_40
  by_cases k_7 : x1 = 2
  · refine lv_tableIn (off := 40) (tgt := 41) hx hb dX5_isSewing_1 (by rw [k_7]; decide) (by rw [k_7]; decide) (by rw [k_7]; rfl) (by decide) ?_
    refine lv_iload_n hx hb dX5_isSewing_41 rfl (lv_at hl 2 rfl) ?_
    refine lv_iconst (v := 0) hx hb dX5_isSewing_42 (by decide) ?_
    refine lv_bipush (v := 99) hx hb dX5_isSewing_43 (by decide) ?_
    refine r_callSi hC hD hW hA lkX5_45 (c_X5_in l E x2 0 99) ⟨by decide, by decide, by decide, by decide⟩ rfl hl.1 rfl rfl (Nat.le_of_ble_eq_true rfl) dX5_isSewing_45 (fun r_8 _ H locs hr_8 hW => ?_)
    have hW : Wd E A s.heap (wcat [MR E a b fs S]) H locs := hW
    have hr_8 : bz (0 ≤ x2 ∧ x2 ≤ 99) r_8 := hr_8
    exact r_zret hC hQ hD hW (bz_01 hr_8) () (bz_iff ⟨fun z => Or.inr (Or.inr (Or.inl ⟨k_7, z⟩)), fun z => by rcases z with ⟨y, z⟩ | ⟨y, z⟩ | ⟨y, z⟩ | ⟨y, z⟩ <;> first | exact z | (rw [k_7] at y; exact absurd y (by decide))⟩ hr_8) rfl rfl dX5_isSewing_48
  have sw_1 : (x1 : Int32).toInt < 0 ∨ 2 < (x1 : Int32).toInt := by
    have := sw_ne (k := 0) (z := 0) (by decide) k_1
    have := sw_ne (k := 1) (z := 1) (by decide) k_4
    have := sw_ne (k := 2) (z := 2) (by decide) k_7
    omega
  refine lv_tableOut (tgt := 49) hx hb dX5_isSewing_1 sw_1 (by decide) ?_
  refine lv_iload_n hx hb dX5_isSewing_49 rfl (lv_at hl 1 rfl) ?_
  refine lv_iconst (v := 3) hx hb dX5_isSewing_50 (by decide) ?_
  refine lv_icmp_ne (tgt := 71) hx hb dX5_isSewing_51 (by decide) (fun c_10 => ?_) (fun c_10 => ?_)
  · refine lv_iconst (v := 0) hx hb dX5_isSewing_71 (by decide) ?_
    exact r_zret hC hQ hD hW (by decide) () (bz_f (fun z => by rcases z with ⟨y, z⟩ | ⟨y, z⟩ | ⟨y, z⟩ | ⟨y, z⟩ <;> first | exact k_1 y | exact k_4 y | exact k_7 y | (exact c_10 y))) rfl rfl dX5_isSewing_72
  · refine lv_iload_n hx hb dX5_isSewing_54 rfl (lv_at hl 2 rfl) ?_
    refine lv_iconst (v := (-1)) hx hb dX5_isSewing_55 (by decide) ?_
    refine lv_icmp_eq (tgt := 67) hx hb dX5_isSewing_56 (by decide) (fun c_11 => ?_) (fun c_11 => ?_)
    · refine lv_iconst (v := 1) hx hb dX5_isSewing_67 (by decide) ?_
      refine lv_goto (tgt := 72) hx hb dX5_isSewing_68 (by decide) ?_
      exact r_zret hC hQ hD hW (by decide) () (bz_t (Or.inr (Or.inr (Or.inr ⟨c_10, Or.inl c_11⟩)))) rfl rfl dX5_isSewing_72
    · refine lv_aload_n hx hb dX5_isSewing_59 rfl (lv_at hl 0 rfl) ?_
      refine lv_iload_n hx hb dX5_isSewing_60 rfl (lv_at hl 2 rfl) ?_
      refine r_callCi hC hD hW hA lkX5_98 (c_X5_isOne l E a b fs hf S P hP hP1 x2) rfl rfl ⟨by decide, by decide, by decide, by decide⟩ [0] rfl rfl rfl (fun _ => rfl) hl.1 rfl rfl (Nat.le_of_ble_eq_true rfl) dX5_isSewing_61 (fun r_12 _ H locs hr_12 hW => ?_)
      have hW : Wd E A s.heap (wcat [MR E a b fs S]) H locs := hW
      have hr_12 : bz (∃ j, j < P ∧ x2 = nI j) r_12 := hr_12
      rcases hr_12 with ⟨rfl, b_13⟩ | ⟨rfl, b_13⟩
      · refine lv_if_eq (tgt := 71) hx hb dX5_isSewing_64 (by decide) (fun _ => ?_) (fun c => absurd c (by decide))
        refine lv_iconst (v := 0) hx hb dX5_isSewing_71 (by decide) ?_
        exact r_zret hC hQ hD hW (by decide) () (bz_f (fun z => by rcases z with ⟨y, z⟩ | ⟨y, z⟩ | ⟨y, z⟩ | ⟨y, z⟩ <;> first | exact k_1 y | exact k_4 y | exact k_7 y | (exact z.elim c_11 b_13))) rfl rfl dX5_isSewing_72
      · refine lv_if_eq (tgt := 71) hx hb dX5_isSewing_64 (by decide) (fun c => absurd c (by decide)) (fun _ => ?_)
        refine lv_iconst (v := 1) hx hb dX5_isSewing_67 (by decide) ?_
        refine lv_goto (tgt := 72) hx hb dX5_isSewing_68 (by decide) ?_
        exact r_zret hC hQ hD hW (by decide) () (bz_t (Or.inr (Or.inr (Or.inr ⟨c_10, Or.inr b_13⟩)))) rfl rfl dX5_isSewing_72
set_option maxHeartbeats 4000000 in
set_option maxRecDepth 100000 in
theorem c_X5_washes (l : Launch) (E : Ev) (a : Nat) (b : Nat) (fs : List Value) (hf : fs[0]? = some (.ref b)) (S : HS) (P : Nat) (G : Nat) (hV : HV S P G) (g : Nat) (hg : g < G) : MV l E yX5_washes cX5_washes 3 2 47 0 0 [.ref a, .int (nI g)] (wcat [MR E a b fs S]) (fun (_ : Unit) => True) (fun (_ : Unit) => (wcat [MR E a b fs (w1 S P g)])) := by
  refine MV_intro RX5 (by decide) rfl (Nat.le_of_ble_eq_true rfl) ?_
  intro p e R s m args below meth c A Q hQ hC hnm hD hW hA ls hl
  have hx := hC.1
  have hb := hC.2.1
  have hW : Wd E A s.heap (wcat [MR E a b fs S]) s.heap [] := hW
  have hD : Dj A [a, b] := hD
  have hl : lv_has ls 3 [(0, .ref a), (1, .int (nI g))] := hl
  have hP := hV.p
  have hP1 := hV.p6
  have hG := hV.g
  have hG1 := hV.g10
  have hfd := fdn_le (g := g) hV
  have hnm := hV.nm99 hg
  rcases (hV.gv hg).ho hP1 with h8 | ⟨h8, h8P⟩
  · refine lv_aload_n hx hb dX5_washes_0 rfl (lv_at hl 0 rfl) ?_
    refine lv_iload_n hx hb dX5_washes_1 rfl (lv_at hl 1 rfl) ?_
    refine lv_iconst (v := 3) hx hb dX5_washes_2 (by decide) ?_
    refine r_callCi hC hD hW hA lkX5_49 (c_X5_worn l E a b fs hf S g 3 (by omega) (by omega)) rfl rfl ⟨by decide, by decide, by decide, by decide⟩ [0] rfl rfl rfl (fun _ => rfl) hl.1 rfl rfl (Nat.le_of_ble_eq_true rfl) dX5_washes_3 (fun r_1 _ H locs hr_1 hW => ?_)
    have hW : Wd E A s.heap (wcat [MR E a b fs S]) H locs := hW
    have hr_1 : r_1 = (S 8 g) := hr_1
    subst hr_1
    refine n_top h8 ?_
    refine lv_istore_n (lv' := [(2, .int (-1)), (0, .ref a), (1, .int (nI g))]) hx hb dX5_washes_6 rfl hl (by decide) rfl (fun ls hl => ?_)
    refine lv_iload_n hx hb dX5_washes_7 rfl (lv_at hl 0 rfl) ?_
    refine lv_if_ge (tgt := 12) hx hb dX5_washes_8 (by decide) (fun c => absurd c (by decide)) (fun _ => ?_)
    exact r_vret hC hQ hD hW () trivial (by rw [w1_no h8]) rfl dX5_washes_11
  · refine lv_aload_n hx hb dX5_washes_0 rfl (lv_at hl 0 rfl) ?_
    refine lv_iload_n hx hb dX5_washes_1 rfl (lv_at hl 1 rfl) ?_
    refine lv_iconst (v := 3) hx hb dX5_washes_2 (by decide) ?_
    refine r_callCi hC hD hW hA lkX5_49 (c_X5_worn l E a b fs hf S g 3 (by omega) (by omega)) rfl rfl ⟨by decide, by decide, by decide, by decide⟩ [0] rfl rfl rfl (fun _ => rfl) hl.1 rfl rfl (Nat.le_of_ble_eq_true rfl) dX5_washes_3 (fun r_2 _ H locs hr_2 hW => ?_)
    have hW : Wd E A s.heap (wcat [MR E a b fs S]) H locs := hW
    have hr_2 : r_2 = (S 8 g) := hr_2
    subst hr_2
    refine n_top h8 ?_
    refine lv_istore_n (lv' := [(2, .int (nI (ho S g))), (0, .ref a), (1, .int (nI g))]) hx hb dX5_washes_6 rfl hl (by decide) rfl (fun ls hl => ?_)
    refine lv_iload_n hx hb dX5_washes_7 rfl (lv_at hl 0 rfl) ?_
    refine lv_if_ge (tgt := 12) hx hb dX5_washes_8 (by decide) (fun c_3 => ?_) (fun c_3 => absurd c_3 (fun z => z (nI_pos' (by omega))))
    have c_3 : 0 ≤ ho S g := (nI_leI (a := 0) (b := ho S g) (by omega) (by omega)).mp c_3
    refine lv_aload_n hx hb dX5_washes_12 rfl (lv_at hl 1 rfl) ?_
    refine lv_iload_n hx hb dX5_washes_13 rfl (lv_at hl 2 rfl) ?_
    refine lv_iconst (v := 2) hx hb dX5_washes_14 (by decide) ?_
    refine lv_aload_n hx hb dX5_washes_15 rfl (lv_at hl 1 rfl) ?_
    refine lv_iload_n hx hb dX5_washes_16 rfl (lv_at hl 2 rfl) ?_
    refine lv_iconst (v := 2) hx hb dX5_washes_17 (by decide) ?_
    refine r_callCi hC hD hW hA lkX5_49 (c_X5_worn l E a b fs hf S g 2 (by omega) (by omega)) rfl rfl ⟨by decide, by decide, by decide, by decide⟩ [0] rfl rfl rfl (fun _ => rfl) hl.1 rfl rfl (Nat.le_of_ble_eq_true rfl) dX5_washes_18 (fun r_4 _ H locs hr_4 hW => ?_)
    have hW : Wd E A s.heap (wcat [MR E a b fs S]) H locs := hW
    have hr_4 : r_4 = (S 7 g) := hr_4
    subst hr_4
    refine n_top (hV.nmv hg) ?_
    refine lv_aload_n hx hb dX5_washes_21 rfl (lv_at hl 1 rfl) ?_
    refine lv_iload_n hx hb dX5_washes_22 rfl (lv_at hl 2 rfl) ?_
    refine r_callCi hC hD hW hA lkX5_128 (c_X5_fades l E a b fs hf S P G hV g (by omega)) rfl rfl ⟨by decide, by decide, by decide, by decide⟩ [0] rfl rfl rfl (fun _ => rfl) hl.1 rfl rfl (Nat.le_of_ble_eq_true rfl) dX5_washes_23 (fun r_5 _ H locs hr_5 hW => ?_)
    have hW : Wd E A s.heap (wcat [MR E a b fs S]) H locs := hW
    have hr_5 : r_5 = (nI (fdn S g)) := hr_5
    subst hr_5
    refine n_isub (v := ((nI (nm S g)) - (nI (fdn S g)))) hx hb dX5_washes_26 rfl ?_
    refine lv_iconst (v := 0) hx hb dX5_washes_27 (by decide) ?_
    refine lv_bipush (v := 99) hx hb dX5_washes_28 (by decide) ?_
    refine r_callSi hC hD hW hA lkX5_134 (c_X5_held l E ((nI (nm S g)) - (nI (fdn S g))) 0 99) ⟨by decide, by decide, by decide, by decide⟩ rfl hl.1 rfl rfl (Nat.le_of_ble_eq_true rfl) dX5_washes_30 (fun r_6 _ H locs hr_6 hW => ?_)
    have hW : Wd E A s.heap (wcat [MR E a b fs S]) H locs := hW
    have hr_6 : r_6 = (if ((nI (nm S g)) - (nI (fdn S g))) < 0 then 0 else if 99 < ((nI (nm S g)) - (nI (fdn S g))) then 99 else ((nI (nm S g)) - (nI (fdn S g)))) := hr_6
    subst hr_6
    refine n_top (held_sub _ (by omega) _ (by omega)) ?_
    refine r_callCv hC hD hW hA lkX5_118 (c_X5_sews l E a b fs hf S g 2 (nI (nm S g - fdn S g)) (by omega) (by omega)) rfl rfl ⟨by decide, by decide, by decide, by decide⟩ [0] rfl rfl rfl (fun _ => rfl) hl.1 rfl rfl (Nat.le_of_ble_eq_true rfl) dX5_washes_33 (fun _ H locs hr_7 hW => ?_)
    have hW : Wd E A s.heap (wcat [MR E a b fs (fade S g)]) H locs := hW
    refine lv_iload_n hx hb dX5_washes_36 rfl (lv_at hl 0 rfl) ?_
    refine lv_aload_n hx hb dX5_washes_37 rfl (lv_at hl 1 rfl) ?_
    refine lv_iload_n hx hb dX5_washes_38 rfl (lv_at hl 2 rfl) ?_
    refine lv_iconst (v := 0) hx hb dX5_washes_39 (by decide) ?_
    refine r_callCi hC hD hW hA lkX5_49 (c_X5_worn l E a b fs hf (fade S g) g 0 (by omega) (by omega)) rfl rfl ⟨by decide, by decide, by decide, by decide⟩ [0] rfl rfl rfl (fun _ => rfl) hl.1 rfl rfl (Nat.le_of_ble_eq_true rfl) dX5_washes_40 (fun r_8 _ H locs hr_8 hW => ?_)
    have hW : Wd E A s.heap (wcat [MR E a b fs (fade S g)]) H locs := hW
    have hr_8 : r_8 = ((fade S g) 5 g) := hr_8
    subst hr_8
    refine n_top (show fade S g 5 g = S 5 g from rfl) ?_
    refine lv_icmp_eq (tgt := 65) hx hb dX5_washes_43 (by decide) (fun c_9 => ?_) (fun c_9 => ?_)
    · refine lv_aload_n hx hb dX5_washes_65 rfl (lv_at hl 1 rfl) ?_
      refine lv_iload_n hx hb dX5_washes_66 rfl (lv_at hl 2 rfl) ?_
      refine lv_iconst (v := 3) hx hb dX5_washes_67 (by decide) ?_
      refine lv_aload_n hx hb dX5_washes_68 rfl (lv_at hl 1 rfl) ?_
      refine lv_iload_n hx hb dX5_washes_69 rfl (lv_at hl 2 rfl) ?_
      refine r_callCi hC hD hW hA lkX5_125 (c_X5_reads l E a b fs hf (fade S g) P G (HV_fade hV hg) g (by omega)) rfl rfl ⟨by decide, by decide, by decide, by decide⟩ [0] rfl rfl rfl (fun _ => rfl) hl.1 rfl rfl (Nat.le_of_ble_eq_true rfl) dX5_washes_70 (fun r_10 _ H locs hr_10 hW => ?_)
      have hW : Wd E A s.heap (wcat [MR E a b fs (fade S g)]) H locs := hW
      have hr_10 : r_10 = (rdI (fade S g) P g) := hr_10
      subst hr_10
      refine r_callCv hC hD hW hA lkX5_118 (c_X5_sews l E a b fs hf (fade S g) g 3 (rdI (fade S g) P g) (by omega) (by omega)) rfl rfl ⟨by decide, by decide, by decide, by decide⟩ [0] rfl rfl rfl (fun _ => rfl) hl.1 rfl rfl (Nat.le_of_ble_eq_true rfl) dX5_washes_73 (fun _ H locs hr_11 hW => ?_)
      have hW : Wd E A s.heap (wcat [MR E a b fs (st (fade S g) 8 g (rdI (fade S g) P g))]) H locs := hW
      exact r_vret hC hQ hD hW () trivial (by rw [w1_y (ho_ne h8 (by omega)) (Or.inl (h8.trans c_9))]) rfl dX5_washes_76
    · refine lv_aload_n hx hb dX5_washes_46 rfl (lv_at hl 1 rfl) ?_
      refine lv_iload_n hx hb dX5_washes_47 rfl (lv_at hl 0 rfl) ?_
      refine lv_iconst (v := 3) hx hb dX5_washes_48 (by decide) ?_
      refine r_callCi hC hD hW hA lkX5_57 (c_X5_its l E a b fs hf (fade S g) (ho S g) 3 (by omega) (by omega)) rfl rfl ⟨by decide, by decide, by decide, by decide⟩ [0] rfl rfl rfl (fun _ => rfl) hl.1 rfl rfl (Nat.le_of_ble_eq_true rfl) dX5_washes_49 (fun r_12 _ H locs hr_12 hW => ?_)
      have hW : Wd E A s.heap (wcat [MR E a b fs (fade S g)]) H locs := hW
      have hr_12 : r_12 = ((fade S g) 4 (ho S g)) := hr_12
      subst hr_12
      refine n_top (show fade S g 4 (ho S g) = S 4 (ho S g) from rfl) ?_
      refine lv_iconst (v := 1) hx hb dX5_washes_52 (by decide) ?_
      refine lv_icmp_eq (tgt := 65) hx hb dX5_washes_53 (by decide) (fun c_13 => ?_) (fun c_13 => ?_)
      · refine lv_aload_n hx hb dX5_washes_65 rfl (lv_at hl 1 rfl) ?_
        refine lv_iload_n hx hb dX5_washes_66 rfl (lv_at hl 2 rfl) ?_
        refine lv_iconst (v := 3) hx hb dX5_washes_67 (by decide) ?_
        refine lv_aload_n hx hb dX5_washes_68 rfl (lv_at hl 1 rfl) ?_
        refine lv_iload_n hx hb dX5_washes_69 rfl (lv_at hl 2 rfl) ?_
        refine r_callCi hC hD hW hA lkX5_125 (c_X5_reads l E a b fs hf (fade S g) P G (HV_fade hV hg) g (by omega)) rfl rfl ⟨by decide, by decide, by decide, by decide⟩ [0] rfl rfl rfl (fun _ => rfl) hl.1 rfl rfl (Nat.le_of_ble_eq_true rfl) dX5_washes_70 (fun r_14 _ H locs hr_14 hW => ?_)
        have hW : Wd E A s.heap (wcat [MR E a b fs (fade S g)]) H locs := hW
        have hr_14 : r_14 = (rdI (fade S g) P g) := hr_14
        subst hr_14
        refine r_callCv hC hD hW hA lkX5_118 (c_X5_sews l E a b fs hf (fade S g) g 3 (rdI (fade S g) P g) (by omega) (by omega)) rfl rfl ⟨by decide, by decide, by decide, by decide⟩ [0] rfl rfl rfl (fun _ => rfl) hl.1 rfl rfl (Nat.le_of_ble_eq_true rfl) dX5_washes_73 (fun _ H locs hr_15 hW => ?_)
        have hW : Wd E A s.heap (wcat [MR E a b fs (st (fade S g) 8 g (rdI (fade S g) P g))]) H locs := hW
        exact r_vret hC hQ hD hW () trivial (by rw [w1_y (ho_ne h8 (by omega)) (Or.inr (Or.inl c_13))]) rfl dX5_washes_76
      · refine lv_aload_n hx hb dX5_washes_56 rfl (lv_at hl 1 rfl) ?_
        refine lv_iload_n hx hb dX5_washes_57 rfl (lv_at hl 0 rfl) ?_
        refine lv_iload_n hx hb dX5_washes_58 rfl (lv_at hl 2 rfl) ?_
        refine r_callCi hC hD hW hA lkX5_111 (c_X5_isGiving l E a b fs hf (fade S g) P G (HV_fade hV hg) (ho S g) g (by omega) (by omega)) rfl rfl ⟨by decide, by decide, by decide, by decide⟩ [0] rfl rfl rfl (fun _ => rfl) hl.1 rfl rfl (Nat.le_of_ble_eq_true rfl) dX5_washes_59 (fun r_16 _ H locs hr_16 hW => ?_)
        have hW : Wd E A s.heap (wcat [MR E a b fs (fade S g)]) H locs := hW
        have hr_16 : bz (giv (fade S g) (ho S g) g) r_16 := hr_16
        rcases hr_16 with ⟨rfl, b_17⟩ | ⟨rfl, b_17⟩
        · refine lv_if_eq (tgt := 76) hx hb dX5_washes_62 (by decide) (fun _ => ?_) (fun c => absurd c (by decide))
          exact r_vret hC hQ hD hW () trivial (by rw [w1_n (ho_ne h8 (by omega)) (fun z => c_9 (h8.symm.trans z)) c_13 b_17]) rfl dX5_washes_76
        · refine lv_if_eq (tgt := 76) hx hb dX5_washes_62 (by decide) (fun c => absurd c (by decide)) (fun _ => ?_)
          refine lv_aload_n hx hb dX5_washes_65 rfl (lv_at hl 1 rfl) ?_
          refine lv_iload_n hx hb dX5_washes_66 rfl (lv_at hl 2 rfl) ?_
          refine lv_iconst (v := 3) hx hb dX5_washes_67 (by decide) ?_
          refine lv_aload_n hx hb dX5_washes_68 rfl (lv_at hl 1 rfl) ?_
          refine lv_iload_n hx hb dX5_washes_69 rfl (lv_at hl 2 rfl) ?_
          refine r_callCi hC hD hW hA lkX5_125 (c_X5_reads l E a b fs hf (fade S g) P G (HV_fade hV hg) g (by omega)) rfl rfl ⟨by decide, by decide, by decide, by decide⟩ [0] rfl rfl rfl (fun _ => rfl) hl.1 rfl rfl (Nat.le_of_ble_eq_true rfl) dX5_washes_70 (fun r_18 _ H locs hr_18 hW => ?_)
          have hW : Wd E A s.heap (wcat [MR E a b fs (fade S g)]) H locs := hW
          have hr_18 : r_18 = (rdI (fade S g) P g) := hr_18
          subst hr_18
          refine r_callCv hC hD hW hA lkX5_118 (c_X5_sews l E a b fs hf (fade S g) g 3 (rdI (fade S g) P g) (by omega) (by omega)) rfl rfl ⟨by decide, by decide, by decide, by decide⟩ [0] rfl rfl rfl (fun _ => rfl) hl.1 rfl rfl (Nat.le_of_ble_eq_true rfl) dX5_washes_73 (fun _ H locs hr_19 hW => ?_)
          have hW : Wd E A s.heap (wcat [MR E a b fs (st (fade S g) 8 g (rdI (fade S g) P g))]) H locs := hW
          exact r_vret hC hQ hD hW () trivial (by rw [w1_y (ho_ne h8 (by omega)) (Or.inr (Or.inr (giB_t.mpr b_17)))]) rfl dX5_washes_76
set_option maxHeartbeats 4000000 in
set_option maxRecDepth 100000 in
theorem c_X5_lies (l : Launch) (E : Ev) (a : Nat) (b : Nat) (fs : List Value) (hf : fs[0]? = some (.ref b)) (S : HS) (P : Nat) (G : Nat) (hV : HV S P G) (g : Nat) (hg : g < G) : MV l E yX5_lies cX5_lies 4 3 69 0 0 [.ref a, .int (nI g)] (wcat [MR E a b fs S]) (fun (_ : Unit) => True) (fun (_ : Unit) => (wcat [MR E a b fs (y1 S P G g)])) := by
  refine MV_intro RX5 (by decide) rfl (Nat.le_of_ble_eq_true rfl) ?_
  intro p e R s m args below meth c A Q hQ hC hnm hD hW hA ls hl
  have hx := hC.1
  have hb := hC.2.1
  have hW : Wd E A s.heap (wcat [MR E a b fs S]) s.heap [] := hW
  have hD : Dj A [a, b] := hD
  have hl : lv_has ls 4 [(0, .ref a), (1, .int (nI g))] := hl
  have hP := hV.p
  have hP1 := hV.p6
  have hG := hV.g
  have hG1 := hV.g10
  rcases (hV.gv hg).ho hP1 with h8 | ⟨h8, h8P⟩
  · refine lv_aload_n hx hb dX5_lies_0 rfl (lv_at hl 0 rfl) ?_
    refine lv_iload_n hx hb dX5_lies_1 rfl (lv_at hl 1 rfl) ?_
    refine lv_iconst (v := 3) hx hb dX5_lies_2 (by decide) ?_
    refine r_callCi hC hD hW hA lkX5_49 (c_X5_worn l E a b fs hf S g 3 (by omega) (by omega)) rfl rfl ⟨by decide, by decide, by decide, by decide⟩ [0] rfl rfl rfl (fun _ => rfl) hl.1 rfl rfl (Nat.le_of_ble_eq_true rfl) dX5_lies_3 (fun r_1 _ H locs hr_1 hW => ?_)
    have hW : Wd E A s.heap (wcat [MR E a b fs S]) H locs := hW
    have hr_1 : r_1 = (S 8 g) := hr_1
    subst hr_1
    refine n_top h8 ?_
    refine lv_if_lt (tgt := 10) hx hb dX5_lies_6 (by decide) (fun _ => ?_) (fun c => absurd c (by decide))
    refine lv_iconst (v := (-1)) hx hb dX5_lies_10 (by decide) ?_
    refine lv_istore_n (lv' := [(2, .int (-1)), (0, .ref a), (1, .int (nI g))]) hx hb dX5_lies_11 rfl hl (by decide) rfl (fun ls hl => ?_)
    refine lv_aload_n hx hb dX5_lies_12 rfl (lv_at hl 1 rfl) ?_
    refine r_get hC hW flX5_7 0 rfl hf dX5_lies_13 ?_
    refine lv_iconst (v := 2) hx hb dX5_lies_16 (by decide) ?_
    refine r_iald hC hW 1 rfl 2 rfl (by omega) (by decide) dX5_lies_17 ?_
    refine n_top (enc_0 S (by decide)) ?_
    refine n_top hV.p ?_
    refine lv_iconst (v := 1) hx hb dX5_lies_18 (by decide) ?_
    refine n_isub (v := ((nI P) - 1)) hx hb dX5_lies_19 rfl ?_
    refine lv_istore_n (lv' := [(3, .int ((nI P) - 1)), (2, .int (-1)), (0, .ref a), (1, .int (nI g))]) hx hb dX5_lies_20 rfl hl (by decide) rfl (fun ls hl => ?_)
    have L21 : ∀ (n_ : Nat) (q : Nat) (x : Int32) (H : Heap) (locs : List Loc) (ls : Array Slot), q < n_ → q ≤ P → LSq (cls S g G) q P x → Wd E A s.heap (wcat [MR E a b fs S]) H locs → lv_has ls 4 [(0, .ref a), (1, .int (nI g)), (2, .int x), (3, .int (nI q - 1))] → W p l e R s m args below meth c H locs 0 0 Q (F0 m 21 ls []) := by
      intro n_
      induction n_ with
      | zero => intro q x H locs ls hm; exact absurd hm (Nat.not_lt_zero _)
      | succ n_ ih =>
        intro q x H locs ls hm hq hX1 hW hl
        rcases q with _ | q
        · have hl : lv_has ls 4 [(0, .ref a), (1, .int (nI g)), (2, .int x), (3, .int (-1))] := hl
          refine lv_iload_n hx hb dX5_lies_21 rfl (lv_at hl 3 rfl) ?_
          refine lv_if_lt (tgt := 55) hx hb dX5_lies_22 (by decide) (fun _ => ?_) (fun c => absurd c (by decide))
          refine lv_aload_n hx hb dX5_lies_55 rfl (lv_at hl 0 rfl) ?_
          refine lv_iload_n hx hb dX5_lies_56 rfl (lv_at hl 1 rfl) ?_
          refine lv_iconst (v := 3) hx hb dX5_lies_57 (by decide) ?_
          refine lv_iload_n hx hb dX5_lies_58 rfl (lv_at hl 2 rfl) ?_
          refine r_callCv hC hD hW hA lkX5_118 (c_X5_sews l E a b fs hf S g 3 x (by omega) (by omega)) rfl rfl ⟨by decide, by decide, by decide, by decide⟩ [0] rfl rfl rfl (fun _ => rfl) hl.1 rfl rfl (Nat.le_of_ble_eq_true rfl) dX5_lies_59 (fun _ H locs hr_2 hW => ?_)
          have hW : Wd E A s.heap (wcat [MR E a b fs (st S 8 g x)]) H locs := hW
          exact r_vret hC hQ hD hW () trivial (by rw [y1_y h8, ← LSq_0 (by omega) hX1]) rfl dX5_lies_62
        · rw [show nI (q + 1) - 1 = nI q from nI_pred q] at hl
          refine lv_iload_n hx hb dX5_lies_21 rfl (lv_at hl 3 rfl) ?_
          refine lv_if_lt (tgt := 55) hx hb dX5_lies_22 (by decide) (fun c_3 => absurd c_3 (nI_pos (by omega))) (fun c_3 => ?_)
          have c_3 : ¬ q < 0 := fun z_ => c_3 ((nI_ltI (a := q) (b := 0) (by omega) (by omega)).mpr z_)
          refine lv_aload_n hx hb dX5_lies_25 rfl (lv_at hl 0 rfl) ?_
          refine lv_iload_n hx hb dX5_lies_26 rfl (lv_at hl 3 rfl) ?_
          refine lv_iconst (v := 3) hx hb dX5_lies_27 (by decide) ?_
          refine r_callCi hC hD hW hA lkX5_57 (c_X5_its l E a b fs hf S q 3 (by omega) (by omega)) rfl rfl ⟨by decide, by decide, by decide, by decide⟩ [0] rfl rfl rfl (fun _ => rfl) hl.1 rfl rfl (Nat.le_of_ble_eq_true rfl) dX5_lies_28 (fun r_4 _ H locs hr_4 hW => ?_)
          have hW : Wd E A s.heap (wcat [MR E a b fs S]) H locs := hW
          have hr_4 : r_4 = (S 4 q) := hr_4
          subst hr_4
          refine lv_if_ne (tgt := 47) hx hb dX5_lies_31 (by decide) (fun c_5 => ?_) (fun c_5 => ?_)
          · refine lv_iload_n hx hb dX5_lies_47 rfl (lv_at hl 2 rfl) ?_
            refine lv_istore_n (lv' := [(2, .int x), (0, .ref a), (1, .int (nI g)), (3, .int (nI q))]) hx hb dX5_lies_48 rfl hl (by decide) rfl (fun ls hl => ?_)
            refine lv_iinc (v := (nI q - 1)) (lv' := [(3, .int (nI q - 1)), (2, .int x), (0, .ref a), (1, .int (nI g))]) (k := 3) hx hb dX5_lies_49 hl rfl (nI_dec q) (by decide) rfl (fun ls hl => ?_)
            refine lv_goto (tgt := 21) hx hb dX5_lies_52 (by decide) ?_
            exact ih q x _ _ _ (by omega) (by omega) (LSq_f (cls_f1 c_5) hX1) hW (lv_sub hl [2, 3, 1, 0] rfl)
          · refine lv_aload_n hx hb dX5_lies_34 rfl (lv_at hl 0 rfl) ?_
            refine lv_iload_n hx hb dX5_lies_35 rfl (lv_at hl 3 rfl) ?_
            refine lv_iload_n hx hb dX5_lies_36 rfl (lv_at hl 1 rfl) ?_
            refine r_callCi hC hD hW hA lkX5_114 (c_X5_isClaiming l E a b fs hf S P G hV q g (by omega) (by omega)) rfl rfl ⟨by decide, by decide, by decide, by decide⟩ [0] rfl rfl rfl (fun _ => rfl) hl.1 rfl rfl (Nat.le_of_ble_eq_true rfl) dX5_lies_37 (fun r_6 _ H locs hr_6 hW => ?_)
            have hW : Wd E A s.heap (wcat [MR E a b fs S]) H locs := hW
            have hr_6 : bz (clm S q g G) r_6 := hr_6
            rcases hr_6 with ⟨rfl, b_7⟩ | ⟨rfl, b_7⟩
            · refine lv_if_eq (tgt := 47) hx hb dX5_lies_40 (by decide) (fun _ => ?_) (fun c => absurd c (by decide))
              refine lv_iload_n hx hb dX5_lies_47 rfl (lv_at hl 2 rfl) ?_
              refine lv_istore_n (lv' := [(2, .int x), (0, .ref a), (1, .int (nI g)), (3, .int (nI q))]) hx hb dX5_lies_48 rfl hl (by decide) rfl (fun ls hl => ?_)
              refine lv_iinc (v := (nI q - 1)) (lv' := [(3, .int (nI q - 1)), (2, .int x), (0, .ref a), (1, .int (nI g))]) (k := 3) hx hb dX5_lies_49 hl rfl (nI_dec q) (by decide) rfl (fun ls hl => ?_)
              refine lv_goto (tgt := 21) hx hb dX5_lies_52 (by decide) ?_
              exact ih q x _ _ _ (by omega) (by omega) (LSq_f (cls_f2 b_7) hX1) hW (lv_sub hl [2, 3, 1, 0] rfl)
            · refine lv_if_eq (tgt := 47) hx hb dX5_lies_40 (by decide) (fun c => absurd c (by decide)) (fun _ => ?_)
              refine lv_iload_n hx hb dX5_lies_43 rfl (lv_at hl 3 rfl) ?_
              refine lv_goto (tgt := 48) hx hb dX5_lies_44 (by decide) ?_
              refine lv_istore_n (lv' := [(2, .int (nI q)), (0, .ref a), (1, .int (nI g)), (3, .int (nI q))]) hx hb dX5_lies_48 rfl hl (by decide) rfl (fun ls hl => ?_)
              refine lv_iinc (v := (nI q - 1)) (lv' := [(3, .int (nI q - 1)), (2, .int (nI q)), (0, .ref a), (1, .int (nI g))]) (k := 3) hx hb dX5_lies_49 hl rfl (nI_dec q) (by decide) rfl (fun ls hl => ?_)
              refine lv_goto (tgt := 21) hx hb dX5_lies_52 (by decide) ?_
              exact ih q (nI q) _ _ _ (by omega) (by omega) (LSq_t (cls_t c_5 b_7) (by omega)) hW (lv_sub hl [2, 3, 1, 0] rfl)
    exact L21 (P + 1) P (-1) _ _ _ (Nat.lt_succ_self _) (by omega) (LSq_init _ P) hW (lv_sub hl [2, 3, 1, 0] rfl)
  · refine lv_aload_n hx hb dX5_lies_0 rfl (lv_at hl 0 rfl) ?_
    refine lv_iload_n hx hb dX5_lies_1 rfl (lv_at hl 1 rfl) ?_
    refine lv_iconst (v := 3) hx hb dX5_lies_2 (by decide) ?_
    refine r_callCi hC hD hW hA lkX5_49 (c_X5_worn l E a b fs hf S g 3 (by omega) (by omega)) rfl rfl ⟨by decide, by decide, by decide, by decide⟩ [0] rfl rfl rfl (fun _ => rfl) hl.1 rfl rfl (Nat.le_of_ble_eq_true rfl) dX5_lies_3 (fun r_8 _ H locs hr_8 hW => ?_)
    have hW : Wd E A s.heap (wcat [MR E a b fs S]) H locs := hW
    have hr_8 : r_8 = (S 8 g) := hr_8
    subst hr_8
    refine n_top h8 ?_
    refine lv_if_lt (tgt := 10) hx hb dX5_lies_6 (by decide) (fun c_9 => absurd c_9 (nI_pos (by omega))) (fun c_9 => ?_)
    have c_9 : ¬ ho S g < 0 := fun z_ => c_9 ((nI_ltI (a := ho S g) (b := 0) (by omega) (by omega)).mpr z_)
    exact r_vret hC hQ hD hW () trivial (by rw [y1_n (ho_ne h8 (by omega))]) rfl dX5_lies_9
set_option maxHeartbeats 4000000 in
set_option maxRecDepth 100000 in
theorem c_X5_oneWeek (l : Launch) (E : Ev) (a : Nat) (b : Nat) (fs : List Value) (hf : fs[0]? = some (.ref b)) (S : HS) (P : Nat) (G : Nat) (hV : HV S P G) : MV l E yX5_oneWeek cX5_oneWeek 2 4 92 0 0 [.ref a] (wcat [MR E a b fs S]) (fun (_ : Unit) => True) (fun (_ : Unit) => (wcat [MR E a b fs (wk S P G)])) := by
  refine MV_intro RX5 (by decide) rfl (Nat.le_of_ble_eq_true rfl) ?_
  intro p e R s m args below meth c A Q hQ hC hnm hD hW hA ls hl
  have hx := hC.1
  have hb := hC.2.1
  have hW : Wd E A s.heap (wcat [MR E a b fs S]) s.heap [] := hW
  have hD : Dj A [a, b] := hD
  have hl : lv_has ls 2 [(0, .ref a)] := hl
  have hP := hV.p
  have hP1 := hV.p6
  have hG := hV.g
  have hG1 := hV.g10
  refine lv_iconst (v := 0) hx hb dX5_oneWeek_0 (by decide) ?_
  refine lv_istore_n (lv' := [(1, .int 0), (0, .ref a)]) hx hb dX5_oneWeek_1 rfl hl (by decide) rfl (fun ls hl => ?_)
  have L2 : ∀ (n_ : Nat) (i : Nat) (H : Heap) (locs : List Loc) (ls : Array Slot), G - i < n_ → i ≤ G → Wd E A s.heap (wcat [MR E a b fs (wN S P i)]) H locs → lv_has ls 2 [(0, .ref a), (1, .int (nI i))] → W p l e R s m args below meth c H locs 0 0 Q (F0 m 2 ls []) := by
    intro n_
    induction n_ with
    | zero => intro i H locs ls hm; exact absurd hm (Nat.not_lt_zero _)
    | succ n_ ih =>
      intro i H locs ls hm hi hW hl
      refine lv_iload_n hx hb dX5_oneWeek_2 rfl (lv_at hl 1 rfl) ?_
      refine lv_aload_n hx hb dX5_oneWeek_3 rfl (lv_at hl 0 rfl) ?_
      refine r_get hC hW flX5_7 0 rfl hf dX5_oneWeek_4 ?_
      refine lv_iconst (v := 3) hx hb dX5_oneWeek_7 (by decide) ?_
      refine r_iald hC hW 1 rfl 3 rfl (by omega) (by decide) dX5_oneWeek_8 ?_
      refine n_top (enc_0 (wN S P i) (by decide)) ?_
      refine n_top (HV_wN hV i hi).g ?_
      refine lv_icmp_ge (tgt := 23) hx hb dX5_oneWeek_9 (by decide) (fun c_1 => ?_) (fun c_1 => ?_)
      · have c_1 : G ≤ i := (nI_leI (a := G) (b := i) (by omega) (by omega)).mp c_1
        have hW : Wd E A s.heap (wcat [MR E a b fs (wN S P G)]) H locs := by rw [show wN S P G = wN S P i by rw [show i = G by omega]]; exact hW
        refine lv_iconst (v := 0) hx hb dX5_oneWeek_23 (by decide) ?_
        refine lv_istore_n (lv' := [(1, .int 0), (0, .ref a)]) hx hb dX5_oneWeek_24 rfl hl (by decide) rfl (fun ls hl => ?_)
        have L25 : ∀ (n_ : Nat) (i : Nat) (H : Heap) (locs : List Loc) (ls : Array Slot), G - i < n_ → i ≤ G → (i = 0 ∨ wN S P G 0 0 - wN S P G 0 0 / 2 * 2 = 1) → Wd E A s.heap (wcat [MR E a b fs (yN (wN S P G) P G i)]) H locs → lv_has ls 2 [(0, .ref a), (1, .int (nI i))] → W p l e R s m args below meth c H locs 0 0 Q (F0 m 25 ls []) := by
          intro n_
          induction n_ with
          | zero => intro i H locs ls hm; exact absurd hm (Nat.not_lt_zero _)
          | succ n_ ih25 =>
            intro i H locs ls hm hi hod hW hl
            refine lv_iload_n hx hb dX5_oneWeek_25 rfl (lv_at hl 1 rfl) ?_
            refine lv_aload_n hx hb dX5_oneWeek_26 rfl (lv_at hl 0 rfl) ?_
            refine r_get hC hW flX5_7 0 rfl hf dX5_oneWeek_27 ?_
            refine lv_iconst (v := 3) hx hb dX5_oneWeek_30 (by decide) ?_
            refine r_iald hC hW 1 rfl 3 rfl (by omega) (by decide) dX5_oneWeek_31 ?_
            refine n_top (enc_0 (yN (wN S P G) P G i) (by decide)) ?_
            refine n_top (HV_yN (HV_wN hV G (Nat.le_refl G)) i).g ?_
            refine lv_icmp_ge (tgt := 58) hx hb dX5_oneWeek_32 (by decide) (fun c_2 => ?_) (fun c_2 => ?_)
            · have c_2 : G ≤ i := (nI_leI (a := G) (b := i) (by omega) (by omega)).mp c_2
              have hW : Wd E A s.heap (wcat [MR E a b fs (yT (wN S P G) P G)]) H locs := by rw [yT_end (by omega) hod]; exact hW
              refine lv_iconst (v := 0) hx hb dX5_oneWeek_58 (by decide) ?_
              refine lv_istore_n (lv' := [(1, .int 0), (0, .ref a)]) hx hb dX5_oneWeek_59 rfl hl (by decide) rfl (fun ls hl => ?_)
              have L60 : ∀ (n_ : Nat) (i : Nat) (H : Heap) (locs : List Loc) (ls : Array Slot), P - i < n_ → i ≤ P → Wd E A s.heap (wcat [MR E a b fs (kN (yT (wN S P G) P G) G i)]) H locs → lv_has ls 2 [(0, .ref a), (1, .int (nI i))] → W p l e R s m args below meth c H locs 0 0 Q (F0 m 60 ls []) := by
                intro n_
                induction n_ with
                | zero => intro i H locs ls hm; exact absurd hm (Nat.not_lt_zero _)
                | succ n_ ih60 =>
                  intro i H locs ls hm hi hW hl
                  refine lv_iload_n hx hb dX5_oneWeek_60 rfl (lv_at hl 1 rfl) ?_
                  refine lv_aload_n hx hb dX5_oneWeek_61 rfl (lv_at hl 0 rfl) ?_
                  refine r_get hC hW flX5_7 0 rfl hf dX5_oneWeek_62 ?_
                  refine lv_iconst (v := 2) hx hb dX5_oneWeek_65 (by decide) ?_
                  refine r_iald hC hW 1 rfl 2 rfl (by omega) (by decide) dX5_oneWeek_66 ?_
                  refine n_top (enc_0 (kN (yT (wN S P G) P G) G i) (by decide)) ?_
                  refine n_top (HV_kN (HV_yT (HV_wN hV G (Nat.le_refl G))) i).p ?_
                  refine lv_icmp_ge (tgt := 112) hx hb dX5_oneWeek_67 (by decide) (fun c_3 => ?_) (fun c_3 => ?_)
                  · have c_3 : P ≤ i := (nI_leI (a := P) (b := i) (by omega) (by omega)).mp c_3
                    have hW : Wd E A s.heap (wcat [MR E a b fs (kN (yT (wN S P G) P G) G P)]) H locs := by rw [show kN (yT (wN S P G) P G) G P = kN (yT (wN S P G) P G) G i by rw [show i = P by omega]]; exact hW
                    refine lv_aload_n hx hb dX5_oneWeek_112 rfl (lv_at hl 0 rfl) ?_
                    refine r_get hC hW flX5_7 0 rfl hf dX5_oneWeek_113 ?_
                    refine lv_iconst (v := 0) hx hb dX5_oneWeek_116 (by decide) ?_
                    refine lv_dup2_11 hx hb dX5_oneWeek_117 rfl rfl ?_
                    refine r_iald hC hW 1 rfl 0 rfl (by omega) (by decide) dX5_oneWeek_118 ?_
                    refine n_top (enc_0 (kN (yT (wN S P G) P G) G P) (by decide)) ?_
                    refine lv_iconst (v := 1) hx hb dX5_oneWeek_119 (by decide) ?_
                    refine n_iadd (v := (((kN (yT (wN S P G) P G) G P) 0 0) + 1)) hx hb dX5_oneWeek_120 rfl ?_
                    refine r_iast (ws' := (wcat [MR E a b fs (wk S P G)])) hC hD hW 1 rfl 0 rfl (by omega) (by decide) rfl (by rw [upd_0 _ (by decide)]; rfl) dX5_oneWeek_121 (fun H locs hW => ?_)
                    exact r_vret hC hQ hD hW () trivial rfl rfl dX5_oneWeek_122
                  · have c_3 : ¬ P ≤ i := fun z_ => c_3 ((nI_leI (a := P) (b := i) (by omega) (by omega)).mpr z_)
                    refine lv_aload_n hx hb dX5_oneWeek_70 rfl (lv_at hl 0 rfl) ?_
                    refine lv_iload_n hx hb dX5_oneWeek_71 rfl (lv_at hl 1 rfl) ?_
                    refine lv_iconst (v := 3) hx hb dX5_oneWeek_72 (by decide) ?_
                    refine r_callCi hC hD hW hA lkX5_57 (c_X5_its l E a b fs hf (kN (yT (wN S P G) P G) G i) i 3 (by omega) (by omega)) rfl rfl ⟨by decide, by decide, by decide, by decide⟩ [0] rfl rfl rfl (fun _ => rfl) hl.1 rfl rfl (Nat.le_of_ble_eq_true rfl) dX5_oneWeek_73 (fun r_4 _ H locs hr_4 hW => ?_)
                    have hW : Wd E A s.heap (wcat [MR E a b fs (kN (yT (wN S P G) P G) G i)]) H locs := hW
                    have hr_4 : r_4 = ((kN (yT (wN S P G) P G) G i) 4 i) := hr_4
                    subst hr_4
                    refine lv_if_ne (tgt := 106) hx hb dX5_oneWeek_76 (by decide) (fun c_5 => ?_) (fun c_5 => ?_)
                    · have hW : Wd E A s.heap (wcat [MR E a b fs (kN (yT (wN S P G) P G) G (i + 1))]) H locs := by rw [kN_f c_5]; exact hW
                      refine lv_iinc (v := (nI (i + 1))) (lv' := [(1, .int (nI (i + 1))), (0, .ref a)]) (k := 1) hx hb dX5_oneWeek_106 hl rfl (nI_inc i 1) (by decide) rfl (fun ls hl => ?_)
                      refine lv_goto (tgt := 60) hx hb dX5_oneWeek_109 (by decide) ?_
                      exact ih60 (i + 1) _ _ _ (by omega) (by omega) hW (lv_sub hl [1, 0] rfl)
                    · refine lv_aload_n hx hb dX5_oneWeek_79 rfl (lv_at hl 0 rfl) ?_
                      refine lv_iload_n hx hb dX5_oneWeek_80 rfl (lv_at hl 1 rfl) ?_
                      refine lv_iconst (v := 2) hx hb dX5_oneWeek_81 (by decide) ?_
                      refine lv_aload_n hx hb dX5_oneWeek_82 rfl (lv_at hl 0 rfl) ?_
                      refine lv_iload_n hx hb dX5_oneWeek_83 rfl (lv_at hl 1 rfl) ?_
                      refine lv_iconst (v := 2) hx hb dX5_oneWeek_84 (by decide) ?_
                      refine r_callCi hC hD hW hA lkX5_57 (c_X5_its l E a b fs hf (kN (yT (wN S P G) P G) G i) i 2 (by omega) (by omega)) rfl rfl ⟨by decide, by decide, by decide, by decide⟩ [0] rfl rfl rfl (fun _ => rfl) hl.1 rfl rfl (Nat.le_of_ble_eq_true rfl) dX5_oneWeek_85 (fun r_6 _ H locs hr_6 hW => ?_)
                      have hW : Wd E A s.heap (wcat [MR E a b fs (kN (yT (wN S P G) P G) G i)]) H locs := hW
                      have hr_6 : r_6 = ((kN (yT (wN S P G) P G) G i) 3 i) := hr_6
                      subst hr_6
                      refine lv_aload_n hx hb dX5_oneWeek_88 rfl (lv_at hl 0 rfl) ?_
                      refine lv_iload_n hx hb dX5_oneWeek_89 rfl (lv_at hl 1 rfl) ?_
                      refine r_callCi hC hD hW hA lkX5_101 (c_X5_minds l E a b fs hf (kN (yT (wN S P G) P G) G i) P G (HV_kN (HV_yT (HV_wN hV G (Nat.le_refl G))) i) i (by omega)) rfl rfl ⟨by decide, by decide, by decide, by decide⟩ [0] rfl rfl rfl (fun _ => rfl) hl.1 rfl rfl (Nat.le_of_ble_eq_true rfl) dX5_oneWeek_90 (fun r_7 _ H locs hr_7 hW => ?_)
                      have hW : Wd E A s.heap (wcat [MR E a b fs (kN (yT (wN S P G) P G) G i)]) H locs := hW
                      have hr_7 : r_7 = (mnd (kN (yT (wN S P G) P G) G i) i G) := hr_7
                      subst hr_7
                      refine n_iadd (v := (((kN (yT (wN S P G) P G) G i) 3 i) + (mnd (kN (yT (wN S P G) P G) G i) i G))) hx hb dX5_oneWeek_93 rfl ?_
                      refine lv_sipush (v := (-999)) hx hb dX5_oneWeek_94 (by decide) ?_
                      refine lv_sipush (v := 999) hx hb dX5_oneWeek_97 (by decide) ?_
                      refine r_callSi hC hD hW hA lkX5_134 (c_X5_held l E (((kN (yT (wN S P G) P G) G i) 3 i) + (mnd (kN (yT (wN S P G) P G) G i) i G)) (-999) 999) ⟨by decide, by decide, by decide, by decide⟩ rfl hl.1 rfl rfl (Nat.le_of_ble_eq_true rfl) dX5_oneWeek_100 (fun r_8 _ H locs hr_8 hW => ?_)
                      have hW : Wd E A s.heap (wcat [MR E a b fs (kN (yT (wN S P G) P G) G i)]) H locs := hW
                      have hr_8 : r_8 = (if (((kN (yT (wN S P G) P G) G i) 3 i) + (mnd (kN (yT (wN S P G) P G) G i) i G)) < (-999) then (-999) else if 999 < (((kN (yT (wN S P G) P G) G i) 3 i) + (mnd (kN (yT (wN S P G) P G) G i) i G)) then 999 else (((kN (yT (wN S P G) P G) G i) 3 i) + (mnd (kN (yT (wN S P G) P G) G i) i G))) := hr_8
                      subst hr_8
                      refine n_top rfl ?_
                      refine r_callCv hC hD hW hA lkX5_86 (c_X5_puts l E a b fs hf (kN (yT (wN S P G) P G) G i) i 2 (hld ((kN (yT (wN S P G) P G) G i) 3 i + mnd (kN (yT (wN S P G) P G) G i) i G)) (by omega) (by omega)) rfl rfl ⟨by decide, by decide, by decide, by decide⟩ [0] rfl rfl rfl (fun _ => rfl) hl.1 rfl rfl (Nat.le_of_ble_eq_true rfl) dX5_oneWeek_103 (fun _ H locs hr_9 hW => ?_)
                      have hW : Wd E A s.heap (wcat [MR E a b fs (st (kN (yT (wN S P G) P G) G i) 3 i (hld ((kN (yT (wN S P G) P G) G i) 3 i + mnd (kN (yT (wN S P G) P G) G i) i G)))]) H locs := hW
                      have hW : Wd E A s.heap (wcat [MR E a b fs (kN (yT (wN S P G) P G) G (i + 1))]) H locs := by rw [kN_t c_5]; exact hW
                      refine lv_iinc (v := (nI (i + 1))) (lv' := [(1, .int (nI (i + 1))), (0, .ref a)]) (k := 1) hx hb dX5_oneWeek_106 hl rfl (nI_inc i 1) (by decide) rfl (fun ls hl => ?_)
                      refine lv_goto (tgt := 60) hx hb dX5_oneWeek_109 (by decide) ?_
                      exact ih60 (i + 1) _ _ _ (by omega) (by omega) hW (lv_sub hl [1, 0] rfl)
              exact L60 (P - 0 + 1) 0 _ _ _ (Nat.lt_succ_self _) (by omega) hW (lv_sub hl [1, 0] rfl)
            · have c_2 : ¬ G ≤ i := fun z_ => c_2 ((nI_leI (a := G) (b := i) (by omega) (by omega)).mpr z_)
              refine lv_aload_n hx hb dX5_oneWeek_35 rfl (lv_at hl 0 rfl) ?_
              refine r_get hC hW flX5_7 0 rfl hf dX5_oneWeek_36 ?_
              refine lv_iconst (v := 0) hx hb dX5_oneWeek_39 (by decide) ?_
              refine r_iald hC hW 1 rfl 0 rfl (by omega) (by decide) dX5_oneWeek_40 ?_
              refine n_top (enc_0 (yN (wN S P G) P G i) (by decide)) ?_
              refine n_top (congrFun (yN_row (by decide) i) 0) ?_
              refine lv_iconst (v := 2) hx hb dX5_oneWeek_41 (by decide) ?_
              refine n_irem (v := ((wN S P G 0 0) - (wN S P G 0 0) / 2 * 2)) hx hb dX5_oneWeek_42 (by decide) rfl ?_
              refine lv_iconst (v := 1) hx hb dX5_oneWeek_43 (by decide) ?_
              refine lv_icmp_ne (tgt := 58) hx hb dX5_oneWeek_44 (by decide) (fun c_10 => ?_) (fun c_10 => ?_)
              · have hW : Wd E A s.heap (wcat [MR E a b fs (yT (wN S P G) P G)]) H locs := by rw [yT_no c_10 hod]; exact hW
                refine lv_iconst (v := 0) hx hb dX5_oneWeek_58 (by decide) ?_
                refine lv_istore_n (lv' := [(1, .int 0), (0, .ref a)]) hx hb dX5_oneWeek_59 rfl hl (by decide) rfl (fun ls hl => ?_)
                have L60 : ∀ (n_ : Nat) (i : Nat) (H : Heap) (locs : List Loc) (ls : Array Slot), P - i < n_ → i ≤ P → Wd E A s.heap (wcat [MR E a b fs (kN (yT (wN S P G) P G) G i)]) H locs → lv_has ls 2 [(0, .ref a), (1, .int (nI i))] → W p l e R s m args below meth c H locs 0 0 Q (F0 m 60 ls []) := by
                  intro n_
                  induction n_ with
                  | zero => intro i H locs ls hm; exact absurd hm (Nat.not_lt_zero _)
                  | succ n_ ih60 =>
                    intro i H locs ls hm hi hW hl
                    refine lv_iload_n hx hb dX5_oneWeek_60 rfl (lv_at hl 1 rfl) ?_
                    refine lv_aload_n hx hb dX5_oneWeek_61 rfl (lv_at hl 0 rfl) ?_
                    refine r_get hC hW flX5_7 0 rfl hf dX5_oneWeek_62 ?_
                    refine lv_iconst (v := 2) hx hb dX5_oneWeek_65 (by decide) ?_
                    refine r_iald hC hW 1 rfl 2 rfl (by omega) (by decide) dX5_oneWeek_66 ?_
                    refine n_top (enc_0 (kN (yT (wN S P G) P G) G i) (by decide)) ?_
                    refine n_top (HV_kN (HV_yT (HV_wN hV G (Nat.le_refl G))) i).p ?_
                    refine lv_icmp_ge (tgt := 112) hx hb dX5_oneWeek_67 (by decide) (fun c_11 => ?_) (fun c_11 => ?_)
                    · have c_11 : P ≤ i := (nI_leI (a := P) (b := i) (by omega) (by omega)).mp c_11
                      have hW : Wd E A s.heap (wcat [MR E a b fs (kN (yT (wN S P G) P G) G P)]) H locs := by rw [show kN (yT (wN S P G) P G) G P = kN (yT (wN S P G) P G) G i by rw [show i = P by omega]]; exact hW
                      refine lv_aload_n hx hb dX5_oneWeek_112 rfl (lv_at hl 0 rfl) ?_
                      refine r_get hC hW flX5_7 0 rfl hf dX5_oneWeek_113 ?_
                      refine lv_iconst (v := 0) hx hb dX5_oneWeek_116 (by decide) ?_
                      refine lv_dup2_11 hx hb dX5_oneWeek_117 rfl rfl ?_
                      refine r_iald hC hW 1 rfl 0 rfl (by omega) (by decide) dX5_oneWeek_118 ?_
                      refine n_top (enc_0 (kN (yT (wN S P G) P G) G P) (by decide)) ?_
                      refine lv_iconst (v := 1) hx hb dX5_oneWeek_119 (by decide) ?_
                      refine n_iadd (v := (((kN (yT (wN S P G) P G) G P) 0 0) + 1)) hx hb dX5_oneWeek_120 rfl ?_
                      refine r_iast (ws' := (wcat [MR E a b fs (wk S P G)])) hC hD hW 1 rfl 0 rfl (by omega) (by decide) rfl (by rw [upd_0 _ (by decide)]; rfl) dX5_oneWeek_121 (fun H locs hW => ?_)
                      exact r_vret hC hQ hD hW () trivial rfl rfl dX5_oneWeek_122
                    · have c_11 : ¬ P ≤ i := fun z_ => c_11 ((nI_leI (a := P) (b := i) (by omega) (by omega)).mpr z_)
                      refine lv_aload_n hx hb dX5_oneWeek_70 rfl (lv_at hl 0 rfl) ?_
                      refine lv_iload_n hx hb dX5_oneWeek_71 rfl (lv_at hl 1 rfl) ?_
                      refine lv_iconst (v := 3) hx hb dX5_oneWeek_72 (by decide) ?_
                      refine r_callCi hC hD hW hA lkX5_57 (c_X5_its l E a b fs hf (kN (yT (wN S P G) P G) G i) i 3 (by omega) (by omega)) rfl rfl ⟨by decide, by decide, by decide, by decide⟩ [0] rfl rfl rfl (fun _ => rfl) hl.1 rfl rfl (Nat.le_of_ble_eq_true rfl) dX5_oneWeek_73 (fun r_12 _ H locs hr_12 hW => ?_)
                      have hW : Wd E A s.heap (wcat [MR E a b fs (kN (yT (wN S P G) P G) G i)]) H locs := hW
                      have hr_12 : r_12 = ((kN (yT (wN S P G) P G) G i) 4 i) := hr_12
                      subst hr_12
                      refine lv_if_ne (tgt := 106) hx hb dX5_oneWeek_76 (by decide) (fun c_13 => ?_) (fun c_13 => ?_)
                      · have hW : Wd E A s.heap (wcat [MR E a b fs (kN (yT (wN S P G) P G) G (i + 1))]) H locs := by rw [kN_f c_13]; exact hW
                        refine lv_iinc (v := (nI (i + 1))) (lv' := [(1, .int (nI (i + 1))), (0, .ref a)]) (k := 1) hx hb dX5_oneWeek_106 hl rfl (nI_inc i 1) (by decide) rfl (fun ls hl => ?_)
                        refine lv_goto (tgt := 60) hx hb dX5_oneWeek_109 (by decide) ?_
                        exact ih60 (i + 1) _ _ _ (by omega) (by omega) hW (lv_sub hl [1, 0] rfl)
                      · refine lv_aload_n hx hb dX5_oneWeek_79 rfl (lv_at hl 0 rfl) ?_
                        refine lv_iload_n hx hb dX5_oneWeek_80 rfl (lv_at hl 1 rfl) ?_
                        refine lv_iconst (v := 2) hx hb dX5_oneWeek_81 (by decide) ?_
                        refine lv_aload_n hx hb dX5_oneWeek_82 rfl (lv_at hl 0 rfl) ?_
                        refine lv_iload_n hx hb dX5_oneWeek_83 rfl (lv_at hl 1 rfl) ?_
                        refine lv_iconst (v := 2) hx hb dX5_oneWeek_84 (by decide) ?_
                        refine r_callCi hC hD hW hA lkX5_57 (c_X5_its l E a b fs hf (kN (yT (wN S P G) P G) G i) i 2 (by omega) (by omega)) rfl rfl ⟨by decide, by decide, by decide, by decide⟩ [0] rfl rfl rfl (fun _ => rfl) hl.1 rfl rfl (Nat.le_of_ble_eq_true rfl) dX5_oneWeek_85 (fun r_14 _ H locs hr_14 hW => ?_)
                        have hW : Wd E A s.heap (wcat [MR E a b fs (kN (yT (wN S P G) P G) G i)]) H locs := hW
                        have hr_14 : r_14 = ((kN (yT (wN S P G) P G) G i) 3 i) := hr_14
                        subst hr_14
                        refine lv_aload_n hx hb dX5_oneWeek_88 rfl (lv_at hl 0 rfl) ?_
                        refine lv_iload_n hx hb dX5_oneWeek_89 rfl (lv_at hl 1 rfl) ?_
                        refine r_callCi hC hD hW hA lkX5_101 (c_X5_minds l E a b fs hf (kN (yT (wN S P G) P G) G i) P G (HV_kN (HV_yT (HV_wN hV G (Nat.le_refl G))) i) i (by omega)) rfl rfl ⟨by decide, by decide, by decide, by decide⟩ [0] rfl rfl rfl (fun _ => rfl) hl.1 rfl rfl (Nat.le_of_ble_eq_true rfl) dX5_oneWeek_90 (fun r_15 _ H locs hr_15 hW => ?_)
                        have hW : Wd E A s.heap (wcat [MR E a b fs (kN (yT (wN S P G) P G) G i)]) H locs := hW
                        have hr_15 : r_15 = (mnd (kN (yT (wN S P G) P G) G i) i G) := hr_15
                        subst hr_15
                        refine n_iadd (v := (((kN (yT (wN S P G) P G) G i) 3 i) + (mnd (kN (yT (wN S P G) P G) G i) i G))) hx hb dX5_oneWeek_93 rfl ?_
                        refine lv_sipush (v := (-999)) hx hb dX5_oneWeek_94 (by decide) ?_
                        refine lv_sipush (v := 999) hx hb dX5_oneWeek_97 (by decide) ?_
                        refine r_callSi hC hD hW hA lkX5_134 (c_X5_held l E (((kN (yT (wN S P G) P G) G i) 3 i) + (mnd (kN (yT (wN S P G) P G) G i) i G)) (-999) 999) ⟨by decide, by decide, by decide, by decide⟩ rfl hl.1 rfl rfl (Nat.le_of_ble_eq_true rfl) dX5_oneWeek_100 (fun r_16 _ H locs hr_16 hW => ?_)
                        have hW : Wd E A s.heap (wcat [MR E a b fs (kN (yT (wN S P G) P G) G i)]) H locs := hW
                        have hr_16 : r_16 = (if (((kN (yT (wN S P G) P G) G i) 3 i) + (mnd (kN (yT (wN S P G) P G) G i) i G)) < (-999) then (-999) else if 999 < (((kN (yT (wN S P G) P G) G i) 3 i) + (mnd (kN (yT (wN S P G) P G) G i) i G)) then 999 else (((kN (yT (wN S P G) P G) G i) 3 i) + (mnd (kN (yT (wN S P G) P G) G i) i G))) := hr_16
                        subst hr_16
                        refine n_top rfl ?_
                        refine r_callCv hC hD hW hA lkX5_86 (c_X5_puts l E a b fs hf (kN (yT (wN S P G) P G) G i) i 2 (hld ((kN (yT (wN S P G) P G) G i) 3 i + mnd (kN (yT (wN S P G) P G) G i) i G)) (by omega) (by omega)) rfl rfl ⟨by decide, by decide, by decide, by decide⟩ [0] rfl rfl rfl (fun _ => rfl) hl.1 rfl rfl (Nat.le_of_ble_eq_true rfl) dX5_oneWeek_103 (fun _ H locs hr_17 hW => ?_)
                        have hW : Wd E A s.heap (wcat [MR E a b fs (st (kN (yT (wN S P G) P G) G i) 3 i (hld ((kN (yT (wN S P G) P G) G i) 3 i + mnd (kN (yT (wN S P G) P G) G i) i G)))]) H locs := hW
                        have hW : Wd E A s.heap (wcat [MR E a b fs (kN (yT (wN S P G) P G) G (i + 1))]) H locs := by rw [kN_t c_13]; exact hW
                        refine lv_iinc (v := (nI (i + 1))) (lv' := [(1, .int (nI (i + 1))), (0, .ref a)]) (k := 1) hx hb dX5_oneWeek_106 hl rfl (nI_inc i 1) (by decide) rfl (fun ls hl => ?_)
                        refine lv_goto (tgt := 60) hx hb dX5_oneWeek_109 (by decide) ?_
                        exact ih60 (i + 1) _ _ _ (by omega) (by omega) hW (lv_sub hl [1, 0] rfl)
                exact L60 (P - 0 + 1) 0 _ _ _ (Nat.lt_succ_self _) (by omega) hW (lv_sub hl [1, 0] rfl)
              · refine lv_aload_n hx hb dX5_oneWeek_47 rfl (lv_at hl 0 rfl) ?_
                refine lv_iload_n hx hb dX5_oneWeek_48 rfl (lv_at hl 1 rfl) ?_
                refine r_callCv hC hD hW hA lkX5_142 (c_X5_lies l E a b fs hf (yN (wN S P G) P G i) P G (HV_yN (HV_wN hV G (Nat.le_refl G)) i) i (by omega)) rfl rfl ⟨by decide, by decide, by decide, by decide⟩ [0] rfl rfl rfl (fun _ => rfl) hl.1 rfl rfl (Nat.le_of_ble_eq_true rfl) dX5_oneWeek_49 (fun _ H locs hr_18 hW => ?_)
                have hW : Wd E A s.heap (wcat [MR E a b fs (yN (wN S P G) P G (i + 1))]) H locs := hW
                refine lv_iinc (v := (nI (i + 1))) (lv' := [(1, .int (nI (i + 1))), (0, .ref a)]) (k := 1) hx hb dX5_oneWeek_52 hl rfl (nI_inc i 1) (by decide) rfl (fun ls hl => ?_)
                refine lv_goto (tgt := 25) hx hb dX5_oneWeek_55 (by decide) ?_
                exact ih25 (i + 1) _ _ _ (by omega) (by omega) (Or.inr c_10) hW (lv_sub hl [1, 0] rfl)
        exact L25 (G - 0 + 1) 0 _ _ _ (Nat.lt_succ_self _) (by omega) (Or.inl rfl) hW (lv_sub hl [1, 0] rfl)
      · have c_1 : ¬ G ≤ i := fun z_ => c_1 ((nI_leI (a := G) (b := i) (by omega) (by omega)).mpr z_)
        refine lv_aload_n hx hb dX5_oneWeek_12 rfl (lv_at hl 0 rfl) ?_
        refine lv_iload_n hx hb dX5_oneWeek_13 rfl (lv_at hl 1 rfl) ?_
        refine r_callCv hC hD hW hA lkX5_138 (c_X5_washes l E a b fs hf (wN S P i) P G (HV_wN hV i hi) i (by omega)) rfl rfl ⟨by decide, by decide, by decide, by decide⟩ [0] rfl rfl rfl (fun _ => rfl) hl.1 rfl rfl (Nat.le_of_ble_eq_true rfl) dX5_oneWeek_14 (fun _ H locs hr_19 hW => ?_)
        have hW : Wd E A s.heap (wcat [MR E a b fs (wN S P (i + 1))]) H locs := hW
        refine lv_iinc (v := (nI (i + 1))) (lv' := [(1, .int (nI (i + 1))), (0, .ref a)]) (k := 1) hx hb dX5_oneWeek_17 hl rfl (nI_inc i 1) (by decide) rfl (fun ls hl => ?_)
        refine lv_goto (tgt := 2) hx hb dX5_oneWeek_20 (by decide) ?_
        exact ih (i + 1) _ _ _ (by omega) (by omega) hW (lv_sub hl [1, 0] rfl)
  exact L2 (G - 0 + 1) 0 _ _ _ (Nat.lt_succ_self _) (by omega) hW (lv_sub hl [1, 0] rfl)
set_option maxHeartbeats 4000000 in
set_option maxRecDepth 100000 in
theorem c_X5_passes (l : Launch) (E : Ev) (a : Nat) (b : Nat) (fs : List Value) (hf : fs[0]? = some (.ref b)) (S : HS) (P : Nat) (G : Nat) (hV : HV S P G) (n : Nat) (hn : n ≤ 100) : MV l E yX5_passes cX5_passes 3 5 113 0 0 [.ref a, .int (nI n)] (wcat [MR E a b fs S]) (fun (_ : Unit) => True) (fun (_ : Unit) => (wcat [MR E a b fs (wks S P G n)])) := by
  refine MV_intro RX5 (by decide) rfl (Nat.le_of_ble_eq_true rfl) ?_
  intro p e R s m args below meth c A Q hQ hC hnm hD hW hA ls hl
  have hx := hC.1
  have hb := hC.2.1
  have hW : Wd E A s.heap (wcat [MR E a b fs S]) s.heap [] := hW
  have hD : Dj A [a, b] := hD
  have hl : lv_has ls 3 [(0, .ref a), (1, .int (nI n))] := hl
  have hP := hV.p
  have hP1 := hV.p6
  have hG := hV.g
  have hG1 := hV.g10
  refine lv_iconst (v := 0) hx hb dX5_passes_0 (by decide) ?_
  refine lv_istore_n (lv' := [(2, .int 0), (0, .ref a), (1, .int (nI n))]) hx hb dX5_passes_1 rfl hl (by decide) rfl (fun ls hl => ?_)
  have L2 : ∀ (n_ : Nat) (i : Nat) (H : Heap) (locs : List Loc) (ls : Array Slot), n - i < n_ → i ≤ n → Wd E A s.heap (wcat [MR E a b fs (wks S P G i)]) H locs → lv_has ls 3 [(0, .ref a), (1, .int (nI n)), (2, .int (nI i))] → W p l e R s m args below meth c H locs 0 0 Q (F0 m 2 ls []) := by
    intro n_
    induction n_ with
    | zero => intro i H locs ls hm; exact absurd hm (Nat.not_lt_zero _)
    | succ n_ ih =>
      intro i H locs ls hm hi hW hl
      refine lv_iload_n hx hb dX5_passes_2 rfl (lv_at hl 2 rfl) ?_
      refine lv_iload_n hx hb dX5_passes_3 rfl (lv_at hl 1 rfl) ?_
      refine lv_icmp_ge (tgt := 17) hx hb dX5_passes_4 (by decide) (fun c_1 => ?_) (fun c_1 => ?_)
      · have c_1 : n ≤ i := (nI_leI (a := n) (b := i) (by omega) (by omega)).mp c_1
        exact r_vret hC hQ hD hW () trivial (by rw [show i = n by omega]) rfl dX5_passes_17
      · have c_1 : ¬ n ≤ i := fun z_ => c_1 ((nI_leI (a := n) (b := i) (by omega) (by omega)).mpr z_)
        refine lv_aload_n hx hb dX5_passes_7 rfl (lv_at hl 0 rfl) ?_
        refine r_callCv hC hD hW hA lkX5_145 (c_X5_oneWeek l E a b fs hf (wks S P G i) P G (HV_wks hV i)) rfl rfl ⟨by decide, by decide, by decide, by decide⟩ [0] rfl rfl rfl (fun _ => rfl) hl.1 rfl rfl (Nat.le_of_ble_eq_true rfl) dX5_passes_8 (fun _ H locs hr_2 hW => ?_)
        have hW : Wd E A s.heap (wcat [MR E a b fs (wks S P G (i + 1))]) H locs := hW
        refine lv_iinc (v := (nI (i + 1))) (lv' := [(2, .int (nI (i + 1))), (0, .ref a), (1, .int (nI n))]) (k := 2) hx hb dX5_passes_11 hl rfl (nI_inc i 1) (by decide) rfl (fun ls hl => ?_)
        refine lv_goto (tgt := 2) hx hb dX5_passes_14 (by decide) ?_
        exact ih (i + 1) _ _ _ (by omega) (by omega) hW (lv_sub hl [1, 2, 0] rfl)
  exact L2 (n - 0 + 1) 0 _ _ _ (Nat.lt_succ_self _) (by omega) hW (lv_sub hl [1, 2, 0] rfl)
