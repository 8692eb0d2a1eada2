theorem nI_subk (a k : Nat) : nI (a + k) - nI a = nI k := (pk_sub (a := a + k) (b := a) (by omega)).trans (congrArg nI (by omega))
theorem tWh_s {tp : Nat → Int32} {tl b k : Nat} (h : k < 12) (hl : b + k < tl) : 27 * tWh tp b k + (tBt tp tl (b + k)).toInt64 - 96 = tWh tp b (k + 1) := by rw [tWh, if_pos h, tBt_in hl]
theorem tWh_n {tp : Nat → Int32} {b k : Nat} (h : ¬ k < 12) : (-1 : Int64) = tWh tp b (k + 1) := by rw [tWh, if_neg h]
theorem dg_add {tp : Nat → Int32} {tl j : Nat} (a : Nat) (h : dgP (tBt tp tl j)) : nI a + tBt tp tl j - 48 = nI (a + (ix (tp j) - 48)) := by
  have h9 := tBt_lt ndg h
  rw [tBt_in h9] at h ⊢
  obtain ⟨v, h1, h2, e⟩ := dgP_v h
  rw [e, ix_nI (by omega), nI_add]
  exact (pk_sub (a := a + v) (b := 48) (by omega)).trans (congrArg nI (by omega))
theorem tNv_b {tp : Nat → Int32} {tl b k : Nat} (hn : tNv tp b k ≤ 10000) (h : dgP (tBt tp tl (b + k))) : tNv tp b (k + 1) ≤ 10000 := by
  rw [tBt_in (tBt_lt ndg h)] at h
  obtain ⟨v, h1, h2, e⟩ := dgP_v h
  rw [tNv]
  split
  · omega
  · rw [e, ix_nI (by omega)]; omega
theorem ZT_end {tp : Nat → Int32} {tl k : Nat} {z : Nat → Int32} {w : Int64} (h : ¬ k < tl) (h0 : z 0 = nI tl) (h1 : z 1 = 0) (h2 : z 2 = nI k) (h3 : z 3 = nI k) (h4 : z 4 = tBt tp tl k) (hw : w = 0) : ZT tp tl k z w := by
  have kd := (tKd_0 (tp := tp)).mpr h
  refine ⟨h0, ?_, h2, ?_, ?_, ?_⟩
  · rw [h1]; unfold tSr; rw [kd]; rfl
  · rw [h3, tEn_0 kd]
  · rw [h4]; unfold tVl; rw [if_neg (by omega)]
  · rw [hw]; unfold tWv; rw [if_neg (by omega)]
theorem ZT_sign {tp : Nat → Int32} {tl k : Nat} {z : Nat → Int32} {w : Int64} (h : k < tl) (hl : ¬ ltP (tBt tp tl k)) (hd : ¬ dgP (tBt tp tl k)) (h0 : z 0 = nI tl) (h1 : z 1 = 3) (h2 : z 2 = nI k) (h3 : z 3 = nI (k + 1)) (h4 : z 4 = tBt tp tl k) (hw : w = 0) : ZT tp tl k z w := by
  have hl2 := hl
  have hd2 := hd
  rw [tBt_in h] at hl2 hd2
  have kd : tKd tp tl k = 3 ∨ tKd tp tl k = 4 := by
    by_cases c : tp k = 59
    · exact Or.inl (tKd_3 h hl2 hd2 c)
    · exact Or.inr (tKd_4 h hl2 hd2 c)
  refine ⟨h0, ?_, h2, ?_, ?_, ?_⟩
  · rw [h1]; unfold tSr
    rcases kd with e | e <;> rw [e] <;> rfl
  · rw [h3, tEn_3 (by omega)]
  · rw [h4]; unfold tVl; rw [if_neg (by omega)]
  · rw [hw]; unfold tWv; rw [if_neg (by omega)]
theorem ZT_word {tp : Nat → Int32} {tl k n : Nat} {z : Nat → Int32} {w : Int64} (hl : ltP (tBt tp tl k)) (hr : tRn ltP tp tl k = tRn ltP tp tl (k + n)) (hf : ¬ ltP (tBt tp tl (k + n))) (h0 : z 0 = nI tl) (h1 : z 1 = 1) (h2 : z 2 = nI k) (h3 : z 3 = nI (k + n)) (h4 : z 4 = tBt tp tl k) (hw : w = tWh tp k n) : ZT tp tl k z w := by
  have h := tBt_lt nlt hl
  rw [tBt_in h] at hl
  have kd := tKd_1 h hl
  have en : tEn tp tl k = k + n := by rw [tEn_1 kd, hr, tRn_f hf]
  refine ⟨h0, ?_, h2, ?_, ?_, ?_⟩
  · rw [h1]; unfold tSr; rw [kd]; rfl
  · rw [h3, en]
  · rw [h4]; unfold tVl; rw [if_neg (by omega)]
  · rw [hw]; unfold tWv; rw [if_pos kd, en, show k + n - k = n by omega]
theorem ZT_num {tp : Nat → Int32} {tl k n : Nat} {z : Nat → Int32} {w : Int64} (hl : ¬ ltP (tBt tp tl k)) (hd : dgP (tBt tp tl k)) (hr : tRn dgP tp tl k = tRn dgP tp tl (k + n)) (hf : ¬ dgP (tBt tp tl (k + n))) (h0 : z 0 = nI tl) (h1 : z 1 = 2) (h2 : z 2 = nI k) (h3 : z 3 = nI (k + n)) (h4 : z 4 = nI (tNv tp k n)) (hw : w = 0) : ZT tp tl k z w := by
  have h := tBt_lt ndg hd
  rw [tBt_in h] at hl hd
  have kd := tKd_2 h hl hd
  have en : tEn tp tl k = k + n := by rw [tEn_2 kd, hr, tRn_f hf]
  refine ⟨h0, ?_, h2, ?_, ?_, ?_⟩
  · rw [h1]; unfold tSr; rw [kd]; rfl
  · rw [h3, en]
  · rw [h4]; unfold tVl; rw [if_pos kd]; unfold tNr; rw [en, show k + n - k = n by omega]
  · rw [hw]; unfold tWv; rw [if_neg (by omega)]
