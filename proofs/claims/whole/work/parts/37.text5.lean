/-! the component's token state -/
noncomputable def tTn (x : Int32) : Nat := cif (ltP x) 1 (cif (dgP x) 2 (if x = 59 then 3 else 4))
theorem tTn_le (x : Int32) : tTn x ≤ 4 := by
  unfold tTn cif
  repeat' split
  all_goals decide
theorem tTn_ge (x : Int32) : 1 ≤ tTn x := by
  unfold tTn cif
  repeat' split
  all_goals decide
theorem tTn_1 {x : Int32} : tTn x = 1 ↔ ltP x := by
  unfold tTn
  by_cases h : ltP x
  · rw [cif_t h]; exact ⟨fun _ => h, fun _ => rfl⟩
  · rw [cif_f h]
    refine ⟨fun q => ?_, fun q => absurd q h⟩
    unfold cif at q
    repeat' split at q
    all_goals exact absurd q (by decide)
theorem tTn_2 {x : Int32} : tTn x = 2 ↔ dgP x := by
  unfold tTn
  by_cases h : ltP x
  · rw [cif_t h]
    refine ⟨fun q => absurd q (by decide), fun q => ?_⟩
    obtain ⟨v, a1, a2, e⟩ := dgP_v q
    obtain ⟨u, b1, b2, e2⟩ := ltP_v h
    have := (nI_eq (a := v) (b := u) (by omega) (by omega)).mp (e.symm.trans e2)
    omega
  · rw [cif_f h]
    by_cases h2 : dgP x
    · rw [cif_t h2]; exact ⟨fun _ => h2, fun _ => rfl⟩
    · rw [cif_f h2]
      refine ⟨fun q => ?_, fun q => absurd q h2⟩
      split at q <;> exact absurd q (by decide)
theorem tKd_in {tp : Nat → Int32} {tl k : Nat} (h : k < tl) : tKd tp tl k = tTn (tp k) := by unfold tKd tTn; rw [if_pos h]
def nc (T : Nat) (tp : Nat → Int32) (b k : Nat) : Nat := if T = 2 then min 1000 (tNv tp b k) else 0
noncomputable def tNc (tp : Nat → Int32) (tl b : Nat) : Nat := nc (tKd tp tl b) tp b (tEn tp tl b - b)
def YT (tp : Nat → Int32) (tl b : Nat) (y : Nat → Int32) : Prop := y 0 = nI tl ∧ y 1 = nI (tKd tp tl b) ∧ y 2 = nI b ∧ y 3 = nI (tEn tp tl b) ∧ y 4 = nI (tNc tp tl b)
theorem nc_o {T b k : Nat} {tp : Nat → Int32} (h : ¬ T = 2) : nc T tp b k = nc T tp b (k + 1) := by unfold nc; rw [if_neg h, if_neg h]
theorem nc_min {T b k : Nat} {tp : Nat → Int32} (h : T = 2) (hd : dgP (tp (b + k))) : (if nI (nc T tp b k * 10) + tp (b + k) - 48 < 1000 then nI (nc T tp b k * 10) + tp (b + k) - 48 else 1000) = nI (nc T tp b (k + 1)) := by
  obtain ⟨v, h1, h2, e⟩ := dgP_v hd
  have e2 : nI (nc T tp b k * 10) + tp (b + k) - 48 = nI (nc T tp b k * 10 + (v - 48)) := by
    rw [e, nI_add]
    exact (pk_sub (a := nc T tp b k * 10 + v) (b := 48) (by omega)).trans (congrArg nI (by omega))
  have hn : nc T tp b k ≤ 1000 := by unfold nc; rw [if_pos h]; omega
  have e3 : nc T tp b (k + 1) = min 1000 (nc T tp b k * 10 + (v - 48)) := by
    unfold nc
    rw [if_pos h, if_pos h, tNv, e, ix_nI (by omega)]
    split <;> omega
  rw [e2, e3]
  by_cases c : nc T tp b k * 10 + (v - 48) < 1000
  · rw [if_pos (show nI (nc T tp b k * 10 + (v - 48)) < 1000 from (nI_ltI (b := 1000) (by omega) (by decide)).mpr c)]
    exact congrArg nI (by omega)
  · rw [if_neg (show ¬ nI (nc T tp b k * 10 + (v - 48)) < 1000 from fun z => c ((nI_ltI (b := 1000) (by omega) (by decide)).mp z))]
    exact (congrArg nI (show 1000 = min 1000 (nc T tp b k * 10 + (v - 48)) by omega))
theorem tRn_run {q : Int32 → Prop} {tp : Nat → Int32} {tl b : Nat} : ∀ k, b + k ≤ tl → (∀ i, i < k → q (tBt tp tl (b + i))) → tRn q tp tl b = tRn q tp tl (b + k)
  | 0, _, _ => rfl
  | k + 1, h, hq => (tRn_run k (by omega) (fun i hi => hq i (by omega))).trans (tRn_t (hq k (by omega)) (by omega))
theorem YT_of {tp : Nat → Int32} {tl b k T L : Nat} {y : Nat → Int32} (hT : tKd tp tl b = T) (hb : b ≤ tl) (hL : ((T = 3 ∨ T = 4) ∧ L = b + 1) ∨ (¬ (T = 3 ∨ T = 4) ∧ L = tl)) (hk : b + k ≤ L) (hLt : L ≤ tl) (hr : ∀ i, i < k → tTn (tp (b + i)) = T) (hx : L ≤ b + k ∨ ¬ tTn (tp (b + k)) = T) (h0 : y 0 = nI tl) (h1 : y 1 = nI T) (h2 : y 2 = nI b) (h3 : y 3 = nI (b + k)) (h4 : y 4 = nI (nc T tp b k)) : YT tp tl b y := by
  have h5 := tKd_le tp tl b
  have en : tEn tp tl b = b + k := by
    by_cases t0 : T = 0
    · have := tKd_0.mp (hT.trans t0)
      rw [tEn_0 (hT.trans t0)]
      omega
    · have hlt : b < tl := by
        by_cases c : b < tl
        · exact c
        · have := (tKd_0 (tp := tp)).mpr c; omega
      have hT2 := (tKd_in (tp := tp) hlt).symm.trans hT
      by_cases t1 : T = 1
      · rw [tEn_1 (hT.trans t1), tRn_run (q := ltP) k (by omega) (fun i hi => by rw [tBt_in (by omega)]; exact tTn_1.mp ((hr i hi).trans t1))]
        apply tRn_f
        intro hl
        have h6 := tBt_lt nlt hl
        rw [tBt_in h6] at hl
        rcases hx with hx | hx
        · omega
        · exact hx ((tTn_1.mpr hl).trans t1.symm)
      · by_cases t2 : T = 2
        · rw [tEn_2 (hT.trans t2), tRn_run (q := dgP) k (by omega) (fun i hi => by rw [tBt_in (by omega)]; exact tTn_2.mp ((hr i hi).trans t2))]
          apply tRn_f
          intro hl
          have h6 := tBt_lt ndg hl
          rw [tBt_in h6] at hl
          rcases hx with hx | hx
          · omega
          · exact hx ((tTn_2.mpr hl).trans t2.symm)
        · rw [tEn_3 (by omega)]
          rcases hx with hx | hx
          · omega
          · by_cases k0 : k = 0
            · subst k0; exact absurd hT2 hx
            · omega
  refine ⟨h0, by rw [h1, hT], h2, by rw [h3, en], ?_⟩
  rw [h4]
  unfold tNc
  rw [hT, en, show b + k - b = k by omega]
theorem tNm_c {tp : Nat → Int32} {tl b : Nat} {lo hi : Int32} {y : Nat → Int32} (hY : YT tp tl b y) (hh : hi ≤ 999) : (y 1 = 2 ∧ (lo ≤ y 4 ∧ y 4 ≤ hi)) ↔ tNm tp tl b lo hi := by
  obtain ⟨-, h1, -, -, h4⟩ := hY
  have h5 := tKd_le tp tl b
  unfold tNm
  by_cases k2 : tKd tp tl b = 2
  · have e1 : y 1 = 2 := by rw [h1, k2]; rfl
    have e4 : tNc tp tl b = min 1000 (tNr tp tl b) := by unfold tNc nc; rw [if_pos k2]; rfl
    have hle := tNr_le k2
    rw [h4, e4]
    have q0 : (nI (min 1000 (tNr tp tl b))).toInt = (min 1000 (tNr tp tl b) : Nat) := nI_toInt (by omega)
    have q1 : (nI (tNr tp tl b)).toInt = (tNr tp tl b : Nat) := nI_toInt (by omega)
    have q9 : (999 : Int32).toInt = 999 := by decide
    simp only [Int32.le_iff_toInt_le, q0, q1, q9] at hh ⊢
    constructor
    · rintro ⟨-, a, b⟩; exact ⟨k2, by omega, by omega⟩
    · rintro ⟨-, a, b⟩; exact ⟨e1, by omega, by omega⟩
  · constructor
    · rintro ⟨a, -⟩
      rw [h1] at a
      exact absurd ((nI_eq (a := tKd tp tl b) (b := 2) (by omega) (by decide)).mp a) k2
    · rintro ⟨a, -⟩
      exact absurd a k2
theorem tNc_eq {tp : Nat → Int32} {tl b : Nat} {lo hi : Int32} (h : tNm tp tl b lo hi) (hh : hi ≤ 999) : tNc tp tl b = tNr tp tl b := by
  have hle := tNr_le h.1
  have q9 : (999 : Int32).toInt = 999 := by decide
  have q1 : (nI (tNr tp tl b)).toInt = (tNr tp tl b : Nat) := nI_toInt (by omega)
  have h3 := h.2.2
  rw [Int32.le_iff_toInt_le] at h3 hh
  have e4 : tNc tp tl b = min 1000 (tNr tp tl b) := by unfold tNc nc; rw [if_pos h.1]; rfl
  rw [e4]
  omega
