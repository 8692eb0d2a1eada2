theorem two01 {x : Int32} (h : 0 ≤ x ∧ x ≤ 5) (h2 : ¬ x = 2) (h3 : ¬ x = 3) (h4 : ¬ x = 4) (h5 : ¬ x = 5) : x = 0 ∨ x = 1 := by
  obtain ⟨n, hn, rfl⟩ := rng (k := 5) (by decide) h
  have a2 : n ≠ 2 := fun q => h2 (by rw [q]; rfl)
  have a3 : n ≠ 3 := fun q => h3 (by rw [q]; rfl)
  have a4 : n ≠ 4 := fun q => h4 (by rw [q]; rfl)
  have a5 : n ≠ 5 := fun q => h5 (by rw [q]; rfl)
  rcases (show n = 0 ∨ n = 1 by omega) with rfl | rfl
  · exact Or.inl rfl
  · exact Or.inr rfl
theorem mOf_out {S : HS} {F : FT} {P G : Nat} {x y : Int32} (h : isN P x) (hy : ¬ (0 ≤ y ∧ y ≤ 5)) : mOf S F P G x y = (-1000000001, fnd F 0) := by
  rw [mOf, cif_t h]
  have q : ∀ k : Nat, k ≤ 5 → ¬ y = nI k := fun k hk e => hy (by
    rw [e]
    exact ⟨nI_pos' (by omega), nI_le (b := 5) hk (by decide)⟩)
  rw [if_neg (show ¬ y = 0 from q 0 (by decide)), if_neg (show ¬ y = 1 from q 1 (by decide)), if_neg (show ¬ y = 2 from q 2 (by decide)), if_neg (show ¬ y = 3 from q 3 (by decide)), if_neg (show ¬ y = 4 from q 4 (by decide)), if_neg (show ¬ y = 5 from q 5 (by decide))]
theorem mGarmentOf_out {S : HS} {F : FT} {P G : Nat} {x y : Int32} (h : isN G x) (hy : ¬ (0 ≤ y ∧ y ≤ 5)) : mGarmentOf S F P G x y = (-1000000001, fnd F 0) := by
  rw [mGarmentOf, cif_t h]
  have q : ∀ k : Nat, k ≤ 5 → ¬ y = nI k := fun k hk e => hy (by
    rw [e]
    exact ⟨nI_pos' (by omega), nI_le (b := 5) hk (by decide)⟩)
  rw [if_neg (show ¬ y = 0 from q 0 (by decide)), if_neg (show ¬ y = 1 from q 1 (by decide)), if_neg (show ¬ y = 2 from q 2 (by decide)), if_neg (show ¬ y = 3 from q 3 (by decide)), if_neg (show ¬ y = 4 from q 4 (by decide)), if_neg (show ¬ y = 5 from q 5 (by decide))]
theorem mGarmentOf_lt {S : HS} {F : FT} {P G g k : Nat} (h : isN G (nI g)) (hg : g < 10) (hk : k < 4) : mGarmentOf S F P G (nI g) (nI k) = (S (5 + k) g, F) := by
  rw [mGarmentOf, cif_t h, ix_nI (by omega)]
  rcases (show k = 0 ∨ k = 1 ∨ k = 2 ∨ k = 3 by omega) with rfl | rfl | rfl | rfl
  · rw [if_pos (by decide)]
  · rw [if_neg (by decide), if_pos (by decide)]
  · rw [if_neg (by decide), if_neg (by decide), if_pos (by decide)]
  · rw [if_neg (by decide), if_neg (by decide), if_neg (by decide), if_pos (by decide)]
theorem mGarmentOf_4 {S : HS} {F : FT} {P G g k : Nat} (h : isN G (nI g)) (hg : g < 10) (hk : k = 4) : mGarmentOf S F P G (nI g) (nI k) = (rdI S P g, F) := by
  subst hk
  rw [mGarmentOf, cif_t h, ix_nI (by omega), if_neg (by decide), if_neg (by decide), if_neg (by decide), if_neg (by decide), if_pos (by decide)]
theorem mGarmentOf_5 {S : HS} {F : FT} {P G g k : Nat} (h : isN G (nI g)) (hg : g < 10) (hk : k = 5) : mGarmentOf S F P G (nI g) (nI k) = (nI (fdn S g), F) := by
  subst hk
  rw [mGarmentOf, cif_t h, ix_nI (by omega), if_neg (by decide), if_neg (by decide), if_neg (by decide), if_neg (by decide), if_neg (by decide), if_pos (by decide)]
theorem ix1 : ix 1 = 1 := by decide
theorem ix2 : ix 2 = 2 := by decide
theorem ix3 : ix 3 = 3 := by decide
theorem ix0 : ix 0 = 0 := by decide
theorem nI_1sub {n : Nat} (h : 0 < n) : nI n - 1 = nI (n - 1) := pk_sub (a := n) (b := 1) h
theorem plc_o {g k : Nat} (hk : k ≤ 1) : plc (28 + 4 * g + 2 + k) (7 + k) g := by unfold plc; omega
