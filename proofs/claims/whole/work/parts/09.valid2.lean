def plc (k f i : Nat) : Prop := (k < 4 ∧ f = 0 ∧ i = k) ∨ (4 ≤ k ∧ k < 28 ∧ f = 1 + (k - 4) % 4 ∧ i = (k - 4) / 4) ∨ (28 ≤ k ∧ f = 5 + (k - 28) % 4 ∧ i = (k - 28) / 4)
theorem upd_plc (S : HS) {k f i : Nat} (h : plc k f i) (v : Int32) : upd (enc S) k v = enc (st S f i v) := enc_at S h v
theorem enc_plc (S : HS) {k f i : Nat} (h : plc k f i) : enc S k = S f i := by
  rcases h with ⟨h1, rfl, rfl⟩ | ⟨h1, h2, rfl, rfl⟩ | ⟨h1, rfl, rfl⟩
  · exact enc_0 S h1
  · have : ¬ k < 4 := by omega
    simp only [enc, this, h2, if_false, if_true]
  · have h2 : ¬ k < 4 := by omega
    have h3 : ¬ k < 28 := by omega
    simp only [enc, h2, h3, if_false]
theorem plc_p {p j : Nat} (hp : p < 6) (hj : j < 4) : plc (4 + 4 * p + j) (1 + j) p := by unfold plc; omega
theorem plc_g {g j : Nat} (hj : j < 4) : plc (28 + 4 * g + j) (5 + j) g := by unfold plc; omega
theorem nI_pd {n : Nat} (h : n ≤ 1000) : (nI n - 1).toInt = (n : Int) - 1 := by
  have h1 := pk_sub_toInt (a := n) (b := 1) (by omega) (by decide)
  exact h1
theorem in_iff {x : Int32} {n : Nat} (h : n ≤ 1000) : (0 ≤ x ∧ x ≤ nI n - 1) ↔ ∃ j, j < n ∧ x = nI j := by
  rw [Int32.le_iff_toInt_le, Int32.le_iff_toInt_le, nI_pd h]
  constructor
  · rintro ⟨h1, h2⟩
    have h3 : (0 : Int32).toInt = 0 := rfl
    obtain ⟨j, h4, h5⟩ := nI_of (x := x) (by rw [Int32.lt_iff_toInt_lt]; omega)
    refine ⟨j, ?_, h5⟩
    rw [h5, nI_toInt h4] at h2
    omega
  · rintro ⟨j, h1, rfl⟩
    rw [nI_toInt (by omega)]
    have h3 : (0 : Int32).toInt = 0 := rfl
    omega
