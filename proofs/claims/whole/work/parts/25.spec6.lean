abbrev CO (o hl ht hk t : Nat → Nat) (kp : Int32) : va_W := [(o 0, .inr (4, [.ref (hl 0), .ref (ht 0), .ref (hk 0), .int kp, .ref (t 0), .ref (o 1), .ref (o 2), .ref (o 3)]))]
abbrev TPW (E : Ev) (t : Nat → Nat) (y : Nat → Int32) (tp : Nat → Int32) : va_W := [(t 0, .inr (3, [.ref (t 1), .int (y 0), .int (y 1), .int (y 2), .int (y 3), .int (y 4)])), (t 1, .inl (E.2.1, 120, .inl tp))]
abbrev SHW (E : Ev) (a n : Nat) (bt ln : Int32) (f : Nat → Int64) : va_W := [(a, .inr (2, [.ref n, .int bt, .int ln])), (n, .inl (E.2.2.1, 40, .inr (.inl f)))]
def ush (x : Int32) (k : Int32) : Int32 := (x.toUInt32 >>> (k.toUInt32 &&& Int32.toUInt32 31)).toInt32
def bc1 (x : Int32) : Int32 := x - (ush x 1 &&& 1431655765)
def bc2 (x : Int32) : Int32 := (bc1 x &&& 858993459) + (ush (bc1 x) 2 &&& 858993459)
def bc3 (x : Int32) : Int32 := bc2 x + ush (bc2 x) 4 &&& 252645135
def bc4 (x : Int32) : Int32 := bc3 x + ush (bc3 x) 8
def bc5 (x : Int32) : Int32 := bc4 x + ush (bc4 x) 16
theorem bc_pc : ∀ k, k < 1024 → bc5 (nI k) &&& 63 = nI (pcN k) := by decide +kernel
def kab (x : Int32) : Int32 := if x = 4 then 1 else if x = 5 then 2 else 0
theorem asP_iff (k y : Int32) : asP k y ↔ (k = y ∨ y = 0 ∨ kab k = y) := by
  unfold asP kab
  by_cases h4 : k = 4
  · subst h4
    rw [if_pos rfl]
    constructor
    · rintro (h | h | ⟨h, -⟩ | ⟨h, h2⟩)
      · exact Or.inr (Or.inl h)
      · exact Or.inl h.symm
      · exact Or.inr (Or.inr h.symm)
      · exact absurd h2 (by decide)
    · rintro (h | h | h)
      · exact Or.inr (Or.inl h.symm)
      · exact Or.inl h
      · exact Or.inr (Or.inr (Or.inl ⟨h.symm, rfl⟩))
  · rw [if_neg h4]
    by_cases h5 : k = 5
    · subst h5
      rw [if_pos rfl]
      constructor
      · rintro (h | h | ⟨h, h2⟩ | ⟨h, -⟩)
        · exact Or.inr (Or.inl h)
        · exact Or.inl h.symm
        · exact absurd h2 (by decide)
        · exact Or.inr (Or.inr h.symm)
      · rintro (h | h | h)
        · exact Or.inr (Or.inl h.symm)
        · exact Or.inl h
        · exact Or.inr (Or.inr (Or.inr ⟨h.symm, rfl⟩))
    · rw [if_neg h5]
      constructor
      · rintro (h | h | ⟨-, h⟩ | ⟨-, h⟩)
        · exact Or.inr (Or.inl h)
        · exact Or.inl h.symm
        · exact absurd h h4
        · exact absurd h h5
      · rintro (h | h | h)
        · exact Or.inr (Or.inl h.symm)
        · exact Or.inl h
        · exact Or.inl h.symm
theorem setP_1 {v : Int32} : setP 1 v ↔ (0 ≤ v ∧ v ≤ 2) := ⟨fun h => by rcases h with ⟨-, h⟩ | ⟨h, -⟩ | ⟨h, -⟩ <;> first | exact h | exact absurd h (by decide), fun h => Or.inl ⟨rfl, h⟩⟩
theorem setP_2 {v : Int32} : setP 2 v ↔ (-999 ≤ v ∧ v ≤ 999) := ⟨fun h => by rcases h with ⟨h, -⟩ | ⟨-, h⟩ | ⟨h, -⟩ <;> first | exact h | exact absurd h (by decide), fun h => Or.inr (Or.inl ⟨rfl, h⟩)⟩
theorem setP_3 {v : Int32} : setP 3 v ↔ (0 ≤ v ∧ v ≤ 1) := ⟨fun h => by rcases h with ⟨h, -⟩ | ⟨h, -⟩ | ⟨-, h⟩ <;> first | exact h | exact absurd h (by decide), fun h => Or.inr (Or.inr ⟨rfl, h⟩)⟩
theorem setP_no {y v : Int32} (h1 : ¬ y = 1) (h2 : ¬ y = 2) (h3 : ¬ y = 3) : ¬ setP y v := fun h => by rcases h with ⟨h, -⟩ | ⟨h, -⟩ | ⟨h, -⟩ <;> first | exact h1 h | exact h2 h | exact h3 h
theorem in1_iff {x : Int32} {n : Nat} (h : n ≤ 1000) : (-1 ≤ x ∧ x ≤ nI n - 1) ↔ (x = -1 ∨ ∃ j, j < n ∧ x = nI j) := by
  have a1 : (-1 : Int32).toInt = -1 := by decide
  have a0 : (0 : Int32).toInt = 0 := rfl
  constructor
  · rintro ⟨h1, h2⟩
    by_cases e : x = -1
    · exact Or.inl e
    · refine Or.inr ((in_iff h).mp ⟨?_, h2⟩)
      have : x.toInt ≠ -1 := fun q => e (Int32.toInt_inj.mp (q.trans a1.symm))
      rw [Int32.le_iff_toInt_le] at *
      omega
  · rintro (rfl | h1)
    · refine ⟨by decide, ?_⟩
      rw [Int32.le_iff_toInt_le, nI_pd h]
      omega
    · obtain ⟨h2, h3⟩ := (in_iff h).mpr h1
      refine ⟨?_, h3⟩
      rw [Int32.le_iff_toInt_le] at *
      omega
theorem sewP_0 {P : Nat} {v : Int32} (hP : P ≤ 6) : sewP P 0 v ↔ (0 ≤ v ∧ v ≤ nI P - 1) := by
  rw [in_iff (by omega)]
  exact ⟨fun h => by rcases h with ⟨-, h⟩ | ⟨h, -⟩ | ⟨h, -⟩ | ⟨h, -⟩ <;> first | exact h | exact absurd h (by decide), fun h => Or.inl ⟨rfl, h⟩⟩
theorem sewP_1 {P : Nat} {v : Int32} : sewP P 1 v ↔ (0 ≤ v ∧ v ≤ 2) := ⟨fun h => by rcases h with ⟨h, -⟩ | ⟨-, h⟩ | ⟨h, -⟩ | ⟨h, -⟩ <;> first | exact h | exact absurd h (by decide), fun h => Or.inr (Or.inl ⟨rfl, h⟩)⟩
theorem sewP_2 {P : Nat} {v : Int32} : sewP P 2 v ↔ (0 ≤ v ∧ v ≤ 99) := ⟨fun h => by rcases h with ⟨h, -⟩ | ⟨h, -⟩ | ⟨-, h⟩ | ⟨h, -⟩ <;> first | exact h | exact absurd h (by decide), fun h => Or.inr (Or.inr (Or.inl ⟨rfl, h⟩))⟩
theorem sewP_3 {P : Nat} {v : Int32} (hP : P ≤ 6) : sewP P 3 v ↔ (-1 ≤ v ∧ v ≤ nI P - 1) := by
  rw [in1_iff (by omega)]
  exact ⟨fun h => by rcases h with ⟨h, -⟩ | ⟨h, -⟩ | ⟨h, -⟩ | ⟨-, h⟩ <;> first | exact h | exact absurd h (by decide), fun h => Or.inr (Or.inr (Or.inr ⟨rfl, h⟩))⟩
theorem sewP_no {P : Nat} {y v : Int32} (h0 : ¬ y = 0) (h1 : ¬ y = 1) (h2 : ¬ y = 2) (h3 : ¬ y = 3) : ¬ sewP P y v := fun h => by rcases h with ⟨h, -⟩ | ⟨h, -⟩ | ⟨h, -⟩ | ⟨h, -⟩ <;> first | exact h0 h | exact h1 h | exact h2 h | exact h3 h
theorem own_cong (S : HS) (i G : Nat) : mset (fun g => rgt S g && wth S (nI i) g) G = mset (own1 S i) G := mset_cong (fun g _ => by
  unfold rgt wth own1
  by_cases h : S 8 g = nI i
  · rw [decide_eq_true h, Bool.and_true, Bool.true_and, h]
    by_cases h2 : S 5 g = nI i
    · rw [decide_eq_true h2, decide_eq_true h2.symm]
    · rw [decide_eq_false h2, decide_eq_false (fun q => h2 q.symm)]
  · rw [decide_eq_false h, Bool.and_false, Bool.false_and])
