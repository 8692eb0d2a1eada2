/-! what each call answers, and what it changes: one function for both sides -/
noncomputable def cif {α : Type} (c : Prop) (a b : α) : α := @ite α c (Classical.propDecidable c) a b
theorem cif_t {α : Type} {c : Prop} {a b : α} (h : c) : cif c a b = a := @if_pos c (Classical.propDecidable c) h α a b
theorem cif_f {α : Type} {c : Prop} {a b : α} (h : ¬ c) : cif c a b = b := @if_neg c (Classical.propDecidable c) h α a b
abbrev FT : Type := Nat → Int32
def fnd (F : FT) (k : Nat) : FT := upd F k (F k + 1)
abbrev isN (n : Nat) (x : Int32) : Prop := ∃ j, j < n ∧ x = nI j
def ix (x : Int32) : Nat := x.toNatClampNeg
theorem ix_nI {n : Nat} (h : n < 2 ^ 31) : ix (nI n) = n := nI_clamp h
noncomputable def b01 (c : Prop) : Int32 := cif c 1 0
theorem b01_t {c : Prop} (h : c) : b01 c = 1 := cif_t h
theorem b01_f {c : Prop} (h : ¬ c) : b01 c = 0 := cif_f h
theorem rng {x : Int32} {k : Nat} (hk : k ≤ 1000) (h : 0 ≤ x ∧ x ≤ nI k) : ∃ n, n ≤ k ∧ x = nI n := by
  obtain ⟨h1, h2⟩ := h
  have h3 : (0 : Int32).toInt = 0 := rfl
  rw [Int32.le_iff_toInt_le] at h1 h2
  obtain ⟨j, h4, h5⟩ := nI_of (x := x) (by rw [Int32.lt_iff_toInt_lt]; omega)
  refine ⟨j, ?_, h5⟩
  rw [h5, nI_toInt h4, nI_toInt (by omega)] at h2
  omega
theorem rng1 {x : Int32} {k : Nat} (hk : k ≤ 1000) (h : 1 ≤ x ∧ x ≤ nI k) : ∃ n, (1 ≤ n ∧ n ≤ k) ∧ x = nI n := by
  have h0 : 0 ≤ x := by
    have h1 := h.1
    have h3 : (0 : Int32).toInt = 0 := rfl
    have h4 : (1 : Int32).toInt = 1 := rfl
    rw [Int32.le_iff_toInt_le] at *
    omega
  obtain ⟨n, h1, rfl⟩ := rng hk ⟨h0, h.2⟩
  refine ⟨n, ⟨?_, h1⟩, rfl⟩
  have h2 := (nI_leI (a := 1) (b := n) (by decide) (by omega)).mp h.1
  exact h2
/-- the first of 0 .. n - 1, or n -/
def fs1 (c : Nat → Bool) : Nat → Nat
  | 0 => 0
  | n + 1 => if fs1 c n < n then fs1 c n else if c n then n else n + 1
theorem fs1_none {c : Nat → Bool} : ∀ {n : Nat}, (∀ j, j < n → c j = false) → fs1 c n = n
  | 0, _ => rfl
  | n + 1, h => by
    rw [fs1, fs1_none (fun j hj => h j (by omega)), if_neg (Nat.lt_irrefl n), h n (by omega)]
    rfl
theorem fs1_hit {c : Nat → Bool} {i : Nat} (hi : c i = true) (h : ∀ j, j < i → c j = false) : ∀ {n : Nat}, i < n → fs1 c n = i
  | 0, q => absurd q (Nat.not_lt_zero i)
  | n + 1, q => by
    rw [fs1]
    rcases Nat.lt_or_ge i n with q2 | q2
    · rw [fs1_hit hi h q2, if_pos q2]
    · have e : i = n := by omega
      subst e
      rw [fs1_none h, if_neg (Nat.lt_irrefl i), hi]
      rfl
/-- the least place of the greatest of v 0 .. v (n - 1) -/
def bx (v : Nat → Int32) : Nat → Nat
  | 0 => 0
  | n + 1 => if n = 0 ∨ v (bx v n) < v n then n else bx v n
def mst (v : Nat → Int32) (n : Nat) : Int32 := if n = 0 then -1 else v (bx v n)
theorem bx_lt (v : Nat → Int32) : ∀ n, 0 < n → bx v n < n
  | 0, h => absurd h (Nat.lt_irrefl 0)
  | n + 1, _ => by
    rw [bx]
    split
    · omega
    · rename_i q
      have h := bx_lt v n (by omega)
      omega
theorem mst_t {v : Nat → Int32} {n : Nat} (h : mst v n < v n) : bx v (n + 1) = n ∧ mst v (n + 1) = v n := by
  have h1 : bx v (n + 1) = n := by
    rw [bx, if_pos]
    unfold mst at h
    split at h
    · exact Or.inl (by assumption)
    · exact Or.inr h
  exact ⟨h1, by rw [mst, if_neg (by omega), h1]⟩
theorem mst_f {v : Nat → Int32} {n : Nat} (h0 : 0 ≤ v n) (h : ¬ mst v n < v n) : bx v (n + 1) = bx v n ∧ mst v (n + 1) = mst v n ∧ n ≠ 0 := by
  have hn : n ≠ 0 := by
    rintro rfl
    apply h
    unfold mst
    rw [if_pos rfl]
    have a1 : (-1 : Int32).toInt = -1 := by decide
    have a2 : (0 : Int32).toInt = 0 := rfl
    rw [Int32.le_iff_toInt_le] at h0
    rw [Int32.lt_iff_toInt_lt]
    omega
  have hm : mst v n = v (bx v n) := by rw [mst, if_neg hn]
  rw [hm] at h
  have h1 : bx v (n + 1) = bx v n := by
    rw [bx, if_neg]
    rintro (q | q)
    · exact hn q
    · exact h q
  exact ⟨h1, by rw [mst, if_neg (by omega), h1, hm], hn⟩
noncomputable def mHeat (S : HS) (F : FT) (x : Int32) : Int32 × HS × FT := cif (20 ≤ x ∧ x ≤ 90) (S 0 1, st S 0 1 x, F) (-1000000001, S, fnd F 0)
noncomputable def mNow (S : HS) (F : FT) (P G : Nat) (x : Int32) : Int32 × FT := if x = 0 then (S 0 0, F) else if x = 1 then (S 0 1, F) else if x = 2 then (nI (mset (wth S (-1)) G), F) else if x = 3 then (nI (mset (rgt S) G), F) else if x = 4 then (nI (mset (liv S) P), F) else if x = 5 then (10000 + smI (S 3) P, F) else (-1000000001, fnd F 0)
noncomputable def mPerson (S : HS) (F : FT) (P : Nat) (x : Int32) : Int32 × HS × FT := cif (0 ≤ x ∧ x ≤ 5) (if P = 6 then (-1000000002, S, fnd F 1) else (nI P, addP S P x (nI (P % 3)), F)) (-1000000001, S, fnd F 0)
noncomputable def mOf (S : HS) (F : FT) (P G : Nat) (x y : Int32) : Int32 × FT := cif (isN P x) (if y = 0 then (S 1 (ix x), F) else if y = 1 then (S 2 (ix x), F) else if y = 2 then (1000 + S 3 (ix x), F) else if y = 3 then (S 4 (ix x), F) else if y = 4 then (nI (mset (wth S x) G), F) else if y = 5 then (1000 + mnd S (ix x) G, F) else (-1000000001, fnd F 0)) (-1000000001, fnd F 0)
def setP (y v : Int32) : Prop := (y = 1 ∧ 0 ≤ v ∧ v ≤ 2) ∨ (y = 2 ∧ -999 ≤ v ∧ v ≤ 999) ∨ (y = 3 ∧ 0 ≤ v ∧ v ≤ 1)
noncomputable def mSet (S : HS) (F : FT) (P : Nat) (x y v : Int32) : Int32 × HS × FT := cif (isN P x ∧ setP y v) (S (1 + ix y) (ix x), st S (1 + ix y) (ix x) v, F) (-1000000001, S, fnd F 0)
noncomputable def mWould (S : HS) (F : FT) (P G : Nat) (x g w : Int32) : Int32 × FT := cif (isN P x ∧ isN G g ∧ (0 ≤ w ∧ w ≤ 1)) (if w = 0 then (b01 (giv S (ix x) (ix g)), F) else (b01 (clm S (ix x) (ix g) G), F)) (-1000000001, fnd F 0)
noncomputable def mTurn (S : HS) (F : FT) (P : Nat) (x y : Int32) : Int32 × HS × FT := cif (isN P x ∧ (0 ≤ y ∧ y ≤ 5)) (S 1 (ix x), st S 1 (ix x) y, F) (-1000000001, S, fnd F 0)
def asP (k y : Int32) : Prop := y = 0 ∨ y = k ∨ (y = 1 ∧ k = 4) ∨ (y = 2 ∧ k = 5)
noncomputable def mAs (S : HS) (F : FT) (P : Nat) (x y : Int32) : Int32 × FT := cif (isN P x ∧ (0 ≤ y ∧ y ≤ 5)) (cif (asP (S 1 (ix x)) y) (1000 + S 3 (ix x), F) (-1000000003, fnd F 2)) (-1000000001, fnd F 0)
noncomputable def mGarment (S : HS) (F : FT) (P G : Nat) (x y : Int32) : Int32 × HS × FT := cif (isN P x ∧ (0 ≤ y ∧ y ≤ 2)) (if G = 10 then (-1000000002, S, fnd F 1) else (nI G, addG S G x y 99 x, F)) (-1000000001, S, fnd F 0)
noncomputable def mGarmentOf (S : HS) (F : FT) (P G : Nat) (x y : Int32) : Int32 × FT := cif (isN G x) (if y = 0 then (S 5 (ix x), F) else if y = 1 then (S 6 (ix x), F) else if y = 2 then (S 7 (ix x), F) else if y = 3 then (S 8 (ix x), F) else if y = 4 then (rdI S P (ix x), F) else if y = 5 then (nI (fdn S (ix x)), F) else (-1000000001, fnd F 0)) (-1000000001, fnd F 0)
def sewP (P : Nat) (y v : Int32) : Prop := (y = 0 ∧ ∃ j, j < P ∧ v = nI j) ∨ (y = 1 ∧ 0 ≤ v ∧ v ≤ 2) ∨ (y = 2 ∧ 0 ≤ v ∧ v ≤ 99) ∨ (y = 3 ∧ (v = -1 ∨ ∃ j, j < P ∧ v = nI j))
noncomputable def mSew (S : HS) (F : FT) (P G : Nat) (x y v : Int32) : Int32 × HS × FT := cif (isN G x ∧ sewP P y v) (S (5 + ix y) (ix x), st S (5 + ix y) (ix x) v, F) (-1000000001, S, fnd F 0)
noncomputable def mWeeks (S : HS) (F : FT) (P G : Nat) (x : Int32) : Int32 × HS × FT := cif (1 ≤ x ∧ x ≤ 60) (if 99999 < S 0 0 + x then (-1000000005, S, fnd F 4) else (nI (mset (rgt (wks S P G (ix x))) G), wks S P G (ix x), F)) (-1000000001, S, fnd F 0)
noncomputable def mOn (S : HS) (F : FT) (P G : Nat) (x y z : Int32) : Int32 × FT := cif (isN G x ∧ (0 ≤ y ∧ y ≤ 100) ∧ (0 ≤ z ∧ z ≤ 1)) (wks S P G (ix y) (7 + ix z) (ix x), F) (-1000000001, fnd F 0)
noncomputable def mThen (S : HS) (F : FT) (P G : Nat) (x y : Int32) : Int32 × FT := cif (isN P x ∧ (0 ≤ y ∧ y ≤ 100)) (1000 + wks S P G (ix y) 3 (ix x), F) (-1000000001, fnd F 0)
noncomputable def cLost (S : HS) (P G g j : Nat) : Bool := !rgt (wks S P G j) g
noncomputable def mLost (S : HS) (F : FT) (P G : Nat) (x : Int32) : Int32 × FT := cif (isN G x) (if fs1 (cLost S P G (ix x)) 101 < 101 then (nI (fs1 (cLost S P G (ix x)) 101), F) else (-1000000004, fnd F 3)) (-1000000001, fnd F 0)
noncomputable def cCome (S : HS) (P G g : Nat) (y : Int32) (j : Nat) : Bool := wth (wks S P G j) y g
noncomputable def mComes (S : HS) (F : FT) (P G : Nat) (x y : Int32) : Int32 × FT := cif (isN G x ∧ isN P y) (if fs1 (cCome S P G (ix x) y) 101 < 101 then (nI (fs1 (cCome S P G (ix x) y) 101), F) else (-1000000004, fnd F 3)) (-1000000001, fnd F 0)
noncomputable def vMark (S : HS) (P G g n k : Nat) : Int32 := nI (ct (fun q => rgt (wks (st S 6 g (nI k)) P G (q + 1)) g) n)
noncomputable def mMark (S : HS) (F : FT) (P G : Nat) (x y : Int32) : Int32 × FT := cif (isN G x ∧ (1 ≤ y ∧ y ≤ 40)) (nI (bx (vMark S P G (ix x) (ix y)) 3), F) (-1000000001, fnd F 0)
noncomputable def vKind (S : HS) (P G i n k : Nat) : Int32 := nI (cOwn (wks (st S 1 i (nI k)) P G n) i G)
noncomputable def mKind (S : HS) (F : FT) (P G : Nat) (x y : Int32) : Int32 × FT := cif (isN P x ∧ (1 ≤ y ∧ y ≤ 60)) (nI (bx (vKind S P G (ix x) (ix y)) 6), F) (-1000000001, fnd F 0)
noncomputable def cWarm (S : HS) (P G g n k : Nat) : Bool := rgt (wks (st S 0 1 (nI (90 - k))) P G n) g
noncomputable def mWarm (S : HS) (F : FT) (P G : Nat) (x y : Int32) : Int32 × FT := cif (isN G x ∧ (1 ≤ y ∧ y ≤ 40)) (if fs1 (cWarm S P G (ix x) (ix y)) 71 < 71 then (nI (90 - fs1 (cWarm S P G (ix x) (ix y)) 71), F) else (-1000000004, fnd F 3)) (-1000000001, fnd F 0)
noncomputable def cPlain (S : HS) (P G g n k : Nat) : Bool := rgt (wks (st S 7 g (nI k)) P G n) g
noncomputable def mPlain (S : HS) (F : FT) (P G : Nat) (x y : Int32) : Int32 × FT := cif (isN G x ∧ (1 ≤ y ∧ y ≤ 60)) (if fs1 (cPlain S P G (ix x) (ix y)) 100 < 100 then (nI (fs1 (cPlain S P G (ix x) (ix y)) 100), F) else (-1000000004, fnd F 3)) (-1000000001, fnd F 0)
noncomputable def vTeach (S : HS) (P G n k : Nat) : Int32 := nI (ct (rgt (wks (st S 1 k 1) P G n)) G)
noncomputable def mTeach (S : HS) (F : FT) (P G : Nat) (x : Int32) : Int32 × FT := cif (1 ≤ x ∧ x ≤ 60) (if P = 0 then (-1000000004, fnd F 3) else (nI (bx (vTeach S P G (ix x)) P), F)) (-1000000001, fnd F 0)
noncomputable def mBest (S : HS) (F : FT) (P G : Nat) (x : Int32) : Int32 × FT := cif (0 ≤ x ∧ x ≤ 100) (if P = 0 then (-1000000004, fnd F 3) else (nI (bx (wks S P G (ix x) 3) P), F)) (-1000000001, fnd F 0)
/-- the reference's object -/
abbrev MF (b : Nat → Nat) (z : Nat → Int32) (w : Int64) : List Value := [.ref (b 1), .ref (b 2), .ref (b 3), .ref (b 4), .ref (b 5), .int (z 0), .int (z 1), .int (z 2), .int (z 3), .long w, .int (z 4), .int (z 5), .ref (b 6), .ref (b 7), .ref (b 8), .ref (b 9), .ref (b 10), .ref (b 11), .int (z 6)]
abbrev MJ (b : Nat → Nat) (z : Nat → Int32) (w : Int64) : va_W := [(b 0, .inr (5, MF b z w))]
def fil {α : Type} (f g : Nat → α) (i : Nat) : Nat → α := fun k => if k < i then f k else g k
theorem fil_put (f g : Nat → Int32) (i : Nat) : upd (fil f g i) i (f i) = fil f g (i + 1) := by
  funext k
  unfold fil
  by_cases e : k = i
  · subst e; rw [upd_at, if_pos (by omega)]
  · rw [upd_ne _ _ e]
    by_cases h : k < i
    · rw [if_pos h, if_pos (by omega)]
    · rw [if_neg h, if_neg (by omega)]
theorem fil_at {α : Type} (f g : Nat → α) {i k : Nat} (h : i ≤ k) : fil f g i k = g k := if_neg (by omega)
