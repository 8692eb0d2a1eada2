/-! the law's invariant: what each call keeps -/
def HX (S : HS) : Prop := ∃ P G, HV S P G
theorem HX_heat {S : HS} (F : FT) (x : Int32) (h : HX S) : HX (mHeat S F x).2.1 := by
  obtain ⟨P, G, h⟩ := h
  unfold mHeat
  by_cases c : 20 ≤ x ∧ x ≤ 90
  · rw [cif_t c]
    obtain ⟨n, hn, rfl⟩ := rng (k := 90) (by decide) ⟨Int32.le_trans (by decide) c.1, c.2⟩
    exact ⟨P, G, HV_01 h ((nI_leI (a := 20) (b := n) (by decide) (by omega)).mp c.1) hn⟩
  · rw [cif_f c]; exact ⟨P, G, h⟩
theorem HX_person {S : HS} {P G : Nat} (F : FT) (x : Int32) (h : HV S P G) : HX (mPerson S F P x).2.1 := by
  unfold mPerson
  by_cases c : 0 ≤ x ∧ x ≤ 5
  · rw [cif_t c]
    by_cases c6 : P = 6
    · rw [if_pos c6]; exact ⟨P, G, h⟩
    · rw [if_neg c6]; exact ⟨P + 1, G, HV_addP h (by have := h.p6; omega) _ _⟩
  · rw [cif_f c]; exact ⟨P, G, h⟩
theorem HX_set {S : HS} {P G : Nat} (F : FT) (x y v : Int32) (h : HV S P G) : HX (mSet S F P x y v).2.1 := by
  unfold mSet
  by_cases c : isN P x ∧ setP y v
  · rw [cif_t c]
    refine ⟨P, G, HV_1 (1 + ix y) _ _ h (by omega) ?_⟩
    rcases c.2 with ⟨e, -⟩ | ⟨e, -⟩ | ⟨e, -⟩ <;> rw [e] <;> decide
  · rw [cif_f c]; exact ⟨P, G, h⟩
theorem HX_turn {S : HS} {P G : Nat} (F : FT) (x y : Int32) (h : HV S P G) : HX (mTurn S F P x y).2.1 := by
  unfold mTurn
  by_cases c : isN P x ∧ (0 ≤ y ∧ y ≤ 5)
  · rw [cif_t c]; exact ⟨P, G, HV_1 1 _ _ h (by decide) (by decide)⟩
  · rw [cif_f c]; exact ⟨P, G, h⟩
theorem in2 {y : Int32} (h : 0 ≤ y ∧ y ≤ 2) : y = 0 ∨ y = 1 ∨ y = 2 := by
  obtain ⟨n, hn, rfl⟩ := rng (k := 2) (by decide) h
  have : n = 0 ∨ n = 1 ∨ n = 2 := by omega
  rcases this with rfl | rfl | rfl
  · exact Or.inl rfl
  · exact Or.inr (Or.inl rfl)
  · exact Or.inr (Or.inr rfl)
theorem HX_garment {S : HS} {P G : Nat} (F : FT) (x y : Int32) (h : HV S P G) : HX (mGarment S F P G x y).2.1 := by
  unfold mGarment
  by_cases c : isN P x ∧ (0 ≤ y ∧ y ≤ 2)
  · rw [cif_t c]
    by_cases c6 : G = 10
    · rw [if_pos c6]; exact ⟨P, G, h⟩
    · rw [if_neg c6]
      obtain ⟨⟨j, hj, rfl⟩, hy⟩ := c
      exact ⟨P, G + 1, HV_addG (n := 99) h (by have := h.g10; omega) hj (in2 hy) (by decide) (Or.inr ⟨j, hj, rfl⟩)⟩
  · rw [cif_f c]; exact ⟨P, G, h⟩
theorem HX_sew {S : HS} {P G : Nat} (F : FT) (x y v : Int32) (h : HV S P G) : HX (mSew S F P G x y v).2.1 := by
  unfold mSew
  by_cases c : isN G x ∧ sewP P y v
  · rw [cif_t c]
    obtain ⟨-, hs⟩ := c
    refine ⟨P, G, ?_⟩
    rcases hs with ⟨rfl, j, hj, rfl⟩ | ⟨rfl, hv⟩ | ⟨rfl, hv⟩ | ⟨rfl, hv⟩
    · exact HV_5 h hj
    · exact HV_6 h (in2 hv)
    · obtain ⟨n, hn, rfl⟩ := rng (k := 99) (by decide) hv
      exact HV_7 h hn
    · exact HV_8 h hv
  · rw [cif_f c]; exact ⟨P, G, h⟩
theorem HX_weeks {S : HS} {P G : Nat} (F : FT) (x : Int32) (h : HV S P G) : HX (mWeeks S F P G x).2.1 := by
  unfold mWeeks
  by_cases c : 1 ≤ x ∧ x ≤ 60
  · rw [cif_t c]
    split
    · exact ⟨P, G, h⟩
    · exact ⟨P, G, HV_wks h _⟩
  · rw [cif_f c]; exact ⟨P, G, h⟩
theorem HX_lays {S : HS} {P G : Nat} (F B : FT) (Z : Nat → Nat) (N : NT) (x : Int32) (h : HV S P G) : HX (mLays S F G B Z N x).2.1 := by
  unfold mLays
  by_cases c : isN 4 x
  · rw [cif_t c]
    split
    · exact ⟨P, G, h⟩
    · exact ⟨P, G, HV_lyS h _⟩
  · rw [cif_f c]; exact ⟨P, G, h⟩
theorem HX_undo {S K : HS} (F : FT) (kp : Int32) (h : HX S) (hK : ¬ kp = 0 → HX K) : HX (mUndo S K F kp).2.1 := by
  unfold mUndo
  split
  · exact h
  · exact hK ‹_›
theorem pAll_HV {tp : Nat → Int32} {tl : Nat} : ∀ (f : Nat) {S : HS} {P G k n : Nat}, HV S P G → k ≤ tl → ∀ q e, pAll tp tl f S P G k n = (some q, e) → HV q.1 q.2.1 q.2.2.1
  | 0, S, P, G, k, n, h, hk, q, e, hq => by rw [pAll] at hq; cases hq
  | f + 1, S, P, G, k, n, h, hk, q, e, hq => by
    have hit := IV_item (tp := tp) h (b := tSk tp tl k) (tSk_le hk)
    rcases hp : pItem tp tl S P G (tSk tp tl k) with ⟨_ | q2, e2⟩
    · rw [pAll_n hp] at hq; cases hq
    · rw [hp] at hit
      by_cases h3 : tKd tp tl e2 = 3
      · rw [pAll_3 hp h3] at hq
        exact pAll_HV f hit.2.2 (tEn_le hit.2.1) q e hq
      · by_cases h0 : tKd tp tl e2 = 0
        · rw [pAll_0 hp h0] at hq
          cases hq
          exact hit.2.2
        · rw [pAll_x hp h3 h0] at hq; cases hq
theorem HX_home {S : HS} {P G : Nat} (tp : Nat → Int32) (tl : Nat) (h : HV S P G) : HX (mHome S P G tp tl).2.1 := by
  rcases hq : pAll tp tl (tl + 1) S P G 0 0 with ⟨_ | q, e⟩
  · rw [mHome_n hq]; exact ⟨P, G, h⟩
  · rw [mHome_s hq]; exact ⟨_, _, pAll_HV _ h (Nat.zero_le _) q e hq⟩
theorem ZX_sheet {Z : Nat → Nat} (F B : FT) (N : NT) (x y n : Int32) (h : ∀ q, q < 4 → Z q ≤ 40) : ∀ q, q < 4 → (mSheet F B Z N x y n).2.2.2.1 q ≤ 40 := by
  intro q hq
  unfold mSheet
  by_cases c : isN 4 x ∧ bitP y
  · rw [cif_t c]
    by_cases c1 : n < 0
    · rw [if_pos c1]; exact h q hq
    · rw [if_neg c1]
      by_cases c2 : 40 < n
      · rw [if_pos c2]; exact h q hq
      · rw [if_neg c2]
        show va_up Z (ix x) (if y = 0 then 0 else ix n) q ≤ 40
        obtain ⟨j, hj, rfl⟩ := rng (k := 40) (by decide) ⟨Int32.not_lt.mp c1, Int32.not_lt.mp c2⟩
        by_cases e : q = ix x
        · rw [e, up_at, ix_nI (by omega)]; split <;> omega
        · rw [up_ne e]; exact h q hq
  · rw [cif_f c]; exact h q hq
theorem fdT_BY (x : Int32) : ∀ (k : Nat) (tp : Nat → Int32) (tl : Nat), tBY tp tl → tBY (fdT x k tp tl) (tl + k)
  | 0, tp, tl, h => h
  | k + 1, tp, tl, h => by
    rw [fdT, show tl + (k + 1) = (tl + 1) + k by omega]
    refine fdT_BY x k _ _ (fun i hi => ?_)
    by_cases e : i = tl
    · subst e; rw [upd_at]; exact fby_byte x k
    · rw [upd_ne _ _ e]; exact h i (by omega)
theorem TX_feed {tp : Nat → Int32} {tl : Nat} (F : FT) (x n : Int32) (h : tBY tp tl) (h1 : tl ≤ 120) : tBY (mFeed F tp tl x n).2.2.1 (mFeed F tp tl x n).2.2.2 ∧ (mFeed F tp tl x n).2.2.2 ≤ 120 := by
  unfold mFeed
  by_cases c : 1 ≤ n ∧ n ≤ 4
  · rw [cif_t c]
    by_cases c2 : 120 < tl + ix n
    · rw [if_pos c2]; exact ⟨h, h1⟩
    · rw [if_neg c2]; exact ⟨fdT_BY x _ tp tl h, by show tl + ix n ≤ 120; omega⟩
  · rw [cif_f c]; exact ⟨h, h1⟩
