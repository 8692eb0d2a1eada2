theorem HV_addP {S : HS} {P G : Nat} (h : HV S P G) (hP : P < 6) (x y : Int32) : HV (addP S P x y) (P + 1) G := by
  obtain ⟨h1, h2, h3, h4, h5, h6⟩ := h
  refine ⟨rfl, by omega, h3, h4, h5, fun g hg => ?_⟩
  obtain ⟨⟨o, a1, a2⟩, b, c, d⟩ := h6 g hg
  refine ⟨⟨o, by omega, a2⟩, b, c, ?_⟩
  rcases d with d | ⟨q, d1, d2⟩
  · exact Or.inl d
  · exact Or.inr ⟨q, by omega, d2⟩
theorem HV_addG {S : HS} {P G : Nat} (h : HV S P G) (hG : G < 10) {o n : Nat} {x w : Int32} (ho : o < P) (hx : x = 0 ∨ x = 1 ∨ x = 2) (hn : n ≤ 99) (hw : w = -1 ∨ ∃ q, q < P ∧ w = nI q) : HV (addG S G (nI o) x (nI n) w) P (G + 1) := by
  obtain ⟨h1, h2, h3, h4, h5, h6⟩ := h
  refine ⟨h1, h2, rfl, by omega, h5, fun g hg => ?_⟩
  by_cases e : g = G
  · subst e
    refine ⟨⟨o, ho, upd_at _ _ _⟩, ?_, ⟨n, hn, upd_at _ _ _⟩, ?_⟩
    · show upd (S 6) g x g = 0 ∨ upd (S 6) g x g = 1 ∨ upd (S 6) g x g = 2
      rw [upd_at]; exact hx
    · show upd (S 8) g w g = -1 ∨ ∃ q, q < P ∧ upd (S 8) g w g = nI q
      rw [upd_at]; exact hw
  · have h7 := h6 g (by omega)
    unfold GV
    show (∃ o', o' < P ∧ upd (S 5) G (nI o) g = nI o') ∧ (upd (S 6) G x g = 0 ∨ upd (S 6) G x g = 1 ∨ upd (S 6) G x g = 2) ∧ (∃ n', n' ≤ 99 ∧ upd (S 7) G (nI n) g = nI n') ∧ (upd (S 8) G w g = -1 ∨ ∃ q, q < P ∧ upd (S 8) G w g = nI q)
    rw [upd_ne _ _ e, upd_ne _ _ e, upd_ne _ _ e, upd_ne _ _ e]
    exact h7
theorem tMi_c {tp : Nat → Int32} {tl b : Nat} (h : ¬ tMi tp tl b < 0) : tMi tp tl b = 0 ∨ tMi tp tl b = 1 ∨ tMi tp tl b = 2 := by
  unfold tMi at h ⊢
  by_cases h1 : tIW tp tl b wdSewn
  · rw [cif_t h1]; exact Or.inl rfl
  · rw [cif_f h1] at h ⊢
    by_cases h2 : tIW tp tl b wdIroned
    · rw [cif_t h2]; exact Or.inr (Or.inl rfl)
    · rw [cif_f h2] at h ⊢
      by_cases h3 : tIW tp tl b wdPen
      · rw [cif_t h3]; exact Or.inr (Or.inr rfl)
      · rw [cif_f h3] at h; exact absurd (by decide) h
/-- an item leaves the home valid and the place no earlier -/
def IV (tl b : Nat) (r : IRT) : Prop := b ≤ r.2 ∧ r.2 ≤ tl ∧ match r.1 with
  | none => True
  | some q => HV q.1 q.2.1 q.2.2
theorem IV_person {tp : Nat → Int32} {tl : Nat} {S : HS} {P G : Nat} (hV : HV S P G) (x : Int32) {b : Nat} (hb : b ≤ tl) : IV tl b (pPerson tp tl S P G x b) := by
  have n1 := tNx_ge tp tl b
  have m1 := tNx_le (tp := tp) hb
  have n2 := tNx_ge tp tl (tNx tp tl b)
  have m2 := tNx_le (tp := tp) m1
  have n3 := tNx_ge tp tl (tNx tp tl (tNx tp tl b))
  have m3 := tNx_le (tp := tp) m2
  unfold pPerson
  by_cases hP : P < 6
  · rw [if_pos hP]
    by_cases h1 : tIW tp tl (tNx tp tl b) wdBand
    · rw [cif_t h1]
      by_cases h2 : tNm tp tl (tNx tp tl (tNx tp tl b)) 0 2
      · rw [cif_t h2]; exact ⟨by show b ≤ tNx tp tl (tNx tp tl (tNx tp tl b)); omega, m3, HV_addP hV hP _ _⟩
      · rw [cif_f h2]; exact ⟨by show b ≤ tNx tp tl (tNx tp tl b); omega, m2, trivial⟩
    · rw [cif_f h1]; exact ⟨n1, m1, HV_addP hV hP _ _⟩
  · rw [if_neg hP]; exact ⟨Nat.le_refl b, hb, trivial⟩
theorem IV_heap {tp : Nat → Int32} {tl : Nat} {S : HS} {P G : Nat} (hV : HV S P G) (hG : G < 10) {o n : Nat} {x : Int32} (ho : o < P) (hx : x = 0 ∨ x = 1 ∨ x = 2) (hn : n ≤ 99) {b0 b : Nat} (h0 : b0 ≤ b) (hb : b ≤ tl) : IV tl b0 (pHeap tp tl S P G (nI o) x (nI n) b) := by
  have n1 := tNx_ge tp tl b
  unfold pHeap
  by_cases h1 : tIW tp tl b wdHeap
  · rw [cif_t h1]; exact ⟨by show b0 ≤ tNx tp tl b; omega, tNx_le hb, HV_addG hV hG ho hx hn (Or.inl rfl)⟩
  · rw [cif_f h1]; exact ⟨h0, hb, HV_addG hV hG ho hx hn (Or.inr ⟨o, ho, rfl⟩)⟩
theorem IV_garment {tp : Nat → Int32} {tl : Nat} {S : HS} {P G : Nat} (hV : HV S P G) {x : Int32} (hx : x = 0 ∨ x = 1 ∨ x = 2) {b : Nat} (hb : b ≤ tl) : IV tl b (pGarment tp tl S P G x b) := by
  have n1 := tNx_ge tp tl b
  have m1 := tNx_le (tp := tp) hb
  have n2 := tNx_ge tp tl (tNx tp tl b)
  have m2 := tNx_le (tp := tp) m1
  have n3 := tNx_ge tp tl (tNx tp tl (tNx tp tl b))
  have m3 := tNx_le (tp := tp) m2
  have n4 := tNx_ge tp tl (tNx tp tl (tNx tp tl (tNx tp tl b)))
  have m4 := tNx_le (tp := tp) m3
  unfold pGarment
  by_cases hG : G < 10
  · rw [if_pos hG]
    by_cases h1 : tNm tp tl (tNx tp tl b) 0 (nI P - 1)
    · rw [cif_t h1]
      have ho := tNm_lt h1 hV.p6
      unfold pName
      by_cases h2 : tIW tp tl (tNx tp tl (tNx tp tl b)) wdName
      · rw [cif_t h2]
        by_cases h3 : tNm tp tl (tNx tp tl (tNx tp tl (tNx tp tl b))) 0 99
        · rw [cif_t h3]
          have hn := tNm_le 0 99 h3 (by decide) (by decide)
          exact IV_heap hV hG ho hx hn.2 (by omega) m4
        · rw [cif_f h3]; exact ⟨by show b ≤ tNx tp tl (tNx tp tl (tNx tp tl b)); omega, m3, trivial⟩
      · rw [cif_f h2]
        exact IV_heap (n := 99) hV hG ho hx (by decide) (by omega) m2
    · rw [cif_f h1]; exact ⟨n1, m1, trivial⟩
  · rw [if_neg hG]; exact ⟨Nat.le_refl b, hb, trivial⟩
theorem IV_item {tp : Nat → Int32} {tl : Nat} {S : HS} {P G : Nat} (hV : HV S P G) {b : Nat} (hb : b ≤ tl) : IV tl b (pItem tp tl S P G b) := by
  have n1 := tNx_ge tp tl b
  have m1 := tNx_le (tp := tp) hb
  have n2 := tNx_ge tp tl (tNx tp tl b)
  have m2 := tNx_le (tp := tp) m1
  unfold pItem
  by_cases h1 : tKi tp tl b < 0
  · rw [if_pos h1]
    by_cases h2 : tMi tp tl b < 0
    · rw [if_pos h2]
      by_cases h3 : tIW tp tl b wdHeat
      · rw [cif_t h3]
        unfold pHeat
        by_cases h4 : tNm tp tl (tNx tp tl b) 20 90
        · rw [cif_t h4]
          have hn := tNm_le 20 90 h4 (by decide) (by decide)
          exact ⟨by show b ≤ tNx tp tl (tNx tp tl b); omega, m2, HV_01 hV hn.1 hn.2⟩
        · rw [cif_f h4]; exact ⟨n1, m1, trivial⟩
      · rw [cif_f h3]
        by_cases h4 : tIW tp tl b wdDies
        · rw [cif_t h4]
          unfold pDeath
          by_cases h5 : tNm tp tl (tNx tp tl b) 0 (nI P - 1)
          · rw [cif_t h5]
            exact ⟨by show b ≤ tNx tp tl (tNx tp tl b); omega, m2, HV_1 4 _ _ hV (by decide) (by decide)⟩
          · rw [cif_f h5]; exact ⟨n1, m1, trivial⟩
        · rw [cif_f h4]; exact ⟨Nat.le_refl b, hb, trivial⟩
    · rw [if_neg h2]; exact IV_garment hV (tMi_c h2) hb
  · rw [if_neg h1]; exact IV_person hV _ hb
noncomputable def pAll (tp : Nat → Int32) (tl : Nat) : Nat → HS → Nat → Nat → Nat → Nat → Option (HS × Nat × Nat × Nat) × Nat
  | 0, _, _, _, k, _ => (none, k)
  | f + 1, S, P, G, k, n => match pItem tp tl S P G (tSk tp tl k) with
    | (none, e) => (none, e)
    | (some q, e) => if tKd tp tl e = 3 then pAll tp tl f q.1 q.2.1 q.2.2 (tEn tp tl e) (n + 1) else if tKd tp tl e = 0 then (some (q.1, q.2.1, q.2.2, n + 1), e) else (none, e)
theorem pAll_n {tp : Nat → Int32} {tl f : Nat} {S : HS} {P G k n e : Nat} (h : pItem tp tl S P G (tSk tp tl k) = (none, e)) : pAll tp tl (f + 1) S P G k n = (none, e) := by rw [pAll, h]
theorem pAll_3 {tp : Nat → Int32} {tl f : Nat} {S : HS} {P G k n e : Nat} {q : HS × Nat × Nat} (h : pItem tp tl S P G (tSk tp tl k) = (some q, e)) (h3 : tKd tp tl e = 3) : pAll tp tl (f + 1) S P G k n = pAll tp tl f q.1 q.2.1 q.2.2 (tEn tp tl e) (n + 1) := by
  rw [pAll, h]; exact if_pos h3
theorem pAll_0 {tp : Nat → Int32} {tl f : Nat} {S : HS} {P G k n e : Nat} {q : HS × Nat × Nat} (h : pItem tp tl S P G (tSk tp tl k) = (some q, e)) (h3 : tKd tp tl e = 0) : pAll tp tl (f + 1) S P G k n = (some (q.1, q.2.1, q.2.2, n + 1), e) := by
  rw [pAll, h]; exact (if_neg (by omega)).trans (if_pos h3)
theorem pAll_x {tp : Nat → Int32} {tl f : Nat} {S : HS} {P G k n e : Nat} {q : HS × Nat × Nat} (h : pItem tp tl S P G (tSk tp tl k) = (some q, e)) (h3 : ¬ tKd tp tl e = 3) (h0 : ¬ tKd tp tl e = 0) : pAll tp tl (f + 1) S P G k n = (none, e) := by
  rw [pAll, h]; exact (if_neg h3).trans (if_neg h0)
/-- home(): the answer, the home, how many people and garments -/
noncomputable def mHome (S : HS) (P G : Nat) (tp : Nat → Int32) (tl : Nat) : Int32 × HS × Nat × Nat := match pAll tp tl (tl + 1) S P G 0 0 with
  | (none, e) => (-1 - nI e, S, P, G)
  | (some q, _) => (nI q.2.2.2, q.1, q.2.1, q.2.2.1)
theorem mHome_n {S : HS} {P G tl e : Nat} {tp : Nat → Int32} (h : pAll tp tl (tl + 1) S P G 0 0 = (none, e)) : mHome S P G tp tl = (-1 - nI e, S, P, G) := by rw [mHome, h]
theorem mHome_s {S : HS} {P G tl e : Nat} {tp : Nat → Int32} {q : HS × Nat × Nat × Nat} (h : pAll tp tl (tl + 1) S P G 0 0 = (some q, e)) : mHome S P G tp tl = (nI q.2.2.2, q.1, q.2.1, q.2.2.1) := by rw [mHome, h]
theorem tSr_3 {tp : Nat → Int32} {tl b : Nat} (h : tSr tp tl b = 3) (hv : tVl tp tl b = 59) : tKd tp tl b = 3 := by
  have h4 : tKd tp tl b = 3 ∨ tKd tp tl b = 4 := by
    have := tKd_le tp tl b
    unfold tSr at h
    split at h <;> omega
  rcases h4 with h4 | h4
  · exact h4
  · unfold tVl at hv
    rw [if_neg (by omega)] at hv
    have hlt : b < tl := by
      by_cases c : b < tl
      · exact c
      · have := (tKd_0 (tp := tp)).mpr c; omega
    rw [tBt_in hlt] at hv
    unfold tKd at h4
    rw [if_pos hlt, hv] at h4
    unfold cif at h4
    repeat' split at h4
    all_goals first | exact absurd h4 (by decide) | (rename_i q; exact absurd rfl q)
theorem tKd_3v {tp : Nat → Int32} {tl b : Nat} (h : tKd tp tl b = 3) : tSr tp tl b = 3 ∧ tVl tp tl b = 59 := by
  have hlt : b < tl := by
    by_cases c : b < tl
    · exact c
    · have := (tKd_0 (tp := tp)).mpr c; omega
  refine ⟨by unfold tSr; rw [if_neg (by omega), h], ?_⟩
  unfold tVl
  rw [if_neg (by omega), tBt_in hlt]
  unfold tKd cif at h
  rw [if_pos hlt] at h
  split at h
  · omega
  · split at h
    · omega
    · split at h
      · assumption
      · omega
theorem tSr_0 {tp : Nat → Int32} {tl b : Nat} : tSr tp tl b = 0 ↔ tKd tp tl b = 0 := by
  unfold tSr
  split <;> omega
