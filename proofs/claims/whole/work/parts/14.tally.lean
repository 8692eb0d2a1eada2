/-- the tally is true -/
def TAn (S T : HS) (P n : Nat) : Prop := ∀ i, i < P → T 0 i = nI (cOwn S i n) ∧ T 1 i = nI (cOth S i n)
def tl1 (S T : HS) (g : Nat) : HS := if S 5 g = S 8 g then st T 0 (ho S g) (T 0 (ho S g) + 1) else st T 1 (ho S g) (T 1 (ho S g) + 1)
theorem cOwn_rows {S Z : HS} (h5 : Z 5 = S 5) (h8 : Z 8 = S 8) (i n : Nat) : cOwn Z i n = cOwn S i n := ct_cong (fun k _ => by unfold own1; rw [h5, h8])
theorem cOth_rows {S Z : HS} (h5 : Z 5 = S 5) (h8 : Z 8 = S 8) (i n : Nat) : cOth Z i n = cOth S i n := ct_cong (fun k _ => by unfold oth1; rw [h5, h8])
theorem TAn_rows {S Z T : HS} {P n : Nat} (h5 : Z 5 = S 5) (h8 : Z 8 = S 8) (h : TAn S T P n) : TAn Z T P n := fun i hi => by rw [cOwn_rows h5 h8, cOth_rows h5 h8]; exact h i hi
theorem TAn_kN {S T : HS} {P G : Nat} (h : TAn S T P G) (i : Nat) : TAn (kN S G i) T P G := TAn_rows (kN_row (by decide) i) (kN_row (by decide) i) h
theorem nI_inj {a b : Nat} (ha : a < 2 ^ 31) (hb : b < 2 ^ 31) : nI a = nI b ↔ a = b := nI_eq ha hb
theorem own1_no {S : HS} {i g : Nat} (h : ¬ S 8 g = nI i) : own1 S i g = false := by unfold own1; rw [decide_eq_false h]; rfl
theorem oth1_no {S : HS} {i g : Nat} (h : ¬ S 8 g = nI i) : oth1 S i g = false := by unfold oth1; rw [decide_eq_false h]; rfl
theorem own1_y {S : HS} {i g : Nat} (h : S 8 g = nI i) (h5 : S 5 g = nI i) : own1 S i g = true := by unfold own1; rw [decide_eq_true h, decide_eq_true h5]; rfl
theorem own1_n {S : HS} {i g : Nat} (h5 : ¬ S 5 g = nI i) : own1 S i g = false := by unfold own1; rw [decide_eq_false h5, Bool.and_false]
theorem oth1_y {S : HS} {i g : Nat} (h : S 8 g = nI i) (h5 : ¬ S 5 g = nI i) : oth1 S i g = true := by unfold oth1; rw [decide_eq_true h, decide_eq_false h5]; rfl
theorem oth1_n {S : HS} {i g : Nat} (h5 : S 5 g = nI i) : oth1 S i g = false := by unfold oth1; rw [decide_eq_true h5, Bool.not_true, Bool.and_false]
theorem ct_y {c : Nat → Bool} {n : Nat} (h : c n = true) : ct c (n + 1) = ct c n + 1 := by rw [ct, h]; rfl
theorem ct_n {c : Nat → Bool} {n : Nat} (h : c n = false) : ct c (n + 1) = ct c n := by rw [ct, h]; rfl
theorem TAn_0 {S T : HS} {P : Nat} (h : ∀ j, j < P → T 0 j = 0 ∧ T 1 j = 0) : TAn S T P 0 := fun i hi => h i hi
theorem TAn_heap {S T : HS} {P i : Nat} (hP : P ≤ 6) (h8 : S 8 i = -1) (h : TAn S T P i) : TAn S T P (i + 1) := fun j hj => by
  have hne : ¬ S 8 i = nI j := by rw [h8]; exact fun q => nI_m1 (by omega) q.symm
  unfold cOwn cOth
  rw [ct_n (own1_no hne), ct_n (oth1_no hne)]
  exact h j hj
theorem TAn_tl1 {S T : HS} {P i : Nat} (hP : P ≤ 6) (h8 : S 8 i = nI (ho S i)) (h8P : ho S i < P) (h : TAn S T P i) : TAn S (tl1 S T i) P (i + 1) := fun j hj => by
  unfold tl1 cOwn cOth
  by_cases e : j = ho S i
  · subst e
    split
    · rename_i h5
      rw [h8] at h5
      rw [st_eq, st_ne _ _ _ (by decide), upd_at, ct_y (own1_y h8 h5), ct_n (oth1_n h5), (h _ hj).1]
      exact ⟨nI_1 _, (h _ hj).2⟩
    · rename_i h5
      rw [h8] at h5
      rw [st_eq, st_ne _ _ _ (by decide), upd_at, ct_n (own1_n h5), ct_y (oth1_y h8 h5), (h _ hj).2]
      exact ⟨(h _ hj).1, nI_1 _⟩
  · have hne : ¬ S 8 i = nI j := by rw [h8, nI_inj (by omega) (by omega)]; exact fun q => e q.symm
    rw [ct_n (own1_no hne), ct_n (oth1_no hne)]
    split
    · rw [st_eq, st_ne _ _ _ (by decide), upd_ne _ _ e]
      exact h j hj
    · rw [st_eq, st_ne _ _ _ (by decide), upd_ne _ _ e]
      exact h j hj
/-- a garment of the heap comes to somebody -/
theorem ct_upd {c d : Nat → Bool} {g : Nat} (hc : c g = false) (he : ∀ k, k ≠ g → d k = c k) : ∀ n, g < n → ct d n = ct c n + (if d g then 1 else 0)
  | 0, h => absurd h (Nat.not_lt_zero g)
  | n + 1, h => by
    rcases Nat.lt_or_ge g n with q | q
    · rw [ct, ct, ct_upd hc he n q, he n (by omega)]
      omega
    · have e : n = g := by omega
      subst e
      rw [ct, ct, hc, ct_cong (fun k hk => he k (by omega))]
      simp
theorem TAn_lay {S T : HS} {P G g : Nat} {x : Int32} {q : Nat} (hP : P ≤ 6) (hg : g < G) (h8 : S 8 g = -1) (hx : x = nI q) (hq : q < P) (h : TAn S T P G) : TAn (st S 8 g x) (tl1 (st S 8 g x) T g) P G := by
  subst hx
  have h8' : (st S 8 g (nI q)) 8 g = nI q := by rw [st_eq, upd_at]
  have hho : ho (st S 8 g (nI q)) g = q := by unfold ho; rw [h8', nI_clamp (by omega)]
  have h5' : (st S 8 g (nI q)) 5 = S 5 := rfl
  intro j hj
  have hcown : cOwn (st S 8 g (nI q)) j G = cOwn S j G + (if own1 (st S 8 g (nI q)) j g then 1 else 0) := by
    refine ct_upd (own1_no (by rw [h8]; exact fun z => nI_m1 (by omega) z.symm)) (fun k hk => ?_) G hg
    unfold own1
    rw [st_eq, upd_ne _ _ hk, h5']
  have hcoth : cOth (st S 8 g (nI q)) j G = cOth S j G + (if oth1 (st S 8 g (nI q)) j g then 1 else 0) := by
    refine ct_upd (oth1_no (by rw [h8]; exact fun z => nI_m1 (by omega) z.symm)) (fun k hk => ?_) G hg
    unfold oth1
    rw [st_eq, upd_ne _ _ hk, h5']
  rw [hcown, hcoth]
  unfold tl1
  rw [hho, h5', h8']
  by_cases e : j = q
  · subst e
    split
    · rename_i h5
      rw [own1_y h8' h5, oth1_n (S := st S 8 g (nI j)) h5, st_eq, st_ne _ _ _ (by decide), upd_at, (h _ hj).1]
      exact ⟨nI_1 _, (h _ hj).2⟩
    · rename_i h5
      rw [own1_n (S := st S 8 g (nI j)) h5, oth1_y h8' h5, st_eq, st_ne _ _ _ (by decide), upd_at, (h _ hj).2]
      exact ⟨(h _ hj).1, nI_1 _⟩
  · have hne : ¬ (st S 8 g (nI q)) 8 g = nI j := by rw [h8', nI_inj (by omega) (by omega)]; exact fun z => e z.symm
    rw [own1_no hne, oth1_no hne]
    split
    · rw [st_eq, st_ne _ _ _ (by decide), upd_ne _ _ e]
      exact h j hj
    · rw [st_eq, st_ne _ _ _ (by decide), upd_ne _ _ e]
      exact h j hj
theorem TAn_same8 {S T : HS} {P G g : Nat} {x : Int32} (h8 : S 8 g = -1) (hx : x = -1) (h : TAn S T P G) : TAn (st S 8 g x) T P G := by
  have e : st S 8 g x = S := by
    funext f
    by_cases hf : f = 8
    · subst hf
      rw [st_eq]
      funext k
      by_cases hk : k = g
      · subst hk; rw [upd_at, hx, h8]
      · rw [upd_ne _ _ hk]
    · rw [st_ne _ _ _ hf]
  rw [e]
  exact h
theorem max_sub : ∀ n, n < 91 → (if (0 : Int32) < nI n - 50 then nI n - 50 else 0) = nI (n - 50) := by decide +kernel
theorem max_sub2 : ∀ n, n < 100 → ∀ f, f < 16 → (if (0 : Int32) < nI n - nI f then nI n - nI f else 0) = nI (n - f) := by decide +kernel
theorem hld_mm (x : Int32) : (if (-999 : Int32) < (if x < 999 then x else 999) then (if x < 999 then x else 999) else -999) = hld x := by
  unfold hld
  have a1 : (999 : Int32).toInt = 999 := by decide
  have a2 : (-999 : Int32).toInt = -999 := by decide
  by_cases h1 : x < 999
  · rw [if_pos h1]
    by_cases h2 : (-999 : Int32) < x
    · rw [if_pos h2, if_neg, if_neg]
      · rw [Int32.lt_iff_toInt_lt] at *; omega
      · rw [Int32.lt_iff_toInt_lt] at *; omega
    · rw [if_neg h2]
      by_cases h3 : x < -999
      · rw [if_pos h3]
      · rw [if_neg h3, if_neg]
        · apply Int32.toInt_inj.mp; rw [Int32.lt_iff_toInt_lt] at *; omega
        · rw [Int32.lt_iff_toInt_lt] at *; omega
  · rw [if_neg h1, if_pos (by decide), if_neg (by rw [Int32.lt_iff_toInt_lt] at *; omega)]
    by_cases h3 : 999 < x
    · rw [if_pos h3]
    · rw [if_neg h3]
      apply Int32.toInt_inj.mp; rw [Int32.lt_iff_toInt_lt] at *; omega
def bdx (S : HS) (x : Int32) (i : Nat) : Bool := decide (S 2 i = x ∧ S 4 i = 0)
theorem wks_1 (S : HS) (P G n : Nat) : wks (wks S P G n) P G 1 = wks S P G (n + 1) := rfl
theorem tz_step {T : HS} {i : Nat} (h : ∀ j, j < i → T 0 j = 0 ∧ T 1 j = 0) : ∀ j, j < i + 1 → (st (st T 0 i 0) 1 i 0) 0 j = 0 ∧ (st (st T 0 i 0) 1 i 0) 1 j = 0 := fun j hj => by
  rw [st_ne _ _ _ (by decide), st_eq, st_eq, st_ne _ _ _ (by decide)]
  by_cases e : j = i
  · subst e; exact ⟨upd_at _ _ _, upd_at _ _ _⟩
  · rw [upd_ne _ _ e, upd_ne _ _ e]; exact h j (by omega)
