theorem fdn_le {S : HS} {P G g : Nat} (h : HV S P G) : fdn S g ≤ 15 := by
  have h1 := h.ht
  unfold fdn
  split
  · omega
  · split <;> omega
theorem rdI_out {S : HS} {P g q : Nat} {x : Int32} (hP : P ≤ 6) (h60 : ¬ (60 ≤ nm S g ∧ S 4 (ow S g) = 0)) (hx : 20 ≤ nm S g → LSq (bnd S g) q P x) (hn : nm S g < 20 → x = -1) (hq : q = 0 ∨ nm S g < 20) : x = rdI S P g := by
  unfold rdI
  rw [if_neg h60]
  split
  · rcases hq with rfl | h
    · exact LSq_0 (by omega) (hx (by assumption))
    · omega
  · exact hn (by omega)
theorem wth_zero (S : HS) (i G : Nat) : mset (wth S (nI i)) G = 0 ↔ cOwn S i G + cOth S i G = 0 := by rw [mset_zero, ct_wth]
theorem held_sub : ∀ n, n < 100 → ∀ f, f < 16 → (if nI n - nI f < 0 then (0 : Int32) else if 99 < nI n - nI f then 99 else nI n - nI f) = nI (n - f) := by decide +kernel
theorem mnd_1 {S : HS} {i G : Nat} (h : S 1 i = 1) : mnd S i G = 2 * nI (cOwn S i G) - 3 * nI (cOth S i G) := by unfold mnd; rw [if_pos h]
theorem mnd_2 {S : HS} {i G : Nat} (h : S 1 i = 2) : mnd S i G = nI (cOwn S i G) + nI (cOth S i G) := by unfold mnd; rw [if_neg (by rw [h]; decide), if_pos h]
theorem mnd_3 {S : HS} {i G : Nat} (h : S 1 i = 3) : mnd S i G = nI (cOwn S i G) - nI (cOth S i G) + 1 := by unfold mnd; rw [if_neg (by rw [h]; decide), if_neg (by rw [h]; decide), if_pos h]
theorem mnd_4 {S : HS} {i G : Nat} (h : S 1 i = 4) : mnd S i G = 2 * nI (cOwn S i G) - 3 * nI (cOth S i G) + (if cOth S i G = 0 then 2 else 0) := by unfold mnd; rw [if_neg (by rw [h]; decide), if_neg (by rw [h]; decide), if_neg (by rw [h]; decide), if_pos h]
theorem mnd_5 {S : HS} {i G : Nat} (h : S 1 i = 5) : mnd S i G = nI (cOwn S i G) + 2 * nI (cOth S i G) := by unfold mnd; rw [if_neg (by rw [h]; decide), if_neg (by rw [h]; decide), if_neg (by rw [h]; decide), if_neg (by rw [h]; decide), if_pos h]
theorem mnd_d {S : HS} {i G : Nat} (h1 : ¬ S 1 i = 1) (h2 : ¬ S 1 i = 2) (h3 : ¬ S 1 i = 3) (h4 : ¬ S 1 i = 4) (h5 : ¬ S 1 i = 5) : mnd S i G = nI (cOwn S i G) - nI (cOth S i G) := by unfold mnd; rw [if_neg h1, if_neg h2, if_neg h3, if_neg h4, if_neg h5]
theorem mnd_4a {S : HS} {i G : Nat} (h : S 1 i = 4) (h0 : cOth S i G = 0) : mnd S i G = 2 * nI (cOwn S i G) + 2 := by
  rw [mnd_4 h, h0, if_pos rfl]
  have : (3 : Int32) * nI 0 = 0 := by decide
  rw [this, Int32.sub_zero]
theorem mnd_4b {S : HS} {i G : Nat} (h : S 1 i = 4) (h0 : ¬ cOth S i G = 0) : mnd S i G = 2 * nI (cOwn S i G) - 3 * nI (cOth S i G) := by
  rw [mnd_4 h, if_neg h0, Int32.add_zero]
theorem giv_1 {S : HS} {i g : Nat} (h : S 1 i = 1) : giv S i g := by unfold giv; rw [if_pos (Or.inl h)]; trivial
theorem giv_4 {S : HS} {i g : Nat} (h : S 1 i = 4) : giv S i g := by unfold giv; rw [if_pos (Or.inr h)]; trivial
theorem giv_2 {S : HS} {i g : Nat} (h : S 1 i = 2) : ¬ giv S i g := by unfold giv; rw [if_neg (by rw [h]; decide), if_pos (Or.inl h)]; exact id
theorem giv_5 {S : HS} {i g : Nat} (h : S 1 i = 5) : ¬ giv S i g := by unfold giv; rw [if_neg (by rw [h]; decide), if_pos (Or.inr h)]; exact id
theorem giv_3 {S : HS} {i g : Nat} (h : S 1 i = 3) : giv S i g ↔ 80 ≤ nm S g := by unfold giv; rw [if_neg (by rw [h]; decide), if_neg (by rw [h]; decide), if_pos h]
theorem giv_d {S : HS} {i g : Nat} (h1 : ¬ S 1 i = 1) (h2 : ¬ S 1 i = 2) (h3 : ¬ S 1 i = 3) (h4 : ¬ S 1 i = 4) (h5 : ¬ S 1 i = 5) : giv S i g ↔ 60 ≤ nm S g := by unfold giv; rw [if_neg (fun q => q.elim h1 h4), if_neg (fun q => q.elim h2 h5), if_neg h3]
theorem clm_1 {S : HS} {i g G : Nat} (h : S 1 i = 1) : clm S i g G ↔ S 5 g = nI i := by unfold clm; rw [if_pos (Or.inl h)]
theorem clm_4 {S : HS} {i g G : Nat} (h : S 1 i = 4) : clm S i g G ↔ S 5 g = nI i := by unfold clm; rw [if_pos (Or.inr h)]
theorem clm_2 {S : HS} {i g G : Nat} (h : S 1 i = 2) : clm S i g G ↔ cOwn S i G + cOth S i G = 0 := by unfold clm; rw [if_neg (by rw [h]; decide), if_pos h]
theorem clm_5 {S : HS} {i g G : Nat} (h : S 1 i = 5) : clm S i g G ↔ cOwn S i G + cOth S i G = 0 ∨ 50 ≤ nm S g := by unfold clm; rw [if_neg (by rw [h]; decide), if_neg (by rw [h]; decide), if_pos h]
theorem clm_d {S : HS} {i g G : Nat} (h1 : ¬ S 1 i = 1) (h2 : ¬ S 1 i = 2) (h4 : ¬ S 1 i = 4) (h5 : ¬ S 1 i = 5) : clm S i g G ↔ S 5 g = nI i ∧ 1 ≤ nm S g := by unfold clm; rw [if_neg (fun q => q.elim h1 h4), if_neg h2, if_neg h5]
theorem w1_no {S : HS} {P g : Nat} (h : S 8 g = -1) : w1 S P g = S := by unfold w1; rw [if_pos h]
theorem w1_y {S : HS} {P g : Nat} (h : ¬ S 8 g = -1) (h2 : S 8 g = S 5 g ∨ S 4 (ho S g) = 1 ∨ giB (fade S g) (ho S g) g = true) : w1 S P g = st (fade S g) 8 g (rdI (fade S g) P g) := by unfold w1; rw [if_neg h, if_pos h2]
theorem w1_n {S : HS} {P g : Nat} (h : ¬ S 8 g = -1) (h1 : ¬ S 8 g = S 5 g) (h2 : ¬ S 4 (ho S g) = 1) (h3 : ¬ giv (fade S g) (ho S g) g) : w1 S P g = fade S g := by
  unfold w1
  rw [if_neg h, if_neg]
  rintro (q | q | q)
  · exact h1 q
  · exact h2 q
  · exact h3 (giB_t.mp q)
theorem y1_y {S : HS} {P G g : Nat} (h : S 8 g = -1) : y1 S P G g = st S 8 g (lsI (cls S g G) P) := by unfold y1; rw [if_pos h]
theorem y1_n {S : HS} {P G g : Nat} (h : ¬ S 8 g = -1) : y1 S P G g = S := by unfold y1; rw [if_neg h]
theorem cls_t {S : HS} {g G i : Nat} (h1 : S 4 i = 0) (h2 : clm S i g G) : cls S g G i = true := by unfold cls liv; rw [decide_eq_true h1, clB_t.mpr h2]; rfl
theorem cls_f1 {S : HS} {g G i : Nat} (h1 : ¬ S 4 i = 0) : cls S g G i = false := by unfold cls liv; rw [decide_eq_false h1]; rfl
theorem cls_f2 {S : HS} {g G i : Nat} (h2 : ¬ clm S i g G) : cls S g G i = false := by unfold cls; rw [clB_f.mpr h2, Bool.and_false]
theorem kN_t {S : HS} {G i : Nat} (h : kN S G i 4 i = 0) : kN S G (i + 1) = st (kN S G i) 3 i (hld (kN S G i 3 i + mnd (kN S G i) i G)) := by rw [kN, k1, if_pos h]
theorem kN_f {S : HS} {G i : Nat} (h : ¬ kN S G i 4 i = 0) : kN S G (i + 1) = kN S G i := by rw [kN, k1, if_neg h]
theorem yT_end {Z : HS} {P G i : Nat} (h : i = G) (ho : i = 0 ∨ Z 0 0 - Z 0 0 / 2 * 2 = 1) : yT Z P G = yN Z P G i := by
  unfold yT
  split
  · rw [h]
  · rcases ho with q | q
    · rw [q]; rfl
    · exact absurd q (by assumption)
theorem yT_no {Z : HS} {P G i : Nat} (h : ¬ Z 0 0 - Z 0 0 / 2 * 2 = 1) (ho : i = 0 ∨ Z 0 0 - Z 0 0 / 2 * 2 = 1) : yT Z P G = yN Z P G i := by
  unfold yT
  rw [if_neg h]
  rcases ho with q | q
  · rw [q]; rfl
  · exact absurd q h
theorem ho_ne {S : HS} {g n : Nat} (h : S 8 g = nI n) (hn : n < 2 ^ 31) : ¬ S 8 g = -1 := by rw [h]; exact nI_m1 hn
def addP (S : HS) (P : Nat) (kd bd : Int32) : HS := st (st (st (st (st S 1 P kd) 2 P bd) 3 P 0) 4 P 0) 0 2 (nI (P + 1))
def addG (S : HS) (G : Nat) (o mk n w : Int32) : HS := st (st (st (st (st S 5 G o) 6 G mk) 7 G n) 8 G w) 0 3 (nI (G + 1))
