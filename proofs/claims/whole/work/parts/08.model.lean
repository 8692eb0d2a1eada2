/-! what a home does, as functions of its rows -/
def nm (S : HS) (g : Nat) : Nat := (S 7 g).toNatClampNeg
def ow (S : HS) (g : Nat) : Nat := (S 5 g).toNatClampNeg
def ho (S : HS) (g : Nat) : Nat := (S 8 g).toNatClampNeg
def ht (S : HS) : Nat := (S 0 1).toNatClampNeg
def GV (S : HS) (P g : Nat) : Prop := (∃ o, o < P ∧ S 5 g = nI o) ∧ (S 6 g = 0 ∨ S 6 g = 1 ∨ S 6 g = 2) ∧ (∃ n, n ≤ 99 ∧ S 7 g = nI n) ∧ (S 8 g = -1 ∨ ∃ q, q < P ∧ S 8 g = nI q)
def HV (S : HS) (P G : Nat) : Prop := S 0 2 = nI P ∧ P ≤ 6 ∧ S 0 3 = nI G ∧ G ≤ 10 ∧ (∃ n, 20 ≤ n ∧ n ≤ 90 ∧ S 0 1 = nI n) ∧ ∀ g, g < G → GV S P g
theorem nI_c (n : Nat) (h : n < 2 ^ 31) {x : Int32} (e : x = nI n) : x = nI x.toNatClampNeg ∧ x.toNatClampNeg = n := by
  subst e
  rw [nI_clamp h]
  exact ⟨rfl, rfl⟩
theorem GV.nm {S : HS} {P g : Nat} (h : GV S P g) : S 7 g = nI (nm S g) ∧ nm S g ≤ 99 := by
  obtain ⟨-, -, ⟨n, h1, h2⟩, -⟩ := h
  obtain ⟨q1, q2⟩ := nI_c n (by omega) h2
  exact ⟨q1, by show (S 7 g).toNatClampNeg ≤ 99; omega⟩
theorem GV.ow {S : HS} {P g : Nat} (h : GV S P g) (hP : P ≤ 6) : S 5 g = nI (ow S g) ∧ ow S g < P := by
  obtain ⟨⟨n, h1, h2⟩, -⟩ := h
  obtain ⟨q1, q2⟩ := nI_c n (by omega) h2
  exact ⟨q1, by show (S 5 g).toNatClampNeg < P; omega⟩
theorem GV.ho {S : HS} {P g : Nat} (h : GV S P g) (hP : P ≤ 6) : S 8 g = -1 ∨ (S 8 g = nI (ho S g) ∧ ho S g < P) := by
  obtain ⟨-, -, -, h | ⟨n, h1, h2⟩⟩ := h
  · exact Or.inl h
  · obtain ⟨q1, q2⟩ := nI_c n (by omega) h2
    exact Or.inr ⟨q1, by show (S 8 g).toNatClampNeg < P; omega⟩
theorem HV.ht {S : HS} {P G : Nat} (h : HV S P G) : S 0 1 = nI (ht S) ∧ 20 ≤ ht S ∧ ht S ≤ 90 := by
  obtain ⟨-, -, -, -, ⟨n, h1, h2, h3⟩, -⟩ := h
  obtain ⟨q1, q2⟩ := nI_c n (by omega) h3
  exact ⟨q1, by show 20 ≤ (S 0 1).toNatClampNeg; omega, by show (S 0 1).toNatClampNeg ≤ 90; omega⟩
def fdn (S : HS) (g : Nat) : Nat := if S 6 g = 1 then 9 + (ht S - 50) / 10 else if S 6 g = 2 then ht S / 6 else 1
def lsI (c : Nat → Bool) : Nat → Int32
  | 0 => -1
  | n + 1 => if lsI c n = -1 then (if c n then nI n else -1) else lsI c n
theorem nI_m1 {n : Nat} (h : n < 2 ^ 31) : ¬ nI n = -1 := by
  intro q
  have h1 := congrArg Int32.toInt q
  rw [nI_toInt h] at h1
  have h2 : (-1 : Int32).toInt = -1 := by decide
  omega
theorem lsI_none {c : Nat → Bool} : ∀ {n : Nat}, (∀ j, j < n → c j = false) → lsI c n = -1
  | 0, _ => rfl
  | n + 1, h => by
    rw [lsI, if_pos (lsI_none (fun j hj => h j (by omega))), h n (by omega)]
    rfl
theorem lsI_hit {c : Nat → Bool} {i : Nat} (hi : c i = true) (h : ∀ j, j < i → c j = false) : ∀ {n : Nat}, i < n → n < 2 ^ 31 → lsI c n = nI i
  | 0, q, _ => absurd q (Nat.not_lt_zero i)
  | n + 1, q, hn => by
    rw [lsI]
    rcases Nat.lt_or_ge i n with q2 | q2
    · rw [lsI_hit hi h q2 (by omega), if_neg (nI_m1 (by omega))]
    · have e : i = n := by omega
      subst e
      rw [if_pos (lsI_none h), hi]
      rfl
theorem lsI_cases (c : Nat → Bool) {n : Nat} (hn : n < 2 ^ 31) : lsI c n = -1 ∨ ∃ j, j < n ∧ lsI c n = nI j := by
  induction n with
  | zero => exact Or.inl rfl
  | succ n ih =>
    rw [lsI]
    split
    · split
      · exact Or.inr ⟨n, by omega, rfl⟩
      · exact Or.inl rfl
    · rcases ih (by omega) with q | ⟨j, h1, h2⟩
      · exact absurd q (by assumption)
      · exact Or.inr ⟨j, by omega, h2⟩
/-- the least of q .. n - 1, found from above -/
def LSq (c : Nat → Bool) (q n : Nat) (x : Int32) : Prop := (x = -1 ∧ ∀ j, q ≤ j → j < n → c j = false) ∨ ∃ j, q ≤ j ∧ j < n ∧ x = nI j ∧ c j = true ∧ ∀ i, q ≤ i → i < j → c i = false
theorem LSq_init (c : Nat → Bool) (n : Nat) : LSq c n n (-1) := Or.inl ⟨rfl, fun j h1 h2 => by omega⟩
theorem LSq_t {c : Nat → Bool} {q n : Nat} (h : c q = true) (hq : q < n) : LSq c q n (nI q) := Or.inr ⟨q, Nat.le_refl q, hq, rfl, h, fun i h1 h2 => by omega⟩
theorem LSq_f {c : Nat → Bool} {q n : Nat} {x : Int32} (h : c q = false) (hx : LSq c (q + 1) n x) : LSq c q n x := by
  rcases hx with ⟨h1, h2⟩ | ⟨j, h1, h2, h3, h4, h5⟩
  · exact Or.inl ⟨h1, fun j a b => (Nat.eq_or_lt_of_le a).elim (fun e => by rw [← e]; exact h) (fun e => h2 j e b)⟩
  · exact Or.inr ⟨j, by omega, h2, h3, h4, fun i a b => (Nat.eq_or_lt_of_le a).elim (fun e => by rw [← e]; exact h) (fun e => h5 i e b)⟩
theorem LSq_0 {c : Nat → Bool} {n : Nat} {x : Int32} (hn : n < 2 ^ 31) (h : LSq c 0 n x) : x = lsI c n := by
  rcases h with ⟨h1, h2⟩ | ⟨j, h1, h2, h3, h4, h5⟩
  · rw [h1, lsI_none (fun j hj => h2 j (Nat.zero_le j) hj)]
  · rw [h3, lsI_hit h4 (fun i hi => h5 i (Nat.zero_le i) hi) h2 hn]
def bnd (S : HS) (g i : Nat) : Bool := decide (S 2 i = S 2 (ow S g) ∧ S 4 i = 0)
def rdI (S : HS) (P g : Nat) : Int32 := if 60 ≤ nm S g ∧ S 4 (ow S g) = 0 then nI (ow S g) else if 20 ≤ nm S g then lsI (bnd S g) P else -1
def giv (S : HS) (i g : Nat) : Prop := if S 1 i = 1 ∨ S 1 i = 4 then True else if S 1 i = 2 ∨ S 1 i = 5 then False else if S 1 i = 3 then 80 ≤ nm S g else 60 ≤ nm S g
def ct (c : Nat → Bool) : Nat → Nat
  | 0 => 0
  | n + 1 => ct c n + (if c n then 1 else 0)
theorem ct_le (c : Nat → Bool) : ∀ n, ct c n ≤ n
  | 0 => Nat.le_refl 0
  | n + 1 => by
    have h := ct_le c n
    rw [ct]
    split <;> omega
theorem ct_cong {c d : Nat → Bool} : ∀ {n : Nat}, (∀ k, k < n → c k = d k) → ct c n = ct d n
  | 0, _ => rfl
  | n + 1, h => by rw [ct, ct, ct_cong (fun k hk => h k (by omega)), h n (by omega)]
theorem ct_split (c d : Nat → Bool) : ∀ n, ct c n = ct (fun g => c g && d g) n + ct (fun g => c g && !d g) n
  | 0 => rfl
  | n + 1 => by
    rw [ct, ct, ct, ct_split c d n]
    cases c n <;> cases d n <;> simp <;> omega
theorem ct_zero {c : Nat → Bool} : ∀ {n : Nat}, ct c n = 0 ↔ ∀ k, k < n → c k = false
  | 0 => ⟨fun _ k hk => absurd hk (Nat.not_lt_zero k), fun _ => rfl⟩
  | n + 1 => by
    rw [ct]
    constructor
    · intro h k hk
      rcases Nat.lt_or_ge k n with q | q
      · exact ct_zero.mp (by omega) k q
      · have e : k = n := by omega
        subst e
        cases hc : c k
        · rfl
        · rw [hc] at h; simp at h
    · intro h
      rw [ct_zero.mpr (fun k hk => h k (by omega)), h n (by omega)]
      rfl
def own1 (S : HS) (i g : Nat) : Bool := decide (S 8 g = nI i) && decide (S 5 g = nI i)
def oth1 (S : HS) (i g : Nat) : Bool := decide (S 8 g = nI i) && !decide (S 5 g = nI i)
def wth (S : HS) (x : Int32) (g : Nat) : Bool := decide (S 8 g = x)
def owd (S : HS) (x : Int32) (g : Nat) : Bool := decide (S 5 g = x)
def rgt (S : HS) (g : Nat) : Bool := decide (S 8 g = S 5 g)
def liv (S : HS) (i : Nat) : Bool := decide (S 4 i = 0)
def cOwn (S : HS) (i n : Nat) : Nat := ct (own1 S i) n
def cOth (S : HS) (i n : Nat) : Nat := ct (oth1 S i) n
theorem ct_wth (S : HS) (i n : Nat) : ct (wth S (nI i)) n = cOwn S i n + cOth S i n := ct_split (wth S (nI i)) (owd S (nI i)) n
def clm (S : HS) (i g G : Nat) : Prop := if S 1 i = 1 ∨ S 1 i = 4 then S 5 g = nI i else if S 1 i = 2 then cOwn S i G + cOth S i G = 0 else if S 1 i = 5 then cOwn S i G + cOth S i G = 0 ∨ 50 ≤ nm S g else S 5 g = nI i ∧ 1 ≤ nm S g
def mnd (S : HS) (i G : Nat) : Int32 := if S 1 i = 1 then 2 * nI (cOwn S i G) - 3 * nI (cOth S i G) else if S 1 i = 2 then nI (cOwn S i G) + nI (cOth S i G) else if S 1 i = 3 then nI (cOwn S i G) - nI (cOth S i G) + 1 else if S 1 i = 4 then 2 * nI (cOwn S i G) - 3 * nI (cOth S i G) + (if cOth S i G = 0 then 2 else 0) else if S 1 i = 5 then nI (cOwn S i G) + 2 * nI (cOth S i G) else nI (cOwn S i G) - nI (cOth S i G)
/-- sets by bits -/
def mset (c : Nat → Bool) : Nat → Nat
  | 0 => 0
  | n + 1 => mset c n + (if c n then 2 ^ n else 0)
theorem mset_lt (c : Nat → Bool) : ∀ n, mset c n < 2 ^ n
  | 0 => by simp [mset]
  | n + 1 => by
    have h := mset_lt c n
    rw [mset, Nat.pow_succ]
    split <;> omega
theorem mset_cong {c d : Nat → Bool} : ∀ {n : Nat}, (∀ k, k < n → c k = d k) → mset c n = mset d n
  | 0, _ => rfl
  | n + 1, h => by rw [mset, mset, mset_cong (fun k hk => h k (by omega)), h n (by omega)]
theorem mset_bit (c : Nat → Bool) : ∀ n i, (mset c n).testBit i = (decide (i < n) && c i)
  | 0, i => by simp [mset]
  | n + 1, i => by
    have h := mset_lt c n
    have ih := mset_bit c n
    rw [mset]
    cases hc : c n
    · rw [if_neg (by decide), Nat.add_zero, ih i]
      by_cases hi : i < n
      · simp [hi, Nat.lt_succ_of_lt hi]
      · by_cases e : i = n
        · subst e; simp [hc]
        · have : ¬ i < n + 1 := by omega
          simp [hi, this]
    · rw [if_pos rfl, Nat.add_comm]
      rcases Nat.lt_trichotomy i n with q | q | q
      · rw [Nat.testBit_two_pow_add_gt q, ih i]
        simp [q, Nat.lt_succ_of_lt q]
      · subst q
        rw [Nat.testBit_two_pow_add_eq, ih i]
        simp [hc]
      · rw [Nat.testBit_lt_two_pow]
        · have : ¬ i < n + 1 := by omega
          simp [this]
        · have h1 : 2 ^ (n + 1) ≤ 2 ^ i := Nat.pow_le_pow_right (by decide) (by omega)
          rw [Nat.pow_succ] at h1
          omega
theorem nI_and (a b : Nat) : nI a &&& nI b = nI (a &&& b) := by
  apply Int32.toBitVec_inj.1
  show BitVec.ofNat 32 a &&& BitVec.ofNat 32 b = BitVec.ofNat 32 (a &&& b)
  apply BitVec.eq_of_getLsbD_eq
  intro i hi
  simp [hi]
theorem nI_or (a b : Nat) : nI a ||| nI b = nI (a ||| b) := by
  apply Int32.toBitVec_inj.1
  show BitVec.ofNat 32 a ||| BitVec.ofNat 32 b = BitVec.ofNat 32 (a ||| b)
  apply BitVec.eq_of_getLsbD_eq
  intro i hi
  simp [hi]
theorem mset_or (c : Nat → Bool) (n : Nat) : mset c n ||| 2 ^ n = mset c n + 2 ^ n := by
  have h := Nat.two_pow_add_eq_or_of_lt (mset_lt c n) 1
  rw [Nat.mul_one] at h
  rw [Nat.or_comm, ← h, Nat.add_comm]
theorem nI_sh : ∀ g, g < 10 → (1 : Int32) <<< (nI g &&& 31) = nI (2 ^ g) := by decide
theorem mset_put {c : Nat → Bool} {n : Nat} (h : c n = true) (hn : n < 10) : nI (mset c n) ||| ((1 : Int32) <<< (nI n &&& 31)) = nI (mset c (n + 1)) := by
  rw [nI_sh n hn, nI_or, mset_or, mset, if_pos h]
theorem mset_no {c : Nat → Bool} {n : Nat} (h : c n = false) : mset c (n + 1) = mset c n := by rw [mset, h]; rfl
theorem mset_no0 {c : Nat → Bool} {n : Nat} (h : c n = false) : nI (mset c n) ||| (0 : Int32) = nI (mset c (n + 1)) := by
  rw [mset_no h, show (0 : Int32) = nI 0 from rfl, nI_or, Nat.or_zero]
theorem mset_and (c d : Nat → Bool) (n : Nat) : mset c n &&& mset d n = mset (fun g => c g && d g) n := by
  apply Nat.eq_of_testBit_eq
  intro i
  rw [Nat.testBit_and, mset_bit, mset_bit, mset_bit]
  cases decide (i < n) <;> simp
/-- how many bits of the lowest ten -/
def pcN (k : Nat) : Nat := ct (fun i => k.testBit i) 10
theorem ct_cut (c : Nat → Bool) (n : Nat) : ∀ m, ct (fun i => decide (i < n) && c i) (n + m) = ct c n
  | 0 => ct_cong (fun k hk => by rw [decide_eq_true (show k < n from hk), Bool.true_and])
  | m + 1 => by
    rw [← Nat.add_assoc, ct, ct_cut c n m, decide_eq_false (show ¬ n + m < n by omega)]
    rfl
theorem pcN_mset (c : Nat → Bool) {n : Nat} (hn : n ≤ 10) : pcN (mset c n) = ct c n := by
  have h := ct_cut c n (10 - n)
  rw [show n + (10 - n) = 10 by omega] at h
  rw [← h]
  exact ct_cong (fun k _ => mset_bit c n k)
theorem mset_lt10 (c : Nat → Bool) {n : Nat} (hn : n ≤ 10) : mset c n < 1024 := Nat.lt_of_lt_of_le (mset_lt c n) (show 2 ^ n ≤ 2 ^ 10 from Nat.pow_le_pow_right (by decide) hn)
theorem mset_zero {c : Nat → Bool} {n : Nat} : mset c n = 0 ↔ ct c n = 0 := by
  rw [ct_zero]
  constructor
  · intro h k hk
    have h1 := mset_bit c n k
    rw [h, Nat.zero_testBit] at h1
    simpa [hk] using h1.symm
  · intro h
    apply Nat.eq_of_testBit_eq
    intro i
    rw [mset_bit, Nat.zero_testBit]
    by_cases hi : i < n
    · simp [hi, h i hi]
    · simp [hi]
theorem pc_step : ∀ k, k < 1024 → 0 < k → (k &&& (k - 1)) < k ∧ pcN k = pcN (k &&& (k - 1)) + 1 := by decide +kernel
theorem pc_0 : pcN 0 = 0 := by decide
/-- sums -/
def smI (f : Nat → Int32) : Nat → Int32
  | 0 => 0
  | n + 1 => smI f n + f n
/-- a week -/
def hld (x : Int32) : Int32 := if x < -999 then -999 else if 999 < x then 999 else x
theorem giv_dec (S : HS) (i g : Nat) : giv S i g ∨ ¬ giv S i g := Classical.em _
noncomputable def giB (S : HS) (i g : Nat) : Bool := @decide (giv S i g) (Classical.propDecidable _)
noncomputable def clB (S : HS) (i g G : Nat) : Bool := @decide (clm S i g G) (Classical.propDecidable _)
theorem giB_t {S : HS} {i g : Nat} : giB S i g = true ↔ giv S i g := by unfold giB; simp
theorem giB_f {S : HS} {i g : Nat} : giB S i g = false ↔ ¬ giv S i g := by unfold giB; simp
theorem clB_t {S : HS} {i g G : Nat} : clB S i g G = true ↔ clm S i g G := by unfold clB; simp
theorem clB_f {S : HS} {i g G : Nat} : clB S i g G = false ↔ ¬ clm S i g G := by unfold clB; simp
def fade (S : HS) (g : Nat) : HS := st S 7 g (nI (nm S g - fdn S g))
noncomputable def w1 (S : HS) (P g : Nat) : HS := if S 8 g = -1 then S else if S 8 g = S 5 g ∨ S 4 (ho S g) = 1 ∨ giB (fade S g) (ho S g) g = true then st (fade S g) 8 g (rdI (fade S g) P g) else fade S g
noncomputable def wN (S : HS) (P : Nat) : Nat → HS
  | 0 => S
  | n + 1 => w1 (wN S P n) P n
noncomputable def cls (S : HS) (g G i : Nat) : Bool := liv S i && clB S i g G
noncomputable def y1 (S : HS) (P G g : Nat) : HS := if S 8 g = -1 then st S 8 g (lsI (cls S g G) P) else S
noncomputable def yN (S : HS) (P G : Nat) : Nat → HS
  | 0 => S
  | n + 1 => y1 (yN S P G n) P G n
def k1 (S : HS) (G i : Nat) : HS := if S 4 i = 0 then st S 3 i (hld (S 3 i + mnd S i G)) else S
def kN (S : HS) (G : Nat) : Nat → HS
  | 0 => S
  | n + 1 => k1 (kN S G n) G n
noncomputable def yT (S : HS) (P G : Nat) : HS := if S 0 0 - S 0 0 / 2 * 2 = 1 then yN S P G G else S
noncomputable def wk (S : HS) (P G : Nat) : HS := let Z := kN (yT (wN S P G) P G) G P; st Z 0 0 (Z 0 0 + 1)
noncomputable def wks (S : HS) (P G : Nat) : Nat → HS
  | 0 => S
  | n + 1 => wk (wks S P G n) P G
