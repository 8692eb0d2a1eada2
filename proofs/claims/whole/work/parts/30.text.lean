/-! a home's text: bytes, tokens, items; one spec for both sides -/
def tBt (tp : Nat → Int32) (tl i : Nat) : Int32 := if i < tl then tp i else -1
def tBY (tp : Nat → Int32) (tl : Nat) : Prop := ∀ i, i < tl → ∃ v, v < 256 ∧ tp i = nI v
def bkP (x : Int32) : Prop := x = 32
def ltP (x : Int32) : Prop := 97 ≤ x ∧ x ≤ 122
def dgP (x : Int32) : Prop := 48 ≤ x ∧ x ≤ 57
noncomputable def tRnF (q : Int32 → Prop) (tp : Nat → Int32) (tl : Nat) : Nat → Nat → Nat
  | 0, k => k
  | f + 1, k => cif (q (tBt tp tl k)) (tRnF q tp tl f (k + 1)) k
noncomputable def tRn (q : Int32 → Prop) (tp : Nat → Int32) (tl k : Nat) : Nat := tRnF q tp tl (tl - k) k
theorem tRn_t {q : Int32 → Prop} {tp : Nat → Int32} {tl k : Nat} (h : q (tBt tp tl k)) (hk : k < tl) : tRn q tp tl k = tRn q tp tl (k + 1) := by
  unfold tRn
  rw [show tl - k = (tl - (k + 1)) + 1 by omega, tRnF, cif_t h]
theorem tRn_f {q : Int32 → Prop} {tp : Nat → Int32} {tl k : Nat} (h : ¬ q (tBt tp tl k)) : tRn q tp tl k = k := by
  unfold tRn
  cases tl - k with
  | zero => rfl
  | succ f => rw [tRnF, cif_f h]
theorem tRnF_ge {q : Int32 → Prop} {tp : Nat → Int32} {tl : Nat} : ∀ f k, k ≤ tRnF q tp tl f k
  | 0, k => Nat.le_refl k
  | f + 1, k => by
    rw [tRnF]
    by_cases h : q (tBt tp tl k)
    · rw [cif_t h]; have := tRnF_ge (q := q) (tp := tp) (tl := tl) f (k + 1); omega
    · rw [cif_f h]; exact Nat.le_refl k
theorem tRnF_le {q : Int32 → Prop} {tp : Nat → Int32} {tl : Nat} : ∀ f k, tRnF q tp tl f k ≤ f + k
  | 0, k => by rw [tRnF]; omega
  | f + 1, k => by
    rw [tRnF]
    by_cases h : q (tBt tp tl k)
    · rw [cif_t h]; have := tRnF_le (q := q) (tp := tp) (tl := tl) f (k + 1); omega
    · rw [cif_f h]; omega
theorem tRn_ge (q : Int32 → Prop) (tp : Nat → Int32) (tl k : Nat) : k ≤ tRn q tp tl k := tRnF_ge _ _
theorem tRn_le {q : Int32 → Prop} {tp : Nat → Int32} {tl k : Nat} (h : k ≤ tl) : tRn q tp tl k ≤ tl := by
  have := tRnF_le (q := q) (tp := tp) (tl := tl) (tl - k) k
  unfold tRn
  omega
theorem tBt_in {tp : Nat → Int32} {tl k : Nat} (h : k < tl) : tBt tp tl k = tp k := if_pos h
theorem tBt_out {tp : Nat → Int32} {tl k : Nat} (h : ¬ k < tl) : tBt tp tl k = -1 := if_neg h
theorem nbk : ¬ bkP (-1) := by unfold bkP; decide
theorem nlt : ¬ ltP (-1) := by unfold ltP; decide
theorem ndg : ¬ dgP (-1) := by unfold dgP; decide
theorem tBt_lt {q : Int32 → Prop} {tp : Nat → Int32} {tl k : Nat} (hq : ¬ q (-1)) (h : q (tBt tp tl k)) : k < tl := by
  by_cases c : k < tl
  · exact c
  · rw [tBt_out c] at h; exact absurd h hq
theorem tBt_neg {tp : Nat → Int32} {tl k : Nat} (hB : tBY tp tl) : tBt tp tl k < 0 ↔ ¬ k < tl := by
  by_cases c : k < tl
  · obtain ⟨v, hv, e⟩ := hB k c
    rw [tBt_in c, e]
    exact ⟨fun h => absurd h (nI_pos (by omega)), fun h => absurd c h⟩
  · rw [tBt_out c]
    exact ⟨fun _ => c, fun _ => by decide⟩
/-- the token's kind: 0 end, 1 word, 2 number, 3 sign, 4 strange -/
noncomputable def tKd (tp : Nat → Int32) (tl k : Nat) : Nat := if k < tl then cif (ltP (tp k)) 1 (cif (dgP (tp k)) 2 (if tp k = 59 then 3 else 4)) else 0
noncomputable def tEn (tp : Nat → Int32) (tl k : Nat) : Nat := if tKd tp tl k = 1 then tRn ltP tp tl k else if tKd tp tl k = 2 then tRn dgP tp tl k else if tKd tp tl k = 0 then k else k + 1
noncomputable def tSk (tp : Nat → Int32) (tl k : Nat) : Nat := tRn bkP tp tl k
noncomputable def tNx (tp : Nat → Int32) (tl k : Nat) : Nat := tSk tp tl (tEn tp tl k)
def tNv (tp : Nat → Int32) (b : Nat) : Nat → Nat
  | 0 => 0
  | k + 1 => if 999 < tNv tp b k then 10000 else 10 * tNv tp b k + (ix (tp (b + k)) - 48)
noncomputable def tNr (tp : Nat → Int32) (tl b : Nat) : Nat := tNv tp b (tEn tp tl b - b)
def tWh (tp : Nat → Int32) (b : Nat) : Nat → Int64
  | 0 => 0
  | k + 1 => if k < 12 then 27 * tWh tp b k + (tp (b + k)).toInt64 - 96 else -1
theorem tKd_0 {tp : Nat → Int32} {tl k : Nat} : tKd tp tl k = 0 ↔ ¬ k < tl := by
  unfold tKd
  by_cases c : k < tl
  · rw [if_pos c]
    refine ⟨fun h => ?_, fun h => absurd c h⟩
    unfold cif at h
    repeat' split at h
    all_goals exact absurd h (by decide)
  · rw [if_neg c]; exact ⟨fun _ => c, fun _ => rfl⟩
theorem tKd_1 {tp : Nat → Int32} {tl k : Nat} (h : k < tl) (h1 : ltP (tp k)) : tKd tp tl k = 1 := by unfold tKd; rw [if_pos h, cif_t h1]
theorem tKd_2 {tp : Nat → Int32} {tl k : Nat} (h : k < tl) (h1 : ¬ ltP (tp k)) (h2 : dgP (tp k)) : tKd tp tl k = 2 := by unfold tKd; rw [if_pos h, cif_f h1, cif_t h2]
theorem tKd_3 {tp : Nat → Int32} {tl k : Nat} (h : k < tl) (h1 : ¬ ltP (tp k)) (h2 : ¬ dgP (tp k)) (h3 : tp k = 59) : tKd tp tl k = 3 := by unfold tKd; rw [if_pos h, cif_f h1, cif_f h2, if_pos h3]
theorem tKd_4 {tp : Nat → Int32} {tl k : Nat} (h : k < tl) (h1 : ¬ ltP (tp k)) (h2 : ¬ dgP (tp k)) (h3 : ¬ tp k = 59) : tKd tp tl k = 4 := by unfold tKd; rw [if_pos h, cif_f h1, cif_f h2, if_neg h3]
theorem tKd_le (tp : Nat → Int32) (tl k : Nat) : tKd tp tl k ≤ 4 := by
  unfold tKd cif
  repeat' split
  all_goals decide
theorem tEn_1 {tp : Nat → Int32} {tl k : Nat} (h : tKd tp tl k = 1) : tEn tp tl k = tRn ltP tp tl k := by unfold tEn; rw [if_pos h]
theorem tEn_2 {tp : Nat → Int32} {tl k : Nat} (h : tKd tp tl k = 2) : tEn tp tl k = tRn dgP tp tl k := by unfold tEn; rw [if_neg (by omega), if_pos h]
theorem tEn_0 {tp : Nat → Int32} {tl k : Nat} (h : tKd tp tl k = 0) : tEn tp tl k = k := by unfold tEn; rw [if_neg (by omega), if_neg (by omega), if_pos h]
theorem tEn_3 {tp : Nat → Int32} {tl k : Nat} (h : 3 ≤ tKd tp tl k) : tEn tp tl k = k + 1 := by unfold tEn; rw [if_neg (by omega), if_neg (by omega), if_neg (by omega)]
theorem tEn_le {tp : Nat → Int32} {tl k : Nat} (h : k ≤ tl) : tEn tp tl k ≤ tl := by
  unfold tEn
  split
  · exact tRn_le h
  · split
    · exact tRn_le h
    · split
      · exact h
      · rename_i h3
        have : k < tl := by
          by_cases c : k < tl
          · exact c
          · exact absurd (tKd_0.mpr c) h3
        omega
theorem tEn_ge (tp : Nat → Int32) (tl k : Nat) : k ≤ tEn tp tl k := by
  unfold tEn
  split
  · exact tRn_ge _ _ _ _
  · split
    · exact tRn_ge _ _ _ _
    · split <;> omega
theorem tSk_le {tp : Nat → Int32} {tl k : Nat} (h : k ≤ tl) : tSk tp tl k ≤ tl := tRn_le h
theorem tSk_ge (tp : Nat → Int32) (tl k : Nat) : k ≤ tSk tp tl k := tRn_ge _ _ _ _
theorem tNx_le {tp : Nat → Int32} {tl k : Nat} (h : k ≤ tl) : tNx tp tl k ≤ tl := tSk_le (tEn_le h)
theorem tNx_ge (tp : Nat → Int32) (tl k : Nat) : k ≤ tNx tp tl k := Nat.le_trans (tEn_ge tp tl k) (tSk_ge tp tl _)
theorem tNv_le {tp : Nat → Int32} {b : Nat} : ∀ n, (∀ k, k < n → dgP (tp (b + k))) → tNv tp b n ≤ 10000
  | 0, _ => Nat.zero_le _
  | n + 1, h => by
    rw [tNv]
    have h1 := tNv_le (tp := tp) (b := b) n (fun k hk => h k (by omega))
    obtain ⟨q1, q2⟩ := h n (by omega)
    obtain ⟨v, hv, e⟩ := rng (k := 57) (by decide) ⟨Int32.le_trans (by decide) q1, q2⟩
    split
    · omega
    · rw [e, ix_nI (by omega)]; omega
/-- the reference's token state -/
noncomputable def tSr (tp : Nat → Int32) (tl b : Nat) : Nat := if tKd tp tl b = 4 then 3 else tKd tp tl b
noncomputable def tVl (tp : Nat → Int32) (tl b : Nat) : Int32 := if tKd tp tl b = 2 then nI (tNr tp tl b) else tBt tp tl b
noncomputable def tWv (tp : Nat → Int32) (tl b : Nat) : Int64 := if tKd tp tl b = 1 then tWh tp b (tEn tp tl b - b) else 0
def ZT (tp : Nat → Int32) (tl b : Nat) (z : Nat → Int32) (w : Int64) : Prop := z 0 = nI tl ∧ z 1 = nI (tSr tp tl b) ∧ z 2 = nI b ∧ z 3 = nI (tEn tp tl b) ∧ z 4 = tVl tp tl b ∧ w = tWv tp tl b
/-- a word by its letters, last letter first -/
def hsR : List Nat → Nat
  | [] => 0
  | q :: r => 27 * hsR r + q
def tHn (f : Nat → Nat) : Nat → Nat
  | 0 => 0
  | n + 1 => 27 * tHn f n + f n
def tSm (f : Nat → Nat) : Nat → List Nat → Prop
  | 0, [] => True
  | n + 1, q :: r => f n = q ∧ tSm f n r
  | 0, _ :: _ => False
  | _ + 1, [] => False
theorem tHn_iff {f : Nat → Nat} : ∀ (n : Nat) (L : List Nat), (∀ k, k < n → 1 ≤ f k ∧ f k ≤ 26) → (∀ q ∈ L, 1 ≤ q ∧ q ≤ 26) → (tHn f n = hsR L ↔ tSm f n L)
  | 0, [], _, _ => ⟨fun _ => trivial, fun _ => rfl⟩
  | 0, q :: r, _, h2 => by
    have := h2 q (List.mem_cons_self ..)
    refine ⟨fun h => ?_, fun h => False.elim h⟩
    rw [tHn, hsR] at h
    omega
  | n + 1, [], h1, _ => by
    have := h1 n (by omega)
    refine ⟨fun h => ?_, fun h => False.elim h⟩
    rw [tHn, hsR] at h
    omega
  | n + 1, q :: r, h1, h2 => by
    have a := h1 n (by omega)
    have b := h2 q (List.mem_cons_self ..)
    have ih := tHn_iff (f := f) n r (fun k hk => h1 k (by omega)) (fun x hx => h2 x (List.mem_cons_of_mem _ hx))
    rw [tHn, hsR, tSm]
    constructor
    · intro h
      have e1 : f n = q := by omega
      exact ⟨e1, ih.mp (by omega)⟩
    · rintro ⟨e1, e2⟩
      rw [e1, ih.mpr e2]
theorem tHn_lt {f : Nat → Nat} : ∀ n, (∀ k, k < n → f k ≤ 26) → tHn f n < 27 ^ n
  | 0, _ => Nat.one_pos
  | n + 1, h => by
    have h1 := tHn_lt (f := f) n (fun k hk => h k (by omega))
    have h2 := h n (by omega)
    rw [tHn, Nat.pow_succ]
    omega
def tLt (tp : Nat → Int32) (b : Nat) : Nat → Nat := fun k => ix (tp (b + k)) - 96
theorem ltP_v {x : Int32} (h : ltP x) : ∃ v, 97 ≤ v ∧ v ≤ 122 ∧ x = nI v := by
  obtain ⟨q1, q2⟩ := h
  obtain ⟨v, hv, e⟩ := rng (k := 122) (by decide) ⟨Int32.le_trans (by decide) q1, q2⟩
  subst e
  refine ⟨v, ?_, hv, rfl⟩
  exact (nI_leI (a := 97) (b := v) (by decide) (by omega)).mp q1
theorem dgP_v {x : Int32} (h : dgP x) : ∃ v, 48 ≤ v ∧ v ≤ 57 ∧ x = nI v := by
  obtain ⟨q1, q2⟩ := h
  obtain ⟨v, hv, e⟩ := rng (k := 57) (by decide) ⟨Int32.le_trans (by decide) q1, q2⟩
  subst e
  refine ⟨v, ?_, hv, rfl⟩
  exact (nI_leI (a := 48) (b := v) (by decide) (by omega)).mp q1
theorem tRnF_all {q : Int32 → Prop} {tp : Nat → Int32} {tl : Nat} : ∀ f k i, k ≤ i → i < tRnF q tp tl f k → q (tBt tp tl i)
  | 0, k, i, h1, h2 => by rw [tRnF] at h2; omega
  | f + 1, k, i, h1, h2 => by
    rw [tRnF] at h2
    by_cases h : q (tBt tp tl k)
    · rw [cif_t h] at h2
      by_cases e : k = i
      · subst e; exact h
      · exact tRnF_all (q := q) (tp := tp) (tl := tl) f (k + 1) i (by omega) h2
    · rw [cif_f h] at h2; omega
theorem tRn_all {q : Int32 → Prop} {tp : Nat → Int32} {tl k i : Nat} (h1 : k ≤ i) (h2 : i < tRn q tp tl k) : q (tBt tp tl i) := tRnF_all _ _ _ h1 h2
theorem tW_lt {tp : Nat → Int32} {tl b : Nat} (h : tKd tp tl b = 1) : ∀ k, k < tEn tp tl b - b → ltP (tp (b + k)) := fun k hk => by
  rw [tEn_1 h] at hk
  have h1 := tRn_all (q := ltP) (tp := tp) (tl := tl) (k := b) (i := b + k) (by omega) (by omega)
  rw [tBt_in (tBt_lt nlt h1)] at h1
  exact h1
theorem tN_dg {tp : Nat → Int32} {tl b : Nat} (h : tKd tp tl b = 2) : ∀ k, k < tEn tp tl b - b → dgP (tp (b + k)) := fun k hk => by
  rw [tEn_2 h] at hk
  have h1 := tRn_all (q := dgP) (tp := tp) (tl := tl) (k := b) (i := b + k) (by omega) (by omega)
  rw [tBt_in (tBt_lt ndg h1)] at h1
  exact h1
theorem tNr_le {tp : Nat → Int32} {tl b : Nat} (h : tKd tp tl b = 2) : tNr tp tl b ≤ 10000 := tNv_le _ (tN_dg h)
theorem nI_L {v : Nat} (h : v < 2 ^ 31) : (nI v).toInt64 = Int64.ofNat v := by
  apply Int64.toInt_inj.mp
  rw [Int32.toInt_toInt64, nI_toInt h, Int64.toInt_ofNat_of_lt (by omega)]
theorem L_sub (x : Int64) (v : Nat) (h : 96 ≤ v) : x + Int64.ofNat v - 96 = x + Int64.ofNat (v - 96) := by
  have e : Int64.ofNat v = Int64.ofNat (v - 96) + 96 := by
    rw [show v = (v - 96) + 96 by omega, Int64.ofNat_add]
    rw [show v - 96 + 96 - 96 = v - 96 by omega]
    rfl
  rw [e, ← Int64.add_assoc, Int64.add_sub_cancel]
theorem tWh_eq {tp : Nat → Int32} {b : Nat} : ∀ n, n ≤ 12 → (∀ k, k < n → ltP (tp (b + k))) → tWh tp b n = Int64.ofNat (tHn (tLt tp b) n)
  | 0, _, _ => rfl
  | n + 1, hn, h => by
    obtain ⟨v, h1, h2, e⟩ := ltP_v (h n (by omega))
    rw [tWh, if_pos (by omega), tHn, tWh_eq n (by omega) (fun k hk => h k (by omega)), e, nI_L (by omega), L_sub _ _ (by omega), Int64.ofNat_add, Int64.ofNat_mul]
    unfold tLt
    rw [e, ix_nI (by omega)]
    rfl
theorem tWh_big {tp : Nat → Int32} {b n : Nat} (h : 12 < n) : tWh tp b n = -1 := by
  cases n with
  | zero => omega
  | succ n => rw [tWh, if_neg (by omega)]
theorem tSm_len {f : Nat → Nat} : ∀ (n : Nat) (L : List Nat), tSm f n L → L.length = n
  | 0, [], _ => rfl
  | 0, _ :: _, h => False.elim h
  | _ + 1, [], h => False.elim h
  | n + 1, q :: r, h => by rw [List.length_cons, tSm_len n r h.2]
def tIW (tp : Nat → Int32) (tl b : Nat) (L : List Nat) : Prop := tKd tp tl b = 1 ∧ tSm (tLt tp b) (tEn tp tl b - b) L
def okW (L : List Nat) : Bool := decide (L.length ≤ 12) && L.all (fun q => decide (1 ≤ q ∧ q ≤ 26)) && decide (hsR L < 27 ^ 12)
theorem tIW_iff {tp : Nat → Int32} {tl b : Nat} {z : Nat → Int32} {w : Int64} {L : List Nat} (hZ : ZT tp tl b z w) (hL : okW L = true) : (z 1 = 1 ∧ w = Int64.ofNat (hsR L)) ↔ tIW tp tl b L := by
  unfold okW at hL
  rw [Bool.and_eq_true, Bool.and_eq_true, decide_eq_true_eq, decide_eq_true_eq, List.all_eq_true] at hL
  obtain ⟨⟨hL1, hL2⟩, hL3⟩ := hL
  have hq : ∀ q ∈ L, 1 ≤ q ∧ q ≤ 26 := fun q hq => of_decide_eq_true (hL2 q hq)
  obtain ⟨-, h1, -, -, -, hw⟩ := hZ
  unfold tIW
  by_cases k1 : tKd tp tl b = 1
  · have e1 : z 1 = 1 := by rw [h1]; unfold tSr; rw [if_neg (by omega), k1]; rfl
    have hw : w = tWh tp b (tEn tp tl b - b) := by rw [hw]; unfold tWv; rw [if_pos k1]
    have hlt := tW_lt k1
    have hf : ∀ k, k < tEn tp tl b - b → 1 ≤ tLt tp b k ∧ tLt tp b k ≤ 26 := fun k hk => by
      obtain ⟨v, a1, a2, e⟩ := ltP_v (hlt k hk)
      unfold tLt
      rw [e, ix_nI (by omega)]
      omega
    by_cases n12 : tEn tp tl b - b ≤ 12
    · rw [hw, tWh_eq _ n12 hlt]
      have hb := tHn_lt (f := tLt tp b) (tEn tp tl b - b) (fun k hk => (hf k hk).2)
      have hb2 : 27 ^ (tEn tp tl b - b) ≤ 27 ^ 12 := Nat.pow_le_pow_right (by decide) n12
      have hi := tHn_iff (f := tLt tp b) (tEn tp tl b - b) L hf hq
      rw [← hi]
      constructor
      · rintro ⟨-, h⟩
        refine ⟨k1, ?_⟩
        have h2 := congrArg Int64.toInt h
        rw [Int64.toInt_ofNat_of_lt (by omega), Int64.toInt_ofNat_of_lt (by omega)] at h2
        omega
      · rintro ⟨-, h⟩
        exact ⟨e1, by rw [h]⟩
    · rw [hw, tWh_big (by omega)]
      constructor
      · rintro ⟨-, h⟩
        have h2 := congrArg Int64.toInt h
        rw [Int64.toInt_ofNat_of_lt (by omega), show (-1 : Int64).toInt = -1 from by decide] at h2
        omega
      · rintro ⟨-, h⟩
        have := tSm_len _ _ h
        omega
  · constructor
    · rintro ⟨h, -⟩
      refine absurd ?_ k1
      rw [h1] at h
      have h4 := tKd_le tp tl b
      unfold tSr at h
      by_cases k4 : tKd tp tl b = 4
      · rw [if_pos k4] at h; exact absurd h (by decide)
      · rw [if_neg k4] at h
        exact (nI_eq (a := tKd tp tl b) (b := 1) (by omega) (by decide)).mp h
    · rintro ⟨h, -⟩
      exact absurd h k1
