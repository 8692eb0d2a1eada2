/-! sheets, tape, images: one function for both sides -/
abbrev NT : Type := Nat → Nat → Int64
def en4 (N : NT) : Nat → Int64 := fun k => N (k / 40) (k % 40)
theorem en4_at (N : NT) {s k : Nat} (hk : k < 40) : en4 N (40 * s + k) = N s k := by
  unfold en4
  rw [show (40 * s + k) / 40 = s by omega, show (40 * s + k) % 40 = k by omega]
theorem en4_put (N : NT) {s k : Nat} (hk : k < 40) (x : Int64) : vp_updL (en4 N) (40 * s + k) x = en4 (va_up N s (vp_updL (N s) k x)) := by
  funext j
  unfold vp_updL en4 va_up
  by_cases h : j / 40 = s
  · rw [if_pos h]
    by_cases h2 : j % 40 = k
    · rw [if_pos (show j = 40 * s + k by omega), if_pos h2]
    · rw [if_neg (show ¬ j = 40 * s + k by omega), if_neg h2, h]
  · rw [if_neg h, if_neg (show ¬ j = 40 * s + k by omega)]
def szA (Z : Nat → Nat) : Nat → Int32 := fun s => nI (Z s)
theorem szA_put (Z : Nat → Nat) (s n : Nat) : upd (szA Z) s (nI n) = szA (va_up Z s n) := by
  funext j
  unfold upd szA va_up
  by_cases h : j = s
  · rw [if_pos h, if_pos h]
  · rw [if_neg h, if_neg h]
def nar (bt : Int32) (v : Int64) : Int64 := if bt = 8 then v <<< ((56 : Int32).toInt64 &&& 63) >>> ((56 : Int32).toInt64 &&& 63) else if bt = 16 then v <<< ((48 : Int32).toInt64 &&& 63) >>> ((48 : Int32).toInt64 &&& 63) else v
def bitP (x : Int32) : Prop := x = 0 ∨ x = 8 ∨ x = 16 ∨ x = 64
noncomputable def mSheet (F : FT) (B : FT) (Z : Nat → Nat) (N : NT) (x y n : Int32) : Int32 × FT × FT × (Nat → Nat) × NT := cif (isN 4 x ∧ bitP y) (if n < 0 then (-1000000007, fnd F 6, B, Z, N) else if 40 < n then (-1000000001, fnd F 0, B, Z, N) else (nI (if y = 0 then 0 else ix n), F, upd B (ix x) y, va_up Z (ix x) (if y = 0 then 0 else ix n), va_up N (ix x) (fun _ => 0))) (-1000000001, fnd F 0, B, Z, N)
noncomputable def mWrite (F : FT) (B : FT) (Z : Nat → Nat) (N : NT) (x i : Int32) (v : Int64) : Int64 × FT × NT := cif (isN 4 x) (if B (ix x) = 0 then ((-1000000006 : Int32).toInt64, fnd F 5, N) else cif (isN (Z (ix x)) i) (N (ix x) (ix i), F, va_up N (ix x) (vp_updL (N (ix x)) (ix i) (nar (B (ix x)) v))) ((-1000000001 : Int32).toInt64, fnd F 0, N)) ((-1000000001 : Int32).toInt64, fnd F 0, N)
def runP (z : Nat) (f n : Int32) : Prop := ∃ a k, f = nI a ∧ n = nI k ∧ a + k ≤ z
noncomputable def mCopy (F : FT) (B : FT) (Z : Nat → Nat) (N : NT) (x f y t n : Int32) : Int32 × FT × NT := cif (isN 4 x ∧ isN 4 y) (cif (B (ix x) = 0 ∨ B (ix y) = 0) (-1000000006, fnd F 5, N) (if B (ix x) = B (ix y) then cif (runP (Z (ix x)) f n ∧ runP (Z (ix y)) t n) (n, F, va_up N (ix y) (va_cpy (N (ix x)) (N (ix y)) (ix f) (ix t) (ix n))) (-1000000001, fnd F 0, N) else (-1000000003, fnd F 2, N))) (-1000000001, fnd F 0, N)
def lyP (v : Int64) : Prop := 0 ≤ v ∧ v ≤ 99
noncomputable def lyS (S : HS) (v : Nat → Int64) : Nat → HS
  | 0 => S
  | g + 1 => cif (lyP (v g)) (st (lyS S v g) 7 g (v g).toInt32) (lyS S v g)
noncomputable def lyC (v : Nat → Int64) : Nat → Nat
  | 0 => 0
  | g + 1 => cif (lyP (v g)) (lyC v g + 1) (lyC v g)
noncomputable def mLays (S : HS) (F : FT) (G : Nat) (B : FT) (Z : Nat → Nat) (N : NT) (x : Int32) : Int32 × HS × FT := cif (isN 4 x) (if B (ix x) = 0 then (-1000000006, S, fnd F 5) else (nI (lyC (N (ix x)) (min (Z (ix x)) G)), lyS S (N (ix x)) (min (Z (ix x)) G), F)) (-1000000001, S, fnd F 0)
noncomputable def bkR (S : HS) (P G g : Nat) (i : Nat) : Int64 := (wks S P G i 8 g).toInt64
noncomputable def mBook (S : HS) (F : FT) (P G : Nat) (B : FT) (Z : Nat → Nat) (N : NT) (x y : Int32) : Int32 × FT × NT := cif (isN 4 x) (if B (ix x) = 0 then (-1000000006, fnd F 5, N) else cif (isN G y) (nI (Z (ix x)), F, va_up N (ix x) (fil (bkR S P G (ix y)) (N (ix x)) (Z (ix x)))) (-1000000001, fnd F 0, N)) (-1000000001, fnd F 0, N)
def rdP (S : HS) (P G g z : Nat) (v : Nat → Int64) : Prop := ∀ i, i < z → v i = (wks S P G i 8 g).toInt64
noncomputable def rdB (S : HS) (P G g z : Nat) (v : Nat → Int64) (k : Nat) : Bool := @decide (rdP (st (st S 6 g (nI (k / 100))) 7 g (nI (k % 100))) P G g z v) (Classical.propDecidable _)
noncomputable def mRead (S : HS) (F : FT) (P G : Nat) (B : FT) (Z : Nat → Nat) (N : NT) (x y : Int32) : Int32 × FT := cif (isN 4 x) (if B (ix x) = 0 then (-1000000006, fnd F 5) else cif (isN G y) (nI (ct (rdB S P G (ix y) (Z (ix x)) (N (ix x))) 300), F) (-1000000001, fnd F 0)) (-1000000001, fnd F 0)
noncomputable def mUndo (S K : HS) (F : FT) (kp : Int32) : Int32 × HS × FT := if kp = 0 then (-1000000004, S, fnd F 3) else (K 0 2, K, F)
noncomputable def mCount (S : HS) (F : FT) (G tl : Nat) (x : Int32) : Int32 × FT := if x = 0 then (S 0 2, F) else if x = 1 then (S 0 3, F) else if x = 2 then (nI tl, F) else if x = 3 then (smI (S 7) G, F) else (-1000000001, fnd F 0)
noncomputable def mStatus (F : FT) (x : Int32) : Int32 × FT := cif (-1 ≤ x ∧ x ≤ 6) (if x < 0 then (smI F 7, F) else (F (ix x), F)) (-1000000001, fnd F 0)
/-- bytes of a number come to the tape, k of them left -/
def fby (x : Int32) (k : Nat) : Int32 := x >>> (nI (8 * k) &&& 31) &&& 255
def fdT (x : Int32) : Nat → (Nat → Int32) → Nat → (Nat → Int32)
  | 0, tp, _ => tp
  | k + 1, tp, tl => fdT x k (upd tp tl (fby x k)) (tl + 1)
noncomputable def mFeed (F : FT) (tp : Nat → Int32) (tl : Nat) (x n : Int32) : Int32 × FT × (Nat → Int32) × Nat := cif (1 ≤ n ∧ n ≤ 4) (if 120 < tl + ix n then (-1000000002, fnd F 1, tp, tl) else (nI (tl + ix n), F, fdT x (ix n) tp tl, tl + ix n)) (-1000000001, fnd F 0, tp, tl)
theorem fby_byte (x : Int32) (k : Nat) : ∃ v, v < 256 ∧ fby x k = nI v := by
  obtain ⟨j, h1, h2⟩ := pk_andE (x >>> (nI (8 * k) &&& 31)) (m := 255) 8 (by decide)
  exact ⟨j, h1, h2⟩
theorem rdB_t {S : HS} {P G g z k : Nat} {v : Nat → Int64} : rdB S P G g z v k = true ↔ rdP (st (st S 6 g (nI (k / 100))) 7 g (nI (k % 100))) P G g z v := by unfold rdB; simp
theorem rdB_f {S : HS} {P G g z k : Nat} {v : Nat → Int64} : rdB S P G g z v k = false ↔ ¬ rdP (st (st S 6 g (nI (k / 100))) 7 g (nI (k % 100))) P G g z v := by unfold rdB; simp
theorem ly_small {v : Int64} (h : lyP v) : ∃ n, n ≤ 99 ∧ v.toInt32 = nI n := by
  obtain ⟨h1, h2⟩ := h
  rw [Int64.le_iff_toInt_le] at h1 h2
  have a1 : (0 : Int64).toInt = 0 := rfl
  have a2 : (99 : Int64).toInt = 99 := by decide
  refine ⟨v.toInt.toNat, by omega, ?_⟩
  apply Int32.toInt_inj.mp
  rw [nI_toInt (by omega), Int64.toInt_toInt32]
  rw [Int.bmod_eq_of_le (by omega) (by omega)]
  omega
theorem HV_lyS {S : HS} {P G : Nat} {v : Nat → Int64} (h : HV S P G) : ∀ n, HV (lyS S v n) P G
  | 0 => h
  | n + 1 => by
    rw [lyS]
    by_cases q : lyP (v n)
    · rw [cif_t q]
      obtain ⟨k, hk, e⟩ := ly_small q
      rw [e]
      exact HV_7 (HV_lyS h n) hk
    · rw [cif_f q]
      exact HV_lyS h n
theorem fil_putL (f g : Nat → Int64) (i : Nat) : vp_updL (fil f g i) i (f i) = fil f g (i + 1) := by
  funext k
  unfold fil vp_updL
  by_cases e : k = i
  · subst e; rw [if_pos rfl, if_pos (by omega)]
  · rw [if_neg e]
    by_cases h : k < i
    · show (if k < i then f k else g k) = _
      rw [if_pos h, if_pos (by omega)]
    · show (if k < i then f k else g k) = _
      rw [if_neg h, if_neg (by omega)]
theorem upup {α : Type} (N : Nat → α) (s : Nat) (a b : α) : va_up (va_up N s a) s b = va_up N s b := by
  funext j
  unfold va_up
  by_cases h : j = s
  · rw [if_pos h, if_pos h]
  · rw [if_neg h, if_neg h, if_neg h]
theorem up_at {α : Type} (N : Nat → α) (s : Nat) (a : α) : va_up N s a s = a := if_pos rfl
theorem runP_iff {z : Nat} {f n : Int32} (hz : z ≤ 40) : runP z f n ↔ (¬ f < 0 ∧ ¬ n < 0 ∧ ¬ nI z < n ∧ ¬ nI z - n < f) := by
  have a0 : (0 : Int32).toInt = 0 := rfl
  have hzt : (nI z).toInt = z := nI_toInt (by omega)
  constructor
  · rintro ⟨a, k, rfl, rfl, h⟩
    have h1 : (nI z - nI k).toInt = z - k := pk_sub_toInt (by omega) (by omega)
    refine ⟨nI_pos (by omega), nI_pos (by omega), ?_, ?_⟩
    · rw [Int32.lt_iff_toInt_lt, hzt, nI_toInt (by omega)]; omega
    · rw [Int32.lt_iff_toInt_lt, h1, nI_toInt (by omega)]; omega
  · rintro ⟨h1, h2, h3, h4⟩
    obtain ⟨a, ha, rfl⟩ := nI_of h1
    obtain ⟨k, hk, rfl⟩ := nI_of h2
    rw [Int32.lt_iff_toInt_lt, hzt, nI_toInt hk] at h3
    have h5 : (nI z - nI k).toInt = z - k := pk_sub_toInt (by omega) (by omega)
    rw [Int32.lt_iff_toInt_lt, h5, nI_toInt ha] at h4
    exact ⟨a, k, rfl, rfl, by omega⟩
theorem runP_iff2 {z : Nat} {f n : Int32} (hz : z ≤ 40) : runP z f n ↔ (0 ≤ f ∧ 0 ≤ n ∧ f ≤ nI z ∧ n ≤ nI z - f) := by
  have a0 : (0 : Int32).toInt = 0 := rfl
  have hzt : (nI z).toInt = z := nI_toInt (by omega)
  constructor
  · rintro ⟨a, k, rfl, rfl, h⟩
    have h1 : (nI z - nI a).toInt = z - a := pk_sub_toInt (by omega) (by omega)
    refine ⟨nI_pos' (by omega), nI_pos' (by omega), ?_, ?_⟩
    · rw [Int32.le_iff_toInt_le, hzt, nI_toInt (by omega)]; omega
    · rw [Int32.le_iff_toInt_le, h1, nI_toInt (by omega)]; omega
  · rintro ⟨h1, h2, h3, h4⟩
    obtain ⟨a, ha, rfl⟩ := nI_of (Int32.not_lt.mpr h1)
    obtain ⟨k, hk, rfl⟩ := nI_of (Int32.not_lt.mpr h2)
    rw [Int32.le_iff_toInt_le, hzt, nI_toInt ha] at h3
    have h5 : (nI z - nI a).toInt = z - a := pk_sub_toInt (by omega) (by omega)
    rw [Int32.le_iff_toInt_le, h5, nI_toInt hk] at h4
    exact ⟨a, k, rfl, rfl, by omega⟩
theorem in3 {x : Int32} : (0 ≤ x ∧ x ≤ 3) ↔ isN 4 x := by
  have h := in_iff (x := x) (n := 4) (by decide)
  have e : nI 4 - 1 = 3 := by decide
  rw [e] at h
  exact h
theorem rdP_0 {S : HS} {P G g : Nat} {v : Nat → Int64} : ∀ i, i < 0 → v i = (wks S P G i 8 g).toInt64 := fun i h => absurd h (Nat.not_lt_zero i)
theorem upd_same (z : Nat → Int32) (k : Nat) : upd z k (z k) = z := by
  funext j
  by_cases h : j = k
  · subst h; rw [upd_at]
  · rw [upd_ne _ _ h]
theorem upd_self {z : Nat → Int32} {k : Nat} {x : Int32} (h : z k = x) : upd z k x = z := by rw [← h, upd_same]
theorem upd_upd (z : Nat → Int32) (k : Nat) (x y : Int32) : upd (upd z k x) k y = upd z k y := by
  funext j
  by_cases h : j = k
  · subst h; rw [upd_at, upd_at]
  · rw [upd_ne _ _ h, upd_ne _ _ h, upd_ne _ _ h]
theorem up_self {α : Type} {N : Nat → α} {s : Nat} {f : α} (h : N s = f) : va_up N s f = N := by
  funext j
  unfold va_up
  by_cases e : j = s
  · rw [if_pos e, e, h]
  · rw [if_neg e]
theorem en4_cong (N : NT) (s : Nat) {f g : Nat → Int64} (h : ∀ k, k < 40 → f k = g k) : en4 (va_up N s f) = en4 (va_up N s g) := by
  funext k
  unfold en4 va_up
  by_cases e : k / 40 = s
  · rw [if_pos e, if_pos e, h _ (Nat.mod_lt _ (by decide))]
  · rw [if_neg e, if_neg e]
