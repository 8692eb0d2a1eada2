def WLb (i : Nat) (L : List Nat) : Bool := decide (L.length = slen.getD i 0) && (List.range (slen.getD i 0)).all (fun k => decide (sch i k = nI (96 + L.getD (slen.getD i 0 - 1 - k) 0) ∧ L.getD (slen.getD i 0 - 1 - k) 0 ≤ 26 ∧ 1 ≤ L.getD (slen.getD i 0 - 1 - k) 0))
theorem tSm_iff {f : Nat → Nat} : ∀ (n : Nat) (L : List Nat), tSm f n L ↔ (L.length = n ∧ ∀ k, k < n → f k = L.getD (n - 1 - k) 0)
  | 0, [] => ⟨fun _ => ⟨rfl, fun k h => absurd h (Nat.not_lt_zero k)⟩, fun _ => trivial⟩
  | 0, _ :: _ => ⟨fun h => False.elim h, fun h => absurd h.1 (by simp)⟩
  | _ + 1, [] => ⟨fun h => False.elim h, fun h => absurd h.1 (by simp)⟩
  | n + 1, q :: r => by
    rw [tSm, tSm_iff n r, List.length_cons]
    constructor
    · rintro ⟨h1, h2, h3⟩
      refine ⟨by omega, fun k hk => ?_⟩
      by_cases e : k = n
      · subst e; rw [show k + 1 - 1 - k = 0 by omega]; exact h1
      · rw [show n + 1 - 1 - k = (n - 1 - k) + 1 by omega]; exact h3 k (by omega)
    · rintro ⟨h1, h2⟩
      refine ⟨?_, by omega, fun k hk => ?_⟩
      · have := h2 n (by omega); rw [show n + 1 - 1 - n = 0 by omega] at this; exact this
      · have := h2 k (by omega); rw [show n + 1 - 1 - k = (n - 1 - k) + 1 by omega] at this; exact this
theorem tIW_s {tp : Nat → Int32} {tl b i : Nat} {L : List Nat} (hL : WLb i L = true) : tIW tp tl b L ↔ (tKd tp tl b = 1 ∧ tEn tp tl b - b = slen.getD i 0 ∧ ∀ k, k < slen.getD i 0 → tp (b + k) = sch i k) := by
  unfold WLb at hL
  rw [Bool.and_eq_true, decide_eq_true_eq, List.all_eq_true] at hL
  obtain ⟨h1, h2⟩ := hL
  have h3 : ∀ k, k < slen.getD i 0 → (sch i k = nI (96 + L.getD (slen.getD i 0 - 1 - k) 0) ∧ L.getD (slen.getD i 0 - 1 - k) 0 ≤ 26 ∧ 1 ≤ L.getD (slen.getD i 0 - 1 - k) 0) := fun k hk => of_decide_eq_true (h2 k (List.mem_range.mpr hk))
  unfold tIW
  rw [tSm_iff]
  constructor
  · rintro ⟨k1, k2, k3⟩
    refine ⟨k1, by omega, fun k hk => ?_⟩
    obtain ⟨v, a1, a2, e⟩ := ltP_v (tW_lt k1 k (by omega))
    have q := k3 k (by omega)
    unfold tLt at q
    rw [e, ix_nI (by omega)] at q
    rw [e, (h3 k hk).1, show slen.getD i 0 - 1 - k = tEn tp tl b - b - 1 - k by omega, ← q]
    exact congrArg nI (by omega)
  · rintro ⟨k1, k2, k3⟩
    refine ⟨k1, by omega, fun k hk => ?_⟩
    have q := k3 k (by omega)
    have h4 := h3 k (by omega)
    unfold tLt
    rw [q, h4.1, ix_nI (by omega), k2]
    omega
theorem wl0 : WLb 0 wdGuest = true := by decide +kernel
theorem wl1 : WLb 1 wdMinder = true := by decide +kernel
theorem wl2 : WLb 2 wdVague = true := by decide +kernel
theorem wl3 : WLb 3 wdDeaf = true := by decide +kernel
theorem wl4 : WLb 4 wdDaughter = true := by decide +kernel
theorem wl5 : WLb 5 wdMagpie = true := by decide +kernel
theorem wl6 : WLb 6 wdSewn = true := by decide +kernel
theorem wl7 : WLb 7 wdIroned = true := by decide +kernel
theorem wl8 : WLb 8 wdPen = true := by decide +kernel
theorem wl9 : WLb 9 wdHeat = true := by decide +kernel
theorem wl10 : WLb 10 wdDies = true := by decide +kernel
theorem wl11 : WLb 11 wdBand = true := by decide +kernel
theorem wl12 : WLb 12 wdName = true := by decide +kernel
theorem wl13 : WLb 13 wdHeap = true := by decide +kernel
/-- what the component holds behind an item -/
def IC (tp : Nat → Int32) (tl : Nat) (r : IRT) (y : Nat → Int32) (S : HS) (v : Int32) : Prop := match r.1 with
  | none => v = 0 ∧ YT tp tl r.2 y
  | some q => v = 1 ∧ YT tp tl r.2 y ∧ S = q.1
