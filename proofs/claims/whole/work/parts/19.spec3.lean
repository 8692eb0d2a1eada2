theorem cLost_t {S : HS} {P G g k : Nat} (h : ¬ wks S P G k 8 g = wks S P G k 5 g) : cLost S P G g k = true := by unfold cLost rgt; rw [decide_eq_false h]; rfl
theorem cLost_f {S : HS} {P G g k : Nat} (h : wks S P G k 8 g = wks S P G k 5 g) : cLost S P G g k = false := by unfold cLost rgt; rw [decide_eq_true h]; rfl
theorem cCome_t {S : HS} {P G g k : Nat} {y : Int32} (h : wks S P G k 8 g = y) : cCome S P G g y k = true := by unfold cCome wth; exact decide_eq_true h
theorem cCome_f {S : HS} {P G g k : Nat} {y : Int32} (h : ¬ wks S P G k 8 g = y) : cCome S P G g y k = false := by unfold cCome wth; exact decide_eq_false h
theorem HV_6n {S : HS} {P G g k : Nat} (h : HV S P G) (hk : k < 3) : HV (st S 6 g (nI k)) P G := HV_6 h (by
  rcases (show k = 0 ∨ k = 1 ∨ k = 2 by omega) with rfl | rfl | rfl
  · exact Or.inl rfl
  · exact Or.inr (Or.inl rfl)
  · exact Or.inr (Or.inr rfl))
theorem vMark_pos (S : HS) (P G g n k : Nat) (hn : n ≤ 40) : 0 ≤ vMark S P G g n k := nI_pos' (by
  have := ct_le (fun q => rgt (wks (st S 6 g (nI k)) P G (q + 1)) g) n
  omega)
theorem vKind_pos (S : HS) (P G i n k : Nat) (hG : G ≤ 10) : 0 ≤ vKind S P G i n k := nI_pos' (by
  have := ct_le (own1 (wks (st S 1 i (nI k)) P G n) i) G
  have h2 : cOwn (wks (st S 1 i (nI k)) P G n) i G ≤ G := this
  omega)
theorem vTeach_pos (S : HS) (P G n k : Nat) (hG : G ≤ 10) : 0 ≤ vTeach S P G n k := nI_pos' (by
  have := ct_le (rgt (wks (st S 1 k 1) P G n)) G
  omega)
def bst (v : Nat → Int32) (k : Nat) : Int32 := if k = 0 then -1 else nI (bx v k)
theorem bst_s {v : Nat → Int32} {k : Nat} (h : k ≠ 0) : bst v k = nI (bx v k) := if_neg h
theorem bst_0 {v : Nat → Int32} {k : Nat} (h : k = 0) : bst v k = -1 := if_pos h
theorem bx_1 (v : Nat → Int32) {k : Nat} (h : k = 0) : bx v (k + 1) = k := by rw [bx, if_pos (Or.inl h)]
theorem bx_t {v : Nat → Int32} {k : Nat} (h : v (bx v k) < v k) : bx v (k + 1) = k := by rw [bx, if_pos (Or.inr h)]
theorem bx_f {v : Nat → Int32} {k : Nat} (h0 : k ≠ 0) (h : ¬ v (bx v k) < v k) : bx v (k + 1) = bx v k := by
  rw [bx, if_neg]
  rintro (q | q)
  · exact h0 q
  · exact h q
theorem ge99 {k : Nat} (h : k ≤ 1000) : (99 : Int32) ≤ nI k - 1 ↔ 100 ≤ k := by
  rw [Int32.le_iff_toInt_le, nI_pd h]
  have : (99 : Int32).toInt = 99 := rfl
  omega
theorem inc_pd (k : Nat) : nI k - 1 + Int32.ofInt 1 = nI k := by
  have : Int32.ofInt 1 = 1 := by decide
  rw [this, Int32.sub_add_cancel]
