def wdGuest : List Nat := [20, 19, 5, 21, 7]
theorem okGuest : okW wdGuest = true := by decide +kernel
def wdMinder : List Nat := [18, 5, 4, 14, 9, 13]
theorem okMinder : okW wdMinder = true := by decide +kernel
def wdVague : List Nat := [5, 21, 7, 1, 22]
theorem okVague : okW wdVague = true := by decide +kernel
def wdDeaf : List Nat := [6, 1, 5, 4]
theorem okDeaf : okW wdDeaf = true := by decide +kernel
def wdDaughter : List Nat := [18, 5, 20, 8, 7, 21, 1, 4]
theorem okDaughter : okW wdDaughter = true := by decide +kernel
def wdMagpie : List Nat := [5, 9, 16, 7, 1, 13]
theorem okMagpie : okW wdMagpie = true := by decide +kernel
def wdSewn : List Nat := [14, 23, 5, 19]
theorem okSewn : okW wdSewn = true := by decide +kernel
def wdIroned : List Nat := [4, 5, 14, 15, 18, 9]
theorem okIroned : okW wdIroned = true := by decide +kernel
def wdPen : List Nat := [14, 5, 16]
theorem okPen : okW wdPen = true := by decide +kernel
def wdHeat : List Nat := [20, 1, 5, 8]
theorem okHeat : okW wdHeat = true := by decide +kernel
def wdDies : List Nat := [19, 5, 9, 4]
theorem okDies : okW wdDies = true := by decide +kernel
def wdBand : List Nat := [4, 14, 1, 2]
theorem okBand : okW wdBand = true := by decide +kernel
def wdName : List Nat := [5, 13, 1, 14]
theorem okName : okW wdName = true := by decide +kernel
def wdHeap : List Nat := [16, 1, 5, 8]
theorem okHeap : okW wdHeap = true := by decide +kernel
noncomputable def tKi (tp : Nat → Int32) (tl b : Nat) : Int32 := cif (tIW tp tl b wdGuest) 0 (cif (tIW tp tl b wdMinder) 1 (cif (tIW tp tl b wdVague) 2 (cif (tIW tp tl b wdDeaf) 3 (cif (tIW tp tl b wdDaughter) 4 (cif (tIW tp tl b wdMagpie) 5 (-1))))))
noncomputable def tMi (tp : Nat → Int32) (tl b : Nat) : Int32 := cif (tIW tp tl b wdSewn) 0 (cif (tIW tp tl b wdIroned) 1 (cif (tIW tp tl b wdPen) 2 (-1)))
def tNm (tp : Nat → Int32) (tl b : Nat) (lo hi : Int32) : Prop := tKd tp tl b = 2 ∧ (lo ≤ nI (tNr tp tl b) ∧ nI (tNr tp tl b) ≤ hi)
abbrev IRT : Type := Option (HS × Nat × Nat) × Nat
noncomputable def pPerson (tp : Nat → Int32) (tl : Nat) (S : HS) (P G : Nat) (x : Int32) (b : Nat) : IRT := if P < 6 then cif (tIW tp tl (tNx tp tl b) wdBand) (cif (tNm tp tl (tNx tp tl (tNx tp tl b)) 0 2) (some (addP S P x (nI (tNr tp tl (tNx tp tl (tNx tp tl b)))), P + 1, G), tNx tp tl (tNx tp tl (tNx tp tl b))) (none, tNx tp tl (tNx tp tl b))) (some (addP S P x (nI (P % 3)), P + 1, G), tNx tp tl b) else (none, b)
noncomputable def pHeap (tp : Nat → Int32) (tl : Nat) (S : HS) (P G : Nat) (o x n : Int32) (b : Nat) : IRT := cif (tIW tp tl b wdHeap) (some (addG S G o x n (-1), P, G + 1), tNx tp tl b) (some (addG S G o x n o, P, G + 1), b)
noncomputable def pName (tp : Nat → Int32) (tl : Nat) (S : HS) (P G : Nat) (o x : Int32) (b : Nat) : IRT := cif (tIW tp tl b wdName) (cif (tNm tp tl (tNx tp tl b) 0 99) (pHeap tp tl S P G o x (nI (tNr tp tl (tNx tp tl b))) (tNx tp tl (tNx tp tl b))) (none, tNx tp tl b)) (pHeap tp tl S P G o x 99 b)
noncomputable def pGarment (tp : Nat → Int32) (tl : Nat) (S : HS) (P G : Nat) (x : Int32) (b : Nat) : IRT := if G < 10 then cif (tNm tp tl (tNx tp tl b) 0 (nI P - 1)) (pName tp tl S P G (nI (tNr tp tl (tNx tp tl b))) x (tNx tp tl (tNx tp tl b))) (none, tNx tp tl b) else (none, b)
noncomputable def pHeat (tp : Nat → Int32) (tl : Nat) (S : HS) (P G : Nat) (b : Nat) : IRT := cif (tNm tp tl (tNx tp tl b) 20 90) (some (st S 0 1 (nI (tNr tp tl (tNx tp tl b))), P, G), tNx tp tl (tNx tp tl b)) (none, tNx tp tl b)
noncomputable def pDeath (tp : Nat → Int32) (tl : Nat) (S : HS) (P G : Nat) (b : Nat) : IRT := cif (tNm tp tl (tNx tp tl b) 0 (nI P - 1)) (some (st S 4 (tNr tp tl (tNx tp tl b)) 1, P, G), tNx tp tl (tNx tp tl b)) (none, tNx tp tl b)
noncomputable def pItem (tp : Nat → Int32) (tl : Nat) (S : HS) (P G : Nat) (b : Nat) : IRT := if tKi tp tl b < 0 then (if tMi tp tl b < 0 then cif (tIW tp tl b wdHeat) (pHeat tp tl S P G b) (cif (tIW tp tl b wdDies) (pDeath tp tl S P G b) (none, b)) else pGarment tp tl S P G (tMi tp tl b) b) else pPerson tp tl S P G (tKi tp tl b) b
/-- what the reference holds behind an item -/
def IR (tp : Nat → Int32) (tl : Nat) (r : IRT) (z : Nat → Int32) (w : Int64) (S : HS) : Prop := match r.1 with
  | none => z 5 = 0 ∧ ZT tp tl r.2 z w
  | some q => z 5 = 1 ∧ ZT tp tl r.2 z w ∧ S = q.1
theorem tVl_2 {tp : Nat → Int32} {tl b : Nat} (h : tKd tp tl b = 2) : tVl tp tl b = nI (tNr tp tl b) := by unfold tVl; rw [if_pos h]
theorem tSr_2 {tp : Nat → Int32} {tl b : Nat} (h : tKd tp tl b = 2) : nI (tSr tp tl b) = 2 := by unfold tSr; rw [h]; rfl
theorem tSr_le (tp : Nat → Int32) (tl b : Nat) : tSr tp tl b ≤ 3 := by
  have := tKd_le tp tl b
  unfold tSr
  split <;> omega
theorem tSr_i2 {tp : Nat → Int32} {tl b : Nat} (h : tSr tp tl b = 2) : tKd tp tl b = 2 := by
  unfold tSr at h
  split at h <;> omega
theorem tNm_of {tp : Nat → Int32} {tl b : Nat} {lo hi : Int32} (h : tSr tp tl b = 2) (h2 : lo ≤ tVl tp tl b ∧ tVl tp tl b ≤ hi) : tNm tp tl b lo hi := by
  have k := tSr_i2 h
  rw [tVl_2 k] at h2
  exact ⟨k, h2⟩
theorem tNm_lt {tp : Nat → Int32} {tl b P : Nat} (h : tNm tp tl b 0 (nI P - 1)) (hP : P ≤ 6) : tNr tp tl b < P := by
  obtain ⟨j, hj, e⟩ := (in_iff (x := nI (tNr tp tl b)) (n := P) (by omega)).mp h.2
  have := tNr_le h.1
  have e2 := (nI_eq (a := tNr tp tl b) (b := j) (by omega) (by omega)).mp e
  omega
theorem tNm_le {tp : Nat → Int32} {tl b : Nat} (lo k : Nat) (h : tNm tp tl b (nI lo) (nI k)) (hl : lo ≤ 1000) (hk : k ≤ 1000) : lo ≤ tNr tp tl b ∧ tNr tp tl b ≤ k := by
  have := tNr_le h.1
  exact ⟨(nI_leI (by omega) (by omega)).mp h.2.1, (nI_leI (by omega) (by omega)).mp h.2.2⟩
