theorem addP_band (S : HS) (P : Nat) (x y z : Int32) : st (addP S P x y) 2 P z = addP S P x z := by
  funext f
  match f with
  | 0 => rfl
  | 1 => rfl
  | 2 => exact upd_upd _ _ _ _
  | 3 => rfl
  | 4 => rfl
  | _ + 5 => rfl
theorem addG_name (S : HS) (G : Nat) (o x n w v : Int32) : st (addG S G o x n w) 7 G v = addG S G o x v w := by
  funext f
  match f with
  | 0 => rfl
  | 1 => rfl
  | 2 => rfl
  | 3 => rfl
  | 4 => rfl
  | 5 => rfl
  | 6 => rfl
  | 7 => exact upd_upd _ _ _ _
  | 8 => rfl
  | _ + 9 => rfl
theorem addG_hold (S : HS) (G : Nat) (o x n w v : Int32) : st (addG S G o x n w) 8 G v = addG S G o x n v := by
  funext f
  match f with
  | 0 => rfl
  | 1 => rfl
  | 2 => rfl
  | 3 => rfl
  | 4 => rfl
  | 5 => rfl
  | 6 => rfl
  | 7 => rfl
  | 8 => exact upd_upd _ _ _ _
  | _ + 9 => rfl
theorem pm999 {P : Nat} (h : P ≤ 6) : nI P - 1 ≤ 999 := by
  have q9 : (999 : Int32).toInt = 999 := by decide
  rw [Int32.le_iff_toInt_le, nI_pd (by omega), q9]
  omega
theorem IC_01 {tp : Nat → Int32} {tl : Nat} {r : IRT} {y : Nat → Int32} {S : HS} {v : Int32} (h : IC tp tl r y S v) : v = 0 ∨ v = 1 := by
  unfold IC at h
  split at h
  · exact Or.inl h.1
  · exact Or.inr h.1
def AC (r : Option (HS × Nat × Nat × Nat) × Nat) (y : Nat → Int32) (S : HS) (it v : Int32) : Prop := match r.1 with
  | none => v = 0 ∧ y 2 = nI r.2
  | some q => v = 1 ∧ S = q.1 ∧ it = nI q.2.2.2
