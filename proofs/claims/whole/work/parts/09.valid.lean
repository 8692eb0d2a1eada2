theorem HV.p {S : HS} {P G : Nat} (h : HV S P G) : S 0 2 = nI P := h.1
theorem HV.p6 {S : HS} {P G : Nat} (h : HV S P G) : P ≤ 6 := h.2.1
theorem HV.g {S : HS} {P G : Nat} (h : HV S P G) : S 0 3 = nI G := h.2.2.1
theorem HV.g10 {S : HS} {P G : Nat} (h : HV S P G) : G ≤ 10 := h.2.2.2.1
theorem HV.gv {S : HS} {P G g : Nat} (h : HV S P G) (hg : g < G) : GV S P g := h.2.2.2.2.2 g hg
theorem HV.nmv {S : HS} {P G g : Nat} (h : HV S P G) (hg : g < G) : S 7 g = nI (nm S g) := (h.gv hg).nm.1
theorem HV.nm99 {S : HS} {P G g : Nat} (h : HV S P G) (hg : g < G) : nm S g ≤ 99 := (h.gv hg).nm.2
theorem HV_of {S Z : HS} {P G : Nat} (h : HV S P G) (e1 : Z 0 1 = S 0 1) (e2 : Z 0 2 = S 0 2) (e3 : Z 0 3 = S 0 3) (hg : ∀ g, g < G → GV Z P g) : HV Z P G := ⟨e2.trans h.1, h.2.1, e3.trans h.2.2.1, h.2.2.2.1, by rw [e1]; exact h.2.2.2.2.1, hg⟩
theorem HV_same {S Z : HS} {P G : Nat} (h : HV S P G) (e1 : Z 0 1 = S 0 1) (e2 : Z 0 2 = S 0 2) (e3 : Z 0 3 = S 0 3) (e5 : Z 5 = S 5) (e6 : Z 6 = S 6) (e7 : Z 7 = S 7) (e8 : Z 8 = S 8) : HV Z P G := HV_of h e1 e2 e3 (fun g hg => by unfold GV; rw [e5, e6, e7, e8]; exact h.gv hg)
theorem HV_7 {S : HS} {P G g n : Nat} (h : HV S P G) (hn : n ≤ 99) : HV (st S 7 g (nI n)) P G := by
  refine HV_of h rfl rfl rfl (fun k hk => ?_)
  obtain ⟨h1, h2, h3, h4⟩ := h.gv hk
  refine ⟨h1, h2, ?_, h4⟩
  show ∃ n', n' ≤ 99 ∧ upd (S 7) g (nI n) k = nI n'
  by_cases e : k = g
  · subst e; exact ⟨n, hn, upd_at _ _ _⟩
  · rw [upd_ne _ _ e]; exact h3
theorem HV_8 {S : HS} {P G g : Nat} {x : Int32} (h : HV S P G) (hx : x = -1 ∨ ∃ q, q < P ∧ x = nI q) : HV (st S 8 g x) P G := by
  refine HV_of h rfl rfl rfl (fun k hk => ?_)
  obtain ⟨h1, h2, h3, h4⟩ := h.gv hk
  refine ⟨h1, h2, h3, ?_⟩
  show upd (S 8) g x k = -1 ∨ ∃ q, q < P ∧ upd (S 8) g x k = nI q
  by_cases e : k = g
  · subst e; rw [upd_at]; exact hx
  · rw [upd_ne _ _ e]; exact h4
theorem HV_6 {S : HS} {P G g : Nat} {x : Int32} (h : HV S P G) (hx : x = 0 ∨ x = 1 ∨ x = 2) : HV (st S 6 g x) P G := by
  refine HV_of h rfl rfl rfl (fun k hk => ?_)
  obtain ⟨h1, h2, h3, h4⟩ := h.gv hk
  refine ⟨h1, ?_, h3, h4⟩
  show upd (S 6) g x k = 0 ∨ upd (S 6) g x k = 1 ∨ upd (S 6) g x k = 2
  by_cases e : k = g
  · subst e; rw [upd_at]; exact hx
  · rw [upd_ne _ _ e]; exact h2
theorem HV_5 {S : HS} {P G g o : Nat} (h : HV S P G) (ho : o < P) : HV (st S 5 g (nI o)) P G := by
  refine HV_of h rfl rfl rfl (fun k hk => ?_)
  obtain ⟨h1, h2, h3, h4⟩ := h.gv hk
  refine ⟨?_, h2, h3, h4⟩
  show ∃ n', n' < P ∧ upd (S 5) g (nI o) k = nI n'
  by_cases e : k = g
  · subst e; exact ⟨o, ho, upd_at _ _ _⟩
  · rw [upd_ne _ _ e]; exact h1
theorem HV_1 {S : HS} {P G : Nat} (f i : Nat) (x : Int32) (h : HV S P G) (h1 : 1 ≤ f) (h4 : f ≤ 4) : HV (st S f i x) P G :=
  HV_same h (by rw [st_ne _ _ _ (by omega)]) (by rw [st_ne _ _ _ (by omega)]) (by rw [st_ne _ _ _ (by omega)]) (st_ne _ _ _ (by omega)) (st_ne _ _ _ (by omega)) (st_ne _ _ _ (by omega)) (st_ne _ _ _ (by omega))
theorem HV_00 {S : HS} {P G : Nat} {x : Int32} (h : HV S P G) : HV (st S 0 0 x) P G := HV_same h rfl rfl rfl rfl rfl rfl rfl
theorem HV_01 {S : HS} {P G n : Nat} (h : HV S P G) (h1 : 20 ≤ n) (h2 : n ≤ 90) : HV (st S 0 1 (nI n)) P G := ⟨h.1, h.2.1, h.2.2.1, h.2.2.2.1, ⟨n, h1, h2, rfl⟩, h.2.2.2.2.2⟩
theorem rdI_cases {S : HS} {P G g : Nat} (h : HV S P G) (hg : g < G) : rdI S P g = -1 ∨ ∃ q, q < P ∧ rdI S P g = nI q := by
  unfold rdI
  have hp := h.p6
  split
  · exact Or.inr ⟨ow S g, ((h.gv hg).ow hp).2, rfl⟩
  · split
    · exact lsI_cases _ (by omega)
    · exact Or.inl rfl
theorem HV_fade {S : HS} {P G g : Nat} (h : HV S P G) (hg : g < G) : HV (fade S g) P G := HV_7 h (by have := (h.gv hg).nm.2; omega)
theorem HV_w1 {S : HS} {P G g : Nat} (h : HV S P G) (hg : g < G) : HV (w1 S P g) P G := by
  unfold w1
  split
  · exact h
  · split
    · exact HV_8 (HV_fade h hg) (rdI_cases (HV_fade h hg) hg)
    · exact HV_fade h hg
theorem HV_wN {S : HS} {P G : Nat} (h : HV S P G) : ∀ n, n ≤ G → HV (wN S P n) P G
  | 0, _ => h
  | n + 1, hn => HV_w1 (HV_wN h n (by omega)) (by omega)
theorem HV_y1 {S : HS} {P G g : Nat} (h : HV S P G) : HV (y1 S P G g) P G := by
  unfold y1
  split
  · exact HV_8 h (lsI_cases _ (by have := h.p6; omega))
  · exact h
theorem HV_yN {S : HS} {P G : Nat} (h : HV S P G) : ∀ n, HV (yN S P G n) P G
  | 0 => h
  | n + 1 => HV_y1 (HV_yN h n)
theorem HV_k1 {S : HS} {P G i : Nat} (h : HV S P G) : HV (k1 S G i) P G := by
  unfold k1
  split
  · exact HV_1 3 i _ h (by decide) (by decide)
  · exact h
theorem HV_kN {S : HS} {P G : Nat} (h : HV S P G) : ∀ n, HV (kN S G n) P G
  | 0 => h
  | n + 1 => HV_k1 (HV_kN h n)
theorem HV_yT {S : HS} {P G : Nat} (h : HV S P G) : HV (yT S P G) P G := by
  unfold yT
  split
  · exact HV_yN h G
  · exact h
theorem HV_wk {S : HS} {P G : Nat} (h : HV S P G) : HV (wk S P G) P G := HV_00 (HV_kN (HV_yT (HV_wN h G (Nat.le_refl G))) P)
theorem HV_wks {S : HS} {P G : Nat} (h : HV S P G) : ∀ n, HV (wks S P G n) P G
  | 0 => h
  | n + 1 => HV_wk (HV_wks h n)
/-- rows that stay -/
theorem w1_row {S : HS} {P g f : Nat} (h7 : f ≠ 7) (h8 : f ≠ 8) : w1 S P g f = S f := by
  unfold w1 fade
  split
  · rfl
  · split
    · rw [st_ne _ _ _ h8, st_ne _ _ _ h7]
    · rw [st_ne _ _ _ h7]
theorem wN_row {S : HS} {P f : Nat} (h7 : f ≠ 7) (h8 : f ≠ 8) : ∀ n, wN S P n f = S f
  | 0 => rfl
  | n + 1 => by rw [wN, w1_row h7 h8, wN_row h7 h8 n]
theorem y1_row {S : HS} {P G g f : Nat} (h8 : f ≠ 8) : y1 S P G g f = S f := by
  unfold y1
  split
  · rw [st_ne _ _ _ h8]
  · rfl
theorem yN_row {S : HS} {P G f : Nat} (h8 : f ≠ 8) : ∀ n, yN S P G n f = S f
  | 0 => rfl
  | n + 1 => by rw [yN, y1_row h8, yN_row h8 n]
theorem k1_row {S : HS} {G i f : Nat} (h3 : f ≠ 3) : k1 S G i f = S f := by
  unfold k1
  split
  · rw [st_ne _ _ _ h3]
  · rfl
theorem kN_row {S : HS} {G f : Nat} (h3 : f ≠ 3) : ∀ n, kN S G n f = S f
  | 0 => rfl
  | n + 1 => by rw [kN, k1_row h3, kN_row h3 n]
