/-! the law: its world, what its sheets keep, its script's row -/
def SHc (E : Ev) (aa nn : NN) (B : FT) (Z : Nat → Nat) (N : NT) (i : Nat) : va_W := SHW E (aa i) (nn i) (B i) (nI (Z i)) (N i)
theorem SHc_eq {E : Ev} {aa nn : NN} {B B' : FT} {Z Z' : Nat → Nat} {N N' : NT} {i : Nat} (h1 : B' i = B i) (h2 : Z' i = Z i) (h3 : N' i = N i) : SHc E aa nn B' Z' N' i = SHc E aa nn B Z N i := by unfold SHc; rw [h1, h2, h3]
theorem sheet_ne {F B : FT} {Z : Nat → Nat} {N : NT} {x y n : Int32} {i : Nat} (h : isN 4 x → i ≠ ix x) : (mSheet F B Z N x y n).2.2.1 i = B i ∧ (mSheet F B Z N x y n).2.2.2.1 i = Z i ∧ (mSheet F B Z N x y n).2.2.2.2 i = N i := by
  unfold mSheet
  by_cases c : isN 4 x ∧ bitP y
  · rw [cif_t c]
    by_cases c1 : n < 0
    · rw [if_pos c1]; exact ⟨rfl, rfl, rfl⟩
    · rw [if_neg c1]
      by_cases c2 : 40 < n
      · rw [if_pos c2]; exact ⟨rfl, rfl, rfl⟩
      · rw [if_neg c2]; exact ⟨upd_ne _ _ (h c.1), up_ne (h c.1), up_ne (h c.1)⟩
  · rw [cif_f c]; exact ⟨rfl, rfl, rfl⟩
theorem write_ne {F B : FT} {Z : Nat → Nat} {N : NT} {x q : Int32} {v : Int64} {i : Nat} (h : isN 4 x → i ≠ ix x) : (mWrite F B Z N x q v).2.2 i = N i := by
  unfold mWrite
  by_cases c : isN 4 x
  · rw [cif_t c]
    by_cases c1 : B (ix x) = 0
    · rw [if_pos c1] <;> rfl
    · rw [if_neg c1]
      by_cases c2 : isN (Z (ix x)) q
      · rw [cif_t c2]; exact up_ne (h c)
      · rw [cif_f c2] <;> rfl
  · rw [cif_f c] <;> rfl
theorem copy_ne {F B : FT} {Z : Nat → Nat} {N : NT} {x f y t n : Int32} {i : Nat} (h : isN 4 x → isN 4 y → i ≠ ix y) : (mCopy F B Z N x f y t n).2.2 i = N i := by
  unfold mCopy
  by_cases c : isN 4 x ∧ isN 4 y
  · rw [cif_t c]
    by_cases c1 : B (ix x) = 0 ∨ B (ix y) = 0
    · rw [cif_t c1] <;> rfl
    · rw [cif_f c1]
      by_cases c2 : B (ix x) = B (ix y)
      · rw [if_pos c2]
        by_cases c3 : runP (Z (ix x)) f n ∧ runP (Z (ix y)) t n
        · rw [cif_t c3]; exact up_ne (h c.1 c.2)
        · rw [cif_f c3] <;> rfl
      · rw [if_neg c2] <;> rfl
  · rw [cif_f c] <;> rfl
theorem book_ne {S : HS} {F B : FT} {P G : Nat} {Z : Nat → Nat} {N : NT} {x y : Int32} {i : Nat} (h : isN 4 x → i ≠ ix x) : (mBook S F P G B Z N x y).2.2 i = N i := by
  unfold mBook
  by_cases c : isN 4 x
  · rw [cif_t c]
    by_cases c1 : B (ix x) = 0
    · rw [if_pos c1] <;> rfl
    · rw [if_neg c1]
      by_cases c2 : isN G y
      · rw [cif_t c2]; exact up_ne (h c)
      · rw [cif_f c2] <;> rfl
  · rw [cif_f c] <;> rfl
theorem undo_eq {S K Kr : HS} {F : FT} {kp z6 : Int32} (h6 : z6 = kp) (hkp : kp = 0 ∨ kp = 1) (hK : ¬ kp = 0 → Kr = K ∧ HX K) : mUndo S Kr F z6 = mUndo S K F kp := by
  subst h6
  rcases hkp with h | h
  · unfold mUndo; rw [if_pos h, if_pos h]
  · rw [(hK (by rw [h]; decide)).1]
theorem four {P : Nat → Prop} (h0 : P 0) (h1 : P 1) (h2 : P 2) (h3 : P 3) {j : Nat} (hj : j < 4) : P j := by
  match j, hj with
  | 0, _ => exact h0
  | 1, _ => exact h1
  | 2, _ => exact h2
  | 3, _ => exact h3
abbrev asL (o vl vt vk vy aa nn b : NN) : List Nat := [o 0, vl 0, vl 1, vl 2, vl 3, vl 4, vl 5, vl 6, vl 7, vl 8, vl 9, vl 10, vt 0, vt 1, vt 2, vt 3, vt 4, vt 5, vt 6, vt 7, vt 8, vt 9, vt 10, vk 0, vk 1, vk 2, vk 3, vk 4, vk 5, vk 6, vk 7, vk 8, vk 9, vk 10, vy 0, vy 1, o 1, o 2, aa 0, nn 0, aa 1, nn 1, aa 2, nn 2, aa 3, nn 3, o 3, b 0, b 1, b 2, b 3, b 4, b 5, b 6, b 7, b 8, b 9, b 10, b 11]
section SCR
variable {p : Program} {l : Launch} {e : Env} {s : State} {m : MethodId} {below : List Frame} {meth : Method} {c : Code} {H : Heap} {locs : List Loc} {Q : State → Prop} {args : Array Value}
variable {E : Ev} {A : Nat → Prop} {sb L k pc : Nat} {xs : Nat → Int32} {o vl vt vk vy aa nn b ad av : NN} {qf : Nat → Option Nat} {ls : Array Slot} {rest : List Value}
variable {ws : va_W} {cells slots : Nat}
theorem r_scr {j : Nat} {n : Int} {x : Int32} (hC : Cx p room_1 s m args meth c cL_law 4 RL ret E room_1) (hW : Wd E A s.heap ws H locs) (hX : va_X sb L xs s s.heap) (hbl : sb < s.heap.size) (hbA : ¬ A sb) (hk : k + 6 ≤ L) (hL : L ≤ 3072) (hl : lv_has ls 4 [(3, .int (nI k)), (2, .ref (b 0)), (1, .ref (o 0)), (0, .ref sb)]) (hj : j < 6) (hn : Int32.ofInt n = nI j) (hxj : xs (k + j) = x) (d0 : decode cL_law pc = .ok (.aload_n 0, 1)) (d1 : decode cL_law (pc + 1) = .ok (.iload_n 3, 1)) (d2 : decode cL_law (pc + 2) = .ok (.iconst n, 1)) (d3 : decode cL_law (pc + 3) = .ok (.iadd, 1)) (d4 : decode cL_law (pc + 4) = .ok (.iaload, 1))
    (kk : W p l e room_1 s m args below meth c H locs cells slots Q (F0 m (pc + 5) ls (.int x :: rest))) : W p l e room_1 s m args below meth c H locs cells slots Q (F0 m pc ls rest) := by
  have hx := hC.1
  have hb := hC.2.1
  refine lv_aload_n hx hb d0 rfl (lv_at hl 3 rfl) ?_
  refine lv_iload_n hx hb d1 rfl (lv_at hl 0 rfl) ?_
  refine lv_iconst hx hb d2 hn ?_
  refine lv_iadd hx hb d3 ?_
  rw [nI_add]
  refine va_sld hx hb hX hbl hbA hW.2 (vp_in_nI (by omega) (by omega)) d4 ?_
  rw [nI_clamp (by omega), hxj]
  exact kk
end SCR
def LI (E : Ev) (A : Nat → Prop) (H0 : Heap) (o vl vt vk vy aa nn b : NN) (qf : Nat → Option Nat) (H : Heap) (locs : List Loc) : Prop :=
  ∃ (S Tl St Tt K Tk Kr : HS) (F B : FT) (kp it : Int32) (y tp z : Nat → Int32) (tl : Nat) (Z : Nat → Nat) (N : NT) (w : Int64) (f3 f4 f11 : Nat → Int32) (f9 : Nat → Int64),
    HX S ∧ (¬ kp = 0 → Kr = K ∧ HX K) ∧ (kp = 0 ∨ kp = 1) ∧ z 6 = kp ∧ y 0 = nI tl ∧ z 0 = nI tl ∧ tl ≤ 120 ∧ tBY tp tl ∧ (∀ q, q < 4 → Z q ≤ 40) ∧ Wd E A H0 (wcat [CO o vl vt vk vy kp, HW E vl S Tl, HW E vt St Tt, HW E vk K Tk, TPW E vy y tp, [(o 1, .inr (1, [.ref (vy 0), .ref (vt 0), .int it]))], [(o 2, .inl (E.2.2.2, 4, .inr (.inr (.inr (.inr qf)))))], SHc E aa nn B Z N 0, SHc E aa nn B Z N 1, SHc E aa nn B Z N 2, SHc E aa nn B Z N 3, IA E (o 3) 7 F, MJ b z w, IA E (b 1) 68 (enc S), IA E (b 2) 7 F, IA E (b 3) 68 f3, IA E (b 4) 68 f4, IA E (b 5) 120 tp, IA E (b 6) 4 B, IA E (b 7) 4 (szA Z), LA E (b 8) 160 (en4 N), LA E (b 9) 40 f9, IA E (b 10) 68 (enc Kr), IA E (b 11) 68 f11]) H locs
