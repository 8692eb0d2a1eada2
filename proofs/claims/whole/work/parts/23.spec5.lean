theorem en4_at2 (N : NT) {i s k : Nat} (h : i = 40 * s + k) (hk : k < 40) : en4 N i = N s k := by rw [h]; exact en4_at N hk
theorem en4_put2 (N : NT) {i s k : Nat} (h : i = 40 * s + k) (hk : k < 40) (x : Int64) : vp_updL (en4 N) i x = en4 (va_up N s (vp_updL (N s) k x)) := by rw [h]; exact en4_put N hk x
theorem cpy_step (f g : Nat → Int64) (a b i : Nat) : vp_updL (va_cpy f g a b i) (b + i) (f (a + i)) = va_cpy f g a b (i + 1) := by
  funext k
  unfold vp_updL va_cpy
  by_cases e : k = b + i
  · subst e
    rw [if_pos rfl, if_pos (by omega), show b + i - b = i by omega]
  · rw [if_neg e]
    by_cases h : b ≤ k ∧ k < b + i
    · rw [if_pos h, if_pos (by omega)]
    · rw [if_neg h, if_neg (by omega)]
theorem cpy_0 (f g : Nat → Int64) (a b : Nat) : va_cpy f g a b 0 = g := by
  funext k
  unfold va_cpy
  rw [if_neg (by omega)]
theorem lyS_t {S : HS} {v : Nat → Int64} {g : Nat} (h : lyP (v g)) : lyS S v (g + 1) = st (lyS S v g) 7 g (v g).toInt32 := cif_t h
theorem lyS_f {S : HS} {v : Nat → Int64} {g : Nat} (h : ¬ lyP (v g)) : lyS S v (g + 1) = lyS S v g := cif_f h
theorem lyC_t {v : Nat → Int64} {g : Nat} (h : lyP (v g)) : lyC v (g + 1) = lyC v g + 1 := cif_t h
theorem lyC_f {v : Nat → Int64} {g : Nat} (h : ¬ lyP (v g)) : lyC v (g + 1) = lyC v g := cif_f h
