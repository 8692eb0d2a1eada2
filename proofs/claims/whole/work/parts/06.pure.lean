section NROWS
variable {p : Program} {l : Launch} {e : Env} {R : Room} {s : State} {m : MethodId} {args : Array Value} {below : List Frame} {meth : Method} {c : Code} {H : Heap} {locs : List Loc} {cells slots : Nat} {Q : State → Prop}
variable {cc : ByteArray} {pc : Nat} {ls : Array Slot} {rest : List Value}
theorem n_iadd (hx : p.tables.exec = Jvm.exec) (hb : c.code = cc) {x y v : Int32} (hdg : decode cc pc = .ok (.iadd, 1)) (hv : x + y = v) (k : W p l e R s m args below meth c H locs cells slots Q (F0 m (pc + 1) ls (.int v :: rest))) : W p l e R s m args below meth c H locs cells slots Q (F0 m pc ls (.int y :: .int x :: rest)) := by
  subst hv; exact lv_iadd hx hb hdg k
theorem n_isub (hx : p.tables.exec = Jvm.exec) (hb : c.code = cc) {x y v : Int32} (hdg : decode cc pc = .ok (.isub, 1)) (hv : x - y = v) (k : W p l e R s m args below meth c H locs cells slots Q (F0 m (pc + 1) ls (.int v :: rest))) : W p l e R s m args below meth c H locs cells slots Q (F0 m pc ls (.int y :: .int x :: rest)) := by
  subst hv; exact lv_isub hx hb hdg k
theorem n_imul (hx : p.tables.exec = Jvm.exec) (hb : c.code = cc) {x y v : Int32} (hdg : decode cc pc = .ok (.imul, 1)) (hv : x * y = v) (k : W p l e R s m args below meth c H locs cells slots Q (F0 m (pc + 1) ls (.int v :: rest))) : W p l e R s m args below meth c H locs cells slots Q (F0 m pc ls (.int y :: .int x :: rest)) := by
  subst hv; exact lv_imul hx hb hdg k
theorem n_iand (hx : p.tables.exec = Jvm.exec) (hb : c.code = cc) {x y v : Int32} (hdg : decode cc pc = .ok (.iand, 1)) (hv : x &&& y = v) (k : W p l e R s m args below meth c H locs cells slots Q (F0 m (pc + 1) ls (.int v :: rest))) : W p l e R s m args below meth c H locs cells slots Q (F0 m pc ls (.int y :: .int x :: rest)) := by
  subst hv; exact lv_iand hx hb hdg k
theorem n_ior (hx : p.tables.exec = Jvm.exec) (hb : c.code = cc) {x y v : Int32} (hdg : decode cc pc = .ok (.ior, 1)) (hv : x ||| y = v) (k : W p l e R s m args below meth c H locs cells slots Q (F0 m (pc + 1) ls (.int v :: rest))) : W p l e R s m args below meth c H locs cells slots Q (F0 m pc ls (.int y :: .int x :: rest)) := by
  subst hv; exact lv_ior hx hb hdg k
theorem n_ishl (hx : p.tables.exec = Jvm.exec) (hb : c.code = cc) {x y v : Int32} (hdg : decode cc pc = .ok (.ishl, 1)) (hv : x <<< (y &&& 31) = v) (k : W p l e R s m args below meth c H locs cells slots Q (F0 m (pc + 1) ls (.int v :: rest))) : W p l e R s m args below meth c H locs cells slots Q (F0 m pc ls (.int y :: .int x :: rest)) := by
  subst hv; exact lv_ishl hx hb hdg k
theorem n_ishr (hx : p.tables.exec = Jvm.exec) (hb : c.code = cc) {x y v : Int32} (hdg : decode cc pc = .ok (.ishr, 1)) (hv : x >>> (y &&& 31) = v) (k : W p l e R s m args below meth c H locs cells slots Q (F0 m (pc + 1) ls (.int v :: rest))) : W p l e R s m args below meth c H locs cells slots Q (F0 m pc ls (.int y :: .int x :: rest)) := by
  subst hv; exact lv_ishr hx hb hdg k
theorem n_idiv (hx : p.tables.exec = Jvm.exec) (hb : c.code = cc) {x y v : Int32} (hdg : decode cc pc = .ok (.idiv, 1)) (hne : ¬ y = 0) (hv : x / y = v) (k : W p l e R s m args below meth c H locs cells slots Q (F0 m (pc + 1) ls (.int v :: rest))) : W p l e R s m args below meth c H locs cells slots Q (F0 m pc ls (.int y :: .int x :: rest)) := by
  subst hv; exact lv_idiv hx hb hdg hne k
theorem n_irem (hx : p.tables.exec = Jvm.exec) (hb : c.code = cc) {x y v : Int32} (hdg : decode cc pc = .ok (.irem, 1)) (hne : ¬ y = 0) (hv : x - x / y * y = v) (k : W p l e R s m args below meth c H locs cells slots Q (F0 m (pc + 1) ls (.int v :: rest))) : W p l e R s m args below meth c H locs cells slots Q (F0 m pc ls (.int y :: .int x :: rest)) := by
  subst hv; exact lv_irem hx hb hdg hne k
theorem n_top {x y : Int32} (h : x = y) (k : W p l e R s m args below meth c H locs cells slots Q (F0 m pc ls (.int y :: rest))) : W p l e R s m args below meth c H locs cells slots Q (F0 m pc ls (.int x :: rest)) := by
  subst h; exact k
theorem n_topl {x y : Int64} (h : x = y) (k : W p l e R s m args below meth c H locs cells slots Q (F0 m pc ls (.long y :: rest))) : W p l e R s m args below meth c H locs cells slots Q (F0 m pc ls (.long x :: rest)) := by
  subst h; exact k
end NROWS
/-- a boolean's answer -/
def bz (P : Prop) (r : Int32) : Prop := (r = 0 ∧ ¬ P) ∨ (r = 1 ∧ P)
theorem bz_t {P : Prop} (h : P) : bz P 1 := Or.inr ⟨rfl, h⟩
theorem bz_f {P : Prop} (h : ¬ P) : bz P 0 := Or.inl ⟨rfl, h⟩
theorem bz_01 {P : Prop} {r : Int32} (h : bz P r) : r = 0 ∨ r = 1 := h.elim (fun q => Or.inl q.1) (fun q => Or.inr q.1)
theorem bz_iff {P P' : Prop} {r : Int32} (e : P ↔ P') (h : bz P r) : bz P' r := h.elim (fun q => Or.inl ⟨q.1, fun z => q.2 (e.mpr z)⟩) (fun q => Or.inr ⟨q.1, e.mp q.2⟩)
/-- a home: rows 0 (week, heat, people, garments), 1 kinds, 2 bands, 3 contents, 4 gone, 5 owners, 6 marks, 7 names, 8 with whom -/
abbrev HS : Type := Nat → Nat → Int32
def st (S : HS) (f i : Nat) (v : Int32) : HS := fun f' => if f' = f then upd (S f) i v else S f'
theorem st_eq (S : HS) (f i : Nat) (v : Int32) : st S f i v f = upd (S f) i v := by simp [st]
theorem st_ne (S : HS) {f f' : Nat} (i : Nat) (v : Int32) (h : f' ≠ f) : st S f i v f' = S f' := by simp [st, h]
theorem upd_at (f : Nat → Int32) (k : Nat) (x : Int32) : upd f k x k = x := by simp [upd]
theorem upd_ne (f : Nat → Int32) {k j : Nat} (x : Int32) (h : j ≠ k) : upd f k x j = f j := by simp [upd, h]
/-- the reference's row of a home -/
def enc (S : HS) : Nat → Int32 := fun k => if k < 4 then S 0 k else if k < 28 then S (1 + (k - 4) % 4) ((k - 4) / 4) else S (5 + (k - 28) % 4) ((k - 28) / 4)
theorem enc_0 (S : HS) {k : Nat} (h : k < 4) : enc S k = S 0 k := by simp [enc, h]
theorem enc_p (S : HS) {p j : Nat} (hp : p < 6) (hj : j < 4) : enc S (4 + 4 * p + j) = S (1 + j) p := by
  have h1 : ¬ 4 + 4 * p + j < 4 := by omega
  have h2 : 4 + 4 * p + j < 28 := by omega
  have h3 : (4 + 4 * p + j - 4) % 4 = j := by omega
  have h4 : (4 + 4 * p + j - 4) / 4 = p := by omega
  simp only [enc, h1, h2, h3, h4, if_false, if_true]
theorem enc_g (S : HS) {g j : Nat} (hj : j < 4) : enc S (28 + 4 * g + j) = S (5 + j) g := by
  have h1 : ¬ 28 + 4 * g + j < 4 := by omega
  have h2 : ¬ 28 + 4 * g + j < 28 := by omega
  have h3 : (28 + 4 * g + j - 28) % 4 = j := by omega
  have h4 : (28 + 4 * g + j - 28) / 4 = g := by omega
  simp only [enc, h1, h2, h3, h4, if_false]
theorem enc_at (S : HS) {k f i : Nat} (h : (k < 4 ∧ f = 0 ∧ i = k) ∨ (4 ≤ k ∧ k < 28 ∧ f = 1 + (k - 4) % 4 ∧ i = (k - 4) / 4) ∨ (28 ≤ k ∧ f = 5 + (k - 28) % 4 ∧ i = (k - 28) / 4)) (v : Int32) : upd (enc S) k v = enc (st S f i v) := by
  funext j
  by_cases hjk : j = k
  · subst hjk
    rw [upd_at]
    rcases h with ⟨h1, rfl, rfl⟩ | ⟨h1, h2, rfl, rfl⟩ | ⟨h1, rfl, rfl⟩
    · rw [enc_0 _ h1, st_eq, upd_at]
    · have : ¬ j < 4 := by omega
      simp only [enc, this, h2, if_false, if_true, st_eq, upd_at]
    · have h2 : ¬ j < 4 := by omega
      have h3 : ¬ j < 28 := by omega
      simp only [enc, h2, h3, if_false, st_eq, upd_at]
  · rw [upd_ne _ _ hjk]
    by_cases h4 : j < 4
    · rw [enc_0 _ h4, enc_0 _ h4]
      by_cases hf : f = 0
      · subst hf
        rw [st_eq, upd_ne]
        omega
      · rw [st_ne _ _ _ (fun q => hf q.symm)]
    · by_cases h28 : j < 28
      · simp only [enc, h4, h28, if_false, if_true]
        by_cases hf : f = 1 + (j - 4) % 4
        · subst hf
          rw [st_eq, upd_ne]
          omega
        · rw [st_ne _ _ _ (fun q => hf q.symm)]
      · simp only [enc, h4, h28, if_false]
        by_cases hf : f = 5 + (j - 28) % 4
        · subst hf
          rw [st_eq, upd_ne]
          omega
        · rw [st_ne _ _ _ (fun q => hf q.symm)]
theorem upd_p (S : HS) {p j : Nat} (hp : p < 6) (hj : j < 4) (v : Int32) : upd (enc S) (4 + 4 * p + j) v = enc (st S (1 + j) p v) := enc_at S (by omega) v
theorem upd_g (S : HS) {g j : Nat} (hj : j < 4) (v : Int32) : upd (enc S) (28 + 4 * g + j) v = enc (st S (5 + j) g v) := enc_at S (by omega) v
theorem upd_0 (S : HS) {k : Nat} (hk : k < 4) (v : Int32) : upd (enc S) k v = enc (st S 0 k v) := enc_at S (by omega) v
/-- cells of the two sides -/
abbrev HW (E : Ev) (h : Nat → Nat) (S T : HS) : va_W := [(h 0, .inr (0, [.int (S 0 0), .int (S 0 1), .int (S 0 2), .ref (h 1), .ref (h 2), .ref (h 3), .ref (h 4), .int (S 0 3), .ref (h 5), .ref (h 6), .ref (h 7), .ref (h 8), .ref (h 9), .ref (h 10)])), (h 1, .inl (E.2.1, 6, .inl (S 1))), (h 2, .inl (E.2.1, 6, .inl (S 2))), (h 3, .inl (E.2.1, 6, .inl (S 3))), (h 4, .inl (E.2.1, 6, .inl (S 4))), (h 5, .inl (E.2.1, 10, .inl (S 5))), (h 6, .inl (E.2.1, 10, .inl (S 6))), (h 7, .inl (E.2.1, 10, .inl (S 7))), (h 8, .inl (E.2.1, 10, .inl (S 8))), (h 9, .inl (E.2.1, 6, .inl (T 0))), (h 10, .inl (E.2.1, 6, .inl (T 1)))]
abbrev MO (a : Nat) (fs : List Value) : va_W := [(a, .inr (5, fs))]
abbrev IA (E : Ev) (a n : Nat) (f : Nat → Int32) : va_W := [(a, .inl (E.2.1, n, .inl f))]
abbrev LA (E : Ev) (a n : Nat) (f : Nat → Int64) : va_W := [(a, .inl (E.2.2.1, n, .inr (.inl f)))]
abbrev MR (E : Ev) (a b : Nat) (fs : List Value) (S : HS) : va_W := [(a, .inr (5, fs)), (b, .inl (E.2.1, 68, .inl (enc S)))]
