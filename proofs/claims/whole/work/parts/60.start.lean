/-! the law's entry: its strings, classes, arrays, words -/
def nrw : List Cond := flatC (Jvm.Cond.and given_1 narrow_1)
def tmS (i : Nat) : Term := .string "CollarNames$HomeText" (sidx.getD i 0)
def exI : List Nat := [9, 18, 29, 40, 51, 67, 96, 111, 129, 182, 202, 82, 145, 163]
def coI : List Nat := [10, 19, 30, 41, 52, 68, 97, 112, 130, 183, 203, 83, 146, 164]
def arI : List Nat := [11, 20, 31, 42, 53, 69, 98, 113, 131, 184, 204, 84, 147, 165]
def leI : List Nat := [12, 21, 32, 43, 54, 70, 99, 114, 132, 185, 205, 85, 148, 166]
def srI : List Nat := [512, 565, 566, 567, 568, 569, 589, 590, 591, 599, 604, 575, 597, 598]
def elI : List (List Nat) := [[13, 14, 15, 16, 17], [22, 23, 24, 25, 26, 27], [33, 34, 35, 36, 37], [44, 45, 46, 47], [55, 56, 57, 58, 59, 60, 61, 62], [71, 72, 73, 74, 75, 76], [100, 101, 102, 103], [115, 116, 117, 118, 119, 120], [133, 134, 135], [186, 187, 188, 189], [206, 207, 208, 209], [86, 87, 88, 89], [149, 150, 151, 152], [167, 168, 169, 170]]
def neI : List (List Nat) := [[0, 28, 38, 48, 63, 77, 104, 121, 136, 190, 210, 90, 153, 171], [28, 0, 39, 49, 64, 78, 105, 122, 137, 191, 211, 91, 154, 172], [38, 39, 0, 50, 65, 79, 106, 123, 138, 192, 212, 92, 155, 173], [48, 49, 50, 0, 66, 80, 107, 124, 139, 193, 213, 93, 156, 174], [63, 64, 65, 66, 0, 81, 108, 125, 140, 194, 214, 94, 157, 175], [77, 78, 79, 80, 81, 0, 109, 126, 141, 195, 215, 95, 158, 176], [104, 105, 106, 107, 108, 109, 0, 128, 143, 197, 217, 110, 160, 178], [121, 122, 123, 124, 125, 126, 128, 0, 144, 198, 218, 127, 161, 179], [136, 137, 138, 139, 140, 141, 143, 144, 0, 199, 219, 142, 162, 180], [190, 191, 192, 193, 194, 195, 197, 198, 199, 0, 222, 196, 200, 201], [210, 211, 212, 213, 214, 215, 217, 218, 219, 222, 0, 216, 220, 221], [90, 91, 92, 93, 94, 95, 110, 127, 142, 196, 216, 0, 159, 177], [153, 154, 155, 156, 157, 158, 160, 161, 162, 200, 220, 159, 0, 181], [171, 172, 173, 174, 175, 176, 178, 179, 180, 201, 221, 177, 181, 0]]
theorem ex_ok : ∀ i, i < 14 → nrw[exI.getD i 0]? = some (Cond.exactly (tmS i) "java/lang/String") := by decide +kernel
theorem co_ok : ∀ i, i < 14 → nrw[coI.getD i 0]? = some (Cond.eq (.field (tmS i) "java/lang/String" "coder" "B") (.int 0)) := by decide +kernel
theorem ar_ok : ∀ i, i < 14 → nrw[arI.getD i 0]? = some (Cond.arrayOf (.field (tmS i) "java/lang/String" "value" "[B") .byte) := by decide +kernel
theorem le_ok : ∀ i, i < 14 → nrw[leI.getD i 0]? = some (Cond.eq (.length (.field (tmS i) "java/lang/String" "value" "[B")) (.int (Int32.ofNat (slen.getD i 0)))) := by decide +kernel
theorem el_ok : ∀ i, i < 14 → ∀ j, j < slen.getD i 0 → nrw[(elI.getD i []).getD j 0]? = some (Cond.eq (.elem (.field (tmS i) "java/lang/String" "value" "[B") (.int (Int32.ofNat j))) (.int ((sbyt.getD i []).getD j 0))) := by decide +kernel
theorem ne_ok : ∀ i, i < 14 → ∀ j, j < 14 → i ≠ j → nrw[(neI.getD i []).getD j 0]? = some (Cond.not (Cond.eq (tmS i) (tmS j))) ∨ nrw[(neI.getD i []).getD j 0]? = some (Cond.not (Cond.eq (tmS j) (tmS i))) := by decide +kernel
theorem sr_ok : ∀ i, i < 14 → lw_tbl[srI.getD i 0]? = some (Cond.stringRef "CollarNames$HomeText" (sidx.getD i 0) (stx.getD i "")) := by decide +kernel
theorem cs_ok : nrw[4]? = some (Cond.eq (.static "java/lang/String" "COMPACT_STRINGS" "Z") (.int 1)) := by decide +kernel
theorem fm_ok : nrw[5]? = some (Cond.isRef (.static "jdk/internal/util/Preconditions" "SIOOBE_FORMATTER" "Ljava/util/function/BiFunction;")) := by decide +kernel
theorem sl_ok : ∀ i, i < 14 → slen.getD i 0 < 2 ^ 31 := by decide
theorem SX_start {args : Array Value} {s : State} {A : Nat → Prop} (hts : ∀ w ∈ lw_tbl, w.before args s = true) (hgv : (Jvm.Cond.and given_1 narrow_1).before args s = true) (hA : ∀ a : Nat, a < s.heap.size → ¬ A a) : ∃ ad av : NN, SX ad av A s s.heap := by
  have hs : ∀ (i : Nat) (w : Cond), nrw[i]? = some w → w.before args s = true := fun i w h => flat_of_before _ hgv w (List.mem_of_getElem? h)
  have hg : ∀ (i : Nat) (w : Cond), lw_tbl[i]? = some w → w.before args s = true := fun i w h => hts w (List.mem_of_getElem? h)
  obtain ⟨ad, av, h1, h2⟩ := vk_Sof (args := args) (s := s) (N := 14) (tm := tmS) (len := slen) (byt := sbyt) (A := A) sl_ok (fun i hi => hs _ _ (ex_ok i hi)) (fun i hi => hs _ _ (co_ok i hi)) (fun i hi => hs _ _ (ar_ok i hi)) (fun i hi => hs _ _ (le_ok i hi)) (fun i hi j hj => hs _ _ (el_ok i hi j hj)) (fun i j hi hj hij => (ne_ok i hi j hj hij).imp (hs _ _) (hs _ _)) hA
  refine ⟨ad, av, h1, ?_, ?_, fun i hi => vk_R.of (hg _ _ (sr_ok i hi)) (h2 i hi)⟩
  · exact va_Zof (hg 526 _ (by decide +kernel)) (hg 59 _ (by decide +kernel)) (va_eqt (hs _ _ cs_ok)) hA
  · exact va_Zqof (hg 542 _ (by decide +kernel)) (hg 61 _ (by decide +kernel)) (hs _ _ fm_ok) hA
theorem TB_start {args : Array Value} {s : State} (hts : ∀ w ∈ lw_tbl, w.before args s = true) : TB s := by
  refine ⟨fun w hw a => ?_, ?_, ?_⟩
  · have h := List.mem_filter.mp hw
    exact word_at (State.WarmedH.refl s) (good_of_word h.2) (hts w h.1)
  · exact va_Nw.of rfl (hts _ (List.mem_of_getElem? (i := 292) (by decide +kernel)))
  · exact va_Nw.of rfl (hts _ (List.mem_of_getElem? (i := 584) (by decide +kernel)))
theorem KK_start {args : Array Value} {s : State} (hts : ∀ w ∈ lw_tbl, w.before args s = true) : ∃ E : Ev, KK E s := by
  have hG : ∀ w ∈ GL, w.before args s = true := fun w hw => hts w (List.mem_filter.mp hw).1
  obtain ⟨c0, i0, hK0⟩ := u_known (C := RX0) (T := TX0) (N := 14) (n := 14) hG inX0 (hG (.instantiable RX0 14) (GL_of (i := 72) (by decide +kernel) rfl))
  obtain ⟨c1, i1, hK1⟩ := u_known (C := RX1) (T := TX1) (N := 3) (n := 3) hG inX1 (hG (.instantiable RX1 3) (GL_of (i := 175) (by decide +kernel) rfl))
  obtain ⟨c2, i2, hK2⟩ := u_known (C := RX2) (T := TX2) (N := 3) (n := 3) hG inX2 (hG (.instantiable RX2 3) (GL_of (i := 193) (by decide +kernel) rfl))
  obtain ⟨c3, i3, hK3⟩ := u_known (C := RX3) (T := TX3) (N := 6) (n := 6) hG inX3 (hG (.instantiable RX3 6) (GL_of (i := 141) (by decide +kernel) rfl))
  obtain ⟨c4, i4, hK4⟩ := u_known (C := RX4) (T := TX4) (N := 8) (n := 8) hG inX4 (hG (.instantiable RX4 8) (GL_of (i := 64) (by decide +kernel) rfl))
  obtain ⟨c5, i5, hK5⟩ := u_known (C := RX5) (T := TX5) (N := 19) (n := 19) hG inX5 (hG (.instantiable RX5 19) (GL_of (i := 688) (by decide +kernel) rfl))
  obtain ⟨a1, k1, m1, e1, f1, g1⟩ := Cond.arrayClass_spec (type := .int) (hG _ na_i)
  obtain ⟨a2, k2, m2, e2, f2, g2⟩ := Cond.arrayClass_spec (type := .long) (hG _ na_l)
  obtain ⟨m3, a3, k3, d3, b3, e3, f3, g3⟩ := Cond.arrayOver_spec (n := "CollarNames$Sheet") (hts _ (List.mem_of_getElem? (i := 192) (by decide +kernel)))
  refine ⟨((fun k => if k = 0 then c0 else if k = 1 then c1 else if k = 2 then c2 else if k = 3 then c3 else if k = 4 then c4 else c5, fun k => if k = 0 then i0 else if k = 1 then i1 else if k = 2 then i2 else if k = 3 then i3 else if k = 4 then i4 else i5), (a1, a2, a3)), ⟨fun k q hq => ?_, fun k q hq => ?_⟩, TB_start hts⟩
  · match k, hq with
    | 0, hq => cases hq; exact hK0
    | 1, hq => cases hq; exact hK1
    | 2, hq => cases hq; exact hK2
    | 3, hq => cases hq; exact hK3
    | 4, hq => cases hq; exact hK4
    | 5, hq => cases hq; exact hK5
    | k + 6, hq => simp [vwCl] at hq
  · match k, hq with
    | 0, hq => cases hq; exact ⟨fun N z => ⟨(fun k h => by cases h), k1, f1, m1, g1⟩, e1⟩
    | 1, hq => cases hq; exact ⟨fun N z => ⟨(fun k h => by cases h), k2, f2, m2, g2⟩, e2⟩
    | 2, hq => cases hq; exact ⟨fun N z => ⟨(fun k h => by cases h), k3, e3, m3, f3⟩, k3, m3, e3, f3, d3, g3⟩
    | k + 3, hq => simp [tyE] at hq
