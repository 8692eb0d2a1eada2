/-! the String constants: what stands of them while methods run -/
def slen : List Nat := [5, 6, 5, 4, 8, 6, 4, 6, 3, 4, 4, 4, 4, 4]
def sbyt : List (List Int32) := [[103, 117, 101, 115, 116], [109, 105, 110, 100, 101, 114], [118, 97, 103, 117, 101], [100, 101, 97, 102], [100, 97, 117, 103, 104, 116, 101, 114], [109, 97, 103, 112, 105, 101], [115, 101, 119, 110], [105, 114, 111, 110, 101, 100], [112, 101, 110], [104, 101, 97, 116], [100, 105, 101, 115], [98, 97, 110, 100], [110, 97, 109, 101], [104, 101, 97, 112]]
def sidx : List Nat := [117, 119, 121, 123, 125, 127, 129, 131, 133, 55, 64, 78, 98, 103]
def stx : List String := ["guest", "minder", "vague", "deaf", "daughter", "magpie", "sewn", "ironed", "pen", "heat", "dies", "band", "name", "heap"]
def SX (ad av : Nat → Nat) (A : Nat → Prop) (U : State) (H : Heap) : Prop := vk_S 14 slen sbyt ad av A U H ∧ va_Z "java/lang/String" "COMPACT_STRINGS" "Z" (.int 1) A U H ∧ va_Zq "jdk/internal/util/Preconditions" "SIOOBE_FORMATTER" "Ljava/util/function/BiFunction;" A U H ∧ ∀ i, i < 14 → vk_R "CollarNames$HomeText" (sidx.getD i 0) (stx.getD i "") (ad i) U
theorem SX.moved {ad av : Nat → Nat} {A : Nat → Prop} {s U : State} {H : Heap} (hW : s.WarmedH U.vm) (h : SX ad av A s H) : SX ad av A U H := ⟨vk_S.moved hW.alike h.1, va_Z.moved hW.alike h.2.1, va_Zq.moved hW.alike h.2.2.1, fun i hi => vk_R.warm hW (h.2.2.2 i hi)⟩
theorem SX.kept {ad av : Nat → Nat} {A : Nat → Prop} {U : State} {H H1 : Heap} (h : SX ad av A U H) (hq : ∀ a : Nat, a < H.size → ¬ A a → H1[a]? = H[a]?) : SX ad av A U H1 := ⟨h.1.kept hq, h.2.1.kept hq, h.2.2.1.kept hq, h.2.2.2⟩
theorem SX.narrow {ad av : Nat → Nat} {A B : Nat → Prop} {U : State} {H : Heap} (h : SX ad av A U H) (hAB : ∀ q, B q → A q) : SX ad av B U H := ⟨h.1.narrow hAB, h.2.1.narrow hAB, h.2.2.1.narrow hAB, h.2.2.2⟩
theorem SX.calling {ad av : Nat → Nat} {A : Nat → Prop} {U : State} {H : Heap} (g : JFrame) (mk : MethodId) (a : Array Value) (h : SX ad av A U H) : SX ad av A (U.calling g mk a) H := SX.moved (s := U) (U := U.calling g mk a) (State.WarmedH.refl U) h
def PreD (E : Ev) (ad av : Nat → Nat) (w : va_W) (sz : Nat) (U : State) : Prop := PreC E w sz U ∧ SX ad av (va_A w sz) U U.heap
theorem PreD_blind {E : Ev} {ad av : Nat → Nat} {vs : List Value} {w : va_W} {sz : Nat} : FrameBlind (va_Pc vs (PreD E ad av w sz)) := fun a U g mk q => ⟨q.1, ⟨q.2.1.1, q.2.1.2.1, KK.calling g mk a q.2.1.2.2.1, q.2.1.2.2.2⟩, SX.calling g mk a q.2.2⟩
def MIs {X : Type} (l : Launch) (E : Ev) (ad av : Nat → Nat) (y : MethodName) (cc : ByteArray) (mL : Nat) (ty : FieldType) (fr lo : Nat) (vs : List Value) (w : va_W) (post : Int32 → X → Prop) (w' : X → va_W) : Prop :=
  ∀ sz, Met l y [.code y cc mL (some ty)] { frames := fr, cells := 0, slots := 0, locals := lo } (va_Pc vs (PreD E ad av w sz)) (va_Qi post (PostC E (va_A w sz) w') (va_A w sz)) 0 0 (va_A w sz)
def MVs {X : Type} (l : Launch) (E : Ev) (ad av : Nat → Nat) (y : MethodName) (cc : ByteArray) (mL : Nat) (fr lo : Nat) (vs : List Value) (w : va_W) (post : X → Prop) (w' : X → va_W) : Prop :=
  ∀ sz, Met l y [.code y cc mL none] { frames := fr, cells := 0, slots := 0, locals := lo } (va_Pc vs (PreD E ad av w sz)) (va_Qv post (PostC E (va_A w sz) w') (va_A w sz)) 0 0 (va_A w sz)
theorem MIs_intro {X : Type} {l : Launch} {E : Ev} {ad av : Nat → Nat} {y : MethodName} {cc : ByteArray} {mL : Nat} {ty : FieldType} {fr lo : Nat} {vs : List Value} {w : va_W} {post : Int32 → X → Prop} {w' : X → va_W} (own : String) (hy : plainName y.cls = true) (ho : y.cls = own) (hle : (lg_sl vs).length ≤ mL)
    (body : ∀ (p : Program) (e : Env) (R : Room) (s : State) (m : MethodId) (args : Array Value) (below : List Frame) (meth : Method) (c : Code) (A : Nat → Prop) (Q : State → Prop), Q = MQ below (va_Qi post (PostC E A w') A) args s 0 0 A → Cx p R s m args meth c cc mL own (some ty) E { frames := fr, cells := 0, slots := 0, locals := lo } → Dj A (w.map (fun q => q.1)) → Wd E A s.heap w s.heap [] → (∀ q, s.heap.size ≤ q → A q) → SX ad av A s s.heap → ∀ ls : Array Slot, lv_has ls mL (lv_args 0 vs) →
      W p l e R s m args below meth c s.heap [] 0 0 Q (F0 m 0 ls [])) : MIs l E ad av y cc mL ty fr lo vs w post w' := by
  intro sz
  refine Met.ofW (cc := cc) (maxL := mL) (ret := some ty) hy rfl ?_
  intro p e s m args below meth c s₁ B hml hv
  obtain ⟨rfl, ⟨hsz, hP, hK, hD0⟩, hSX⟩ := hv
  have hl := lv_entry vs (n := mL) hle
  rw [lg_entry_eq]
  exact body p e _ s m _ below meth c (va_A w sz) _ rfl ⟨B.exec, B.bytes, hml, by rw [← ho]; exact findClass_of_methodNamed B.named, B.returns, B.notSynchronized, hK, rfl⟩ (Dj.of hD0.self) ⟨hP, va_S.rf⟩ (fun q h => Or.inr (by rw [← hsz]; exact h)) hSX _ hl
theorem MVs_intro {X : Type} {l : Launch} {E : Ev} {ad av : Nat → Nat} {y : MethodName} {cc : ByteArray} {mL : Nat} {fr lo : Nat} {vs : List Value} {w : va_W} {post : X → Prop} {w' : X → va_W} (own : String) (hy : plainName y.cls = true) (ho : y.cls = own) (hle : (lg_sl vs).length ≤ mL)
    (body : ∀ (p : Program) (e : Env) (R : Room) (s : State) (m : MethodId) (args : Array Value) (below : List Frame) (meth : Method) (c : Code) (A : Nat → Prop) (Q : State → Prop), Q = MQ below (va_Qv post (PostC E A w') A) args s 0 0 A → Cx p R s m args meth c cc mL own none E { frames := fr, cells := 0, slots := 0, locals := lo } → Dj A (w.map (fun q => q.1)) → Wd E A s.heap w s.heap [] → (∀ q, s.heap.size ≤ q → A q) → SX ad av A s s.heap → ∀ ls : Array Slot, lv_has ls mL (lv_args 0 vs) →
      W p l e R s m args below meth c s.heap [] 0 0 Q (F0 m 0 ls [])) : MVs l E ad av y cc mL fr lo vs w post w' := by
  intro sz
  refine Met.ofW (cc := cc) (maxL := mL) (ret := none) hy rfl ?_
  intro p e s m args below meth c s₁ B hml hv
  obtain ⟨rfl, ⟨hsz, hP, hK, hD0⟩, hSX⟩ := hv
  have hl := lv_entry vs (n := mL) hle
  rw [lg_entry_eq]
  exact body p e _ s m _ below meth c (va_A w sz) _ rfl ⟨B.exec, B.bytes, hml, by rw [← ho]; exact findClass_of_methodNamed B.named, B.returns, B.notSynchronized, hK, rfl⟩ (Dj.of hD0.self) ⟨hP, va_S.rf⟩ (fun q h => Or.inr (by rw [← hsz]; exact h)) hSX _ hl
section CALLT
variable {p : Program} {l : Launch} {e : Env} {R : Room} {s : State} {m : MethodId} {args : Array Value} {below : List Frame} {meth : Method} {c : Code} {H : Heap} {locs : List Loc} {cells slots : Nat} {Q : State → Prop}
variable {cc cc' : ByteArray} {mL mL' n pc fr lo idx : Nat} {ls : Array Slot} {rest st As : List Value} {A : Nat → Prop} {b ci : Nat} {cs ds : List va_W} {ws wt : va_W} {E : Ev} {own C : String} {ret : Option FieldType} {ty : FieldType} {rm : Room} {as : List Nat} {y : MethodName} {X : Type} {ns : X → List va_W} {w' : X → va_W} {fs : List Value} {T : u_T} {N : Nat} {ad av : Nat → Nat}
theorem SX_to {B : Nat → Prop} {U : State} (hSX : SX ad av A s s.heap) (hW : Wd E A s.heap ws H locs) (hF : ∀ q, B q → A q) (hU : U.heap = H) (hWm : s.WarmedH U.vm) : SX ad av B U U.heap := by
  rw [hU]
  exact SX.moved hWm ((hSX.kept hW.2.2.1).narrow hF)
theorem r_runCs {Qc : Array Value → State → Outcome → State → Prop} (hC : Cx p R s m args meth c cc mL own ret E rm) (hD : Dj A as) (hW : Wd E A s.heap (wcat cs) H locs) (hA : ∀ q, s.heap.size ≤ q → A q) (hSX : SX ad av A s s.heap) {ret' : Option FieldType} (lk : LkV own idx C y cc' mL' n ret')
    (hM : Met l y [.code y cc' mL' ret'] { frames := fr, cells := 0, slots := 0, locals := lo } (va_Pc (.ref b :: As) (PreD E ad av (wcat ds) H.size)) Qc 0 0 (va_A (wcat ds) H.size)) (hci : vwCl[ci]? = some (C, T, N)) (hrec : wcat ds = (b, .inr (ci, fs)) :: wt) (hr : fr + 1 ≤ rm.frames ∧ 8 + (mL' + 11) + lo ≤ rm.locals ∧ cells ≤ rm.cells ∧ slots ≤ rm.slots)
    (is : List Nat) (hnd : va_nd is = true) (hget : is.map (fun i => cs[i]?) = ds.map some) (has : (wcat cs).map (fun q => q.1) = as) (hl : ls.size = mL) (hn : As.length = n) (hst : st = As.reverse ++ .ref b :: rest) (hrest : (rest.map fun v => v.category).sum ≤ 8) (hdg : decode cc pc = .ok (.invokevirtual idx, 3)) :
    va_Run p l e R s m args below meth c H locs cells slots 0 0 (F0 m pc ls st) rest (Qc (Value.ref b :: As).toArray) (va_A (wcat ds) H.size) := by
  have hF := free_c hD hW hA has is hget
  obtain ⟨hx, hb, hml, hown, -, -, hK, hRm⟩ := hC
  subst hRm
  have hts : ∀ w ∈ GL, w.before args s = true := fun w hw => hK.2.1 w hw args
  have hPc : va_P E.1 vwCl (wcat ds) H := vaP_mem.mpr (fun q hq => vaP_mem.mp hW.1 q (ch_mem hget hq))
  have hDc : va_D A (wcat ds) := ch_D (hD.to has) hnd hget
  have h0 : (wcat ds)[0]? = some (b, .inr (ci, fs)) := by rw [hrec]; rfl
  exact va_runV (As := As) (rest := rest) ⟨hx, hb, hml, hown, hts⟩ hM (cwV n hts (GL_good lk.1) rfl rfl rfl lk.2 ⟨hr.1, hr.2.1⟩) ⟨PreD_blind, va_recv hK.1 hPc (q0 := 0) hci h0, fun U hU hWm => ⟨rfl, ⟨by rw [hU], by rw [hU]; exact hPc, KK.moved hWm hK, hDc.weaken (fun _ _ _ _ => trivial)⟩, SX_to hSX hW hF hU hWm⟩⟩ rfl hn hl hst (lv_room hrest) hdg ⟨hr.2.2.1, hr.2.2.2⟩
theorem r_callCis {post : Int32 → X → Prop} (hC : Cx p R s m args meth c cc mL own ret E rm) (hD : Dj A as) (hW : Wd E A s.heap (wcat cs) H locs) (hA : ∀ q, s.heap.size ≤ q → A q) (hSX : SX ad av A s s.heap) (lk : LkV own idx C y cc' mL' n (some ty)) (hM : MIs l E ad av y cc' mL' ty fr lo (.ref b :: As) (wcat ds) post (fun u => wcat (ns u))) (hci : vwCl[ci]? = some (C, T, N)) (hrec : wcat ds = (b, .inr (ci, fs)) :: wt) (hr : fr + 1 ≤ rm.frames ∧ 8 + (mL' + 11) + lo ≤ rm.locals ∧ cells ≤ rm.cells ∧ slots ≤ rm.slots)
    (is : List Nat) (hnd : va_nd is = true) (hget : is.map (fun i => cs[i]?) = ds.map some) (has : (wcat cs).map (fun q => q.1) = as) (hlen : ∀ u, is.length = (ns u).length) (hl : ls.size = mL) (hn : As.length = n) (hst : st = As.reverse ++ .ref b :: rest) (hrest : (rest.map fun v => v.category).sum ≤ 8) (hdg : decode cc pc = .ok (.invokevirtual idx, 3))
    (kk : ∀ (r : Int32) (u : X) (H1 : Heap) (locs1 : List Loc), post r u → Wd E A s.heap (wcat (cput cs is (ns u))) H1 locs1 → W p l e R s m args below meth c H1 locs1 cells slots Q (F0 m (pc + 3) ls (.int r :: rest))) : W p l e R s m args below meth c H locs cells slots Q (F0 m pc ls st) := by
  have hF := free_c hD hW hA has is hget
  exact va_calli (r_runCs hC hD hW hA hSX lk (hM H.size) hci hrec hr is hnd hget has hl hn hst hrest hdg) hW.2 (fun q _ h => hF q h) hF (fun r u t H1 locs1 ht _ hp hB _ hk hS => kk r u H1 locs1 hp ⟨join_c hW.1 (hD.to has) is hget (hlen u) hk (by rw [← ht]; exact hB.1), hS⟩)
/-- a call of a String's own method: no cell of ours is needed -/
theorem r_callTi {post : Int32 → X → Prop} {i : Nat} (hC : Cx p R s m args meth c cc mL own ret E rm) (hD : Dj A as) (hW : Wd E A s.heap ws H locs) (hA : ∀ q, s.heap.size ≤ q → A q) (hSX : SX ad av A s s.heap) (lk : LkV own idx "java/lang/String" y cc' mL' n (some ty)) (hM : MIs l E ad av y cc' mL' ty fr lo (.ref (ad i) :: As) [] post w') (hi : i < 14) (hr : fr + 1 ≤ rm.frames ∧ 8 + (mL' + 11) + lo ≤ rm.locals ∧ cells ≤ rm.cells ∧ slots ≤ rm.slots)
    (has : ws.map (fun q => q.1) = as) (hl : ls.size = mL) (hn : As.length = n) (hst : st = As.reverse ++ .ref (ad i) :: rest) (hrest : (rest.map fun v => v.category).sum ≤ 8) (hdg : decode cc pc = .ok (.invokevirtual idx, 3))
    (kk : ∀ (r : Int32) (u : X) (H1 : Heap) (locs1 : List Loc), post r u → Wd E A s.heap ws H1 locs1 → W p l e R s m args below meth c H1 locs1 cells slots Q (F0 m (pc + 3) ls (.int r :: rest))) : W p l e R s m args below meth c H locs cells slots Q (F0 m pc ls st) := by
  have hF : ∀ q, va_A [] H.size q → A q := free_put (wc := []) hD hW hA has [] rfl
  obtain ⟨hx, hb, hml, hown, -, -, hK, hRm⟩ := hC
  subst hRm
  have hts : ∀ w ∈ GL, w.before args s = true := fun w hw => hK.2.1 w hw args
  exact va_calli (va_runV (As := As) (rest := rest) ⟨hx, hb, hml, hown, hts⟩ (hM H.size) (cwV n hts (GL_good lk.1) rfl rfl rfl lk.2 ⟨hr.1, hr.2.1⟩) ⟨PreD_blind, vk_recv hSX.1 hi hW.2, fun U hU hWm => ⟨rfl, ⟨by rw [hU], fun k q h => by simp at h, KK.moved hWm hK, ⟨fun i j p q h => by simp at h, fun k q h => by simp at h⟩⟩, SX_to hSX hW hF hU hWm⟩⟩ rfl hn hl hst (lv_room hrest) hdg ⟨hr.2.2.1, hr.2.2.2⟩) hW.2 (fun q _ h => hF q h) hF (fun r u t H1 locs1 ht _ hp hB _ hk hS => kk r u H1 locs1 hp (r_keep hW (hD.to has) hk rfl hS))
/-- a static call among Strings -/
theorem r_callSis {post : Int32 → X → Prop} (hC : Cx p R s m args meth c cc mL own ret E rm) (hD : Dj A as) (hW : Wd E A s.heap ws H locs) (hA : ∀ q, s.heap.size ≤ q → A q) (hSX : SX ad av A s s.heap) (lk : LkS own idx y cc' mL' n (some ty)) (hM : MIs l E ad av y cc' mL' ty fr lo As [] post w') (hr : fr + 1 ≤ rm.frames ∧ 8 + (mL' + 11) + lo ≤ rm.locals ∧ cells ≤ rm.cells ∧ slots ≤ rm.slots)
    (has : ws.map (fun q => q.1) = as) (hl : ls.size = mL) (hn : As.length = n) (hst : st = As.reverse ++ rest) (hrest : (rest.map fun v => v.category).sum ≤ 8) (hdg : decode cc pc = .ok (.invokestatic idx, 3))
    (kk : ∀ (r : Int32) (u : X) (H1 : Heap) (locs1 : List Loc), post r u → Wd E A s.heap ws H1 locs1 → W p l e R s m args below meth c H1 locs1 cells slots Q (F0 m (pc + 3) ls (.int r :: rest))) : W p l e R s m args below meth c H locs cells slots Q (F0 m pc ls st) := by
  have hF : ∀ q, va_A [] H.size q → A q := free_put (wc := []) hD hW hA has [] rfl
  obtain ⟨hx, hb, hml, hown, -, -, hK, hRm⟩ := hC
  subst hRm
  have hts : ∀ w ∈ GL, w.before args s = true := fun w hw => hK.2.1 w hw args
  exact va_calli (va_runS (As := As) (rest := rest) ⟨hx, hb, hml, hown, hts⟩ (hM H.size) (va_cwS n hts (GL_good lk.1) rfl rfl rfl lk.2 ⟨hr.1, hr.2.1⟩) ⟨PreD_blind, fun U hU hWm => ⟨rfl, ⟨by rw [hU], fun k q h => by simp at h, KK.moved hWm hK, ⟨fun i j p q h => by simp at h, fun k q h => by simp at h⟩⟩, SX_to hSX hW hF hU hWm⟩⟩ rfl hn hl hst (lv_room hrest) hdg ⟨hr.2.2.1, hr.2.2.2⟩) hW.2 (fun q _ h => hF q h) hF (fun r u t H1 locs1 ht _ hp hB _ hk hS => kk r u H1 locs1 hp (r_keep hW (hD.to has) hk rfl hS))
theorem r_callSvs {post : X → Prop} (hC : Cx p R s m args meth c cc mL own ret E rm) (hD : Dj A as) (hW : Wd E A s.heap ws H locs) (hA : ∀ q, s.heap.size ≤ q → A q) (hSX : SX ad av A s s.heap) (lk : LkS own idx y cc' mL' n none) (hM : MVs l E ad av y cc' mL' fr lo As [] post w') (hr : fr + 1 ≤ rm.frames ∧ 8 + (mL' + 11) + lo ≤ rm.locals ∧ cells ≤ rm.cells ∧ slots ≤ rm.slots)
    (has : ws.map (fun q => q.1) = as) (hl : ls.size = mL) (hn : As.length = n) (hst : st = As.reverse ++ rest) (hrest : (rest.map fun v => v.category).sum ≤ 8) (hdg : decode cc pc = .ok (.invokestatic idx, 3))
    (kk : ∀ (u : X) (H1 : Heap) (locs1 : List Loc), post u → Wd E A s.heap ws H1 locs1 → W p l e R s m args below meth c H1 locs1 cells slots Q (F0 m (pc + 3) ls rest)) : W p l e R s m args below meth c H locs cells slots Q (F0 m pc ls st) := by
  have hF : ∀ q, va_A [] H.size q → A q := free_put (wc := []) hD hW hA has [] rfl
  obtain ⟨hx, hb, hml, hown, -, -, hK, hRm⟩ := hC
  subst hRm
  have hts : ∀ w ∈ GL, w.before args s = true := fun w hw => hK.2.1 w hw args
  exact va_callv (va_runS (As := As) (rest := rest) ⟨hx, hb, hml, hown, hts⟩ (hM H.size) (va_cwS n hts (GL_good lk.1) rfl rfl rfl lk.2 ⟨hr.1, hr.2.1⟩) ⟨PreD_blind, fun U hU hWm => ⟨rfl, ⟨by rw [hU], fun k q h => by simp at h, KK.moved hWm hK, ⟨fun i j p q h => by simp at h, fun k q h => by simp at h⟩⟩, SX_to hSX hW hF hU hWm⟩⟩ rfl hn hl hst (lv_room hrest) hdg ⟨hr.2.2.1, hr.2.2.2⟩) hW.2 (fun q _ h => hF q h) hF (fun u t H1 locs1 ht _ hp hB _ hk hS => kk u H1 locs1 hp (r_keep hW (hD.to has) hk rfl hS))
theorem r_ldcS {i : Nat} (hC : Cx p R s m args meth c cc mL own ret E rm) (hSX : SX ad av A s s.heap) (hi : i < 14) (ho : own = "CollarNames$HomeText") (hix : sidx.getD i 0 = idx) (hdg : decode cc pc = .ok (.ldc idx, 2)) (kk : W p l e R s m args below meth c H locs cells slots Q (F0 m (pc + 2) ls (.ref (ad i) :: rest))) : W p l e R s m args below meth c H locs cells slots Q (F0 m pc ls rest) := by
  obtain ⟨hx, hb, hml, hown, hr, hlk, hK, -⟩ := hC
  subst ho
  subst hix
  exact va_ldcS hx hb hown (hSX.2.2.2 i hi) hdg kk
end CALLT
