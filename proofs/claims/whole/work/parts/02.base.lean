/-! The one list of words that all methods use, and my own rows over the kit's. -/
def GL : List Cond := lw_tbl.filter goodWord
theorem GL_of {i : Nat} {w : Cond} (h : lw_tbl[i]? = some w) (hg : goodWord w = true) : w ∈ GL := List.mem_filter.mpr ⟨List.mem_of_getElem? h, hg⟩
theorem GL_all {ws : List Cond} (ps : List Nat) (hp : ws = ps.filterMap (fun i => lw_tbl[i]?)) (h : ws.all goodWord = true) : ∀ w ∈ ws, w ∈ GL := by
  intro w hw
  have h1 := List.all_eq_true.mp h w hw
  rw [hp] at hw
  obtain ⟨i, -, hi⟩ := List.mem_filterMap.mp hw
  exact GL_of hi h1
def TB (U : State) : Prop := (∀ w ∈ GL, ∀ a : Array Value, w.before a U = true) ∧ va_Nw (.methodLinkNest RX0 61 yX4_isWithin RX4) U ∧ va_Nw (.methodLinkNest RX3 53 yX4_isWithin RX4) U
theorem TB.moved {s U : State} (hW : s.WarmedH U.vm) (h : TB s) : TB U := ⟨fun w hw a => word_at hW (good_of_word (List.mem_filter.mp hw).2) (h.1 w hw #[]), va_Nw.warmM hW h.2.1, va_Nw.warmM hW h.2.2⟩
/-- classes and slots, the class of int arrays, of long arrays, of the array of sheets -/
abbrev Ev : Type := va_G × (ClassId × ClassId × ClassId)
abbrev tyE (E : Ev) : List (ClassId × FieldType) := [(E.2.1, .int), (E.2.2.1, .long), (E.2.2.2, .object "CollarNames$Sheet")]
def KK (E : Ev) (U : State) : Prop := va_K E.1 vwCl (tyE E) U ∧ TB U
theorem KK.moved {E : Ev} {s U : State} (hW : s.WarmedH U.vm) (h : KK E s) : KK E U := ⟨va_K.moved hW.alike h.1, TB.moved hW h.2⟩
theorem KK.calling {E : Ev} {U : State} (g : JFrame) (mk : MethodId) (a : Array Value) (h : KK E U) : KK E (U.calling g mk a) := KK.moved (s := U) (U := U.calling g mk a) (State.WarmedH.refl U) h
/-- what stands while a method runs -/
def Cx (p : Program) (R : Room) (s : State) (m : MethodId) (args : Array Value) (meth : Method) (c : Code) (cc : ByteArray) (mL : Nat) (own : String) (ret : Option FieldType) (E : Ev) (rm : Room) : Prop :=
  p.tables.exec = Jvm.exec ∧ c.code = cc ∧ c.maxLocals = mL ∧ s.vm.findClass own = some m.cls ∧ meth.sig.returnType = ret ∧ meth.locks = false ∧ KK E s ∧ R = rm
def Wd (E : Ev) (A : Nat → Prop) (H0 : Heap) (ws : va_W) (H : Heap) (locs : List Loc) : Prop := va_P E.1 vwCl ws H ∧ va_S A H0 H locs
def Dj (A : Nat → Prop) (as : List Nat) : Prop := va_D A (as.map (fun a => (a, (Sum.inr (0, []) : va_E))))
theorem Dj.to {A : Nat → Prop} {as : List Nat} {ws : va_W} (h : Dj A as) (e : ws.map (fun q => q.1) = as) : va_D A ws := by
  subst e
  refine ⟨fun i j p q hi hj hpq => ?_, fun k q hk => ?_⟩
  · exact h.1 i j (p.1, .inr (0, [])) (q.1, .inr (0, [])) (by simp [hi]) (by simp [hj]) hpq
  · exact h.2 k (q.1, .inr (0, [])) (by simp [hk])
theorem Dj.of {A : Nat → Prop} {ws : va_W} (h : va_D A ws) : Dj A (ws.map (fun q => q.1)) := by
  refine ⟨fun i j p q hi hj hpq => ?_, fun k q hk => ?_⟩
  · simp only [List.map_map, List.getElem?_map, Option.map_eq_some_iff] at hi hj
    obtain ⟨x, hx, rfl⟩ := hi
    obtain ⟨y, hy, rfl⟩ := hj
    exact h.1 i j x y hx hy hpq
  · simp only [List.map_map, List.getElem?_map, Option.map_eq_some_iff] at hk
    obtain ⟨x, hx, rfl⟩ := hk
    exact h.2 k x hx
/-- contracts: the world w before, w' u behind -/
def PreC (E : Ev) (w : va_W) (sz : Nat) (U : State) : Prop := U.heap.size = sz ∧ va_P E.1 vwCl w U.heap ∧ KK E U ∧ va_D (fun _ => True) w
def PostC (E : Ev) (A : Nat → Prop) {X : Type} (w' : X → va_W) (u : X) (t : State) : Prop := va_P E.1 vwCl (w' u) t.heap ∧ va_D A (w' u)
def MI {X : Type} (l : Launch) (E : Ev) (y : MethodName) (cc : ByteArray) (mL : Nat) (ty : FieldType) (fr lo mc ms : Nat) (av : List Value) (w : va_W) (post : Int32 → X → Prop) (w' : X → va_W) : Prop :=
  ∀ sz, Met l y [.code y cc mL (some ty)] { frames := fr, cells := mc, slots := ms, locals := lo } (va_Pc av (PreC E w sz)) (va_Qi post (PostC E (va_A w sz) w') (va_A w sz)) mc ms (va_A w sz)
def ML {X : Type} (l : Launch) (E : Ev) (y : MethodName) (cc : ByteArray) (mL : Nat) (ty : FieldType) (fr lo mc ms : Nat) (av : List Value) (w : va_W) (post : Int64 → X → Prop) (w' : X → va_W) : Prop :=
  ∀ sz, Met l y [.code y cc mL (some ty)] { frames := fr, cells := mc, slots := ms, locals := lo } (va_Pc av (PreC E w sz)) (va_Ql post (PostC E (va_A w sz) w') (va_A w sz)) mc ms (va_A w sz)
def MV {X : Type} (l : Launch) (E : Ev) (y : MethodName) (cc : ByteArray) (mL : Nat) (fr lo mc ms : Nat) (av : List Value) (w : va_W) (post : X → Prop) (w' : X → va_W) : Prop :=
  ∀ sz, Met l y [.code y cc mL none] { frames := fr, cells := mc, slots := ms, locals := lo } (va_Pc av (PreC E w sz)) (va_Qv post (PostC E (va_A w sz) w') (va_A w sz)) mc ms (va_A w sz)
/-- a method's body -/
theorem body_intro {l : Launch} {E : Ev} {y : MethodName} {cc : ByteArray} {mL : Nat} {ret : Option FieldType} {fr lo mc ms : Nat} {av : List Value} {w : va_W} {sz : Nat} {Qc : Array Value → State → Outcome → State → Prop} {own : String} (hy : plainName y.cls = true) (ho : y.cls = own) (hle : (lg_sl av).length ≤ mL)
    (body : ∀ (p : Program) (e : Env) (R : Room) (s : State) (m : MethodId) (args : Array Value) (below : List Frame) (meth : Method) (c : Code), args = av.toArray → s.heap.size = sz → Cx p R s m args meth c cc mL own ret E { frames := fr, cells := mc, slots := ms, locals := lo } → (own = y.cls → meth.name = y.name) → Dj (va_A w sz) (w.map (fun q => q.1)) → Wd E (va_A w sz) s.heap w s.heap [] → (∀ q, s.heap.size ≤ q → va_A w sz q) → ∀ ls : Array Slot, lv_has ls mL (lv_args 0 av) →
      W p l e R s m args below meth c s.heap [] 0 0 (MQ below Qc args s mc ms (va_A w sz)) (F0 m 0 ls [])) :
    Met l y [.code y cc mL ret] { frames := fr, cells := mc, slots := ms, locals := lo } (va_Pc av (PreC E w sz)) Qc mc ms (va_A w sz) := by
  refine Met.ofW (cc := cc) (maxL := mL) (ret := ret) hy rfl ?_
  intro p e s m args below meth c s₁ B hml hv
  obtain ⟨rfl, hsz, hP, hK, hD0⟩ := hv
  have hl := lv_entry av (n := mL) hle
  rw [lg_entry_eq]
  exact body p e _ s m _ below meth c rfl hsz ⟨B.exec, B.bytes, hml, by rw [← ho]; exact findClass_of_methodNamed B.named, B.returns, B.notSynchronized, hK, rfl⟩ (fun _ => (name_of_methodNamed B.named B.method).1) (Dj.of hD0.self) ⟨hP, va_S.rf⟩ (fun q h => Or.inr (by rw [← hsz]; exact h)) _ hl
theorem MI_intro {X : Type} {l : Launch} {E : Ev} {y : MethodName} {cc : ByteArray} {mL : Nat} {ty : FieldType} {fr lo mc ms : Nat} {av : List Value} {w : va_W} {post : Int32 → X → Prop} {w' : X → va_W} (own : String) (hy : plainName y.cls = true) (ho : y.cls = own) (hle : (lg_sl av).length ≤ mL)
    (body : ∀ (p : Program) (e : Env) (R : Room) (s : State) (m : MethodId) (args : Array Value) (below : List Frame) (meth : Method) (c : Code) (A : Nat → Prop) (Q : State → Prop), Q = MQ below (va_Qi post (PostC E A w') A) args s mc ms A → Cx p R s m args meth c cc mL own (some ty) E { frames := fr, cells := mc, slots := ms, locals := lo } → Dj A (w.map (fun q => q.1)) → Wd E A s.heap w s.heap [] → (∀ q, s.heap.size ≤ q → A q) → ∀ ls : Array Slot, lv_has ls mL (lv_args 0 av) →
      W p l e R s m args below meth c s.heap [] 0 0 Q (F0 m 0 ls [])) : MI l E y cc mL ty fr lo mc ms av w post w' :=
  fun sz => body_intro hy ho hle (fun p e R s m args below meth c _ hsz hC _ hD hW hA ls hl => body p e R s m args below meth c (va_A w sz) _ rfl hC hD hW hA ls hl)
theorem ML_intro {X : Type} {l : Launch} {E : Ev} {y : MethodName} {cc : ByteArray} {mL : Nat} {ty : FieldType} {fr lo mc ms : Nat} {av : List Value} {w : va_W} {post : Int64 → X → Prop} {w' : X → va_W} (own : String) (hy : plainName y.cls = true) (ho : y.cls = own) (hle : (lg_sl av).length ≤ mL)
    (body : ∀ (p : Program) (e : Env) (R : Room) (s : State) (m : MethodId) (args : Array Value) (below : List Frame) (meth : Method) (c : Code) (A : Nat → Prop) (Q : State → Prop), Q = MQ below (va_Ql post (PostC E A w') A) args s mc ms A → Cx p R s m args meth c cc mL own (some ty) E { frames := fr, cells := mc, slots := ms, locals := lo } → Dj A (w.map (fun q => q.1)) → Wd E A s.heap w s.heap [] → (∀ q, s.heap.size ≤ q → A q) → ∀ ls : Array Slot, lv_has ls mL (lv_args 0 av) →
      W p l e R s m args below meth c s.heap [] 0 0 Q (F0 m 0 ls [])) : ML l E y cc mL ty fr lo mc ms av w post w' :=
  fun sz => body_intro hy ho hle (fun p e R s m args below meth c _ hsz hC _ hD hW hA ls hl => body p e R s m args below meth c (va_A w sz) _ rfl hC hD hW hA ls hl)
theorem MV_intro {X : Type} {l : Launch} {E : Ev} {y : MethodName} {cc : ByteArray} {mL : Nat} {fr lo mc ms : Nat} {av : List Value} {w : va_W} {post : X → Prop} {w' : X → va_W} (own : String) (hy : plainName y.cls = true) (ho : y.cls = own) (hle : (lg_sl av).length ≤ mL)
    (body : ∀ (p : Program) (e : Env) (R : Room) (s : State) (m : MethodId) (args : Array Value) (below : List Frame) (meth : Method) (c : Code) (A : Nat → Prop) (Q : State → Prop), Q = MQ below (va_Qv post (PostC E A w') A) args s mc ms A → Cx p R s m args meth c cc mL own none E { frames := fr, cells := mc, slots := ms, locals := lo } → (own = y.cls → meth.name = y.name) → Dj A (w.map (fun q => q.1)) → Wd E A s.heap w s.heap [] → (∀ q, s.heap.size ≤ q → A q) → ∀ ls : Array Slot, lv_has ls mL (lv_args 0 av) →
      W p l e R s m args below meth c s.heap [] 0 0 Q (F0 m 0 ls [])) : MV l E y cc mL fr lo mc ms av w post w' :=
  fun sz => body_intro hy ho hle (fun p e R s m args below meth c _ hsz hC hn hD hW hA ls hl => body p e R s m args below meth c (va_A w sz) _ rfl hC hn hD hW hA ls hl)
