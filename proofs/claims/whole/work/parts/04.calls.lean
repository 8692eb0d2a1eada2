theorem GL_good {ws : List Cond} (h : ∀ w ∈ ws, w ∈ GL) : GoodIn GL ws := fun w hw => ⟨h w hw, good_of_word (List.mem_filter.mp (h w hw)).2⟩
theorem PreC_blind {E : Ev} {av : List Value} {w : va_W} {sz : Nat} : FrameBlind (va_Pc av (PreC E w sz)) := fun a U g mk q => ⟨q.1, q.2.1, q.2.2.1, KK.calling g mk a q.2.2.2.1, q.2.2.2.2⟩
theorem wput_get : ∀ (is : List Nat) (cs ws : va_W), is.length = cs.length → ∀ (k : Nat) (q : Nat × va_E), (wput ws is cs)[k]? = some q → (∃ j : Nat, cs[j]? = some q) ∨ (k ∉ is ∧ ws[k]? = some q)
  | [], [], ws, _, k, q, h => Or.inr ⟨by simp, h⟩
  | [], _ :: _, _, hl, _, _, _ => by simp at hl
  | _ :: _, [], _, hl, _, _, _ => by simp at hl
  | i :: is, c :: cs, ws, hl, k, q, h => by
    have hl' : is.length = cs.length := by simpa using hl
    rcases wput_get is cs (ws.set i c) hl' k q h with ⟨j, hj⟩ | ⟨hn, hk⟩
    · exact Or.inl ⟨j + 1, by simpa using hj⟩
    · by_cases hki : k = i
      · subst hki
        rw [List.getElem?_set] at hk
        simp only [if_true] at hk
        split at hk
        · exact Or.inl ⟨0, by simpa using hk⟩
        · cases hk
      · refine Or.inr ⟨by simp [hki, hn], ?_⟩
        rw [List.getElem?_set] at hk
        rw [if_neg (fun e => hki e.symm)] at hk
        exact hk
theorem join_put {A0 : Nat → Prop} {D : va_G} {cl : List vw_C} {ws wc wn : va_W} {H H1 : Heap} (hP : va_P D cl ws H) (hD : va_D A0 ws) (is : List Nat) (hget : is.map (fun i => ws[i]?) = wc.map some) (hlen : is.length = wn.length) (hk : ∀ q : Nat, q < H.size → ¬ va_A wc H.size q → H1[q]? = H[q]?) (hP1 : va_P D cl wn H1) : va_P D cl (wput ws is wn) H1 := by
  intro k q hq
  rcases wput_get is wn ws hlen k q hq with ⟨j, hj⟩ | ⟨hn, hk'⟩
  · exact hP1 j q hj
  · have hlt := (hP k q hk').lt
    refine (hP k q hk').kept (hk q.1 hlt (fun h => ?_))
    rcases h with ⟨k2, e, h⟩ | h
    · have h1 : (wc.map some)[k2]? = some (some (q.1, e)) := by rw [List.getElem?_map, h]; rfl
      rw [← hget, List.getElem?_map] at h1
      cases hi : is[k2]? with
      | none => rw [hi] at h1; cases h1
      | some i =>
        rw [hi] at h1
        have h2 : ws[i]? = some (q.1, e) := Option.some.inj h1
        have := hD.1 k i q (q.1, e) hk' h2 rfl
        subst this
        exact hn (List.mem_of_getElem? hi)
    · omega
/-- a virtual call's words -/
def LkV (own : String) (idx : Nat) (C : String) (y : MethodName) (cc : ByteArray) (mL n : Nat) (ret : Option FieldType) : Prop := (∀ w ∈ wsV own idx C y [.code y cc mL ret], w ∈ GL) ∧ (y.cls = C ∧ y.cls ≠ "java/lang/invoke/MethodHandle" ∧ y.cls ≠ "java/lang/invoke/VarHandle" ∧ (parseMethodDescriptor y.desc).map (fun d => d.parameters.length) = some n)
/-- a static call's words -/
def LkS (own : String) (idx : Nat) (y : MethodName) (cc : ByteArray) (mL n : Nat) (ret : Option FieldType) : Prop := (∀ w ∈ va_wsS own idx y [.code y cc mL ret], w ∈ GL) ∧ (y.cls ≠ "java/lang/invoke/MethodHandle" ∧ y.cls ≠ "java/lang/invoke/VarHandle" ∧ (parseMethodDescriptor y.desc).map (fun d => d.parameters.length) = some n)
section CALLS
variable {p : Program} {l : Launch} {e : Env} {R : Room} {s : State} {m : MethodId} {args : Array Value} {below : List Frame} {meth : Method} {c : Code} {H : Heap} {locs : List Loc} {cells slots : Nat} {Q : State → Prop}
variable {cc cc' : ByteArray} {mL mL' n pc fr lo idx : Nat} {ls : Array Slot} {rest st As : List Value} {A : Nat → Prop} {b ci : Nat} {ws wc wt : va_W} {H0 : Heap} {E : Ev} {own C : String} {ret : Option FieldType} {ty : FieldType} {rm : Room} {as : List Nat} {y : MethodName} {X : Type} {w' : X → va_W} {fs : List Value} {T : u_T} {N : Nat}
theorem free_put (hD : Dj A as) (hW : Wd E A H0 ws H locs) (hA : ∀ q, H0.size ≤ q → A q) (has : ws.map (fun q => q.1) = as) (is : List Nat) (hget : is.map (fun i => ws[i]?) = wc.map some) : ∀ q, va_A wc H.size q → A q := va_free (hD.to has) hW.2 hA is hget
/-- what a virtual call comes to, whatever it answers -/
theorem r_runV {Qc : Array Value → State → Outcome → State → Prop} (hC : Cx p R s m args meth c cc mL own ret E rm) (hD : Dj A as) (hW : Wd E A H0 ws H locs) {ret' : Option FieldType} (lk : LkV own idx C y cc' mL' n ret')
    (hM : Met l y [.code y cc' mL' ret'] { frames := fr, cells := 0, slots := 0, locals := lo } (va_Pc (.ref b :: As) (PreC E ((b, .inr (ci, fs)) :: wt) H.size)) Qc 0 0 (va_A ((b, .inr (ci, fs)) :: wt) H.size)) (hci : vwCl[ci]? = some (C, T, N)) (hr : fr + 1 ≤ rm.frames ∧ 8 + (mL' + 11) + lo ≤ rm.locals ∧ cells ≤ rm.cells ∧ slots ≤ rm.slots)
    (is : List Nat) (hnd : va_nd is = true) (hget : is.map (fun i => ws[i]?) = (((b, .inr (ci, fs)) :: wt) : va_W).map some) (has : ws.map (fun q => q.1) = as) (hl : ls.size = mL) (hn : As.length = n) (hst : st = As.reverse ++ .ref b :: rest) (hrest : (rest.map fun v => v.category).sum ≤ 8) (hdg : decode cc pc = .ok (.invokevirtual idx, 3)) :
    va_Run p l e R s m args below meth c H locs cells slots 0 0 (F0 m pc ls st) rest (Qc (Value.ref b :: As).toArray) (va_A ((b, .inr (ci, fs)) :: wt) H.size) := by
  obtain ⟨hx, hb, hml, hown, -, -, hK, hRm⟩ := hC
  subst hRm
  have hts : ∀ w ∈ GL, w.before args s = true := fun w hw => hK.2.1 w hw args
  have hPc : va_P E.1 vwCl ((b, .inr (ci, fs)) :: wt) H := by
    refine hW.1.sub is ?_
    have h2 := congrArg (fun z => z.filterMap id) hget
    simpa [List.filterMap_map] using h2
  have hDc : va_D A ((b, .inr (ci, fs)) :: wt) := (hD.to has).sub is hnd hget
  exact va_runV (As := As) (rest := rest) ⟨hx, hb, hml, hown, hts⟩ hM (cwV n hts (GL_good lk.1) rfl rfl rfl lk.2 ⟨hr.1, hr.2.1⟩) ⟨PreC_blind, va_recv hK.1 hPc (q0 := 0) hci rfl, fun U hU hWm => ⟨rfl, by rw [hU], by rw [hU]; exact hPc, KK.moved hWm hK, hDc.weaken (fun _ _ _ _ => trivial)⟩⟩ rfl hn hl hst (lv_room hrest) hdg ⟨hr.2.2.1, hr.2.2.2⟩
theorem r_callVi {post : Int32 → X → Prop} (hC : Cx p R s m args meth c cc mL own ret E rm) (hD : Dj A as) (hW : Wd E A H0 ws H locs) (hA : ∀ q, H0.size ≤ q → A q) (lk : LkV own idx C y cc' mL' n (some ty)) (hM : MI l E y cc' mL' ty fr lo 0 0 (.ref b :: As) ((b, .inr (ci, fs)) :: wt) post w') (hci : vwCl[ci]? = some (C, T, N)) (hr : fr + 1 ≤ rm.frames ∧ 8 + (mL' + 11) + lo ≤ rm.locals ∧ cells ≤ rm.cells ∧ slots ≤ rm.slots)
    (is : List Nat) (hnd : va_nd is = true) (hget : is.map (fun i => ws[i]?) = (((b, .inr (ci, fs)) :: wt) : va_W).map some) (has : ws.map (fun q => q.1) = as) (hlen : ∀ u, is.length = (w' u).length) (hl : ls.size = mL) (hn : As.length = n) (hst : st = As.reverse ++ .ref b :: rest) (hrest : (rest.map fun v => v.category).sum ≤ 8) (hdg : decode cc pc = .ok (.invokevirtual idx, 3))
    (kk : ∀ (r : Int32) (u : X) (H1 : Heap) (locs1 : List Loc), post r u → Wd E A H0 (wput ws is (w' u)) H1 locs1 → W p l e R s m args below meth c H1 locs1 cells slots Q (F0 m (pc + 3) ls (.int r :: rest))) : W p l e R s m args below meth c H locs cells slots Q (F0 m pc ls st) := by
  have hF := free_put hD hW hA has is hget
  exact va_calli (r_runV hC hD hW lk (hM H.size) hci hr is hnd hget has hl hn hst hrest hdg) hW.2 (fun q _ h => hF q h) hF (fun r u t H1 locs1 ht _ hp hB _ hk hS => kk r u H1 locs1 hp ⟨join_put hW.1 (hD.to has) is hget (hlen u) hk (by rw [← ht]; exact hB.1), hS⟩)
theorem r_callVl {post : Int64 → X → Prop} (hC : Cx p R s m args meth c cc mL own ret E rm) (hD : Dj A as) (hW : Wd E A H0 ws H locs) (hA : ∀ q, H0.size ≤ q → A q) (lk : LkV own idx C y cc' mL' n (some ty)) (hM : ML l E y cc' mL' ty fr lo 0 0 (.ref b :: As) ((b, .inr (ci, fs)) :: wt) post w') (hci : vwCl[ci]? = some (C, T, N)) (hr : fr + 1 ≤ rm.frames ∧ 8 + (mL' + 11) + lo ≤ rm.locals ∧ cells ≤ rm.cells ∧ slots ≤ rm.slots)
    (is : List Nat) (hnd : va_nd is = true) (hget : is.map (fun i => ws[i]?) = (((b, .inr (ci, fs)) :: wt) : va_W).map some) (has : ws.map (fun q => q.1) = as) (hlen : ∀ u, is.length = (w' u).length) (hl : ls.size = mL) (hn : As.length = n) (hst : st = As.reverse ++ .ref b :: rest) (hrest : (rest.map fun v => v.category).sum ≤ 8) (hdg : decode cc pc = .ok (.invokevirtual idx, 3))
    (kk : ∀ (r : Int64) (u : X) (H1 : Heap) (locs1 : List Loc), post r u → Wd E A H0 (wput ws is (w' u)) H1 locs1 → W p l e R s m args below meth c H1 locs1 cells slots Q (F0 m (pc + 3) ls (.long r :: rest))) : W p l e R s m args below meth c H locs cells slots Q (F0 m pc ls st) := by
  have hF := free_put hD hW hA has is hget
  exact va_calll (r_runV hC hD hW lk (hM H.size) hci hr is hnd hget has hl hn hst hrest hdg) hW.2 (fun q _ h => hF q h) hF (fun r u t H1 locs1 ht _ hp hB _ hk hS => kk r u H1 locs1 hp ⟨join_put hW.1 (hD.to has) is hget (hlen u) hk (by rw [← ht]; exact hB.1), hS⟩)
theorem r_callVv {post : X → Prop} (hC : Cx p R s m args meth c cc mL own ret E rm) (hD : Dj A as) (hW : Wd E A H0 ws H locs) (hA : ∀ q, H0.size ≤ q → A q) (lk : LkV own idx C y cc' mL' n none) (hM : MV l E y cc' mL' fr lo 0 0 (.ref b :: As) ((b, .inr (ci, fs)) :: wt) post w') (hci : vwCl[ci]? = some (C, T, N)) (hr : fr + 1 ≤ rm.frames ∧ 8 + (mL' + 11) + lo ≤ rm.locals ∧ cells ≤ rm.cells ∧ slots ≤ rm.slots)
    (is : List Nat) (hnd : va_nd is = true) (hget : is.map (fun i => ws[i]?) = (((b, .inr (ci, fs)) :: wt) : va_W).map some) (has : ws.map (fun q => q.1) = as) (hlen : ∀ u, is.length = (w' u).length) (hl : ls.size = mL) (hn : As.length = n) (hst : st = As.reverse ++ .ref b :: rest) (hrest : (rest.map fun v => v.category).sum ≤ 8) (hdg : decode cc pc = .ok (.invokevirtual idx, 3))
    (kk : ∀ (u : X) (H1 : Heap) (locs1 : List Loc), post u → Wd E A H0 (wput ws is (w' u)) H1 locs1 → W p l e R s m args below meth c H1 locs1 cells slots Q (F0 m (pc + 3) ls rest)) : W p l e R s m args below meth c H locs cells slots Q (F0 m pc ls st) := by
  have hF := free_put hD hW hA has is hget
  exact va_callv (r_runV hC hD hW lk (hM H.size) hci hr is hnd hget has hl hn hst hrest hdg) hW.2 (fun q _ h => hF q h) hF (fun u t H1 locs1 ht _ hp hB _ hk hS => kk u H1 locs1 hp ⟨join_put hW.1 (hD.to has) is hget (hlen u) hk (by rw [← ht]; exact hB.1), hS⟩)
/-- a static call of a function: no cell is needed -/
theorem r_runS {Qc : Array Value → State → Outcome → State → Prop} (hC : Cx p R s m args meth c cc mL own ret E rm) {ret' : Option FieldType} (lk : LkS own idx y cc' mL' n ret')
    (hM : Met l y [.code y cc' mL' ret'] { frames := fr, cells := 0, slots := 0, locals := lo } (va_Pc As (PreC E [] H.size)) Qc 0 0 (va_A [] H.size)) (hr : fr + 1 ≤ rm.frames ∧ 8 + (mL' + 11) + lo ≤ rm.locals ∧ cells ≤ rm.cells ∧ slots ≤ rm.slots)
    (hl : ls.size = mL) (hn : As.length = n) (hst : st = As.reverse ++ rest) (hrest : (rest.map fun v => v.category).sum ≤ 8) (hdg : decode cc pc = .ok (.invokestatic idx, 3)) :
    va_Run p l e R s m args below meth c H locs cells slots 0 0 (F0 m pc ls st) rest (Qc As.toArray) (va_A [] H.size) := by
  obtain ⟨hx, hb, hml, hown, -, -, hK, hRm⟩ := hC
  subst hRm
  have hts : ∀ w ∈ GL, w.before args s = true := fun w hw => hK.2.1 w hw args
  exact va_runS (As := As) (rest := rest) ⟨hx, hb, hml, hown, hts⟩ hM (va_cwS n hts (GL_good lk.1) rfl rfl rfl lk.2 ⟨hr.1, hr.2.1⟩) ⟨PreC_blind, fun U hU hWm => ⟨rfl, by rw [hU], fun k q h => by simp at h, KK.moved hWm hK, ⟨fun i j p q h => by simp at h, fun k q h => by simp at h⟩⟩⟩ rfl hn hl hst (lv_room hrest) hdg ⟨hr.2.2.1, hr.2.2.2⟩
theorem r_keep {wk : va_W} (hW : Wd E A H0 ws H locs) (hWd : va_D A ws) {H1 : Heap} {locs1 : List Loc} (hk : ∀ q : Nat, q < H.size → ¬ va_A wk H.size q → H1[q]? = H[q]?) (hwk : wk = []) (hS : va_S A H0 H1 locs1) : Wd E A H0 ws H1 locs1 := by
  subst hwk
  refine ⟨hW.1.kept (fun k q hq => ?_), hS⟩
  have hlt := (hW.1 k q hq).lt
  exact hk q.1 hlt (fun h => by
    rcases h with ⟨k2, e, h⟩ | h
    · simp at h
    · omega)
theorem r_callSi {post : Int32 → X → Prop} (hC : Cx p R s m args meth c cc mL own ret E rm) (hD : Dj A as) (hW : Wd E A H0 ws H locs) (hA : ∀ q, H0.size ≤ q → A q) (lk : LkS own idx y cc' mL' n (some ty)) (hM : MI l E y cc' mL' ty fr lo 0 0 As [] post w') (hr : fr + 1 ≤ rm.frames ∧ 8 + (mL' + 11) + lo ≤ rm.locals ∧ cells ≤ rm.cells ∧ slots ≤ rm.slots)
    (has : ws.map (fun q => q.1) = as) (hl : ls.size = mL) (hn : As.length = n) (hst : st = As.reverse ++ rest) (hrest : (rest.map fun v => v.category).sum ≤ 8) (hdg : decode cc pc = .ok (.invokestatic idx, 3))
    (kk : ∀ (r : Int32) (u : X) (H1 : Heap) (locs1 : List Loc), post r u → Wd E A H0 ws H1 locs1 → W p l e R s m args below meth c H1 locs1 cells slots Q (F0 m (pc + 3) ls (.int r :: rest))) : W p l e R s m args below meth c H locs cells slots Q (F0 m pc ls st) := by
  have hF : ∀ q, va_A [] H.size q → A q := free_put (wc := []) hD hW hA has [] rfl
  exact va_calli (r_runS hC lk (hM H.size) hr hl hn hst hrest hdg) hW.2 (fun q _ h => hF q h) hF (fun r u t H1 locs1 ht _ hp hB _ hk hS => kk r u H1 locs1 hp (r_keep hW (hD.to has) hk rfl hS))
theorem r_callSl {post : Int64 → X → Prop} (hC : Cx p R s m args meth c cc mL own ret E rm) (hD : Dj A as) (hW : Wd E A H0 ws H locs) (hA : ∀ q, H0.size ≤ q → A q) (lk : LkS own idx y cc' mL' n (some ty)) (hM : ML l E y cc' mL' ty fr lo 0 0 As [] post w') (hr : fr + 1 ≤ rm.frames ∧ 8 + (mL' + 11) + lo ≤ rm.locals ∧ cells ≤ rm.cells ∧ slots ≤ rm.slots)
    (has : ws.map (fun q => q.1) = as) (hl : ls.size = mL) (hn : As.length = n) (hst : st = As.reverse ++ rest) (hrest : (rest.map fun v => v.category).sum ≤ 8) (hdg : decode cc pc = .ok (.invokestatic idx, 3))
    (kk : ∀ (r : Int64) (u : X) (H1 : Heap) (locs1 : List Loc), post r u → Wd E A H0 ws H1 locs1 → W p l e R s m args below meth c H1 locs1 cells slots Q (F0 m (pc + 3) ls (.long r :: rest))) : W p l e R s m args below meth c H locs cells slots Q (F0 m pc ls st) := by
  have hF : ∀ q, va_A [] H.size q → A q := free_put (wc := []) hD hW hA has [] rfl
  exact va_calll (r_runS hC lk (hM H.size) hr hl hn hst hrest hdg) hW.2 (fun q _ h => hF q h) hF (fun r u t H1 locs1 ht _ hp hB _ hk hS => kk r u H1 locs1 hp (r_keep hW (hD.to has) hk rfl hS))
/-- the private isWithin of the class around, called from a class inside -/
theorem r_callNi {host : String} {post : Int32 → X → Prop} (hC : Cx p R s m args meth c cc mL own ret E rm) (hD : Dj A as) (hW : Wd E A H0 ws H locs) (hA : ∀ q, H0.size ≤ q → A q) (hnw : va_Nw (.methodLinkNest own idx y host) s) (lk : (∀ w ∈ ([.static y, .initialized y.cls, .code y cc' mL' (some ty)] : List Cond), w ∈ GL) ∧ (y.cls ≠ "java/lang/invoke/MethodHandle" ∧ y.cls ≠ "java/lang/invoke/VarHandle" ∧ (parseMethodDescriptor y.desc).map (fun d => d.parameters.length) = some n)) (hM : MI l E y cc' mL' ty fr lo 0 0 As [] post w') (hr : fr + 1 ≤ rm.frames ∧ 8 + (mL' + 11) + lo ≤ rm.locals ∧ cells ≤ rm.cells ∧ slots ≤ rm.slots)
    (has : ws.map (fun q => q.1) = as) (hl : ls.size = mL) (hn : As.length = n) (hst : st = As.reverse ++ rest) (hrest : (rest.map fun v => v.category).sum ≤ 8) (hdg : decode cc pc = .ok (.invokestatic idx, 3))
    (kk : ∀ (r : Int32) (u : X) (H1 : Heap) (locs1 : List Loc), post r u → Wd E A H0 ws H1 locs1 → W p l e R s m args below meth c H1 locs1 cells slots Q (F0 m (pc + 3) ls (.int r :: rest))) : W p l e R s m args below meth c H locs cells slots Q (F0 m pc ls st) := by
  have hF : ∀ q, va_A [] H.size q → A q := free_put (wc := []) hD hW hA has [] rfl
  obtain ⟨hx, hb, hml, hown, -, -, hK, hRm⟩ := hC
  subst hRm
  have hts : ∀ w ∈ GL, w.before args s = true := fun w hw => hK.2.1 w hw args
  refine va_calli (va_runSN (As := As) (rest := rest) ⟨hx, hb, hml, hown, hts⟩ (hM H.size) ⟨va_cnB n hts (GL_good (fun w hw => lk.1 w (List.mem_cons_of_mem _ (List.mem_cons_of_mem _ hw)))) rfl rfl rfl hnw (hts _ (lk.1 _ (by simp))) lk.2 ⟨hr.1, hr.2.1⟩, hts _ (lk.1 _ (by simp)), trivial⟩ ⟨PreC_blind, fun U hU hWm => ⟨rfl, by rw [hU], fun k q h => by simp at h, KK.moved hWm hK, ⟨fun i j p q h => by simp at h, fun k q h => by simp at h⟩⟩⟩ rfl hn hl hst (lv_room hrest) hdg ⟨hr.2.2.1, hr.2.2.2⟩) hW.2 (fun q _ h => hF q h) hF (fun r u t H1 locs1 ht _ hp hB _ hk hS => kk r u H1 locs1 hp (r_keep hW (hD.to has) hk rfl hS))
end CALLS
