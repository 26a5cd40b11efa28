/-! ends, calls, throws -/
section JE
variable {p : Program} {l : Launch} {e : Env} {R : Room} {s : State} {m : MethodId} {args : Array Value} {below : List Frame} {meth : Method} {c : Code} {G : jG} {cc : ByteArray} {nL : Nat} {own : String} {ret : Option FieldType}
variable {mc ms pc kc ks : Nat} {out : jO} {lv : List (Option Value)} {st : List Value} {M : jMem}
theorem jX0.ret' (C : jX0 p l R s m args meth c G cc nL own ret) : meth.sig.returnType = ret := C.2.2.2.2.2.1
theorem jX0.locks (C : jX0 p l R s m args meth c G cc nL own ret) : meth.locks = false := C.2.2.2.2.2.2.1
theorem jX0.k (C : jX0 p l R s m args meth c G cc nL own ret) : jK G s := C.2.2.2.2.2.2.2.1
theorem jX0.S (C : jX0 p l R s m args meth c G cc nL own ret) : jS G s s.heap := C.2.2.2.2.2.2.2.2.1
theorem jX0.b (C : jX0 p l R s m args meth c G cc nL own ret) : G.1 ≤ s.heap.size := C.2.2.2.2.2.2.2.2.2
theorem jX0.w (C : jX0 p l R s m args meth c G cc nL own ret) {w : Cond} (h : w ∈ jB) : w.before args s = true := C.2.2.2.2.1 w h
theorem J_iret (C : jX0 p l R s m args meth c G cc nL own ret) {v : Int32} (hd : decode cc pc = .ok (.ireturn, 1)) (hr : ret = some .int) (ho : out = .inl (some (.int v), M)) (hc : kc ≤ mc) (hs : ks ≤ ms) : J p l e R s m args below meth c G nL mc ms out pc lv [.int v] M kc ks := by
  intro H locs ls hM hS hl
  refine W.widen hc hs (vx_ret ?_)
  refine W.iret C.1 C.2.1 (C.ret'.trans hr) (fun t ht hW => ?_) hS.2.2 hd C.locks
  rw [ho]
  exact ⟨rfl, by rw [ht]; exact hM, hS.F ht⟩
theorem J_zret (C : jX0 p l R s m args meth c G cc nL own ret) {v : Int32} {ty : FieldType} (hd : decode cc pc = .ok (.ireturn, 1)) (hr : ret = some ty) (hn : narrow ty (.int v) = .int v) (ho : out = .inl (some (.int v), M)) (hc : kc ≤ mc) (hs : ks ≤ ms) : J p l e R s m args below meth c G nL mc ms out pc lv [.int v] M kc ks := by
  intro H locs ls hM hS hl
  refine W.widen hc hs (vx_ret ?_)
  refine W.zret C.1 C.2.1 (C.ret'.trans hr) hn (fun t ht hW => ?_) hS.2.2 hd C.locks
  rw [ho]
  exact ⟨rfl, by rw [ht]; exact hM, hS.F ht⟩
theorem J_lret (C : jX0 p l R s m args meth c G cc nL own ret) {v : Int64} (hd : decode cc pc = .ok (.lreturn, 1)) (hr : ret = some .long) (ho : out = .inl (some (.long v), M)) (hc : kc ≤ mc) (hs : ks ≤ ms) : J p l e R s m args below meth c G nL mc ms out pc lv [.long v] M kc ks := by
  intro H locs ls hM hS hl
  refine W.widen hc hs (vx_ret ?_)
  refine W.lret C.1 C.2.1 (C.ret'.trans hr) (fun t ht hW => ?_) hS.2.2 hd C.locks
  rw [ho]
  exact ⟨rfl, by rw [ht]; exact hM, hS.F ht⟩
theorem J_vret (C : jX0 p l R s m args meth c G cc nL own ret) (hd : decode cc pc = .ok (.return_, 1)) (hr : ret = none) (ho : out = .inl (none, M)) (hc : kc ≤ mc) (hs : ks ≤ ms) : J p l e R s m args below meth c G nL mc ms out pc lv [] M kc ks := by
  intro H locs ls hM hS hl
  refine W.widen hc hs (vx_ret ?_)
  refine W.vret C.1 C.2.1 (C.ret'.trans hr) (fun t ht hW => ?_) hS.2.2 hd C.locks
  rw [ho]
  exact ⟨rfl, by rw [ht]; exact hM, hS.F ht⟩
/-- behind a call that returned -/
theorem jrun_ret {H : Heap} {locs : List Loc} {ls : Array Slot} {c1 s1 : Nat} {v : Option Value} {M' : jMem} {a : Array Value} {st0 rest : List Value} (hr : vx_Run p l e R s m args below meth c H locs kc ks c1 s1 (F0 m pc ls st0) (rest.map (jv G)) (jQ G (.inl (v, M')) a) (jX G (.inl (v, M'))) (jA G)) (hS : va_S (jA G) s.heap H locs) (hl : jL G ls nL lv) (k : J p l e R s m args below meth c G nL mc ms out (pc + 3) lv (v.toList ++ rest) M' (kc + c1) (ks + s1)) :
    W p l e R s m args below meth c H locs kc ks (vx_MQ below (jQ G out) (jX G out) args s mc ms (jA G)) (F0 m pc ls st0) := by
  intro T hT X
  rcases hr T hT X with ⟨w, st₀, t, T', L, h0, X', hL, e1, e2, ⟨hw, hM', hF⟩, stp⟩ | ⟨q, st₀, t, T', L, E, ce, h0, X', hL, e1, e2, hx, -⟩
  · have hw : w = v.map (jv G) := Outcome.returned.inj hw
    obtain ⟨-, -, k3⟩ := vx_keep h0 e1 hS (fun _ _ h => h) (fun _ h => h) hL hF
    obtain ⟨t2, a1, b1⟩ := k T'.heap (locs ++ L) ls (by rw [e1]; exact hM') k3 hl T' rfl X'
    refine ⟨t2, stp t2 ?_, b1⟩
    subst hw
    cases v <;> exact a1
  · exact hx.elim
/-- behind a call that threw, where this method has no table -/
theorem jrun_thr {H : Heap} {locs : List Loc} {ls : Array Slot} {c1 s1 : Nat} {E' : String} {M' : jMem} {a : Array Value} {st0 rest : List Value} (hr : vx_Run p l e R s m args below meth c H locs kc ks c1 s1 (F0 m pc ls st0) rest (jQ G (.inr (E', M')) a) (jX G (.inr (E', M'))) (jA G)) (hS : va_S (jA G) s.heap H locs) (hT : ∀ x ∈ c.exceptionTable.toList, False) (hlk : meth.locks = false) (ho : out = .inr (E', M')) (hc : kc + c1 ≤ mc) (hs : ks + s1 ≤ ms) :
    W p l e R s m args below meth c H locs kc ks (vx_MQ below (jQ G out) (jX G out) args s mc ms (jA G)) (F0 m pc ls st0) := by
  intro T hT' X
  rcases hr T hT' X with ⟨w, st₀, t, T', L, h0, X', hL, e1, e2, hq, stp⟩ | ⟨q, st₀, t, T', L, E, ce, h0, X', hL, e1, e2, ⟨hE, hM', hF⟩, hce, hcv, hcl, stp⟩
  · exact hq.elim
  · obtain ⟨-, -, k3⟩ := vx_keep h0 e1 hS (fun _ _ h => h) (fun _ h => h) hL hF
    obtain ⟨t2, a1, b1⟩ := vx_out (pc := pc) (ls := ls) (rest := rest) (E := E) (ce := ce) (q := q) (Qc := jQ G out) (XC := jX G out) (free := jA G) (mc := mc) (ms := ms) (below := below) (args := args) (locs := locs ++ L) (cells := kc + c1) (slots := ks + s1) (p := p) (l := l) (e := e) (R := R) (s := s) (H := T'.heap) (fun x hx => (hT x hx).elim) hlk (by rw [e1]; exact hce) hcv hcl (fun t9 ht9 _ => by rw [ho]; exact ⟨hE, by rw [ht9, e1]; exact hM', k3.F ht9⟩) k3.2.2 hc hs T' rfl X'
    exact ⟨t2, stp.trans a1, b1⟩
theorem jcB {y : MethodName} {bytes : ByteArray} {maxL n idx fr lo c1 s1 : Nat} {ret' : Option FieldType} (C : jX0 p l R s m args meth c G cc nL own ret) (hm : jMc y bytes maxL ret' n) (hl : Cond.methodLink own idx y ∈ jB) (hR : fr + 1 ≤ R.frames ∧ 8 + (maxL + 11) + lo ≤ R.locals) : CallB R s args own idx y bytes maxL ret' (jws y bytes maxL ret') (jR fr lo c1 s1) c1 s1 n := by
  refine callB_of n C.2.2.2.2.1 (jB_GoodIn (fun w hw => ?_)) rfl rfl rfl (C.w hm.2.1) (C.w hl) hm.2.2 hR
  rcases List.mem_cons.mp hw with h | h
  · rw [h]; exact hm.1
  · exact h
theorem jpre {H : Heap} {locs : List Loc} {As : List Value} (C : jX0 p l R s m args meth c G cc nL own ret) (hM : jW G M H) (hS : va_S (jA G) s.heap H locs) : PreS s H (va_Pc (As.map (jv G)) (fun U => jH G M U)) (As.map (jv G)) := by
  refine ⟨jH.blind, fun U hU hW => ⟨rfl, by rw [hU]; exact hM, va_K.moved hW.alike C.k, ?_, ?_⟩⟩
  · rw [hU]; exact jS.warm hW (C.S.kept hS.2.1)
  · rw [hU]; exact Nat.le_trans C.b hS.1
theorem jcat (st : List Value) : ((st.map (jv G)).map fun v => v.category).sum = (st.map fun v => v.category).sum := by
  rw [List.map_map]
  congr 1
  apply List.map_congr_left
  intro a _
  exact jv_cat a
theorem jstk {As st : List Value} {k : Nat} : (As.reverse ++ .ref k :: st).map (jv G) = (As.map (jv G)).reverse ++ .ref (jr G k) :: st.map (jv G) := by
  simp [List.map_append, List.map_reverse, jv]
/-- invokevirtual on an object of ours -/
theorem jrunV {H : Heap} {locs : List Loc} {ls : Array Slot} {y : MethodName} {bytes : ByteArray} {maxL n idx fr lo c1 s1 k ci : Nat} {ret' : Option FieldType} {As fs stk : List Value} {out' : jO} {q : vw_C} (C : jX0 p l R s m args meth c G cc nL own ret) (hd : decode cc pc = .ok (.invokevirtual idx, 3)) (hm : jMv own idx y bytes maxL ret' n) (K : jC l G y bytes maxL ret' fr lo c1 s1 (.ref k :: As) M out') (hR : fr + 1 ≤ R.frames ∧ 8 + (maxL + 11) + lo ≤ R.locals) (hk : M.1 k = some (.inr (ci, fs))) (hci : vwCl[ci]? = some q) (hq : q.1 = y.cls) (hn : As.length = n) (hst : stk = As.reverse ++ .ref k :: st) (h8 : (st.map fun v => v.category).sum ≤ 8) (hf : kc + c1 ≤ R.cells ∧ ks + s1 ≤ R.slots) (hM : jW G M H) (hS : va_S (jA G) s.heap H locs) (hl : jL G ls nL lv) :
    vx_Run p l e R s m args below meth c H locs kc ks c1 s1 (F0 m pc ls (stk.map (jv G))) (st.map (jv G)) (jQ G out' (Value.ref (jr G k) :: As.map (jv G)).toArray) (jX G out') (jA G) := by
  have hp := jpre (As := .ref k :: As) C hM hS
  have hrec : ∃ cellB : Cell, H[jr G k]? = some cellB ∧ cellB.vm.isStatics = false ∧ s.vm.findClass y.cls = some cellB.cls := by
    obtain ⟨cell, h1, h2, h3⟩ := va_recv C.k (jP1 hM hk) hci (q0 := 0) (a := jr G k) (fs := fs.map (jv G)) rfl
    exact ⟨cell, h1, h2, by rw [← hq]; exact h3⟩
  refine vx_runV (As := As.map (jv G)) (rest := st.map (jv G)) (C := y.cls) (n := n) (Ts := jB) (own := own) (nL := nL) (cc := cc) (ret := ret') (maxL := maxL) (bytes := bytes) (index := idx) ⟨C.1, C.2.1, C.2.2.1, C.2.2.2.1, C.2.2.2.2.1⟩ K ⟨jcB C hm.1 hm.2.1 hR, C.w hm.2.2.1, C.w hm.2.2.2⟩ ⟨hp.1, hrec, hp.2⟩ rfl (by rw [List.length_map]; exact hn) hl.1 ?_ ?_ hd hf
  · rw [hst]; exact jstk
  · exact lv_room (by rw [jcat]; exact h8)
theorem J_callV {y : MethodName} {bytes : ByteArray} {maxL n idx fr lo c1 s1 k ci : Nat} {ret' : Option FieldType} {As fs stk : List Value} {v : Option Value} {M' : jMem} {q : vw_C} (C : jX0 p l R s m args meth c G cc nL own ret) (hd : decode cc pc = .ok (.invokevirtual idx, 3)) (hm : jMv own idx y bytes maxL ret' n) (K : jC l G y bytes maxL ret' fr lo c1 s1 (.ref k :: As) M (.inl (v, M'))) (hR : fr + 1 ≤ R.frames ∧ 8 + (maxL + 11) + lo ≤ R.locals) (hk : M.1 k = some (.inr (ci, fs))) (hci : vwCl[ci]? = some q) (hq : q.1 = y.cls) (hn : As.length = n) (hst : stk = As.reverse ++ .ref k :: st) (h8 : (st.map fun v => v.category).sum ≤ 8) (hf : kc + c1 ≤ R.cells ∧ ks + s1 ≤ R.slots)
    (k' : J p l e R s m args below meth c G nL mc ms out (pc + 3) lv (v.toList ++ st) M' (kc + c1) (ks + s1)) : J p l e R s m args below meth c G nL mc ms out pc lv stk M kc ks := fun H locs ls hM hS hl =>
  jrun_ret (jrunV C hd hm K hR hk hci hq hn hst h8 hf hM hS hl) hS hl k'
theorem J_callVx {y : MethodName} {bytes : ByteArray} {maxL n idx fr lo c1 s1 k ci : Nat} {ret' : Option FieldType} {As fs stk : List Value} {E : String} {M' : jMem} {q : vw_C} (C : jX0 p l R s m args meth c G cc nL own ret) (hT : ∀ x ∈ c.exceptionTable.toList, False) (hd : decode cc pc = .ok (.invokevirtual idx, 3)) (hm : jMv own idx y bytes maxL ret' n) (K : jC l G y bytes maxL ret' fr lo c1 s1 (.ref k :: As) M (.inr (E, M'))) (hR : fr + 1 ≤ R.frames ∧ 8 + (maxL + 11) + lo ≤ R.locals) (hk : M.1 k = some (.inr (ci, fs))) (hci : vwCl[ci]? = some q) (hq : q.1 = y.cls) (hn : As.length = n) (hst : stk = As.reverse ++ .ref k :: st) (h8 : (st.map fun v => v.category).sum ≤ 8) (hf : kc + c1 ≤ R.cells ∧ ks + s1 ≤ R.slots) (ho : out = .inr (E, M')) (hc : kc + c1 ≤ mc) (hs : ks + s1 ≤ ms) : J p l e R s m args below meth c G nL mc ms out pc lv stk M kc ks := fun H locs ls hM hS hl =>
  jrun_thr (jrunV C hd hm K hR hk hci hq hn hst h8 hf hM hS hl) hS hT C.locks ho hc hs
/-- invokestatic -/
theorem J_callS {y : MethodName} {bytes : ByteArray} {maxL n idx fr lo c1 s1 : Nat} {ret' : Option FieldType} {As stk : List Value} {v : Option Value} {M' : jMem} (C : jX0 p l R s m args meth c G cc nL own ret) (hd : decode cc pc = .ok (.invokestatic idx, 3)) (hm : jMs own idx y bytes maxL ret' n) (K : jC l G y bytes maxL ret' fr lo c1 s1 As M (.inl (v, M'))) (hR : fr + 1 ≤ R.frames ∧ 8 + (maxL + 11) + lo ≤ R.locals) (hn : As.length = n) (hst : stk = As.reverse ++ st) (h8 : (st.map fun v => v.category).sum ≤ 8) (hf : kc + c1 ≤ R.cells ∧ ks + s1 ≤ R.slots)
    (k' : J p l e R s m args below meth c G nL mc ms out (pc + 3) lv (v.toList ++ st) M' (kc + c1) (ks + s1)) : J p l e R s m args below meth c G nL mc ms out pc lv stk M kc ks := by
  intro H locs ls hM hS hl
  have hp := jpre (As := As) C hM hS
  refine jrun_ret (rest := st) (a := (As.map (jv G)).toArray) (vx_runS (As := As.map (jv G)) (rest := st.map (jv G)) (n := n) (Ts := jB) (own := own) (nL := nL) (cc := cc) (ret := ret') (maxL := maxL) (bytes := bytes) (index := idx) ⟨C.1, C.2.1, C.2.2.1, C.2.2.2.1, C.2.2.2.2.1⟩ K ⟨jcB C hm.1 hm.2.1 hR, C.w hm.2.2⟩ hp rfl (by rw [List.length_map]; exact hn) hl.1 ?_ ?_ hd hf) hS hl k'
  · rw [hst]; show (As.reverse ++ st).map (jv G) = _; rw [List.map_append, List.map_reverse]
  · exact lv_room (by rw [jcat]; exact h8)
/-- a contract that can't throw, as the kit's Met -/
theorem jC.met {y : MethodName} {bytes : ByteArray} {maxL fr lo c1 s1 : Nat} {ret' : Option FieldType} {As : List Value} {v : Option Value} {M' : jMem} (K : jC l G y bytes maxL ret' fr lo c1 s1 As M (.inl (v, M'))) : Met l y (jws y bytes maxL ret') (jR fr lo c1 s1) (va_Pc (As.map (jv G)) (fun U => jH G M U)) (jQ G (.inl (v, M'))) c1 s1 (jA G) := by
  intro p' e' ha hc hk s' m' args' below' hf happ hP hK
  obtain ⟨k, o, h1, h2, h3, h4⟩ := K p' e' ha hc hk s' m' args' below' hf happ hP hK
  refine ⟨k, o, h1, h2, h3, ?_⟩
  rcases h4 with h | ⟨q, -, E, ce, L, hx, -⟩
  · exact h
  · exact hx.elim
theorem jrun_of {H : Heap} {locs : List Loc} {c1 s1 : Nat} {g : JFrame} {rest : List Value} {Qa : State → Outcome → State → Prop} {XC : String → State → State → Prop} (h : va_Run p l e R s m args below meth c H locs kc ks c1 s1 g rest Qa (jA G)) : vx_Run p l e R s m args below meth c H locs kc ks c1 s1 g rest Qa XC (jA G) := fun T hT X => Or.inl (h T hT X)
/-- a private static method of a nest mate -/
theorem J_callSN {y : MethodName} {bytes : ByteArray} {maxL n idx fr lo : Nat} {host : String} {ret' : Option FieldType} {As stk : List Value} {v : Option Value} {M' : jMem} (C : jX0 p l R s m args meth c G cc nL own ret) (hd : decode cc pc = .ok (.invokestatic idx, 3)) (hm : jMc y bytes maxL ret' n) (hl9 : Cond.methodLinkNest own idx y host ∈ jN) (hs9 : Cond.static y ∈ jB) (K : jC l G y bytes maxL ret' fr lo 0 0 As M (.inl (v, M'))) (hR : fr + 1 ≤ R.frames ∧ 8 + (maxL + 11) + lo ≤ R.locals) (hn : As.length = n) (hst : stk = As.reverse ++ st) (h8 : (st.map fun v => v.category).sum ≤ 8) (hf : kc ≤ R.cells ∧ ks ≤ R.slots)
    (k' : J p l e R s m args below meth c G nL mc ms out (pc + 3) lv (v.toList ++ st) M' kc ks) : J p l e R s m args below meth c G nL mc ms out pc lv stk M kc ks := by
  intro H locs ls hM hS hl
  have hp := jpre (As := As) C hM hS
  refine jrun_ret (c1 := 0) (s1 := 0) (rest := st) (a := (As.map (jv G)).toArray) (jrun_of (va_runSN (As := As.map (jv G)) (rest := st.map (jv G)) (n := n) (Ts := jB) (own := own) (nL := nL) (cc := cc) (ret := ret') (maxL := maxL) (bytes := bytes) (index := idx) (host := host) ⟨C.1, C.2.1, C.2.2.1, C.2.2.2.1, C.2.2.2.2.1⟩ K.met ⟨va_cnB n C.2.2.2.2.1 (jB_GoodIn (fun w hw => ?_)) rfl rfl rfl (C.S.2.2.1 _ hl9) (C.w hm.2.1) hm.2.2 hR, C.w hs9, trivial⟩ hp rfl (by rw [List.length_map]; exact hn) hl.1 ?_ ?_ hd hf)) hS hl k'
  · rcases List.mem_cons.mp hw with h | h
    · rw [h]; exact hm.1
    · exact h
  · rw [hst]; show (As.reverse ++ st).map (jv G) = _; rw [List.map_append, List.map_reverse]
  · exact lv_room (by rw [jcat]; exact h8)
/-- throw new E("text") -/
theorem J_throw {ik is ic : Nat} {cls text : String} {names : List String} {i : Nat} {tx : List Nat} (C : jX0 p l R s m args meth c G cc nL own ret) (hst : l.stackTraces = false) (hT : ∀ x ∈ c.exceptionTable.toList, False) (hcls : Bundle.fit cls = true) (hnames : ∀ n ∈ names, Bundle.fit n = true) (hk : Cond.classLink own ik cls ∈ jB) (hini : Cond.initialized cls ∈ jB) (hstr : jStr[i]? = some (own, is, text, tx)) (hat : ∀ w ∈ vx_atS own ic cls names, w ∈ lw_tbl ∧ (goodWord w || jNk w) = true) (hgood : ∀ w ∈ Cond.classLink own ik cls :: Cond.initialized cls :: vx_atS own ic cls names, vx_ot w = true)
    (d0 : decode cc pc = .ok (.new ik, 3)) (d3 : decode cc (pc + 3) = .ok (.dup, 1)) (d4 : decode cc (pc + 4) = .ok (.ldc is, 2)) (d6 : decode cc (pc + 6) = .ok (.invokespecial ic, 3)) (d9 : decode cc (pc + 9) = .ok (.athrow, 1))
    (hR : names.length + 3 < R.frames ∧ (st.map fun v => v.category).sum + (13 * (names.length + 1) + 43) ≤ R.locals ∧ kc + 1 ≤ R.cells ∧ ks + 6 ≤ R.slots) (hn : M.2 = none) (ho : out = .inr (cls, M)) (hc : kc + 1 ≤ mc) (hs : ks + 6 ≤ ms) : J p l e R s m args below meth c G nL mc ms out pc lv st M kc ks := by
  intro H locs ls hM hS hl
  have hS1 := (C.S.2.2.2.2.2.2.2 i _ hstr).1
  have hw0 : ∀ w ∈ vx_atS own ic cls names, w.before args s = true := by
    intro w hw
    obtain ⟨h1, h2⟩ := hat w hw
    rw [Bool.or_eq_true] at h2
    rcases h2 with h2 | h2
    · exact C.w (jB_in h1 h2)
    · exact va_Nw.use (jN_tab h2) (C.S.2.2.1 w (List.mem_filter.mpr ⟨h1, h2⟩))
  refine vx_throwS C.1 C.2.1 hst C.2.2.2.1 hcls hnames (C.w hk) (C.w hini) hS1 hw0 hgood C.S.1 C.S.2.1 hS (hl.1.trans C.2.2.1.symm) d0 d3 d4 d6 d9 (fun x hx => (hT x hx).elim) hR.1 (by rw [jcat]; exact hR.2.1) hR.2.2.1 hR.2.2.2 C.locks (fun t _ hz hq => ?_) hS.2.2 hc hs
  rw [ho]
  exact ⟨rfl, hM.keep hn hq, Nat.le_trans hS.1 hz, fun q h1 h2 => (hq q (Nat.lt_of_lt_of_le h1 hS.1)).trans (hS.2.1 q h1 h2)⟩
/-- the locals with which a method begins -/
def jargs : List Value → List (Option Value)
  | [] => []
  | v :: r => if v.category = 2 then some v :: none :: jargs r else some v :: jargs r
theorem jasc_args : ∀ (As : List Value) (n k : Nat), jasc G n (jargs As ++ List.replicate k none) = lv_args n (As.map (jv G)) := by
  intro As
  induction As with
  | nil =>
    intro n k
    induction k generalizing n with
    | zero => rfl
    | succ k ih => exact ih (n + 1)
  | cons v r ih =>
    intro n k
    show jasc G n ((if v.category = 2 then some v :: none :: jargs r else some v :: jargs r) ++ List.replicate k none) = (n, jv G v) :: lv_args (if (jv G v).category = 2 then n + 2 else n + 1) (r.map (jv G))
    rw [jv_cat]
    by_cases h : v.category = 2
    · rw [if_pos h, if_pos h]
      exact congrArg _ (ih (n + 2) k)
    · rw [if_neg h, if_neg h]
      exact congrArg _ (ih (n + 1) k)
/-- A CONTRACT OUT OF A BODY -/
theorem jC.of {y : MethodName} {maxL fr lo : Nat} {As : List Value} (hy : plainName y.cls = true) (k9 : Nat) (hk : (lg_sl (As.map (jv G))).length + k9 = maxL) (lv0 : List (Option Value)) (hlv : lv0 = jargs As ++ List.replicate k9 none)
    (body : ∀ (p : Program) (e : Env) (s : State) (m : MethodId) (args : Array Value) (below : List Frame) (meth : Method) (c : Code), jX0 p l (jR fr lo mc ms) s m args meth c G cc maxL y.cls ret → (∀ x ∈ c.exceptionTable.toList, False) → meth.name = y.name → J p l e (jR fr lo mc ms) s m args below meth c G maxL mc ms out 0 lv0 [] M 0 0) :
    jC l G y cc maxL ret fr lo mc ms As M out := by
  refine vx_ofW (cc := cc) (maxL := maxL) (ret := ret) hy rfl ?_
  intro p e s m args below meth c s₁ B hml hT hP
  obtain ⟨hargs, hW, hK, hS, hb⟩ := hP
  have hts : ∀ w ∈ jws y cc maxL ret, w.before args s = true := atoms_spec (ws := jws y cc maxL ret) B.pre
  have hown : s.vm.findClass y.cls = some m.cls := findClass_of_methodNamed B.named
  subst hargs
  rw [lg_entry_eq]
  have hl := lv_entry (As.map (jv G)) (n := maxL) (by omega)
  refine body p e s m _ below meth c ⟨B.exec, B.bytes, hml, hown, fun w hw => hts w (List.mem_cons_of_mem _ hw), B.returns, B.notSynchronized, hK, hS, hb⟩ hT ?_ s.heap [] _ hW va_S.rf ?_
  · exact (name_of_methodNamed B.named B.method).1
  · rw [hlv]
    show lv_has _ _ (jasc G 0 (jargs As ++ List.replicate k9 none))
    rw [jasc_args]
    exact hl
end JE
