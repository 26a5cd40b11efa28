theorem hc_feed : Cond.codeWith yL_feed cL_feed 8 (some .int) [(0, 16, 19, 13)] ∈ jB := jB_in (List.mem_of_getElem? (i := 433) (by decide +kernel)) (by decide +kernel)
theorem hs_feed : Cond.static yL_feed ∈ jB := jB_in (List.mem_of_getElem? (i := 432) (by decide +kernel)) (by decide +kernel)
theorem hl_feed : Cond.methodLink RL 54 yL_feed ∈ jB := jB_in (List.mem_of_getElem? (i := 431) (by decide +kernel)) (by decide +kernel)
theorem hc_describe : Cond.codeWith yL_describe cL_describe 4 (some .int) [(0, 9, 12, 13), (0, 9, 15, 19)] ∈ jB := jB_in (List.mem_of_getElem? (i := 513) (by decide +kernel)) (by decide +kernel)
theorem hs_describe : Cond.static yL_describe ∈ jB := jB_in (List.mem_of_getElem? (i := 512) (by decide +kernel)) (by decide +kernel)
theorem hl_describe : Cond.methodLink RL 64 yL_describe ∈ jB := jB_in (List.mem_of_getElem? (i := 511) (by decide +kernel)) (by decide +kernel)
theorem hc_assemble : Cond.codeWith yL_assemble cL_assemble 4 (some .int) [(0, 9, 12, 13), (0, 9, 15, 24), (0, 9, 18, 19)] ∈ jB := jB_in (List.mem_of_getElem? (i := 779) (by decide +kernel)) (by decide +kernel)
theorem hs_assemble : Cond.static yL_assemble ∈ jB := jB_in (List.mem_of_getElem? (i := 778) (by decide +kernel)) (by decide +kernel)
theorem hl_assemble : Cond.methodLink RL 68 yL_assemble ∈ jB := jB_in (List.mem_of_getElem? (i := 777) (by decide +kernel)) (by decide +kernel)
theorem hc_word : Cond.codeWith yL_word cL_word 4 (some .int) [(0, 9, 12, 13)] ∈ jB := jB_in (List.mem_of_getElem? (i := 889) (by decide +kernel)) (by decide +kernel)
theorem hs_word : Cond.static yL_word ∈ jB := jB_in (List.mem_of_getElem? (i := 888) (by decide +kernel)) (by decide +kernel)
theorem hl_word : Cond.methodLink RL 75 yL_word ∈ jB := jB_in (List.mem_of_getElem? (i := 887) (by decide +kernel)) (by decide +kernel)
theorem hc_op : Cond.codeWith yL_op cL_op 4 (some .int) [(0, 9, 12, 24)] ∈ jB := jB_in (List.mem_of_getElem? (i := 897) (by decide +kernel)) (by decide +kernel)
theorem hs_op : Cond.static yL_op ∈ jB := jB_in (List.mem_of_getElem? (i := 896) (by decide +kernel)) (by decide +kernel)
theorem hl_op : Cond.methodLink RL 78 yL_op ∈ jB := jB_in (List.mem_of_getElem? (i := 895) (by decide +kernel)) (by decide +kernel)
theorem hc_operand : Cond.codeWith yL_operand cL_operand 5 (some .int) [(0, 9, 12, 24), (0, 9, 16, 13)] ∈ jB := jB_in (List.mem_of_getElem? (i := 912) (by decide +kernel)) (by decide +kernel)
theorem hs_operand : Cond.static yL_operand ∈ jB := jB_in (List.mem_of_getElem? (i := 911) (by decide +kernel)) (by decide +kernel)
theorem hl_operand : Cond.methodLink RL 81 yL_operand ∈ jB := jB_in (List.mem_of_getElem? (i := 910) (by decide +kernel)) (by decide +kernel)
theorem hc_encode : Cond.codeWith yL_encode cL_encode 16 (some .int) [(0, 21, 24, 24), (0, 21, 28, 13), (0, 21, 32, 19)] ∈ jB := jB_in (List.mem_of_getElem? (i := 924) (by decide +kernel)) (by decide +kernel)
theorem hs_encode : Cond.static yL_encode ∈ jB := jB_in (List.mem_of_getElem? (i := 923) (by decide +kernel)) (by decide +kernel)
theorem hl_encode : Cond.methodLink RL 87 yL_encode ∈ jB := jB_in (List.mem_of_getElem? (i := 922) (by decide +kernel)) (by decide +kernel)
theorem hc_text : Cond.codeWith yL_text cL_text 4 (some .int) [(0, 9, 12, 24)] ∈ jB := jB_in (List.mem_of_getElem? (i := 941) (by decide +kernel)) (by decide +kernel)
theorem hs_text : Cond.static yL_text ∈ jB := jB_in (List.mem_of_getElem? (i := 940) (by decide +kernel)) (by decide +kernel)
theorem hl_text : Cond.methodLink RL 91 yL_text ∈ jB := jB_in (List.mem_of_getElem? (i := 939) (by decide +kernel)) (by decide +kernel)
theorem hc_letters : Cond.codeWith yL_letters cL_letters 4 (some .int) [(0, 8, 11, 13)] ∈ jB := jB_in (List.mem_of_getElem? (i := 987) (by decide +kernel)) (by decide +kernel)
theorem hs_letters : Cond.static yL_letters ∈ jB := jB_in (List.mem_of_getElem? (i := 986) (by decide +kernel)) (by decide +kernel)
theorem hl_letters : Cond.methodLink RL 94 yL_letters ∈ jB := jB_in (List.mem_of_getElem? (i := 985) (by decide +kernel)) (by decide +kernel)
theorem hc_count : Cond.codeWith yL_count cL_count 4 (some .int) [(0, 9, 12, 19)] ∈ jB := jB_in (List.mem_of_getElem? (i := 999) (by decide +kernel)) (by decide +kernel)
theorem hs_count : Cond.static yL_count ∈ jB := jB_in (List.mem_of_getElem? (i := 998) (by decide +kernel)) (by decide +kernel)
theorem hl_count : Cond.methodLink RL 97 yL_count ∈ jB := jB_in (List.mem_of_getElem? (i := 997) (by decide +kernel)) (by decide +kernel)
theorem cl_L_13 : Cond.classLink RL 13 eIO ∈ jB := jB_in (List.mem_of_getElem? (i := 434) (by decide +kernel)) (by decide +kernel)
theorem ca_eIO : Cond.castable eIO eIO ∈ jN := List.mem_filter.mpr ⟨List.mem_of_getElem? (i := 441) (by decide +kernel), rfl⟩
theorem cl_L_19 : Cond.classLink RL 19 eIA ∈ jB := jB_in (List.mem_of_getElem? (i := 514) (by decide +kernel)) (by decide +kernel)
theorem ca_eIA : Cond.castable eIA eIA ∈ jN := List.mem_filter.mpr ⟨List.mem_of_getElem? (i := 538) (by decide +kernel), rfl⟩
theorem cl_L_24 : Cond.classLink RL 24 eIS ∈ jB := jB_in (List.mem_of_getElem? (i := 780) (by decide +kernel)) (by decide +kernel)
theorem ca_eIS : Cond.castable eIS eIS ∈ jN := List.mem_filter.mpr ⟨List.mem_of_getElem? (i := 791) (by decide +kernel), rfl⟩
abbrev hX (h : ExceptionTableEntry) : Nat × Nat × Nat × Nat := (h.startPc, h.endPc, h.handlerPc, h.catchType)
def jNC (U : State) : Prop := va_Nc eIA eIO U ∧ va_Nc eIS eIO U ∧ va_Nc eIA eIS U ∧ va_Nc eIO eIS U
def jHw (G : jG) (M : jMem) (U : State) : Prop := jH G M U ∧ jNC U
abbrev jwsW (y : MethodName) (cc : ByteArray) (maxL : Nat) (ret : Option FieldType) (hh : List (Nat × Nat × Nat × Nat)) : List Cond := Cond.codeWith y cc maxL ret hh :: jB
def jCw (l : Launch) (G : jG) (y : MethodName) (cc : ByteArray) (maxL : Nat) (ret : Option FieldType) (hh : List (Nat × Nat × Nat × Nat)) (fr lo mc ms : Nat) (As : List Value) (M : jMem) (Φ : jO → Prop) : Prop :=
  vx_Met l y (jwsW y cc maxL ret hh) (jR fr lo mc ms) (va_Pc (As.map (jv G)) (fun U => jHw G M U)) (jQp G Φ) (jXp G Φ) mc ms (jA G)
theorem jCw.ofN {l : Launch} {G : jG} {cc : ByteArray} {ret : Option FieldType} {hh : List (Nat × Nat × Nat × Nat)} {mc ms : Nat} {M : jMem} {Φ : jO → Prop} {y : MethodName} {maxL fr lo : Nat} {As : List Value} (hy : plainName y.cls = true) (k9 : Nat) (hk : (lg_sl (As.map (jv G))).length + k9 = maxL) (lv0 : List (Option Value)) (hlv : lv0 = jargs As ++ List.replicate k9 none)
    (body : ∀ (p : Program) (e : Env) (s : State) (m : MethodId) (args : Array Value) (below : List Frame) (meth : Method) (c : Code), jX0 p l (jR fr lo mc ms) s m args meth c G cc maxL y.cls ret → jNC s → c.exceptionTable.toList.map hX = hh → Jq p l e (jR fr lo mc ms) s m args below meth c G maxL (vx_MQ below (jQp G Φ) (jXp G Φ) args s mc ms (jA G)) 0 lv0 [] M 0 0) :
    jCw l G y cc maxL ret hh fr lo mc ms As M Φ := by
  refine vx_ofWH (cc := cc) (maxL := maxL) (ret := ret) (hh := hh) hy rfl ?_
  intro p e s m args below meth c s₁ B hml hP
  obtain ⟨hargs, ⟨hW, hK, hS, hb⟩, hN⟩ := hP
  have hts : ∀ w ∈ jwsW y cc maxL ret hh, w.before args s = true := atoms_spec (ws := jwsW y cc maxL ret hh) B.pre
  have hown : s.vm.findClass y.cls = some m.cls := findClass_of_methodNamed B.named
  obtain ⟨m9, meth9, c9, k1, k2, k3, -, -, k6, -⟩ := Cond.codeWith_spec (hts _ List.mem_cons_self)
  cases Option.some.inj (k1.symm.trans B.named)
  have h9 : s₁.code? m = some c9 := by
    rw [B.state]
    have h8 : (s.vm.method? m).bind (fun z => z.code) = some c9 := by rw [k2]; exact k3
    rw [← h8]
    show State.code? s m = _
    unfold State.code? Vm.method?
    cases s.vm.classes[m.cls]? <;> first | rfl | (simp; done) | skip
  cases Option.some.inj (h9.symm.trans B.here.code)
  subst hargs
  rw [lg_entry_eq]
  have hl := lv_entry (As.map (jv G)) (n := maxL) (by omega)
  refine body p e s m _ below meth c ⟨B.exec, B.bytes, hml, hown, fun w hw => hts w (List.mem_cons_of_mem _ hw), B.returns, B.notSynchronized, hK, hS, hb⟩ hN k6 s.heap [] _ hW va_S.rf ?_
  rw [hlv]
  show lv_has _ _ (jasc G 0 (jargs As ++ List.replicate k9 none))
  rw [jasc_args]
  exact hl
def jKt (c : Code) (s : State) (args : Array Value) (own E : String) (pc hpc : Nat) : Prop := ∃ (pre : List ExceptionTableEntry) (x : ExceptionTableEntry) (suf : List ExceptionTableEntry) (name : String), c.exceptionTable.toList = pre ++ x :: suf ∧ (∀ z ∈ pre, covers z pc = false ∨ (z.catchType ≠ 0 ∧ ∃ nm : String, (Cond.classLink own z.catchType nm).before args s = true ∧ va_Nc E nm s)) ∧ covers x pc = true ∧ x.catchType ≠ 0 ∧ (Cond.classLink own x.catchType name).before args s = true ∧ (Cond.castable E name).before args s = true ∧ x.handlerPc = hpc
section QC
variable {p : Program} {l : Launch} {e : Env} {R : Room} {s : State} {m : MethodId} {args : Array Value} {below : List Frame} {meth : Method} {c : Code} {G : jG} {cc : ByteArray} {nL : Nat} {own : String} {ret : Option FieldType}
variable {pc kc ks mc ms : Nat} {Q : State → Prop} {Φ : jO → Prop} {lv : List (Option Value)} {st : List Value} {M M2 : jMem}
theorem Q_hand (C : jX0 p l R s m args meth c G cc nL own ret) {i : Nat} (hd : decode cc pc = .ok (.astore i, 2)) (hn : i < nL) (k : Jq p l e R s m args below meth c G nL Q (pc + 2) [] [] M kc ks) : ∀ H locs ls q, jW G M H → va_S (jA G) s.heap H locs → lv_has ls nL [] → W p l e R s m args below meth c H locs kc ks Q (F0 m pc ls [.ref q]) :=
  fun H locs ls q hM hS hl => lv_astore C.1 C.2.1 hd hl hn rfl (fun ls2 h2 => k H locs ls2 hM hS ⟨h2.1, h2.2.1, fun q hq => absurd hq List.not_mem_nil⟩)
theorem Q_hand_n (C : jX0 p l R s m args meth c G cc nL own ret) {n : Fin 4} {i : Nat} (hd : decode cc pc = .ok (.astore_n n, 1)) (hi : (n : Nat) = i) (hn : i < nL) (k : Jq p l e R s m args below meth c G nL Q (pc + 1) [] [] M kc ks) : ∀ H locs ls q, jW G M H → va_S (jA G) s.heap H locs → lv_has ls nL [] → W p l e R s m args below meth c H locs kc ks Q (F0 m pc ls [.ref q]) :=
  fun H locs ls q hM hS hl => lv_astore_n C.1 C.2.1 hd hi hl hn rfl (fun ls2 h2 => k H locs ls2 hM hS ⟨h2.1, h2.2.1, fun q hq => absurd hq List.not_mem_nil⟩)
theorem qrun_c {H : Heap} {locs : List Loc} {ls : Array Slot} {c1 s1 : Nat} {Ψ : jO → Prop} {a : Array Value} {st0 rest : List Value} (hr : vx_Run p l e R s m args below meth c H locs kc ks c1 s1 (F0 m pc ls st0) (rest.map (jv G)) (jQp G Ψ a) (jXp G Ψ) (jA G)) (hown : s.vm.findClass own = some m.cls) (hS : va_S (jA G) s.heap H locs) (hl : jL G ls nL lv)
    (kx : ∀ E M', Ψ (.inr (E, M')) → ∃ hpc, jKt c s args own E pc hpc ∧ ∀ H locs ls q, jW G M' H → va_S (jA G) s.heap H locs → lv_has ls nL [] → W p l e R s m args below meth c H locs (kc + c1) (ks + s1) Q (F0 m hpc ls [.ref q]))
    (kr : ∀ v M', Ψ (.inl (v, M')) → Jq p l e R s m args below meth c G nL Q (pc + 3) lv (v.toList ++ rest) M' (kc + c1) (ks + s1)) :
    W p l e R s m args below meth c H locs kc ks Q (F0 m pc ls st0) := by
  intro T hT' X
  rcases hr T hT' X with ⟨w, st₀, t, T', L, h0, X', hL, e1, e2, ⟨v, M', hΨ, hw, hM', hF⟩, stp⟩ | ⟨q, st₀, t, T', L, E, ce, h0, X', hL, e1, e2, ⟨M', hΨ, hM', hF⟩, hce, hcv, hcl, stp⟩
  · have hw : w = v.map (jv G) := Outcome.returned.inj hw
    obtain ⟨-, -, k3⟩ := vx_keep h0 e1 hS (fun _ _ h => h) (fun _ h => h) hL hF
    obtain ⟨t2, a1, b1⟩ := kr v M' hΨ T'.heap (locs ++ L) ls (by rw [e1]; exact hM') k3 hl T' rfl X'
    refine ⟨t2, stp t2 ?_, b1⟩
    subst hw
    cases v <;> exact a1
  · obtain ⟨-, -, k3⟩ := vx_keep h0 e1 hS (fun _ _ h => h) (fun _ h => h) hL hF
    obtain ⟨hpc, ⟨pre, x, suf, name, g1, g2, g3, g4, g5, g6, g7⟩, kw⟩ := kx E M' hΨ
    subst g7
    obtain ⟨t2, a1, b1⟩ := vx_catch (pc := pc) (ls := ls) (rest := rest.map (jv G)) (E := E) (ce := ce) (q := q) (Q := Q) (below := below) (args := args) (locs := locs ++ L) (cells := kc + c1) (slots := ks + s1) (p := p) (l := l) (e := e) (R := R) (s := s) (H := T'.heap) hown pre x suf g1 g2 g3 g4 g5 g6 (by rw [e1]; exact hce) hcv hcl (kw T'.heap (locs ++ L) ls q (by rw [e1]; exact hM') k3 ⟨hl.1, hl.2.1, fun q hq => absurd hq List.not_mem_nil⟩) T' rfl X'
    exact ⟨t2, stp.trans a1, b1⟩
theorem Q_callVc {y : MethodName} {bytes : ByteArray} {maxL n idx fr lo c1 s1 k ci : Nat} {ret' : Option FieldType} {As fs stk : List Value} {Ψ : jO → Prop} {q : vw_C} (C : jX0 p l R s m args meth c G cc nL own ret) (hd : decode cc pc = .ok (.invokevirtual idx, 3)) (hm : jMv own idx y bytes maxL ret' n) (K : jCp l G y bytes maxL ret' fr lo c1 s1 (.ref k :: As) M Ψ) (hR : fr + 1 ≤ R.frames ∧ 8 + (maxL + 11) + lo ≤ R.locals) (hk : M.1 k = some (.inr (ci, fs))) (hci : vwCl[ci]? = some q) (hq : q.1 = y.cls) (hn : As.length = n) (hst : stk = As.reverse ++ .ref k :: st) (h8 : (st.map fun v => v.category).sum ≤ 8) (hf : kc + c1 ≤ R.cells ∧ ks + s1 ≤ R.slots)
    (kx : ∀ E M', Ψ (.inr (E, M')) → ∃ hpc, jKt c s args own E pc hpc ∧ ∀ H locs ls q, jW G M' H → va_S (jA G) s.heap H locs → lv_has ls nL [] → W p l e R s m args below meth c H locs (kc + c1) (ks + s1) Q (F0 m hpc ls [.ref q]))
    (kr : ∀ v M', Ψ (.inl (v, M')) → Jq p l e R s m args below meth c G nL Q (pc + 3) lv (v.toList ++ st) M' (kc + c1) (ks + s1)) : Jq p l e R s m args below meth c G nL Q pc lv stk M kc ks := by
  intro H locs ls hM hS hl
  have hp := jpre (As := .ref k :: As) C hM hS
  have hrec : ∃ cellB : Cell, H[jr G k]? = some cellB ∧ cellB.vm.isStatics = false ∧ s.vm.findClass y.cls = some cellB.cls := by
    obtain ⟨cell, h1, h2, h3⟩ := va_recv C.k (jP1 hM hk) hci (q0 := 0) (a := jr G k) (fs := fs.map (jv G)) rfl
    exact ⟨cell, h1, h2, by rw [← hq]; exact h3⟩
  refine qrun_c (rest := st) (a := (Value.ref (jr G k) :: As.map (jv G)).toArray) (vx_runV (As := As.map (jv G)) (rest := st.map (jv G)) (C := y.cls) (n := n) (Ts := jB) (own := own) (nL := nL) (cc := cc) (ret := ret') (maxL := maxL) (bytes := bytes) (index := idx) ⟨C.1, C.2.1, C.2.2.1, C.2.2.2.1, C.2.2.2.2.1⟩ K ⟨jcB C hm.1 hm.2.1 hR, C.w hm.2.2.1, C.w hm.2.2.2⟩ ⟨hp.1, hrec, hp.2⟩ rfl (by rw [List.length_map]; exact hn) hl.1 ?_ ?_ hd hf) C.2.2.2.1 hS hl kx kr
  · rw [hst]; exact jstk
  · exact lv_room (by rw [jcat]; exact h8)
end QC
def hV (v : Value) : Option Int64 := match v with | .int x => some x.toInt64 | .long x => some x | _ => none
/-- what a helper of the law answers -/
def hP (cd : List (String × Nat)) (Ψ : jO → Prop) (o : jO) : Prop := (∃ v x M' f, Ψ (.inl (some v, M')) ∧ hV v = some x ∧ M'.1 1021 = some (lA 1 f) ∧ o = .inl (some (.int (nI 0)), ju M' 1021 (lA 1 (va_up f 0 x)))) ∨ ∃ E M' k, (E, k) ∈ cd ∧ Ψ (.inr (E, M')) ∧ o = .inl (some (.int (nI k)), M')
theorem kt_feed_0 {p : Program} {l : Launch} {R : Room} {s : State} {m : MethodId} {args : Array Value} {meth : Method} {c : Code} {G : jG} {cc : ByteArray} {nL : Nat} {ret : Option FieldType} (C : jX0 p l R s m args meth c G cc nL RL ret) (N : jNC s) (hT : c.exceptionTable.toList.map hX = [(0, 16, 19, 13)]) : jKt c s args RL eIO 11 19 := by
  obtain ⟨x0, L0, hL0, hx0, hT⟩ := List.map_eq_cons_iff.mp hT
  have hN := List.map_eq_nil_iff.mp hT
  subst hN
  refine ⟨[], x0, [], eIO, by rw [hL0]; rfl, ?_, ?_, ?_, ?_, ?_, ?_⟩
  · intro z hz; exact absurd hz List.not_mem_nil
  · unfold covers; rw [show x0.startPc = 0 from congrArg (fun q => q.1) hx0, show x0.endPc = 16 from congrArg (fun q => q.2.1) hx0]; decide
  · rw [show x0.catchType = 13 from congrArg (fun q => q.2.2.2) hx0]; decide
  · rw [show x0.catchType = 13 from congrArg (fun q => q.2.2.2) hx0]; exact C.w cl_L_13
  · exact va_Nw.use (jN_tab rfl) (C.S.2.2.1 _ ca_eIO)
  · exact congrArg (fun q => q.2.2.1) hx0
set_option maxHeartbeats 2000000 in
theorem h_feed {l : Launch} {G : jG} {M : jMem} {Ψ : jO → Prop} {fr lo c1 s1 : Nat} {fs : List Value} (a0 : Int32) (a1 : Int32) (a2 : Int32) (a3 : Int32) (a4 : Int32) (K : jCp l G yX10_feed cX10_feed 6 (some .int) fr lo c1 s1 [.ref 0, .int a0, .int a1, .int a2, .int a3, .int a4] M Ψ) (h0 : M.1 0 = some (.inr (10, fs))) (hr : ∀ v M', Ψ (.inl (v, M')) → ∃ x f, v = some (.int x) ∧ M'.1 1021 = some (lA 1 f)) (hx : ∀ E M', Ψ (.inr (E, M')) → E = eIO) : jCw l G yL_feed cL_feed 8 (some .int) [(0, 16, 19, 13)] (fr + 1) (46 + lo) c1 s1 [.ref 0, .int a0, .int a1, .int a2, .int a3, .int a4, .ref 1021] M (hP [(eIO, 1)] Ψ) := by
  refine jCw.ofN (by decide) 1 rfl [some (.ref 0), some (.int a0), some (.int a1), some (.int a2), some (.int a3), some (.int a4), some (.ref 1021), none] rfl (fun p e s m args below meth c C N hT => ?_)
  refine Q_aload (pc := 0) C dL_feed_0 rfl ?_
  refine Q_iconst (pc := 2) (v := nI 0) C dL_feed_2 (by decide) ?_
  refine Q_aload_n (pc := 3) C dL_feed_3 rfl rfl ?_
  refine Q_iload_n (pc := 4) C dL_feed_4 rfl rfl ?_
  refine Q_iload_n (pc := 5) C dL_feed_5 rfl rfl ?_
  refine Q_iload_n (pc := 6) C dL_feed_6 rfl rfl ?_
  refine Q_iload (pc := 7) C dL_feed_7 rfl ?_
  refine Q_iload (pc := 9) C dL_feed_9 rfl ?_
  refine Q_callVc (pc := 11) (k := 0) (As := [.int a0, .int a1, .int a2, .int a3, .int a4]) (st := [.int (nI 0), .ref 1021]) C dL_feed_11 m_L_7 K ⟨Nat.le_refl _, by simp only [jR]; omega⟩ h0 rfl rfl rfl rfl (jle rfl) ⟨by simp only [jR]; omega, by simp only [jR]; omega⟩ (fun E M' hE => ?_) (fun v M' hv => ?_)
  · rcases hx E M' hE with rfl
    · refine ⟨19, kt_feed_0 C N hT, Q_hand (pc := 19) C dL_feed_19 (jlt rfl) ?_⟩
      refine Q_iconst (pc := 21) (v := nI 1) C dL_feed_21 (by decide) ?_
      exact Jq.ofp (E_iret (pc := 22) C dL_feed_22 rfl (Or.inr ⟨_, M', 1, by simp, hE, rfl⟩) (by omega) (by omega))
  · obtain ⟨x, f, rfl, hf⟩ := hr v M' hv
    refine Q_i2l (pc := 14) C dL_feed_14 rfl ?_
    refine Q_lastN (pc := 15) C dL_feed_15 hf (by omega) (by omega) rfl ?_
    refine Q_goto (pc := 16) (tgt := 23) C dL_feed_16 rfl ?_
    refine Q_iconst (pc := 23) (v := nI 0) C dL_feed_23 (by decide) ?_
    exact Jq.ofp (E_iret (pc := 24) C dL_feed_24 rfl (Or.inl ⟨_, _, M', f, hv, rfl, hf, rfl⟩) (by omega) (by omega))
theorem kt_describe_0 {p : Program} {l : Launch} {R : Room} {s : State} {m : MethodId} {args : Array Value} {meth : Method} {c : Code} {G : jG} {cc : ByteArray} {nL : Nat} {ret : Option FieldType} (C : jX0 p l R s m args meth c G cc nL RL ret) (N : jNC s) (hT : c.exceptionTable.toList.map hX = [(0, 9, 12, 13), (0, 9, 15, 19)]) : jKt c s args RL eIO 4 12 := by
  obtain ⟨x0, L0, hL0, hx0, hT⟩ := List.map_eq_cons_iff.mp hT
  obtain ⟨x1, L1, hL1, hx1, hT⟩ := List.map_eq_cons_iff.mp hT
  have hN := List.map_eq_nil_iff.mp hT
  subst hN
  refine ⟨[], x0, [x1], eIO, by rw [hL0, hL1]; rfl, ?_, ?_, ?_, ?_, ?_, ?_⟩
  · intro z hz; exact absurd hz List.not_mem_nil
  · unfold covers; rw [show x0.startPc = 0 from congrArg (fun q => q.1) hx0, show x0.endPc = 9 from congrArg (fun q => q.2.1) hx0]; decide
  · rw [show x0.catchType = 13 from congrArg (fun q => q.2.2.2) hx0]; decide
  · rw [show x0.catchType = 13 from congrArg (fun q => q.2.2.2) hx0]; exact C.w cl_L_13
  · exact va_Nw.use (jN_tab rfl) (C.S.2.2.1 _ ca_eIO)
  · exact congrArg (fun q => q.2.2.1) hx0
theorem kt_describe_1 {p : Program} {l : Launch} {R : Room} {s : State} {m : MethodId} {args : Array Value} {meth : Method} {c : Code} {G : jG} {cc : ByteArray} {nL : Nat} {ret : Option FieldType} (C : jX0 p l R s m args meth c G cc nL RL ret) (N : jNC s) (hT : c.exceptionTable.toList.map hX = [(0, 9, 12, 13), (0, 9, 15, 19)]) : jKt c s args RL eIA 4 15 := by
  obtain ⟨x0, L0, hL0, hx0, hT⟩ := List.map_eq_cons_iff.mp hT
  obtain ⟨x1, L1, hL1, hx1, hT⟩ := List.map_eq_cons_iff.mp hT
  have hN := List.map_eq_nil_iff.mp hT
  subst hN
  refine ⟨[x0], x1, [], eIA, by rw [hL0, hL1]; rfl, ?_, ?_, ?_, ?_, ?_, ?_⟩
  · intro z hz
    have hz2 : z = x0 := by simpa using hz
    rcases hz2 with rfl
    · exact Or.inr ⟨by rw [show z.catchType = 13 from congrArg (fun q => q.2.2.2) hx0]; decide, eIO, by rw [show z.catchType = 13 from congrArg (fun q => q.2.2.2) hx0]; exact C.w cl_L_13, N.1⟩
  · unfold covers; rw [show x1.startPc = 0 from congrArg (fun q => q.1) hx1, show x1.endPc = 9 from congrArg (fun q => q.2.1) hx1]; decide
  · rw [show x1.catchType = 19 from congrArg (fun q => q.2.2.2) hx1]; decide
  · rw [show x1.catchType = 19 from congrArg (fun q => q.2.2.2) hx1]; exact C.w cl_L_19
  · exact va_Nw.use (jN_tab rfl) (C.S.2.2.1 _ ca_eIA)
  · exact congrArg (fun q => q.2.2.1) hx1
set_option maxHeartbeats 2000000 in
theorem h_describe {l : Launch} {G : jG} {M : jMem} {Ψ : jO → Prop} {fr lo c1 s1 : Nat} {fs : List Value} (a0 : Int32) (K : jCp l G yX10_describe cX10_describe 2 (some .int) fr lo c1 s1 [.ref 0, .int a0] M Ψ) (h0 : M.1 0 = some (.inr (10, fs))) (hr : ∀ v M', Ψ (.inl (v, M')) → ∃ x f, v = some (.int x) ∧ M'.1 1021 = some (lA 1 f)) (hx : ∀ E M', Ψ (.inr (E, M')) → E = eIO ∨ E = eIA) : jCw l G yL_describe cL_describe 4 (some .int) [(0, 9, 12, 13), (0, 9, 15, 19)] (fr + 1) (42 + lo) c1 s1 [.ref 0, .int a0, .ref 1021] M (hP [(eIO, 1), (eIA, 2)] Ψ) := by
  refine jCw.ofN (by decide) 1 rfl [some (.ref 0), some (.int a0), some (.ref 1021), none] rfl (fun p e s m args below meth c C N hT => ?_)
  refine Q_aload_n (pc := 0) C dL_describe_0 rfl rfl ?_
  refine Q_iconst (pc := 1) (v := nI 0) C dL_describe_1 (by decide) ?_
  refine Q_aload_n (pc := 2) C dL_describe_2 rfl rfl ?_
  refine Q_iload_n (pc := 3) C dL_describe_3 rfl rfl ?_
  refine Q_callVc (pc := 4) (k := 0) (As := [.int a0]) (st := [.int (nI 0), .ref 1021]) C dL_describe_4 m_L_15 K ⟨Nat.le_refl _, by simp only [jR]; omega⟩ h0 rfl rfl rfl rfl (jle rfl) ⟨by simp only [jR]; omega, by simp only [jR]; omega⟩ (fun E M' hE => ?_) (fun v M' hv => ?_)
  · rcases hx E M' hE with rfl | rfl
    · refine ⟨12, kt_describe_0 C N hT, Q_hand_n (pc := 12) C dL_describe_12 rfl (jlt rfl) ?_⟩
      refine Q_iconst (pc := 13) (v := nI 1) C dL_describe_13 (by decide) ?_
      exact Jq.ofp (E_iret (pc := 14) C dL_describe_14 rfl (Or.inr ⟨_, M', 1, by simp, hE, rfl⟩) (by omega) (by omega))
    · refine ⟨15, kt_describe_1 C N hT, Q_hand_n (pc := 15) C dL_describe_15 rfl (jlt rfl) ?_⟩
      refine Q_iconst (pc := 16) (v := nI 2) C dL_describe_16 (by decide) ?_
      exact Jq.ofp (E_iret (pc := 17) C dL_describe_17 rfl (Or.inr ⟨_, M', 2, by simp, hE, rfl⟩) (by omega) (by omega))
  · obtain ⟨x, f, rfl, hf⟩ := hr v M' hv
    refine Q_i2l (pc := 7) C dL_describe_7 rfl ?_
    refine Q_lastN (pc := 8) C dL_describe_8 hf (by omega) (by omega) rfl ?_
    refine Q_goto (pc := 9) (tgt := 18) C dL_describe_9 rfl ?_
    refine Q_iconst (pc := 18) (v := nI 0) C dL_describe_18 (by decide) ?_
    exact Jq.ofp (E_iret (pc := 19) C dL_describe_19 rfl (Or.inl ⟨_, _, M', f, hv, rfl, hf, rfl⟩) (by omega) (by omega))
theorem kt_assemble_0 {p : Program} {l : Launch} {R : Room} {s : State} {m : MethodId} {args : Array Value} {meth : Method} {c : Code} {G : jG} {cc : ByteArray} {nL : Nat} {ret : Option FieldType} (C : jX0 p l R s m args meth c G cc nL RL ret) (N : jNC s) (hT : c.exceptionTable.toList.map hX = [(0, 9, 12, 13), (0, 9, 15, 24), (0, 9, 18, 19)]) : jKt c s args RL eIO 4 12 := by
  obtain ⟨x0, L0, hL0, hx0, hT⟩ := List.map_eq_cons_iff.mp hT
  obtain ⟨x1, L1, hL1, hx1, hT⟩ := List.map_eq_cons_iff.mp hT
  obtain ⟨x2, L2, hL2, hx2, hT⟩ := List.map_eq_cons_iff.mp hT
  have hN := List.map_eq_nil_iff.mp hT
  subst hN
  refine ⟨[], x0, [x1, x2], eIO, by rw [hL0, hL1, hL2]; rfl, ?_, ?_, ?_, ?_, ?_, ?_⟩
  · intro z hz; exact absurd hz List.not_mem_nil
  · unfold covers; rw [show x0.startPc = 0 from congrArg (fun q => q.1) hx0, show x0.endPc = 9 from congrArg (fun q => q.2.1) hx0]; decide
  · rw [show x0.catchType = 13 from congrArg (fun q => q.2.2.2) hx0]; decide
  · rw [show x0.catchType = 13 from congrArg (fun q => q.2.2.2) hx0]; exact C.w cl_L_13
  · exact va_Nw.use (jN_tab rfl) (C.S.2.2.1 _ ca_eIO)
  · exact congrArg (fun q => q.2.2.1) hx0
theorem kt_assemble_1 {p : Program} {l : Launch} {R : Room} {s : State} {m : MethodId} {args : Array Value} {meth : Method} {c : Code} {G : jG} {cc : ByteArray} {nL : Nat} {ret : Option FieldType} (C : jX0 p l R s m args meth c G cc nL RL ret) (N : jNC s) (hT : c.exceptionTable.toList.map hX = [(0, 9, 12, 13), (0, 9, 15, 24), (0, 9, 18, 19)]) : jKt c s args RL eIS 4 15 := by
  obtain ⟨x0, L0, hL0, hx0, hT⟩ := List.map_eq_cons_iff.mp hT
  obtain ⟨x1, L1, hL1, hx1, hT⟩ := List.map_eq_cons_iff.mp hT
  obtain ⟨x2, L2, hL2, hx2, hT⟩ := List.map_eq_cons_iff.mp hT
  have hN := List.map_eq_nil_iff.mp hT
  subst hN
  refine ⟨[x0], x1, [x2], eIS, by rw [hL0, hL1, hL2]; rfl, ?_, ?_, ?_, ?_, ?_, ?_⟩
  · intro z hz
    have hz2 : z = x0 := by simpa using hz
    rcases hz2 with rfl
    · exact Or.inr ⟨by rw [show z.catchType = 13 from congrArg (fun q => q.2.2.2) hx0]; decide, eIO, by rw [show z.catchType = 13 from congrArg (fun q => q.2.2.2) hx0]; exact C.w cl_L_13, N.2.1⟩
  · unfold covers; rw [show x1.startPc = 0 from congrArg (fun q => q.1) hx1, show x1.endPc = 9 from congrArg (fun q => q.2.1) hx1]; decide
  · rw [show x1.catchType = 24 from congrArg (fun q => q.2.2.2) hx1]; decide
  · rw [show x1.catchType = 24 from congrArg (fun q => q.2.2.2) hx1]; exact C.w cl_L_24
  · exact va_Nw.use (jN_tab rfl) (C.S.2.2.1 _ ca_eIS)
  · exact congrArg (fun q => q.2.2.1) hx1
theorem kt_assemble_2 {p : Program} {l : Launch} {R : Room} {s : State} {m : MethodId} {args : Array Value} {meth : Method} {c : Code} {G : jG} {cc : ByteArray} {nL : Nat} {ret : Option FieldType} (C : jX0 p l R s m args meth c G cc nL RL ret) (N : jNC s) (hT : c.exceptionTable.toList.map hX = [(0, 9, 12, 13), (0, 9, 15, 24), (0, 9, 18, 19)]) : jKt c s args RL eIA 4 18 := by
  obtain ⟨x0, L0, hL0, hx0, hT⟩ := List.map_eq_cons_iff.mp hT
  obtain ⟨x1, L1, hL1, hx1, hT⟩ := List.map_eq_cons_iff.mp hT
  obtain ⟨x2, L2, hL2, hx2, hT⟩ := List.map_eq_cons_iff.mp hT
  have hN := List.map_eq_nil_iff.mp hT
  subst hN
  refine ⟨[x0, x1], x2, [], eIA, by rw [hL0, hL1, hL2]; rfl, ?_, ?_, ?_, ?_, ?_, ?_⟩
  · intro z hz
    have hz2 : z = x0 ∨ z = x1 := by simpa using hz
    rcases hz2 with rfl | rfl
    · exact Or.inr ⟨by rw [show z.catchType = 13 from congrArg (fun q => q.2.2.2) hx0]; decide, eIO, by rw [show z.catchType = 13 from congrArg (fun q => q.2.2.2) hx0]; exact C.w cl_L_13, N.1⟩
    · exact Or.inr ⟨by rw [show z.catchType = 24 from congrArg (fun q => q.2.2.2) hx1]; decide, eIS, by rw [show z.catchType = 24 from congrArg (fun q => q.2.2.2) hx1]; exact C.w cl_L_24, N.2.2.1⟩
  · unfold covers; rw [show x2.startPc = 0 from congrArg (fun q => q.1) hx2, show x2.endPc = 9 from congrArg (fun q => q.2.1) hx2]; decide
  · rw [show x2.catchType = 19 from congrArg (fun q => q.2.2.2) hx2]; decide
  · rw [show x2.catchType = 19 from congrArg (fun q => q.2.2.2) hx2]; exact C.w cl_L_19
  · exact va_Nw.use (jN_tab rfl) (C.S.2.2.1 _ ca_eIA)
  · exact congrArg (fun q => q.2.2.1) hx2
set_option maxHeartbeats 2000000 in
theorem h_assemble {l : Launch} {G : jG} {M : jMem} {Ψ : jO → Prop} {fr lo c1 s1 : Nat} {fs : List Value} (a0 : Int32) (K : jCp l G yX10_assemble cX10_assemble 2 (some .int) fr lo c1 s1 [.ref 0, .int a0] M Ψ) (h0 : M.1 0 = some (.inr (10, fs))) (hr : ∀ v M', Ψ (.inl (v, M')) → ∃ x f, v = some (.int x) ∧ M'.1 1021 = some (lA 1 f)) (hx : ∀ E M', Ψ (.inr (E, M')) → E = eIO ∨ E = eIS ∨ E = eIA) : jCw l G yL_assemble cL_assemble 4 (some .int) [(0, 9, 12, 13), (0, 9, 15, 24), (0, 9, 18, 19)] (fr + 1) (42 + lo) c1 s1 [.ref 0, .int a0, .ref 1021] M (hP [(eIO, 1), (eIS, 2), (eIA, 3)] Ψ) := by
  refine jCw.ofN (by decide) 1 rfl [some (.ref 0), some (.int a0), some (.ref 1021), none] rfl (fun p e s m args below meth c C N hT => ?_)
  refine Q_aload_n (pc := 0) C dL_assemble_0 rfl rfl ?_
  refine Q_iconst (pc := 1) (v := nI 0) C dL_assemble_1 (by decide) ?_
  refine Q_aload_n (pc := 2) C dL_assemble_2 rfl rfl ?_
  refine Q_iload_n (pc := 3) C dL_assemble_3 rfl rfl ?_
  refine Q_callVc (pc := 4) (k := 0) (As := [.int a0]) (st := [.int (nI 0), .ref 1021]) C dL_assemble_4 m_L_21 K ⟨Nat.le_refl _, by simp only [jR]; omega⟩ h0 rfl rfl rfl rfl (jle rfl) ⟨by simp only [jR]; omega, by simp only [jR]; omega⟩ (fun E M' hE => ?_) (fun v M' hv => ?_)
  · rcases hx E M' hE with rfl | rfl | rfl
    · refine ⟨12, kt_assemble_0 C N hT, Q_hand_n (pc := 12) C dL_assemble_12 rfl (jlt rfl) ?_⟩
      refine Q_iconst (pc := 13) (v := nI 1) C dL_assemble_13 (by decide) ?_
      exact Jq.ofp (E_iret (pc := 14) C dL_assemble_14 rfl (Or.inr ⟨_, M', 1, by simp, hE, rfl⟩) (by omega) (by omega))
    · refine ⟨15, kt_assemble_1 C N hT, Q_hand_n (pc := 15) C dL_assemble_15 rfl (jlt rfl) ?_⟩
      refine Q_iconst (pc := 16) (v := nI 2) C dL_assemble_16 (by decide) ?_
      exact Jq.ofp (E_iret (pc := 17) C dL_assemble_17 rfl (Or.inr ⟨_, M', 2, by simp, hE, rfl⟩) (by omega) (by omega))
    · refine ⟨18, kt_assemble_2 C N hT, Q_hand_n (pc := 18) C dL_assemble_18 rfl (jlt rfl) ?_⟩
      refine Q_iconst (pc := 19) (v := nI 3) C dL_assemble_19 (by decide) ?_
      exact Jq.ofp (E_iret (pc := 20) C dL_assemble_20 rfl (Or.inr ⟨_, M', 3, by simp, hE, rfl⟩) (by omega) (by omega))
  · obtain ⟨x, f, rfl, hf⟩ := hr v M' hv
    refine Q_i2l (pc := 7) C dL_assemble_7 rfl ?_
    refine Q_lastN (pc := 8) C dL_assemble_8 hf (by omega) (by omega) rfl ?_
    refine Q_goto (pc := 9) (tgt := 21) C dL_assemble_9 rfl ?_
    refine Q_iconst (pc := 21) (v := nI 0) C dL_assemble_21 (by decide) ?_
    exact Jq.ofp (E_iret (pc := 22) C dL_assemble_22 rfl (Or.inl ⟨_, _, M', f, hv, rfl, hf, rfl⟩) (by omega) (by omega))
theorem kt_word_0 {p : Program} {l : Launch} {R : Room} {s : State} {m : MethodId} {args : Array Value} {meth : Method} {c : Code} {G : jG} {cc : ByteArray} {nL : Nat} {ret : Option FieldType} (C : jX0 p l R s m args meth c G cc nL RL ret) (N : jNC s) (hT : c.exceptionTable.toList.map hX = [(0, 9, 12, 13)]) : jKt c s args RL eIO 4 12 := by
  obtain ⟨x0, L0, hL0, hx0, hT⟩ := List.map_eq_cons_iff.mp hT
  have hN := List.map_eq_nil_iff.mp hT
  subst hN
  refine ⟨[], x0, [], eIO, by rw [hL0]; rfl, ?_, ?_, ?_, ?_, ?_, ?_⟩
  · intro z hz; exact absurd hz List.not_mem_nil
  · unfold covers; rw [show x0.startPc = 0 from congrArg (fun q => q.1) hx0, show x0.endPc = 9 from congrArg (fun q => q.2.1) hx0]; decide
  · rw [show x0.catchType = 13 from congrArg (fun q => q.2.2.2) hx0]; decide
  · rw [show x0.catchType = 13 from congrArg (fun q => q.2.2.2) hx0]; exact C.w cl_L_13
  · exact va_Nw.use (jN_tab rfl) (C.S.2.2.1 _ ca_eIO)
  · exact congrArg (fun q => q.2.2.1) hx0
set_option maxHeartbeats 2000000 in
theorem h_word {l : Launch} {G : jG} {M : jMem} {Ψ : jO → Prop} {fr lo c1 s1 : Nat} {fs : List Value} (a0 : Int32) (K : jCp l G yX10_word cX10_word 2 (some .int) fr lo c1 s1 [.ref 0, .int a0] M Ψ) (h0 : M.1 0 = some (.inr (10, fs))) (hr : ∀ v M', Ψ (.inl (v, M')) → ∃ x f, v = some (.int x) ∧ M'.1 1021 = some (lA 1 f)) (hx : ∀ E M', Ψ (.inr (E, M')) → E = eIO) : jCw l G yL_word cL_word 4 (some .int) [(0, 9, 12, 13)] (fr + 1) (42 + lo) c1 s1 [.ref 0, .int a0, .ref 1021] M (hP [(eIO, 1)] Ψ) := by
  refine jCw.ofN (by decide) 1 rfl [some (.ref 0), some (.int a0), some (.ref 1021), none] rfl (fun p e s m args below meth c C N hT => ?_)
  refine Q_aload_n (pc := 0) C dL_word_0 rfl rfl ?_
  refine Q_iconst (pc := 1) (v := nI 0) C dL_word_1 (by decide) ?_
  refine Q_aload_n (pc := 2) C dL_word_2 rfl rfl ?_
  refine Q_iload_n (pc := 3) C dL_word_3 rfl rfl ?_
  refine Q_callVc (pc := 4) (k := 0) (As := [.int a0]) (st := [.int (nI 0), .ref 1021]) C dL_word_4 m_L_26 K ⟨Nat.le_refl _, by simp only [jR]; omega⟩ h0 rfl rfl rfl rfl (jle rfl) ⟨by simp only [jR]; omega, by simp only [jR]; omega⟩ (fun E M' hE => ?_) (fun v M' hv => ?_)
  · rcases hx E M' hE with rfl
    · refine ⟨12, kt_word_0 C N hT, Q_hand_n (pc := 12) C dL_word_12 rfl (jlt rfl) ?_⟩
      refine Q_iconst (pc := 13) (v := nI 1) C dL_word_13 (by decide) ?_
      exact Jq.ofp (E_iret (pc := 14) C dL_word_14 rfl (Or.inr ⟨_, M', 1, by simp, hE, rfl⟩) (by omega) (by omega))
  · obtain ⟨x, f, rfl, hf⟩ := hr v M' hv
    refine Q_i2l (pc := 7) C dL_word_7 rfl ?_
    refine Q_lastN (pc := 8) C dL_word_8 hf (by omega) (by omega) rfl ?_
    refine Q_goto (pc := 9) (tgt := 15) C dL_word_9 rfl ?_
    refine Q_iconst (pc := 15) (v := nI 0) C dL_word_15 (by decide) ?_
    exact Jq.ofp (E_iret (pc := 16) C dL_word_16 rfl (Or.inl ⟨_, _, M', f, hv, rfl, hf, rfl⟩) (by omega) (by omega))
theorem kt_op_0 {p : Program} {l : Launch} {R : Room} {s : State} {m : MethodId} {args : Array Value} {meth : Method} {c : Code} {G : jG} {cc : ByteArray} {nL : Nat} {ret : Option FieldType} (C : jX0 p l R s m args meth c G cc nL RL ret) (N : jNC s) (hT : c.exceptionTable.toList.map hX = [(0, 9, 12, 24)]) : jKt c s args RL eIS 4 12 := by
  obtain ⟨x0, L0, hL0, hx0, hT⟩ := List.map_eq_cons_iff.mp hT
  have hN := List.map_eq_nil_iff.mp hT
  subst hN
  refine ⟨[], x0, [], eIS, by rw [hL0]; rfl, ?_, ?_, ?_, ?_, ?_, ?_⟩
  · intro z hz; exact absurd hz List.not_mem_nil
  · unfold covers; rw [show x0.startPc = 0 from congrArg (fun q => q.1) hx0, show x0.endPc = 9 from congrArg (fun q => q.2.1) hx0]; decide
  · rw [show x0.catchType = 24 from congrArg (fun q => q.2.2.2) hx0]; decide
  · rw [show x0.catchType = 24 from congrArg (fun q => q.2.2.2) hx0]; exact C.w cl_L_24
  · exact va_Nw.use (jN_tab rfl) (C.S.2.2.1 _ ca_eIS)
  · exact congrArg (fun q => q.2.2.1) hx0
set_option maxHeartbeats 2000000 in
theorem h_op {l : Launch} {G : jG} {M : jMem} {Ψ : jO → Prop} {fr lo c1 s1 : Nat} {fs : List Value} (a0 : Int32) (K : jCp l G yX10_op cX10_op 2 (some .int) fr lo c1 s1 [.ref 0, .int a0] M Ψ) (h0 : M.1 0 = some (.inr (10, fs))) (hr : ∀ v M', Ψ (.inl (v, M')) → ∃ x f, v = some (.int x) ∧ M'.1 1021 = some (lA 1 f)) (hx : ∀ E M', Ψ (.inr (E, M')) → E = eIS) : jCw l G yL_op cL_op 4 (some .int) [(0, 9, 12, 24)] (fr + 1) (42 + lo) c1 s1 [.ref 0, .int a0, .ref 1021] M (hP [(eIS, 1)] Ψ) := by
  refine jCw.ofN (by decide) 1 rfl [some (.ref 0), some (.int a0), some (.ref 1021), none] rfl (fun p e s m args below meth c C N hT => ?_)
  refine Q_aload_n (pc := 0) C dL_op_0 rfl rfl ?_
  refine Q_iconst (pc := 1) (v := nI 0) C dL_op_1 (by decide) ?_
  refine Q_aload_n (pc := 2) C dL_op_2 rfl rfl ?_
  refine Q_iload_n (pc := 3) C dL_op_3 rfl rfl ?_
  refine Q_callVc (pc := 4) (k := 0) (As := [.int a0]) (st := [.int (nI 0), .ref 1021]) C dL_op_4 m_L_29 K ⟨Nat.le_refl _, by simp only [jR]; omega⟩ h0 rfl rfl rfl rfl (jle rfl) ⟨by simp only [jR]; omega, by simp only [jR]; omega⟩ (fun E M' hE => ?_) (fun v M' hv => ?_)
  · rcases hx E M' hE with rfl
    · refine ⟨12, kt_op_0 C N hT, Q_hand_n (pc := 12) C dL_op_12 rfl (jlt rfl) ?_⟩
      refine Q_iconst (pc := 13) (v := nI 1) C dL_op_13 (by decide) ?_
      exact Jq.ofp (E_iret (pc := 14) C dL_op_14 rfl (Or.inr ⟨_, M', 1, by simp, hE, rfl⟩) (by omega) (by omega))
  · obtain ⟨x, f, rfl, hf⟩ := hr v M' hv
    refine Q_i2l (pc := 7) C dL_op_7 rfl ?_
    refine Q_lastN (pc := 8) C dL_op_8 hf (by omega) (by omega) rfl ?_
    refine Q_goto (pc := 9) (tgt := 15) C dL_op_9 rfl ?_
    refine Q_iconst (pc := 15) (v := nI 0) C dL_op_15 (by decide) ?_
    exact Jq.ofp (E_iret (pc := 16) C dL_op_16 rfl (Or.inl ⟨_, _, M', f, hv, rfl, hf, rfl⟩) (by omega) (by omega))
theorem kt_operand_0 {p : Program} {l : Launch} {R : Room} {s : State} {m : MethodId} {args : Array Value} {meth : Method} {c : Code} {G : jG} {cc : ByteArray} {nL : Nat} {ret : Option FieldType} (C : jX0 p l R s m args meth c G cc nL RL ret) (N : jNC s) (hT : c.exceptionTable.toList.map hX = [(0, 9, 12, 24), (0, 9, 16, 13)]) : jKt c s args RL eIS 5 12 := by
  obtain ⟨x0, L0, hL0, hx0, hT⟩ := List.map_eq_cons_iff.mp hT
  obtain ⟨x1, L1, hL1, hx1, hT⟩ := List.map_eq_cons_iff.mp hT
  have hN := List.map_eq_nil_iff.mp hT
  subst hN
  refine ⟨[], x0, [x1], eIS, by rw [hL0, hL1]; rfl, ?_, ?_, ?_, ?_, ?_, ?_⟩
  · intro z hz; exact absurd hz List.not_mem_nil
  · unfold covers; rw [show x0.startPc = 0 from congrArg (fun q => q.1) hx0, show x0.endPc = 9 from congrArg (fun q => q.2.1) hx0]; decide
  · rw [show x0.catchType = 24 from congrArg (fun q => q.2.2.2) hx0]; decide
  · rw [show x0.catchType = 24 from congrArg (fun q => q.2.2.2) hx0]; exact C.w cl_L_24
  · exact va_Nw.use (jN_tab rfl) (C.S.2.2.1 _ ca_eIS)
  · exact congrArg (fun q => q.2.2.1) hx0
theorem kt_operand_1 {p : Program} {l : Launch} {R : Room} {s : State} {m : MethodId} {args : Array Value} {meth : Method} {c : Code} {G : jG} {cc : ByteArray} {nL : Nat} {ret : Option FieldType} (C : jX0 p l R s m args meth c G cc nL RL ret) (N : jNC s) (hT : c.exceptionTable.toList.map hX = [(0, 9, 12, 24), (0, 9, 16, 13)]) : jKt c s args RL eIO 5 16 := by
  obtain ⟨x0, L0, hL0, hx0, hT⟩ := List.map_eq_cons_iff.mp hT
  obtain ⟨x1, L1, hL1, hx1, hT⟩ := List.map_eq_cons_iff.mp hT
  have hN := List.map_eq_nil_iff.mp hT
  subst hN
  refine ⟨[x0], x1, [], eIO, by rw [hL0, hL1]; rfl, ?_, ?_, ?_, ?_, ?_, ?_⟩
  · intro z hz
    have hz2 : z = x0 := by simpa using hz
    rcases hz2 with rfl
    · exact Or.inr ⟨by rw [show z.catchType = 24 from congrArg (fun q => q.2.2.2) hx0]; decide, eIS, by rw [show z.catchType = 24 from congrArg (fun q => q.2.2.2) hx0]; exact C.w cl_L_24, N.2.2.2⟩
  · unfold covers; rw [show x1.startPc = 0 from congrArg (fun q => q.1) hx1, show x1.endPc = 9 from congrArg (fun q => q.2.1) hx1]; decide
  · rw [show x1.catchType = 13 from congrArg (fun q => q.2.2.2) hx1]; decide
  · rw [show x1.catchType = 13 from congrArg (fun q => q.2.2.2) hx1]; exact C.w cl_L_13
  · exact va_Nw.use (jN_tab rfl) (C.S.2.2.1 _ ca_eIO)
  · exact congrArg (fun q => q.2.2.1) hx1
set_option maxHeartbeats 2000000 in
theorem h_operand {l : Launch} {G : jG} {M : jMem} {Ψ : jO → Prop} {fr lo c1 s1 : Nat} {fs : List Value} (a0 : Int32) (a1 : Int32) (K : jCp l G yX10_operand cX10_operand 4 (some .long) fr lo c1 s1 [.ref 0, .int a0, .int a1] M Ψ) (h0 : M.1 0 = some (.inr (10, fs))) (hr : ∀ v M', Ψ (.inl (v, M')) → ∃ x f, v = some (.long x) ∧ M'.1 1021 = some (lA 1 f)) (hx : ∀ E M', Ψ (.inr (E, M')) → E = eIS ∨ E = eIO) : jCw l G yL_operand cL_operand 5 (some .int) [(0, 9, 12, 24), (0, 9, 16, 13)] (fr + 1) (44 + lo) c1 s1 [.ref 0, .int a0, .int a1, .ref 1021] M (hP [(eIS, 1), (eIO, 2)] Ψ) := by
  refine jCw.ofN (by decide) 1 rfl [some (.ref 0), some (.int a0), some (.int a1), some (.ref 1021), none] rfl (fun p e s m args below meth c C N hT => ?_)
  refine Q_aload_n (pc := 0) C dL_operand_0 rfl rfl ?_
  refine Q_iconst (pc := 1) (v := nI 0) C dL_operand_1 (by decide) ?_
  refine Q_aload_n (pc := 2) C dL_operand_2 rfl rfl ?_
  refine Q_iload_n (pc := 3) C dL_operand_3 rfl rfl ?_
  refine Q_iload_n (pc := 4) C dL_operand_4 rfl rfl ?_
  refine Q_callVc (pc := 5) (k := 0) (As := [.int a0, .int a1]) (st := [.int (nI 0), .ref 1021]) C dL_operand_5 m_L_32 K ⟨Nat.le_refl _, by simp only [jR]; omega⟩ h0 rfl rfl rfl rfl (jle rfl) ⟨by simp only [jR]; omega, by simp only [jR]; omega⟩ (fun E M' hE => ?_) (fun v M' hv => ?_)
  · rcases hx E M' hE with rfl | rfl
    · refine ⟨12, kt_operand_0 C N hT, Q_hand (pc := 12) C dL_operand_12 (jlt rfl) ?_⟩
      refine Q_iconst (pc := 14) (v := nI 1) C dL_operand_14 (by decide) ?_
      exact Jq.ofp (E_iret (pc := 15) C dL_operand_15 rfl (Or.inr ⟨_, M', 1, by simp, hE, rfl⟩) (by omega) (by omega))
    · refine ⟨16, kt_operand_1 C N hT, Q_hand (pc := 16) C dL_operand_16 (jlt rfl) ?_⟩
      refine Q_iconst (pc := 18) (v := nI 2) C dL_operand_18 (by decide) ?_
      exact Jq.ofp (E_iret (pc := 19) C dL_operand_19 rfl (Or.inr ⟨_, M', 2, by simp, hE, rfl⟩) (by omega) (by omega))
  · obtain ⟨x, f, rfl, hf⟩ := hr v M' hv
    refine Q_lastN (pc := 8) C dL_operand_8 hf (by omega) (by omega) rfl ?_
    refine Q_goto (pc := 9) (tgt := 20) C dL_operand_9 rfl ?_
    refine Q_iconst (pc := 20) (v := nI 0) C dL_operand_20 (by decide) ?_
    exact Jq.ofp (E_iret (pc := 21) C dL_operand_21 rfl (Or.inl ⟨_, _, M', f, hv, rfl, hf, rfl⟩) (by omega) (by omega))
theorem kt_encode_0 {p : Program} {l : Launch} {R : Room} {s : State} {m : MethodId} {args : Array Value} {meth : Method} {c : Code} {G : jG} {cc : ByteArray} {nL : Nat} {ret : Option FieldType} (C : jX0 p l R s m args meth c G cc nL RL ret) (N : jNC s) (hT : c.exceptionTable.toList.map hX = [(0, 21, 24, 24), (0, 21, 28, 13), (0, 21, 32, 19)]) : jKt c s args RL eIS 16 24 := by
  obtain ⟨x0, L0, hL0, hx0, hT⟩ := List.map_eq_cons_iff.mp hT
  obtain ⟨x1, L1, hL1, hx1, hT⟩ := List.map_eq_cons_iff.mp hT
  obtain ⟨x2, L2, hL2, hx2, hT⟩ := List.map_eq_cons_iff.mp hT
  have hN := List.map_eq_nil_iff.mp hT
  subst hN
  refine ⟨[], x0, [x1, x2], eIS, by rw [hL0, hL1, hL2]; rfl, ?_, ?_, ?_, ?_, ?_, ?_⟩
  · intro z hz; exact absurd hz List.not_mem_nil
  · unfold covers; rw [show x0.startPc = 0 from congrArg (fun q => q.1) hx0, show x0.endPc = 21 from congrArg (fun q => q.2.1) hx0]; decide
  · rw [show x0.catchType = 24 from congrArg (fun q => q.2.2.2) hx0]; decide
  · rw [show x0.catchType = 24 from congrArg (fun q => q.2.2.2) hx0]; exact C.w cl_L_24
  · exact va_Nw.use (jN_tab rfl) (C.S.2.2.1 _ ca_eIS)
  · exact congrArg (fun q => q.2.2.1) hx0
theorem kt_encode_1 {p : Program} {l : Launch} {R : Room} {s : State} {m : MethodId} {args : Array Value} {meth : Method} {c : Code} {G : jG} {cc : ByteArray} {nL : Nat} {ret : Option FieldType} (C : jX0 p l R s m args meth c G cc nL RL ret) (N : jNC s) (hT : c.exceptionTable.toList.map hX = [(0, 21, 24, 24), (0, 21, 28, 13), (0, 21, 32, 19)]) : jKt c s args RL eIO 16 28 := by
  obtain ⟨x0, L0, hL0, hx0, hT⟩ := List.map_eq_cons_iff.mp hT
  obtain ⟨x1, L1, hL1, hx1, hT⟩ := List.map_eq_cons_iff.mp hT
  obtain ⟨x2, L2, hL2, hx2, hT⟩ := List.map_eq_cons_iff.mp hT
  have hN := List.map_eq_nil_iff.mp hT
  subst hN
  refine ⟨[x0], x1, [x2], eIO, by rw [hL0, hL1, hL2]; rfl, ?_, ?_, ?_, ?_, ?_, ?_⟩
  · intro z hz
    have hz2 : z = x0 := by simpa using hz
    rcases hz2 with rfl
    · exact Or.inr ⟨by rw [show z.catchType = 24 from congrArg (fun q => q.2.2.2) hx0]; decide, eIS, by rw [show z.catchType = 24 from congrArg (fun q => q.2.2.2) hx0]; exact C.w cl_L_24, N.2.2.2⟩
  · unfold covers; rw [show x1.startPc = 0 from congrArg (fun q => q.1) hx1, show x1.endPc = 21 from congrArg (fun q => q.2.1) hx1]; decide
  · rw [show x1.catchType = 13 from congrArg (fun q => q.2.2.2) hx1]; decide
  · rw [show x1.catchType = 13 from congrArg (fun q => q.2.2.2) hx1]; exact C.w cl_L_13
  · exact va_Nw.use (jN_tab rfl) (C.S.2.2.1 _ ca_eIO)
  · exact congrArg (fun q => q.2.2.1) hx1
theorem kt_encode_2 {p : Program} {l : Launch} {R : Room} {s : State} {m : MethodId} {args : Array Value} {meth : Method} {c : Code} {G : jG} {cc : ByteArray} {nL : Nat} {ret : Option FieldType} (C : jX0 p l R s m args meth c G cc nL RL ret) (N : jNC s) (hT : c.exceptionTable.toList.map hX = [(0, 21, 24, 24), (0, 21, 28, 13), (0, 21, 32, 19)]) : jKt c s args RL eIA 16 32 := by
  obtain ⟨x0, L0, hL0, hx0, hT⟩ := List.map_eq_cons_iff.mp hT
  obtain ⟨x1, L1, hL1, hx1, hT⟩ := List.map_eq_cons_iff.mp hT
  obtain ⟨x2, L2, hL2, hx2, hT⟩ := List.map_eq_cons_iff.mp hT
  have hN := List.map_eq_nil_iff.mp hT
  subst hN
  refine ⟨[x0, x1], x2, [], eIA, by rw [hL0, hL1, hL2]; rfl, ?_, ?_, ?_, ?_, ?_, ?_⟩
  · intro z hz
    have hz2 : z = x0 ∨ z = x1 := by simpa using hz
    rcases hz2 with rfl | rfl
    · exact Or.inr ⟨by rw [show z.catchType = 24 from congrArg (fun q => q.2.2.2) hx0]; decide, eIS, by rw [show z.catchType = 24 from congrArg (fun q => q.2.2.2) hx0]; exact C.w cl_L_24, N.2.2.1⟩
    · exact Or.inr ⟨by rw [show z.catchType = 13 from congrArg (fun q => q.2.2.2) hx1]; decide, eIO, by rw [show z.catchType = 13 from congrArg (fun q => q.2.2.2) hx1]; exact C.w cl_L_13, N.1⟩
  · unfold covers; rw [show x2.startPc = 0 from congrArg (fun q => q.1) hx2, show x2.endPc = 21 from congrArg (fun q => q.2.1) hx2]; decide
  · rw [show x2.catchType = 19 from congrArg (fun q => q.2.2.2) hx2]; decide
  · rw [show x2.catchType = 19 from congrArg (fun q => q.2.2.2) hx2]; exact C.w cl_L_19
  · exact va_Nw.use (jN_tab rfl) (C.S.2.2.1 _ ca_eIA)
  · exact congrArg (fun q => q.2.2.1) hx2
set_option maxHeartbeats 2000000 in
theorem h_encode {l : Launch} {G : jG} {M : jMem} {Ψ : jO → Prop} {fr lo c1 s1 : Nat} {fs : List Value} (a0 : Int32) (a1 : Int64) (a2 : Int64) (a3 : Int64) (a4 : Int64) (a5 : Int64) (a6 : Int64) (K : jCp l G yX10_encode cX10_encode 14 (some .int) fr lo c1 s1 [.ref 0, .int a0, .long a1, .long a2, .long a3, .long a4, .long a5, .long a6] M Ψ) (h0 : M.1 0 = some (.inr (10, fs))) (hr : ∀ v M', Ψ (.inl (v, M')) → ∃ x f, v = some (.int x) ∧ M'.1 1021 = some (lA 1 f)) (hx : ∀ E M', Ψ (.inr (E, M')) → E = eIS ∨ E = eIO ∨ E = eIA) : jCw l G yL_encode cL_encode 16 (some .int) [(0, 21, 24, 24), (0, 21, 28, 13), (0, 21, 32, 19)] (fr + 1) (54 + lo) c1 s1 [.ref 0, .int a0, .long a1, .long a2, .long a3, .long a4, .long a5, .long a6, .ref 1021] M (hP [(eIS, 1), (eIO, 2), (eIA, 3)] Ψ) := by
  refine jCw.ofN (by decide) 1 rfl [some (.ref 0), some (.int a0), some (.long a1), none, some (.long a2), none, some (.long a3), none, some (.long a4), none, some (.long a5), none, some (.long a6), none, some (.ref 1021), none] rfl (fun p e s m args below meth c C N hT => ?_)
  refine Q_aload (pc := 0) C dL_encode_0 rfl ?_
  refine Q_iconst (pc := 2) (v := nI 0) C dL_encode_2 (by decide) ?_
  refine Q_aload_n (pc := 3) C dL_encode_3 rfl rfl ?_
  refine Q_iload_n (pc := 4) C dL_encode_4 rfl rfl ?_
  refine Q_lload_n (pc := 5) C dL_encode_5 rfl rfl ?_
  refine Q_lload (pc := 6) C dL_encode_6 rfl ?_
  refine Q_lload (pc := 8) C dL_encode_8 rfl ?_
  refine Q_lload (pc := 10) C dL_encode_10 rfl ?_
  refine Q_lload (pc := 12) C dL_encode_12 rfl ?_
  refine Q_lload (pc := 14) C dL_encode_14 rfl ?_
  refine Q_callVc (pc := 16) (k := 0) (As := [.int a0, .long a1, .long a2, .long a3, .long a4, .long a5, .long a6]) (st := [.int (nI 0), .ref 1021]) C dL_encode_16 m_L_36 K ⟨Nat.le_refl _, by simp only [jR]; omega⟩ h0 rfl rfl rfl rfl (jle rfl) ⟨by simp only [jR]; omega, by simp only [jR]; omega⟩ (fun E M' hE => ?_) (fun v M' hv => ?_)
  · rcases hx E M' hE with rfl | rfl | rfl
    · refine ⟨24, kt_encode_0 C N hT, Q_hand (pc := 24) C dL_encode_24 (jlt rfl) ?_⟩
      refine Q_iconst (pc := 26) (v := nI 1) C dL_encode_26 (by decide) ?_
      exact Jq.ofp (E_iret (pc := 27) C dL_encode_27 rfl (Or.inr ⟨_, M', 1, by simp, hE, rfl⟩) (by omega) (by omega))
    · refine ⟨28, kt_encode_1 C N hT, Q_hand (pc := 28) C dL_encode_28 (jlt rfl) ?_⟩
      refine Q_iconst (pc := 30) (v := nI 2) C dL_encode_30 (by decide) ?_
      exact Jq.ofp (E_iret (pc := 31) C dL_encode_31 rfl (Or.inr ⟨_, M', 2, by simp, hE, rfl⟩) (by omega) (by omega))
    · refine ⟨32, kt_encode_2 C N hT, Q_hand (pc := 32) C dL_encode_32 (jlt rfl) ?_⟩
      refine Q_iconst (pc := 34) (v := nI 3) C dL_encode_34 (by decide) ?_
      exact Jq.ofp (E_iret (pc := 35) C dL_encode_35 rfl (Or.inr ⟨_, M', 3, by simp, hE, rfl⟩) (by omega) (by omega))
  · obtain ⟨x, f, rfl, hf⟩ := hr v M' hv
    refine Q_i2l (pc := 19) C dL_encode_19 rfl ?_
    refine Q_lastN (pc := 20) C dL_encode_20 hf (by omega) (by omega) rfl ?_
    refine Q_goto (pc := 21) (tgt := 36) C dL_encode_21 rfl ?_
    refine Q_iconst (pc := 36) (v := nI 0) C dL_encode_36 (by decide) ?_
    exact Jq.ofp (E_iret (pc := 37) C dL_encode_37 rfl (Or.inl ⟨_, _, M', f, hv, rfl, hf, rfl⟩) (by omega) (by omega))
theorem kt_text_0 {p : Program} {l : Launch} {R : Room} {s : State} {m : MethodId} {args : Array Value} {meth : Method} {c : Code} {G : jG} {cc : ByteArray} {nL : Nat} {ret : Option FieldType} (C : jX0 p l R s m args meth c G cc nL RL ret) (N : jNC s) (hT : c.exceptionTable.toList.map hX = [(0, 9, 12, 24)]) : jKt c s args RL eIS 4 12 := by
  obtain ⟨x0, L0, hL0, hx0, hT⟩ := List.map_eq_cons_iff.mp hT
  have hN := List.map_eq_nil_iff.mp hT
  subst hN
  refine ⟨[], x0, [], eIS, by rw [hL0]; rfl, ?_, ?_, ?_, ?_, ?_, ?_⟩
  · intro z hz; exact absurd hz List.not_mem_nil
  · unfold covers; rw [show x0.startPc = 0 from congrArg (fun q => q.1) hx0, show x0.endPc = 9 from congrArg (fun q => q.2.1) hx0]; decide
  · rw [show x0.catchType = 24 from congrArg (fun q => q.2.2.2) hx0]; decide
  · rw [show x0.catchType = 24 from congrArg (fun q => q.2.2.2) hx0]; exact C.w cl_L_24
  · exact va_Nw.use (jN_tab rfl) (C.S.2.2.1 _ ca_eIS)
  · exact congrArg (fun q => q.2.2.1) hx0
set_option maxHeartbeats 2000000 in
theorem h_text {l : Launch} {G : jG} {M : jMem} {Ψ : jO → Prop} {fr lo c1 s1 : Nat} {fs : List Value} (a0 : Int32) (K : jCp l G yX10_text cX10_text 2 (some .int) fr lo c1 s1 [.ref 0, .int a0] M Ψ) (h0 : M.1 0 = some (.inr (10, fs))) (hr : ∀ v M', Ψ (.inl (v, M')) → ∃ x f, v = some (.int x) ∧ M'.1 1021 = some (lA 1 f)) (hx : ∀ E M', Ψ (.inr (E, M')) → E = eIS) : jCw l G yL_text cL_text 4 (some .int) [(0, 9, 12, 24)] (fr + 1) (42 + lo) c1 s1 [.ref 0, .int a0, .ref 1021] M (hP [(eIS, 1)] Ψ) := by
  refine jCw.ofN (by decide) 1 rfl [some (.ref 0), some (.int a0), some (.ref 1021), none] rfl (fun p e s m args below meth c C N hT => ?_)
  refine Q_aload_n (pc := 0) C dL_text_0 rfl rfl ?_
  refine Q_iconst (pc := 1) (v := nI 0) C dL_text_1 (by decide) ?_
  refine Q_aload_n (pc := 2) C dL_text_2 rfl rfl ?_
  refine Q_iload_n (pc := 3) C dL_text_3 rfl rfl ?_
  refine Q_callVc (pc := 4) (k := 0) (As := [.int a0]) (st := [.int (nI 0), .ref 1021]) C dL_text_4 m_L_40 K ⟨Nat.le_refl _, by simp only [jR]; omega⟩ h0 rfl rfl rfl rfl (jle rfl) ⟨by simp only [jR]; omega, by simp only [jR]; omega⟩ (fun E M' hE => ?_) (fun v M' hv => ?_)
  · rcases hx E M' hE with rfl
    · refine ⟨12, kt_text_0 C N hT, Q_hand_n (pc := 12) C dL_text_12 rfl (jlt rfl) ?_⟩
      refine Q_iconst (pc := 13) (v := nI 1) C dL_text_13 (by decide) ?_
      exact Jq.ofp (E_iret (pc := 14) C dL_text_14 rfl (Or.inr ⟨_, M', 1, by simp, hE, rfl⟩) (by omega) (by omega))
  · obtain ⟨x, f, rfl, hf⟩ := hr v M' hv
    refine Q_i2l (pc := 7) C dL_text_7 rfl ?_
    refine Q_lastN (pc := 8) C dL_text_8 hf (by omega) (by omega) rfl ?_
    refine Q_goto (pc := 9) (tgt := 15) C dL_text_9 rfl ?_
    refine Q_iconst (pc := 15) (v := nI 0) C dL_text_15 (by decide) ?_
    exact Jq.ofp (E_iret (pc := 16) C dL_text_16 rfl (Or.inl ⟨_, _, M', f, hv, rfl, hf, rfl⟩) (by omega) (by omega))
theorem kt_letters_0 {p : Program} {l : Launch} {R : Room} {s : State} {m : MethodId} {args : Array Value} {meth : Method} {c : Code} {G : jG} {cc : ByteArray} {nL : Nat} {ret : Option FieldType} (C : jX0 p l R s m args meth c G cc nL RL ret) (N : jNC s) (hT : c.exceptionTable.toList.map hX = [(0, 8, 11, 13)]) : jKt c s args RL eIO 4 11 := by
  obtain ⟨x0, L0, hL0, hx0, hT⟩ := List.map_eq_cons_iff.mp hT
  have hN := List.map_eq_nil_iff.mp hT
  subst hN
  refine ⟨[], x0, [], eIO, by rw [hL0]; rfl, ?_, ?_, ?_, ?_, ?_, ?_⟩
  · intro z hz; exact absurd hz List.not_mem_nil
  · unfold covers; rw [show x0.startPc = 0 from congrArg (fun q => q.1) hx0, show x0.endPc = 8 from congrArg (fun q => q.2.1) hx0]; decide
  · rw [show x0.catchType = 13 from congrArg (fun q => q.2.2.2) hx0]; decide
  · rw [show x0.catchType = 13 from congrArg (fun q => q.2.2.2) hx0]; exact C.w cl_L_13
  · exact va_Nw.use (jN_tab rfl) (C.S.2.2.1 _ ca_eIO)
  · exact congrArg (fun q => q.2.2.1) hx0
set_option maxHeartbeats 2000000 in
theorem h_letters {l : Launch} {G : jG} {M : jMem} {Ψ : jO → Prop} {fr lo c1 s1 : Nat} {fs : List Value} (a0 : Int32) (K : jCp l G yX10_letters cX10_letters 2 (some .long) fr lo c1 s1 [.ref 0, .int a0] M Ψ) (h0 : M.1 0 = some (.inr (10, fs))) (hr : ∀ v M', Ψ (.inl (v, M')) → ∃ x f, v = some (.long x) ∧ M'.1 1021 = some (lA 1 f)) (hx : ∀ E M', Ψ (.inr (E, M')) → E = eIO) : jCw l G yL_letters cL_letters 4 (some .int) [(0, 8, 11, 13)] (fr + 1) (42 + lo) c1 s1 [.ref 0, .int a0, .ref 1021] M (hP [(eIO, 1)] Ψ) := by
  refine jCw.ofN (by decide) 1 rfl [some (.ref 0), some (.int a0), some (.ref 1021), none] rfl (fun p e s m args below meth c C N hT => ?_)
  refine Q_aload_n (pc := 0) C dL_letters_0 rfl rfl ?_
  refine Q_iconst (pc := 1) (v := nI 0) C dL_letters_1 (by decide) ?_
  refine Q_aload_n (pc := 2) C dL_letters_2 rfl rfl ?_
  refine Q_iload_n (pc := 3) C dL_letters_3 rfl rfl ?_
  refine Q_callVc (pc := 4) (k := 0) (As := [.int a0]) (st := [.int (nI 0), .ref 1021]) C dL_letters_4 m_L_43 K ⟨Nat.le_refl _, by simp only [jR]; omega⟩ h0 rfl rfl rfl rfl (jle rfl) ⟨by simp only [jR]; omega, by simp only [jR]; omega⟩ (fun E M' hE => ?_) (fun v M' hv => ?_)
  · rcases hx E M' hE with rfl
    · refine ⟨11, kt_letters_0 C N hT, Q_hand_n (pc := 11) C dL_letters_11 rfl (jlt rfl) ?_⟩
      refine Q_iconst (pc := 12) (v := nI 1) C dL_letters_12 (by decide) ?_
      exact Jq.ofp (E_iret (pc := 13) C dL_letters_13 rfl (Or.inr ⟨_, M', 1, by simp, hE, rfl⟩) (by omega) (by omega))
  · obtain ⟨x, f, rfl, hf⟩ := hr v M' hv
    refine Q_lastN (pc := 7) C dL_letters_7 hf (by omega) (by omega) rfl ?_
    refine Q_goto (pc := 8) (tgt := 14) C dL_letters_8 rfl ?_
    refine Q_iconst (pc := 14) (v := nI 0) C dL_letters_14 (by decide) ?_
    exact Jq.ofp (E_iret (pc := 15) C dL_letters_15 rfl (Or.inl ⟨_, _, M', f, hv, rfl, hf, rfl⟩) (by omega) (by omega))
theorem kt_count_0 {p : Program} {l : Launch} {R : Room} {s : State} {m : MethodId} {args : Array Value} {meth : Method} {c : Code} {G : jG} {cc : ByteArray} {nL : Nat} {ret : Option FieldType} (C : jX0 p l R s m args meth c G cc nL RL ret) (N : jNC s) (hT : c.exceptionTable.toList.map hX = [(0, 9, 12, 19)]) : jKt c s args RL eIA 4 12 := by
  obtain ⟨x0, L0, hL0, hx0, hT⟩ := List.map_eq_cons_iff.mp hT
  have hN := List.map_eq_nil_iff.mp hT
  subst hN
  refine ⟨[], x0, [], eIA, by rw [hL0]; rfl, ?_, ?_, ?_, ?_, ?_, ?_⟩
  · intro z hz; exact absurd hz List.not_mem_nil
  · unfold covers; rw [show x0.startPc = 0 from congrArg (fun q => q.1) hx0, show x0.endPc = 9 from congrArg (fun q => q.2.1) hx0]; decide
  · rw [show x0.catchType = 19 from congrArg (fun q => q.2.2.2) hx0]; decide
  · rw [show x0.catchType = 19 from congrArg (fun q => q.2.2.2) hx0]; exact C.w cl_L_19
  · exact va_Nw.use (jN_tab rfl) (C.S.2.2.1 _ ca_eIA)
  · exact congrArg (fun q => q.2.2.1) hx0
set_option maxHeartbeats 2000000 in
theorem h_count {l : Launch} {G : jG} {M : jMem} {Ψ : jO → Prop} {fr lo c1 s1 : Nat} {fs : List Value} (a0 : Int32) (K : jCp l G yX10_count cX10_count 2 (some .int) fr lo c1 s1 [.ref 0, .int a0] M Ψ) (h0 : M.1 0 = some (.inr (10, fs))) (hr : ∀ v M', Ψ (.inl (v, M')) → ∃ x f, v = some (.int x) ∧ M'.1 1021 = some (lA 1 f)) (hx : ∀ E M', Ψ (.inr (E, M')) → E = eIA) : jCw l G yL_count cL_count 4 (some .int) [(0, 9, 12, 19)] (fr + 1) (42 + lo) c1 s1 [.ref 0, .int a0, .ref 1021] M (hP [(eIA, 1)] Ψ) := by
  refine jCw.ofN (by decide) 1 rfl [some (.ref 0), some (.int a0), some (.ref 1021), none] rfl (fun p e s m args below meth c C N hT => ?_)
  refine Q_aload_n (pc := 0) C dL_count_0 rfl rfl ?_
  refine Q_iconst (pc := 1) (v := nI 0) C dL_count_1 (by decide) ?_
  refine Q_aload_n (pc := 2) C dL_count_2 rfl rfl ?_
  refine Q_iload_n (pc := 3) C dL_count_3 rfl rfl ?_
  refine Q_callVc (pc := 4) (k := 0) (As := [.int a0]) (st := [.int (nI 0), .ref 1021]) C dL_count_4 m_L_47 K ⟨Nat.le_refl _, by simp only [jR]; omega⟩ h0 rfl rfl rfl rfl (jle rfl) ⟨by simp only [jR]; omega, by simp only [jR]; omega⟩ (fun E M' hE => ?_) (fun v M' hv => ?_)
  · rcases hx E M' hE with rfl
    · refine ⟨12, kt_count_0 C N hT, Q_hand_n (pc := 12) C dL_count_12 rfl (jlt rfl) ?_⟩
      refine Q_iconst (pc := 13) (v := nI 1) C dL_count_13 (by decide) ?_
      exact Jq.ofp (E_iret (pc := 14) C dL_count_14 rfl (Or.inr ⟨_, M', 1, by simp, hE, rfl⟩) (by omega) (by omega))
  · obtain ⟨x, f, rfl, hf⟩ := hr v M' hv
    refine Q_i2l (pc := 7) C dL_count_7 rfl ?_
    refine Q_lastN (pc := 8) C dL_count_8 hf (by omega) (by omega) rfl ?_
    refine Q_goto (pc := 9) (tgt := 15) C dL_count_9 rfl ?_
    refine Q_iconst (pc := 15) (v := nI 0) C dL_count_15 (by decide) ?_
    exact Jq.ofp (E_iret (pc := 16) C dL_count_16 rfl (Or.inl ⟨_, _, M', f, hv, rfl, hf, rfl⟩) (by omega) (by omega))
