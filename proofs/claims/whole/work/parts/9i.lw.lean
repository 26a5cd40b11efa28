/-! LAW: the walk -/
section LW
variable {p : Program} {l : Launch} {e : Env} {R : Room} {s : State} {m : MethodId} {args : Array Value} {below : List Frame} {meth : Method} {c : Code} {G : jG} {cc : ByteArray} {nL : Nat} {own : String} {ret : Option FieldType}
variable {pc kc ks mc ms : Nat} {Q : State → Prop} {Φ : jO → Prop} {lv lv2 : List (Option Value)} {st : List Value} {M M2 : jMem}
theorem jr_scr {b : Nat} (hG : G.2.1 900 = b) : jv G (.ref 2900) = .ref b := by
  show Value.ref (jr G 2900) = _
  unfold jr
  rw [if_neg (by omega), if_neg (by omega)]
  exact congrArg Value.ref hG
theorem Q_slen (C : jX0 p l R s m args meth c G cc nL own ret) {b L : Nat} {xs : Nat → Int32} (hX : va_X b L xs s s.heap) (hb : b < s.heap.size) (hbG : b < G.1) (hG : G.2.1 900 = b) (hd : decode cc pc = .ok (.arraylength, 1)) (k : Jq p l e R s m args below meth c G nL Q (pc + 1) lv (.int (nI L) :: st) M kc ks) : Jq p l e R s m args below meth c G nL Q pc lv (.ref 2900 :: st) M kc ks := by
  intro H locs ls hM hS hl
  rw [List.map_cons, jr_scr hG]
  exact va_slen C.1 C.2.1 hX hb (fun h => absurd (show G.1 ≤ b from h) (by omega)) hS hd (k H locs ls hM hS hl)
theorem Q_sld (C : jX0 p l R s m args meth c G cc nL own ret) {b L i : Nat} {xs : Nat → Int32} (hX : va_X b L xs s s.heap) (hb : b < s.heap.size) (hbG : b < G.1) (hG : G.2.1 900 = b) (hL : L < 2 ^ 31) (hi : i < L) (hd : decode cc pc = .ok (.iaload, 1)) (k : Jq p l e R s m args below meth c G nL Q (pc + 1) lv (.int (xs i) :: st) M kc ks) : Jq p l e R s m args below meth c G nL Q pc lv (.int (nI i) :: .ref 2900 :: st) M kc ks := by
  intro H locs ls hM hS hl
  have hcl : (nI i).toNatClampNeg = i := nI_clamp (by omega)
  rw [List.map_cons, List.map_cons, jr_scr hG]
  refine va_sld C.1 C.2.1 hX hb (fun h => absurd (show G.1 ≤ b from h) (by omega)) hS (i := nI i) ?_ hd ?_
  · rintro (h | h)
    · exact nI_pos (by omega) h
    · rw [hcl] at h; omega
  · rw [hcl]; exact k H locs ls hM hS hl
theorem Q_know (C : jX0 p l R s m args meth c G cc nL own ret) (k : ∀ n, Jq p l e R s m args below meth c G nL Q pc lv st (M.1, some n) kc ks) : Jq p l e R s m args below meth c G nL Q pc lv st M kc ks := by
  intro H locs ls hM hS hl
  refine k (H.size - G.1) H locs ls ⟨hM.1, fun n hn => ?_⟩ hS hl
  have hn : some (H.size - G.1) = some n := hn
  cases hn
  have := Nat.le_trans C.b hS.1
  omega
theorem Q_drop (h : ∀ (i : Nat) (v : Value), lv2[i]? = some (some v) → lv[i]? = some (some v)) (k : Jq p l e R s m args below meth c G nL Q pc lv2 st M kc ks) : Jq p l e R s m args below meth c G nL Q pc lv st M kc ks := by
  intro H locs ls hM hS hl
  refine k H locs ls hM hS ⟨hl.1, hl.2.1, fun q hq => ?_⟩
  obtain ⟨i, w⟩ := q
  obtain ⟨v, h0, h1, rfl⟩ := jasc_mem.mp hq
  exact hl.get (h i v (by rw [Nat.sub_zero] at h1; exact h1))
theorem Q_callSw {y : MethodName} {bytes : ByteArray} {maxL n idx fr lo : Nat} {ret' : Option FieldType} {hh : List (Nat × Nat × Nat × Nat)} {As stk : List Value} (C : jX0 p l R s m args meth c G cc nL own ret) (N : jNC s) (hd : decode cc pc = .ok (.invokestatic idx, 3)) (hcw : Cond.codeWith y bytes maxL ret' hh ∈ jB) (hlk : Cond.methodLink own idx y ∈ jB) (hsy : Cond.static y ∈ jB) (hiy : Cond.initialized y.cls ∈ jB) (hy : y.cls ≠ "java/lang/invoke/MethodHandle" ∧ y.cls ≠ "java/lang/invoke/VarHandle" ∧ (parseMethodDescriptor y.desc).map (fun d => d.parameters.length) = some n) (K : ∃ c1 s1, c1 ≤ 1 ∧ s1 ≤ 6 ∧ jCw l G y bytes maxL ret' hh fr lo c1 s1 As M Φ) (hno : ∀ E M', ¬ Φ (.inr (E, M'))) (hR : fr + 1 ≤ R.frames ∧ 8 + (maxL + 11) + lo ≤ R.locals) (hn : As.length = n) (hst : stk = As.reverse ++ st) (h8 : (st.map fun v => v.category).sum ≤ 8) (hf : kc + 1 ≤ R.cells ∧ ks + 6 ≤ R.slots)
    (kr : ∀ c1 s1 v M', c1 ≤ 1 → s1 ≤ 6 → Φ (.inl (v, M')) → Jq p l e R s m args below meth c G nL Q (pc + 3) lv (v.toList ++ st) M' (kc + c1) (ks + s1)) : Jq p l e R s m args below meth c G nL Q pc lv stk M kc ks := by
  intro H locs ls hM hS hl
  obtain ⟨c1, s1, hc1, hs1, K⟩ := K
  have hp0 := jpre (As := As) C hM hS
  have hp : PreS s H (va_Pc (As.map (jv G)) (fun U => jHw G M U)) (As.map (jv G)) := by
    refine ⟨?_, fun U hU hW => ?_⟩
    · intro a U g mk h
      have h2 := jH.blind a U g mk ⟨h.1, h.2.1⟩
      have hm : ∀ C T, va_Nc C T U → va_Nc C T (U.calling g mk a) := fun C T h => va_Nc.moved (u := U) (U := U.calling g mk a) (Vm.Alike.refl U.vm) h
      exact ⟨h2.1, h2.2, hm _ _ h.2.2.1, hm _ _ h.2.2.2.1, hm _ _ h.2.2.2.2.1, hm _ _ h.2.2.2.2.2⟩
    · obtain ⟨h1, h2⟩ := hp0.2 U hU hW
      exact ⟨h1, h2, va_Nc.moved hW.alike N.1, va_Nc.moved hW.alike N.2.1, va_Nc.moved hW.alike N.2.2.1, va_Nc.moved hW.alike N.2.2.2⟩
  have hmet : Met l y (jwsW y bytes maxL ret' hh) (jR fr lo c1 s1) (va_Pc (As.map (jv G)) (fun U => jHw G M U)) (jQp G Φ) c1 s1 (jA G) := by
    intro p' e' ha hc hk s' m' args' below' hf happ hP hK
    obtain ⟨k, o, h1, h2, h3, h4⟩ := K p' e' ha hc hk s' m' args' below' hf happ hP hK
    refine ⟨k, o, h1, h2, h3, ?_⟩
    rcases h4 with h | ⟨q, -, E, ce, L, ⟨M', hx, -⟩, -⟩
    · exact h
    · exact (hno _ _ hx).elim
  refine qrun_p (rest := st) (a := (As.map (jv G)).toArray) (vx_runSW (As := As.map (jv G)) (rest := st.map (jv G)) (n := n) (Ts := jB) (own := own) (nL := nL) (cc := cc) (maxL := maxL) (bytes := bytes) (index := idx) (hh := hh) ⟨C.1, C.2.1, C.2.2.1, C.2.2.2.1, C.2.2.2.2.1⟩ hmet (vx_cwSW n C.2.2.2.2.1 (jB_GoodIn (fun w hw => ?_)) rfl rfl rfl hy hR) hp rfl (by rw [List.length_map]; exact hn) hl.1 ?_ ?_ hd ⟨by omega, by omega⟩) hS hl (fun v M' h => kr c1 s1 v M' hc1 hs1 h)
  · unfold va_wsS at hw
    simp only [List.cons_append, List.nil_append, List.mem_cons] at hw
    rcases hw with h | h | h | h | h
    · rw [h]; exact hlk
    · rw [h]; exact hsy
    · rw [h]; exact hiy
    · rw [h]; exact hcw
    · exact h
  · rw [hst]; show (As.reverse ++ st).map (jv G) = _; rw [List.map_append, List.map_reverse]
  · exact lv_room (by rw [jcat]; exact h8)
end LW
theorem lE.know {er : Nat} {f : Nat → Int64} {n : Option Nat} {M : jMem} (h : lE er f n M) (k : Nat) : lE er f (some k) (M.1, some k) := by
  obtain ⟨A, S, t, wr, B, Z, P, Q, V, L, F, X, K, D, Pm, gv, O, hL, rfl⟩ := h
  exact ⟨A, S, t, wr, B, Z, P, Q, V, L, F, X, K, D, Pm, gv, O, hL, rfl⟩
theorem lE.thr {l : Launch} {G : jG} {er : Nat} {f : Nat → Int64} {n : Option Nat} {M : jMem} (h : lE er f n M) : jC l G yX11_thrown cX11_thrown 1 (some .int) 1 12 0 0 [.ref 1000] M (.inl (some (.int (nI er)), M)) := by
  obtain ⟨A, S, t, wr, B, Z, P, Q, V, L, F, X, K, D, Pm, gv, O, hL, rfl⟩ := h
  rw [l_comm]
  exact c_thrown l G er F X K wr D Pm gv O _
theorem lE.wrg {l : Launch} {G : jG} {er : Nat} {f : Nat → Int64} {n : Option Nat} {M : jMem} (h : lE er f n M) : ∃ w M2, jC l G yX10_wrong cX10_wrong 1 (some .int) 1 12 0 0 [.ref 0] M (.inl (some (.int w), M)) ∧ jC l G yX11_wrong cX11_wrong 1 (some .int) 1 12 0 0 [.ref 1000] M (.inl (some (.int w), M2)) ∧ lE 0 f n M2 := by
  obtain ⟨A, S, t, wr, B, Z, P, Q, V, L, F, X, K, D, Pm, gv, O, hL, rfl⟩ := h
  refine ⟨wr, _, x_wrong l G A S t wr B Z P Q V L _, ?_, ⟨A, S, t, wr, B, Z, P, Q, V, L, F, X, K, D, Pm, gv, O, hL, rfl⟩⟩
  rw [l_comm, l_comm]
  exact c_wrong l G er F X K wr D Pm gv O _
theorem lE.r0 {er : Nat} {f : Nat → Int64} {n : Option Nat} {M : jMem} (h : lE er f n M) : ∃ fs, M.1 0 = some (.inr (10, fs)) := by
  obtain ⟨A, S, t, wr, B, Z, P, Q, V, L, F, X, K, D, Pm, gv, O, hL, rfl⟩ := h
  exact l_00
theorem lE.r1000 {er : Nat} {f : Nat → Int64} {n : Option Nat} {M : jMem} (h : lE er f n M) : ∃ fs, M.1 1000 = some (.inr (11, fs)) := by
  obtain ⟨A, S, t, wr, B, Z, P, Q, V, L, F, X, K, D, Pm, gv, O, hL, rfl⟩ := h
  exact l_1000
theorem lE.r1021 {er : Nat} {f : Nat → Int64} {n : Option Nat} {M : jMem} (h : lE er f n M) : M.1 1021 = some (lA 1 f) := by
  obtain ⟨A, S, t, wr, B, Z, P, Q, V, L, F, X, K, D, Pm, gv, O, hL, rfl⟩ := h
  exact l_1021
