theorem df_X0 : ∀ j, j < 9 → (parseFieldDescriptor (TX0 j).2.2.1).map defaultValue = some (vp_V [.null, .null, .null, .null, .null, .null, .null, .null, .int (nI 0)] j) := by decide +kernel
theorem df_X1 : ∀ j, j < 3 → (parseFieldDescriptor (TX1 j).2.2.1).map defaultValue = some (vp_V [.null, .null, .null] j) := by decide +kernel
theorem df_X2 : ∀ j, j < 6 → (parseFieldDescriptor (TX2 j).2.2.1).map defaultValue = some (vp_V [.null, .null, .null, .null, .int (nI 0), .int (nI 0)] j) := by decide +kernel
theorem df_X3 : ∀ j, j < 2 → (parseFieldDescriptor (TX3 j).2.2.1).map defaultValue = some (vp_V [.null, .int (nI 0)] j) := by decide +kernel
theorem df_X4 : ∀ j, j < 3 → (parseFieldDescriptor (TX4 j).2.2.1).map defaultValue = some (vp_V [.null, .null, .int (nI 0)] j) := by decide +kernel
theorem df_X5 : ∀ j, j < 5 → (parseFieldDescriptor (TX5 j).2.2.1).map defaultValue = some (vp_V [.null, .int (nI 0), .int (nI 0), .int (nI 0), .int (nI 0)] j) := by decide +kernel
theorem df_X6 : ∀ j, j < 4 → (parseFieldDescriptor (TX6 j).2.2.1).map defaultValue = some (vp_V [.null, .int (nI 0), .int (nI 0), .int (nI 0)] j) := by decide +kernel
theorem df_X7 : ∀ j, j < 5 → (parseFieldDescriptor (TX7 j).2.2.1).map defaultValue = some (vp_V [.null, .null, .null, .int (nI 0), .int (nI 0)] j) := by decide +kernel
theorem df_X8 : ∀ j, j < 6 → (parseFieldDescriptor (TX8 j).2.2.1).map defaultValue = some (vp_V [.null, .null, .null, .null, .int (nI 0), .int (nI 0)] j) := by decide +kernel
theorem df_X9 : ∀ j, j < 7 → (parseFieldDescriptor (TX9 j).2.2.1).map defaultValue = some (vp_V [.null, .null, .int (nI 0), .int (nI 0), .int (nI 0), .int (nI 0), .int (nI 0)] j) := by decide +kernel
theorem df_X10 : ∀ j, j < 9 → (parseFieldDescriptor (TX10 j).2.2.1).map defaultValue = some (vp_V [.null, .null, .null, .null, .null, .null, .null, .null, .int (nI 0)] j) := by decide +kernel
theorem df_X11 : ∀ j, j < 35 → (parseFieldDescriptor (TX11 j).2.2.1).map defaultValue = some (vp_V [.int (nI 0), .int (nI 0), .int (nI 0), .int (nI 0), .int (nI 0), .int (nI 0), .int (nI 0), .int (nI 0), .int (nI 0), .int (nI 0), .int (nI 0), .null, .null, .null, .null, .null, .null, .null, .null, .null, .null, .null, .null, .null, .null, .null, .null, .null, .null, .null, .int (nI 0), .int (nI 0), .int (nI 0), .int (nI 0), .null] j) := by decide +kernel
theorem jCp.ofN {l : Launch} {G : jG} {cc : ByteArray} {ret : Option FieldType} {mc ms : Nat} {M : jMem} {Φ : jO → Prop} {y : MethodName} {maxL fr lo : Nat} {As : List Value} (hy : plainName y.cls = true) (k9 : Nat) (hk : (lg_sl (As.map (jv G))).length + k9 = maxL) (lv0 : List (Option Value)) (hlv : lv0 = jargs As ++ List.replicate k9 none)
    (body : ∀ (p : Program) (e : Env) (s : State) (m : MethodId) (args : Array Value) (below : List Frame) (meth : Method) (c : Code), jX0 p l (jR fr lo mc ms) s m args meth c G cc maxL y.cls ret → meth.name = y.name → Jq p l e (jR fr lo mc ms) s m args below meth c G maxL (vx_MQ below (jQp G Φ) (jXp G Φ) args s mc ms (jA G)) 0 lv0 [] M 0 0) :
    jCp l G y cc maxL ret fr lo mc ms As M Φ := by
  refine vx_ofW (cc := cc) (maxL := maxL) (ret := ret) hy rfl ?_
  intro p e s m args below meth c s₁ B hml hT hP
  obtain ⟨hargs, hW, hK, hS, hb⟩ := hP
  have hts : ∀ w ∈ jws y cc maxL ret, w.before args s = true := atoms_spec (ws := jws y cc maxL ret) B.pre
  have hown : s.vm.findClass y.cls = some m.cls := findClass_of_methodNamed B.named
  subst hargs
  rw [lg_entry_eq]
  have hl := lv_entry (As.map (jv G)) (n := maxL) (by omega)
  refine body p e s m _ below meth c ⟨B.exec, B.bytes, hml, hown, fun w hw => hts w (List.mem_cons_of_mem _ hw), B.returns, B.notSynchronized, hK, hS, hb⟩ ?_ s.heap [] _ hW va_S.rf ?_
  · exact (name_of_methodNamed B.named B.method).1
  · rw [hlv]
    show lv_has _ _ (jasc G 0 (jargs As ++ List.replicate k9 none))
    rw [jasc_args]
    exact hl
section QP
variable {p : Program} {l : Launch} {e : Env} {R : Room} {s : State} {m : MethodId} {args : Array Value} {below : List Frame} {meth : Method} {c : Code} {G : jG} {cc : ByteArray} {nL : Nat} {own : String} {ret : Option FieldType}
variable {pc kc ks mc ms : Nat} {Q : State → Prop} {Φ : jO → Prop} {lv : List (Option Value)} {st : List Value} {M M2 : jMem}
theorem Jq.ofp (h : Jp p l e R s m args below meth c G nL mc ms Φ pc lv st M kc ks) : Jq p l e R s m args below meth c G nL (vx_MQ below (jQp G Φ) (jXp G Φ) args s mc ms (jA G)) pc lv st M kc ks := h
theorem Q_putFU (C : jX0 p l R s m args meth c G cc nL own ret) (hin2 : meth.name = "<init>") {idx ci j k : Nat} {fs : List Value} {v : Value} {ty : FieldType} (hd : decode cc pc = .ok (.putfield idx, 3)) (hf : jFp true own idx ci j ty) (hM0 : M.1 k = some (.inr (ci, fs))) (hj' : j < fs.length) (hn : narrow ty (jv G v) = jv G v) (hfit : fits ty (jv G v) = true) (hu : ju M k (.inr (ci, fs.set j v)) = M2) (k' : Jq p l e R s m args below meth c G nL Q (pc + 3) lv st M2 kc ks) : Jq p l e R s m args below meth c G nL Q pc lv (v :: .ref k :: st) M kc ks := by
  subst hu
  exact Q_putF C hin2 hd hf hM0 hj' hn hfit k'
theorem Q_callIz {y : MethodName} {bytes : ByteArray} {maxL n idx fr lo c1 s1 k : Nat} {As stk : List Value} {Ψ : jMem → Prop} (C : jX0 p l R s m args meth c G cc nL own ret) (hd : decode cc pc = .ok (.invokespecial idx, 3)) (hm : jMi own idx y bytes maxL n) (K : jCp l G y bytes maxL none fr lo c1 s1 (.ref k :: As) M (fun o => ∃ M', o = .inl (none, M') ∧ Ψ M')) (hR : fr + 1 ≤ R.frames ∧ 8 + (maxL + 11) + lo ≤ R.locals) (hn : As.length = n) (hst : stk = As.reverse ++ .ref k :: st) (h8 : (st.map fun v => v.category).sum ≤ 8) (hf : kc + c1 ≤ R.cells ∧ ks + s1 ≤ R.slots)
    (kr : ∀ M', Ψ M' → Jq p l e R s m args below meth c G nL Q (pc + 3) lv st M' (kc + c1) (ks + s1)) : Jq p l e R s m args below meth c G nL Q pc lv stk M kc ks :=
  Q_callIp C hd hm K (by rintro E M' ⟨_, h, -⟩; cases h) hR hn hst h8 hf (by rintro v M' ⟨_, h, h2⟩; cases h; exact kr _ h2)
theorem Q_callINz {y : MethodName} {bytes : ByteArray} {maxL n idx fr lo c1 s1 k : Nat} {host : String} {As stk : List Value} {Ψ : jMem → Prop} (C : jX0 p l R s m args meth c G cc nL own ret) (hd : decode cc pc = .ok (.invokespecial idx, 3)) (hm : jMc y bytes maxL none n) (hl9 : Cond.methodLinkNest own idx y host ∈ jN) (hi9 : Cond.instanceMethod y ∈ jB) (hy9 : y.name = "<init>") (K : jCp l G y bytes maxL none fr lo c1 s1 (.ref k :: As) M (fun o => ∃ M', o = .inl (none, M') ∧ Ψ M')) (hR : fr + 1 ≤ R.frames ∧ 8 + (maxL + 11) + lo ≤ R.locals) (hn : As.length = n) (hst : stk = As.reverse ++ .ref k :: st) (h8 : (st.map fun v => v.category).sum ≤ 8) (hf : kc + c1 ≤ R.cells ∧ ks + s1 ≤ R.slots)
    (kr : ∀ M', Ψ M' → Jq p l e R s m args below meth c G nL Q (pc + 3) lv st M' (kc + c1) (ks + s1)) : Jq p l e R s m args below meth c G nL Q pc lv stk M kc ks :=
  Q_callINp C hd hm hl9 hi9 hy9 K (by rintro E M' ⟨_, h, -⟩; cases h) hR hn hst h8 hf (by rintro v M' ⟨_, h, h2⟩; cases h; exact kr _ h2)
theorem Q_istN (C : jX0 p l R s m args meth c G cc nL own ret) {n : Fin 4} {i : Nat} {x : Int32} {lv2 : List (Option Value)} (hd : decode cc pc = .ok (.istore_n n, 1)) (hi : (n : Nat) = i) (hn : i < nL) (hok : jok lv i = true) (h2 : lv.set i (some (.int x)) = lv2) (k : Jq p l e R s m args below meth c G nL Q (pc + 1) lv2 (st) M kc ks) : Jq p l e R s m args below meth c G nL Q (pc) lv (.int x :: st) M kc ks := by
  subst h2
  exact Q_istore_n C hd hi hn hok k
end QP
set_option maxHeartbeats 4000000 in
set_option maxRecDepth 100000 in
theorem i_X4 (l : Launch) (G : jG) (M : jMem) (a ml : Nat) (h0 : M.1 (a) = some (.inr (4, [.null, .null, .int (nI 0)]))) (g0 : M.2 = some (a + 1))  (ha : a + 2 < 875) (hml : ml ≤ 60) : jCp l G yX4_init cX4_init 2 none 1 30 2 (13 * ml) [.ref (a), .int (nI ml)] M (fun o => ∃ M', o = .inl (none, M') ∧ M'.2 = some (a + 3) ∧ (M'.1 (a) = some (.inr (4, [.ref (a + 1), .ref (a + 2), .int (nI 0)])) ∧ M'.1 (a + 1) = some (nA (ml * 12) (fun _ => 0)) ∧ M'.1 (a + 2) = some (nA (ml) (fun _ => 0))) ∧ ∀ q, (q < a ∨ a + 3 ≤ q) → M'.1 q = M.1 q) := by
  refine jCp.ofN (by decide) 0 rfl [some (.ref (a)), some (.int (nI ml))] rfl (fun p e s m args below meth c C hNm => ?_)
  have r0 : ∀ q, (q < a ∨ a + 3 ≤ q) → M.1 q = M.1 q := fun _ _ => rfl
  refine Q_aload_n (pc := 0) C dX4_init_0 rfl rfl ?_
  refine Q_obj (pc := 1) C dX4_init_1 ol_X4 o_im o_cd (jle rfl) (jle rfl) ?_
  refine Q_aload_n (pc := 4) C dX4_init_4 rfl rfl ?_
  refine Q_iconst (pc := 5) (v := nI 0) C dX4_init_5 (by decide) ?_
  obtain ⟨M1, e1⟩ : ∃ z, z = ju M (a) (.inr (4, [.null, .null, .int (nI 0)])) := ⟨_, rfl⟩
  refine Q_putU (pc := 6) (fs := [.null, .null, .int (nI 0)]) C dX4_init_6 p_X4_9 h0 (jlt rfl) rfl rfl e1.symm ?_
  have f1_a : M1.1 (a) = some (.inr (4, [.null, .null, .int (nI 0)])) := by rw [e1]; exact ju_eq
  have r1 : ∀ q, (q < a ∨ a + 3 ≤ q) → M1.1 q = M.1 q := fun q h => by rw [e1]; exact (ju_ne (by omega)).trans (r0 q h)
  have g1 : M1.2 = some (a + 1) := by rw [e1]; exact g0
  refine Q_aload_n (pc := 9) C dX4_init_9 rfl rfl ?_
  refine Q_iload_n (pc := 10) C dX4_init_10 rfl rfl ?_
  refine Q_bipush (pc := 11) (v := nI 12) C dX4_init_11 (by decide) ?_
  refine Q_imulN (pc := 13) C dX4_init_13 ?_
  refine Q_newi (pc := 14) (k := a + 1) (n := a + 1) (N := ml * 12) C dX4_init_14 a_int (by omega) g1 (by unfold jin; omega) (jr_lo (by omega)) (by simp only [jR]; try omega) (by simp only [jR]; try omega) ?_
  obtain ⟨M2, e2⟩ : ∃ z, z = jn M1 (a + 1) (nA (ml * 12) (fun _ => 0)) (a + 1) := ⟨_, rfl⟩
  rw [← e2]
  have f2_a : M2.1 (a) = some (.inr (4, [.null, .null, .int (nI 0)])) := by rw [e2]; exact (jn_ne (by omega)).trans f1_a
  have f2_a___1 : M2.1 (a + 1) = some (nA (ml * 12) (fun _ => 0)) := by rw [e2]; exact jn_eq
  have r2 : ∀ q, (q < a ∨ a + 3 ≤ q) → M2.1 q = M.1 q := fun q h => by rw [e2]; exact (jn_ne (by omega)).trans (r1 q h)
  have g2 : M2.2 = some (a + 2) := by rw [e2]; rfl
  obtain ⟨M3, e3⟩ : ∃ z, z = ju M2 (a) (.inr (4, [.ref (a + 1), .null, .int (nI 0)])) := ⟨_, rfl⟩
  refine Q_putFU (pc := 16) (fs := [.null, .null, .int (nI 0)]) C hNm dX4_init_16 p_X4_15 f2_a (jlt rfl) rfl rfl e3.symm ?_
  have f3_a___1 : M3.1 (a + 1) = some (nA (ml * 12) (fun _ => 0)) := by rw [e3]; exact (ju_ne (by omega)).trans f2_a___1
  have f3_a : M3.1 (a) = some (.inr (4, [.ref (a + 1), .null, .int (nI 0)])) := by rw [e3]; exact ju_eq
  have r3 : ∀ q, (q < a ∨ a + 3 ≤ q) → M3.1 q = M.1 q := fun q h => by rw [e3]; exact (ju_ne (by omega)).trans (r2 q h)
  have g3 : M3.2 = some (a + 2) := by rw [e3]; exact g2
  refine Q_aload_n (pc := 19) C dX4_init_19 rfl rfl ?_
  refine Q_iload_n (pc := 20) C dX4_init_20 rfl rfl ?_
  refine Q_newi (pc := 21) (k := a + 2) (n := a + 2) (N := ml) C dX4_init_21 a_int (by omega) g3 (by unfold jin; omega) (jr_lo (by omega)) (by simp only [jR]; try omega) (by simp only [jR]; try omega) ?_
  obtain ⟨M4, e4⟩ : ∃ z, z = jn M3 (a + 2) (nA (ml) (fun _ => 0)) (a + 2) := ⟨_, rfl⟩
  rw [← e4]
  have f4_a : M4.1 (a) = some (.inr (4, [.ref (a + 1), .null, .int (nI 0)])) := by rw [e4]; exact (jn_ne (by omega)).trans f3_a
  have f4_a___1 : M4.1 (a + 1) = some (nA (ml * 12) (fun _ => 0)) := by rw [e4]; exact (jn_ne (by omega)).trans f3_a___1
  have f4_a___2 : M4.1 (a + 2) = some (nA (ml) (fun _ => 0)) := by rw [e4]; exact jn_eq
  have r4 : ∀ q, (q < a ∨ a + 3 ≤ q) → M4.1 q = M.1 q := fun q h => by rw [e4]; exact (jn_ne (by omega)).trans (r3 q h)
  have g4 : M4.2 = some (a + 3) := by rw [e4]; rfl
  obtain ⟨M5, e5⟩ : ∃ z, z = ju M4 (a) (.inr (4, [.ref (a + 1), .ref (a + 2), .int (nI 0)])) := ⟨_, rfl⟩
  refine Q_putFU (pc := 23) (fs := [.ref (a + 1), .null, .int (nI 0)]) C hNm dX4_init_23 p_X4_19 f4_a (jlt rfl) rfl rfl e5.symm ?_
  have f5_a___1 : M5.1 (a + 1) = some (nA (ml * 12) (fun _ => 0)) := by rw [e5]; exact (ju_ne (by omega)).trans f4_a___1
  have f5_a___2 : M5.1 (a + 2) = some (nA (ml) (fun _ => 0)) := by rw [e5]; exact (ju_ne (by omega)).trans f4_a___2
  have f5_a : M5.1 (a) = some (.inr (4, [.ref (a + 1), .ref (a + 2), .int (nI 0)])) := by rw [e5]; exact ju_eq
  have r5 : ∀ q, (q < a ∨ a + 3 ≤ q) → M5.1 q = M.1 q := fun q h => by rw [e5]; exact (ju_ne (by omega)).trans (r4 q h)
  have g5 : M5.2 = some (a + 3) := by rw [e5]; exact g4
  exact Jq.ofp (E_vret (pc := 26) C dX4_init_26 rfl ⟨M5, rfl, by rw [g5], ⟨by first | exact f5_a | (rw [f5_a]; rfl), by first | exact f5_a___1 | (rw [f5_a___1]; rfl), by first | exact f5_a___2 | (rw [f5_a___2]; rfl)⟩, r5⟩ (by omega) (by omega))
set_option maxHeartbeats 4000000 in
set_option maxRecDepth 100000 in
theorem i_X6 (l : Launch) (G : jG) (M : jMem) (a : Nat) (h0 : M.1 (a) = some (.inr (6, [.null, .int (nI 0), .int (nI 0), .int (nI 0)]))) (g0 : M.2 = some (a + 1))  (ha : a + 1 < 875) : jCp l G yX6_init cX6_init 1 none 1 30 1 (32) [.ref (a)] M (fun o => ∃ M', o = .inl (none, M') ∧ M'.2 = some (a + 2) ∧ (M'.1 (a) = some (.inr (6, [.ref (a + 1), .int (nI 136), .int (nI 0), .int (-1)])) ∧ M'.1 (a + 1) = some (rA 32 (fun _ => nI 0))) ∧ ∀ q, (q < a ∨ a + 2 ≤ q) → M'.1 q = M.1 q) := by
  refine jCp.ofN (by decide) 0 rfl [some (.ref (a))] rfl (fun p e s m args below meth c C hNm => ?_)
  have r0 : ∀ q, (q < a ∨ a + 2 ≤ q) → M.1 q = M.1 q := fun _ _ => rfl
  refine Q_aload_n (pc := 0) C dX6_init_0 rfl rfl ?_
  refine Q_obj (pc := 1) C dX6_init_1 ol_X6 o_im o_cd (jle rfl) (jle rfl) ?_
  refine Q_aload_n (pc := 4) C dX6_init_4 rfl rfl ?_
  refine Q_bipush (pc := 5) (v := nI 32) C dX6_init_5 (by decide) ?_
  refine Q_newi (pc := 7) (k := a + 1) (n := a + 1) (N := 32) C dX6_init_7 a_int (by omega) g0 (by unfold jin; omega) (jr_lo (by omega)) (by simp only [jR]; try omega) (by simp only [jR]; try omega) ?_
  obtain ⟨M1, e1⟩ : ∃ z, z = jn M (a + 1) (nA (32) (fun _ => 0)) (a + 1) := ⟨_, rfl⟩
  rw [← e1]
  have f1_a : M1.1 (a) = some (.inr (6, [.null, .int (nI 0), .int (nI 0), .int (nI 0)])) := by rw [e1]; exact (jn_ne (by omega)).trans h0
  have f1_a___1 : M1.1 (a + 1) = some (nA (32) (fun _ => 0)) := by rw [e1]; exact jn_eq
  have r1 : ∀ q, (q < a ∨ a + 2 ≤ q) → M1.1 q = M.1 q := fun q h => by rw [e1]; exact (jn_ne (by omega)).trans (r0 q h)
  have g1 : M1.2 = some (a + 2) := by rw [e1]; rfl
  obtain ⟨M2, e2⟩ : ∃ z, z = ju M1 (a) (.inr (6, [.ref (a + 1), .int (nI 0), .int (nI 0), .int (nI 0)])) := ⟨_, rfl⟩
  refine Q_putFU (pc := 9) (fs := [.null, .int (nI 0), .int (nI 0), .int (nI 0)]) C hNm dX6_init_9 p_X6_9 f1_a (jlt rfl) rfl rfl e2.symm ?_
  have f2_a___1 : M2.1 (a + 1) = some (nA (32) (fun _ => 0)) := by rw [e2]; exact (ju_ne (by omega)).trans f1_a___1
  have f2_a : M2.1 (a) = some (.inr (6, [.ref (a + 1), .int (nI 0), .int (nI 0), .int (nI 0)])) := by rw [e2]; exact ju_eq
  have r2 : ∀ q, (q < a ∨ a + 2 ≤ q) → M2.1 q = M.1 q := fun q h => by rw [e2]; exact (ju_ne (by omega)).trans (r1 q h)
  have g2 : M2.2 = some (a + 2) := by rw [e2]; exact g1
  refine Q_aload_n (pc := 12) C dX6_init_12 rfl rfl ?_
  refine Q_sipush (pc := 13) (v := nI 136) C dX6_init_13 (by decide) ?_
  obtain ⟨M3, e3⟩ : ∃ z, z = ju M2 (a) (.inr (6, [.ref (a + 1), .int (nI 136), .int (nI 0), .int (nI 0)])) := ⟨_, rfl⟩
  refine Q_putU (pc := 16) (fs := [.ref (a + 1), .int (nI 0), .int (nI 0), .int (nI 0)]) C dX6_init_16 p_X6_15 f2_a (jlt rfl) rfl rfl e3.symm ?_
  have f3_a___1 : M3.1 (a + 1) = some (nA (32) (fun _ => 0)) := by rw [e3]; exact (ju_ne (by omega)).trans f2_a___1
  have f3_a : M3.1 (a) = some (.inr (6, [.ref (a + 1), .int (nI 136), .int (nI 0), .int (nI 0)])) := by rw [e3]; exact ju_eq
  have r3 : ∀ q, (q < a ∨ a + 2 ≤ q) → M3.1 q = M.1 q := fun q h => by rw [e3]; exact (ju_ne (by omega)).trans (r2 q h)
  have g3 : M3.2 = some (a + 2) := by rw [e3]; exact g2
  refine Q_aload_n (pc := 19) C dX6_init_19 rfl rfl ?_
  refine Q_iconst (pc := 20) (v := nI 0) C dX6_init_20 (by decide) ?_
  obtain ⟨M4, e4⟩ : ∃ z, z = ju M3 (a) (.inr (6, [.ref (a + 1), .int (nI 136), .int (nI 0), .int (nI 0)])) := ⟨_, rfl⟩
  refine Q_putU (pc := 21) (fs := [.ref (a + 1), .int (nI 136), .int (nI 0), .int (nI 0)]) C dX6_init_21 p_X6_19 f3_a (jlt rfl) rfl rfl e4.symm ?_
  have f4_a___1 : M4.1 (a + 1) = some (nA (32) (fun _ => 0)) := by rw [e4]; exact (ju_ne (by omega)).trans f3_a___1
  have f4_a : M4.1 (a) = some (.inr (6, [.ref (a + 1), .int (nI 136), .int (nI 0), .int (nI 0)])) := by rw [e4]; exact ju_eq
  have r4 : ∀ q, (q < a ∨ a + 2 ≤ q) → M4.1 q = M.1 q := fun q h => by rw [e4]; exact (ju_ne (by omega)).trans (r3 q h)
  have g4 : M4.2 = some (a + 2) := by rw [e4]; exact g3
  refine Q_aload_n (pc := 24) C dX6_init_24 rfl rfl ?_
  refine Q_iconst (pc := 25) (v := -1) C dX6_init_25 (by decide) ?_
  obtain ⟨M5, e5⟩ : ∃ z, z = ju M4 (a) (.inr (6, [.ref (a + 1), .int (nI 136), .int (nI 0), .int (-1)])) := ⟨_, rfl⟩
  refine Q_putU (pc := 26) (fs := [.ref (a + 1), .int (nI 136), .int (nI 0), .int (nI 0)]) C dX6_init_26 p_X6_22 f4_a (jlt rfl) rfl rfl e5.symm ?_
  have f5_a___1 : M5.1 (a + 1) = some (nA (32) (fun _ => 0)) := by rw [e5]; exact (ju_ne (by omega)).trans f4_a___1
  have f5_a : M5.1 (a) = some (.inr (6, [.ref (a + 1), .int (nI 136), .int (nI 0), .int (-1)])) := by rw [e5]; exact ju_eq
  have r5 : ∀ q, (q < a ∨ a + 2 ≤ q) → M5.1 q = M.1 q := fun q h => by rw [e5]; exact (ju_ne (by omega)).trans (r4 q h)
  have g5 : M5.2 = some (a + 2) := by rw [e5]; exact g4
  exact Jq.ofp (E_vret (pc := 29) C dX6_init_29 rfl ⟨M5, rfl, by rw [g5], ⟨by first | exact f5_a | (rw [f5_a]; rfl), by first | exact f5_a___1 | (rw [f5_a___1]; rfl)⟩, r5⟩ (by omega) (by omega))
set_option maxHeartbeats 4000000 in
set_option maxRecDepth 100000 in
theorem i_X3 (l : Launch) (G : jG) (M : jMem) (a : Nat) (h0 : M.1 (a) = some (.inr (3, [.null, .int (nI 0)]))) (g0 : M.2 = some (a + 1))  (ha : a + 1 < 875) : jCp l G yX3_init cX3_init 1 none 1 30 1 (96) [.ref (a)] M (fun o => ∃ M', o = .inl (none, M') ∧ M'.2 = some (a + 2) ∧ (M'.1 (a) = some (.inr (3, [.ref (a + 1), .int (nI 0)])) ∧ M'.1 (a + 1) = some (nA 96 (fun _ => 0))) ∧ ∀ q, (q < a ∨ a + 2 ≤ q) → M'.1 q = M.1 q) := by
  refine jCp.ofN (by decide) 0 rfl [some (.ref (a))] rfl (fun p e s m args below meth c C hNm => ?_)
  have r0 : ∀ q, (q < a ∨ a + 2 ≤ q) → M.1 q = M.1 q := fun _ _ => rfl
  refine Q_aload_n (pc := 0) C dX3_init_0 rfl rfl ?_
  refine Q_obj (pc := 1) C dX3_init_1 ol_X3 o_im o_cd (jle rfl) (jle rfl) ?_
  refine Q_aload_n (pc := 4) C dX3_init_4 rfl rfl ?_
  refine Q_bipush (pc := 5) (v := nI 96) C dX3_init_5 (by decide) ?_
  refine Q_newi (pc := 7) (k := a + 1) (n := a + 1) (N := 96) C dX3_init_7 a_int (by omega) g0 (by unfold jin; omega) (jr_lo (by omega)) (by simp only [jR]; try omega) (by simp only [jR]; try omega) ?_
  obtain ⟨M1, e1⟩ : ∃ z, z = jn M (a + 1) (nA (96) (fun _ => 0)) (a + 1) := ⟨_, rfl⟩
  rw [← e1]
  have f1_a : M1.1 (a) = some (.inr (3, [.null, .int (nI 0)])) := by rw [e1]; exact (jn_ne (by omega)).trans h0
  have f1_a___1 : M1.1 (a + 1) = some (nA (96) (fun _ => 0)) := by rw [e1]; exact jn_eq
  have r1 : ∀ q, (q < a ∨ a + 2 ≤ q) → M1.1 q = M.1 q := fun q h => by rw [e1]; exact (jn_ne (by omega)).trans (r0 q h)
  have g1 : M1.2 = some (a + 2) := by rw [e1]; rfl
  obtain ⟨M2, e2⟩ : ∃ z, z = ju M1 (a) (.inr (3, [.ref (a + 1), .int (nI 0)])) := ⟨_, rfl⟩
  refine Q_putFU (pc := 9) (fs := [.null, .int (nI 0)]) C hNm dX3_init_9 p_X3_9 f1_a (jlt rfl) rfl rfl e2.symm ?_
  have f2_a___1 : M2.1 (a + 1) = some (nA (96) (fun _ => 0)) := by rw [e2]; exact (ju_ne (by omega)).trans f1_a___1
  have f2_a : M2.1 (a) = some (.inr (3, [.ref (a + 1), .int (nI 0)])) := by rw [e2]; exact ju_eq
  have r2 : ∀ q, (q < a ∨ a + 2 ≤ q) → M2.1 q = M.1 q := fun q h => by rw [e2]; exact (ju_ne (by omega)).trans (r1 q h)
  have g2 : M2.2 = some (a + 2) := by rw [e2]; exact g1
  refine Q_aload_n (pc := 12) C dX3_init_12 rfl rfl ?_
  refine Q_iconst (pc := 13) (v := nI 0) C dX3_init_13 (by decide) ?_
  obtain ⟨M3, e3⟩ : ∃ z, z = ju M2 (a) (.inr (3, [.ref (a + 1), .int (nI 0)])) := ⟨_, rfl⟩
  refine Q_putU (pc := 14) (fs := [.ref (a + 1), .int (nI 0)]) C dX3_init_14 p_X3_15 f2_a (jlt rfl) rfl rfl e3.symm ?_
  have f3_a___1 : M3.1 (a + 1) = some (nA (96) (fun _ => 0)) := by rw [e3]; exact (ju_ne (by omega)).trans f2_a___1
  have f3_a : M3.1 (a) = some (.inr (3, [.ref (a + 1), .int (nI 0)])) := by rw [e3]; exact ju_eq
  have r3 : ∀ q, (q < a ∨ a + 2 ≤ q) → M3.1 q = M.1 q := fun q h => by rw [e3]; exact (ju_ne (by omega)).trans (r2 q h)
  have g3 : M3.2 = some (a + 2) := by rw [e3]; exact g2
  exact Jq.ofp (E_vret (pc := 17) C dX3_init_17 rfl ⟨M3, rfl, by rw [g3], ⟨by first | exact f3_a | (rw [f3_a]; rfl), by first | exact f3_a___1 | (rw [f3_a___1]; rfl)⟩, r3⟩ (by omega) (by omega))
set_option maxHeartbeats 4000000 in
set_option maxRecDepth 100000 in
theorem i_X8 (l : Launch) (G : jG) (M : jMem)  (h0 : M.1 (4) = some (.inr (8, [.null, .null, .null, .null, .int (nI 0), .int (nI 0)]))) (g0 : M.2 = some (5))   : jCp l G yX8_init cX8_init 2 none 1 30 3 (12003) [.ref (4), .ref (1)] M (fun o => ∃ M', o = .inl (none, M') ∧ M'.2 = some (8) ∧ (M'.1 (4) = some (.inr (8, [.ref (1), .ref (5), .ref (6), .ref (7), .int (nI 0), .int (nI 0)])) ∧ M'.1 (5) = some (nA 4001 (fun _ => 0)) ∧ M'.1 (6) = some (nA 4001 (fun _ => 0)) ∧ M'.1 (7) = some (nA 4001 (fun _ => 0))) ∧ ∀ q, (q < 4 ∨ 8 ≤ q) → M'.1 q = M.1 q) := by
  refine jCp.ofN (by decide) 0 rfl [some (.ref (4)), some (.ref (1))] rfl (fun p e s m args below meth c C hNm => ?_)
  have r0 : ∀ q, (q < 4 ∨ 8 ≤ q) → M.1 q = M.1 q := fun _ _ => rfl
  refine Q_aload_n (pc := 0) C dX8_init_0 rfl rfl ?_
  refine Q_obj (pc := 1) C dX8_init_1 ol_X8 o_im o_cd (jle rfl) (jle rfl) ?_
  refine Q_aload_n (pc := 4) C dX8_init_4 rfl rfl ?_
  refine Q_sipush (pc := 5) (v := nI 4001) C dX8_init_5 (by decide) ?_
  refine Q_newi (pc := 8) (k := 5) (n := 5) (N := 4001) C dX8_init_8 a_int (by omega) g0 (by unfold jin; omega) (jr_lo (by omega)) (by simp only [jR]; try omega) (by simp only [jR]; try omega) ?_
  obtain ⟨M1, e1⟩ : ∃ z, z = jn M (5) (nA (4001) (fun _ => 0)) (5) := ⟨_, rfl⟩
  rw [← e1]
  have f1_4 : M1.1 (4) = some (.inr (8, [.null, .null, .null, .null, .int (nI 0), .int (nI 0)])) := by rw [e1]; exact (jn_ne (by omega)).trans h0
  have f1_5 : M1.1 (5) = some (nA (4001) (fun _ => 0)) := by rw [e1]; exact jn_eq
  have r1 : ∀ q, (q < 4 ∨ 8 ≤ q) → M1.1 q = M.1 q := fun q h => by rw [e1]; exact (jn_ne (by omega)).trans (r0 q h)
  have g1 : M1.2 = some (6) := by rw [e1]; rfl
  obtain ⟨M2, e2⟩ : ∃ z, z = ju M1 (4) (.inr (8, [.null, .ref (5), .null, .null, .int (nI 0), .int (nI 0)])) := ⟨_, rfl⟩
  refine Q_putFU (pc := 10) (fs := [.null, .null, .null, .null, .int (nI 0), .int (nI 0)]) C hNm dX8_init_10 p_X8_9 f1_4 (jlt rfl) rfl rfl e2.symm ?_
  have f2_5 : M2.1 (5) = some (nA (4001) (fun _ => 0)) := by rw [e2]; exact (ju_ne (by omega)).trans f1_5
  have f2_4 : M2.1 (4) = some (.inr (8, [.null, .ref (5), .null, .null, .int (nI 0), .int (nI 0)])) := by rw [e2]; exact ju_eq
  have r2 : ∀ q, (q < 4 ∨ 8 ≤ q) → M2.1 q = M.1 q := fun q h => by rw [e2]; exact (ju_ne (by omega)).trans (r1 q h)
  have g2 : M2.2 = some (6) := by rw [e2]; exact g1
  refine Q_aload_n (pc := 13) C dX8_init_13 rfl rfl ?_
  refine Q_sipush (pc := 14) (v := nI 4001) C dX8_init_14 (by decide) ?_
  refine Q_newi (pc := 17) (k := 6) (n := 6) (N := 4001) C dX8_init_17 a_int (by omega) g2 (by unfold jin; omega) (jr_lo (by omega)) (by simp only [jR]; try omega) (by simp only [jR]; try omega) ?_
  obtain ⟨M3, e3⟩ : ∃ z, z = jn M2 (6) (nA (4001) (fun _ => 0)) (6) := ⟨_, rfl⟩
  rw [← e3]
  have f3_4 : M3.1 (4) = some (.inr (8, [.null, .ref (5), .null, .null, .int (nI 0), .int (nI 0)])) := by rw [e3]; exact (jn_ne (by omega)).trans f2_4
  have f3_5 : M3.1 (5) = some (nA (4001) (fun _ => 0)) := by rw [e3]; exact (jn_ne (by omega)).trans f2_5
  have f3_6 : M3.1 (6) = some (nA (4001) (fun _ => 0)) := by rw [e3]; exact jn_eq
  have r3 : ∀ q, (q < 4 ∨ 8 ≤ q) → M3.1 q = M.1 q := fun q h => by rw [e3]; exact (jn_ne (by omega)).trans (r2 q h)
  have g3 : M3.2 = some (7) := by rw [e3]; rfl
  obtain ⟨M4, e4⟩ : ∃ z, z = ju M3 (4) (.inr (8, [.null, .ref (5), .ref (6), .null, .int (nI 0), .int (nI 0)])) := ⟨_, rfl⟩
  refine Q_putFU (pc := 19) (fs := [.null, .ref (5), .null, .null, .int (nI 0), .int (nI 0)]) C hNm dX8_init_19 p_X8_15 f3_4 (jlt rfl) rfl rfl e4.symm ?_
  have f4_5 : M4.1 (5) = some (nA (4001) (fun _ => 0)) := by rw [e4]; exact (ju_ne (by omega)).trans f3_5
  have f4_6 : M4.1 (6) = some (nA (4001) (fun _ => 0)) := by rw [e4]; exact (ju_ne (by omega)).trans f3_6
  have f4_4 : M4.1 (4) = some (.inr (8, [.null, .ref (5), .ref (6), .null, .int (nI 0), .int (nI 0)])) := by rw [e4]; exact ju_eq
  have r4 : ∀ q, (q < 4 ∨ 8 ≤ q) → M4.1 q = M.1 q := fun q h => by rw [e4]; exact (ju_ne (by omega)).trans (r3 q h)
  have g4 : M4.2 = some (7) := by rw [e4]; exact g3
  refine Q_aload_n (pc := 22) C dX8_init_22 rfl rfl ?_
  refine Q_sipush (pc := 23) (v := nI 4001) C dX8_init_23 (by decide) ?_
  refine Q_newi (pc := 26) (k := 7) (n := 7) (N := 4001) C dX8_init_26 a_int (by omega) g4 (by unfold jin; omega) (jr_lo (by omega)) (by simp only [jR]; try omega) (by simp only [jR]; try omega) ?_
  obtain ⟨M5, e5⟩ : ∃ z, z = jn M4 (7) (nA (4001) (fun _ => 0)) (7) := ⟨_, rfl⟩
  rw [← e5]
  have f5_4 : M5.1 (4) = some (.inr (8, [.null, .ref (5), .ref (6), .null, .int (nI 0), .int (nI 0)])) := by rw [e5]; exact (jn_ne (by omega)).trans f4_4
  have f5_5 : M5.1 (5) = some (nA (4001) (fun _ => 0)) := by rw [e5]; exact (jn_ne (by omega)).trans f4_5
  have f5_6 : M5.1 (6) = some (nA (4001) (fun _ => 0)) := by rw [e5]; exact (jn_ne (by omega)).trans f4_6
  have f5_7 : M5.1 (7) = some (nA (4001) (fun _ => 0)) := by rw [e5]; exact jn_eq
  have r5 : ∀ q, (q < 4 ∨ 8 ≤ q) → M5.1 q = M.1 q := fun q h => by rw [e5]; exact (jn_ne (by omega)).trans (r4 q h)
  have g5 : M5.2 = some (8) := by rw [e5]; rfl
  obtain ⟨M6, e6⟩ : ∃ z, z = ju M5 (4) (.inr (8, [.null, .ref (5), .ref (6), .ref (7), .int (nI 0), .int (nI 0)])) := ⟨_, rfl⟩
  refine Q_putFU (pc := 28) (fs := [.null, .ref (5), .ref (6), .null, .int (nI 0), .int (nI 0)]) C hNm dX8_init_28 p_X8_18 f5_4 (jlt rfl) rfl rfl e6.symm ?_
  have f6_5 : M6.1 (5) = some (nA (4001) (fun _ => 0)) := by rw [e6]; exact (ju_ne (by omega)).trans f5_5
  have f6_6 : M6.1 (6) = some (nA (4001) (fun _ => 0)) := by rw [e6]; exact (ju_ne (by omega)).trans f5_6
  have f6_7 : M6.1 (7) = some (nA (4001) (fun _ => 0)) := by rw [e6]; exact (ju_ne (by omega)).trans f5_7
  have f6_4 : M6.1 (4) = some (.inr (8, [.null, .ref (5), .ref (6), .ref (7), .int (nI 0), .int (nI 0)])) := by rw [e6]; exact ju_eq
  have r6 : ∀ q, (q < 4 ∨ 8 ≤ q) → M6.1 q = M.1 q := fun q h => by rw [e6]; exact (ju_ne (by omega)).trans (r5 q h)
  have g6 : M6.2 = some (8) := by rw [e6]; exact g5
  refine Q_aload_n (pc := 31) C dX8_init_31 rfl rfl ?_
  refine Q_iconst (pc := 32) (v := nI 0) C dX8_init_32 (by decide) ?_
  obtain ⟨M7, e7⟩ : ∃ z, z = ju M6 (4) (.inr (8, [.null, .ref (5), .ref (6), .ref (7), .int (nI 0), .int (nI 0)])) := ⟨_, rfl⟩
  refine Q_putU (pc := 33) (fs := [.null, .ref (5), .ref (6), .ref (7), .int (nI 0), .int (nI 0)]) C dX8_init_33 p_X8_21 f6_4 (jlt rfl) rfl rfl e7.symm ?_
  have f7_5 : M7.1 (5) = some (nA (4001) (fun _ => 0)) := by rw [e7]; exact (ju_ne (by omega)).trans f6_5
  have f7_6 : M7.1 (6) = some (nA (4001) (fun _ => 0)) := by rw [e7]; exact (ju_ne (by omega)).trans f6_6
  have f7_7 : M7.1 (7) = some (nA (4001) (fun _ => 0)) := by rw [e7]; exact (ju_ne (by omega)).trans f6_7
  have f7_4 : M7.1 (4) = some (.inr (8, [.null, .ref (5), .ref (6), .ref (7), .int (nI 0), .int (nI 0)])) := by rw [e7]; exact ju_eq
  have r7 : ∀ q, (q < 4 ∨ 8 ≤ q) → M7.1 q = M.1 q := fun q h => by rw [e7]; exact (ju_ne (by omega)).trans (r6 q h)
  have g7 : M7.2 = some (8) := by rw [e7]; exact g6
  refine Q_aload_n (pc := 36) C dX8_init_36 rfl rfl ?_
  refine Q_iconst (pc := 37) (v := nI 0) C dX8_init_37 (by decide) ?_
  obtain ⟨M8, e8⟩ : ∃ z, z = ju M7 (4) (.inr (8, [.null, .ref (5), .ref (6), .ref (7), .int (nI 0), .int (nI 0)])) := ⟨_, rfl⟩
  refine Q_putU (pc := 38) (fs := [.null, .ref (5), .ref (6), .ref (7), .int (nI 0), .int (nI 0)]) C dX8_init_38 p_X8_25 f7_4 (jlt rfl) rfl rfl e8.symm ?_
  have f8_5 : M8.1 (5) = some (nA (4001) (fun _ => 0)) := by rw [e8]; exact (ju_ne (by omega)).trans f7_5
  have f8_6 : M8.1 (6) = some (nA (4001) (fun _ => 0)) := by rw [e8]; exact (ju_ne (by omega)).trans f7_6
  have f8_7 : M8.1 (7) = some (nA (4001) (fun _ => 0)) := by rw [e8]; exact (ju_ne (by omega)).trans f7_7
  have f8_4 : M8.1 (4) = some (.inr (8, [.null, .ref (5), .ref (6), .ref (7), .int (nI 0), .int (nI 0)])) := by rw [e8]; exact ju_eq
  have r8 : ∀ q, (q < 4 ∨ 8 ≤ q) → M8.1 q = M.1 q := fun q h => by rw [e8]; exact (ju_ne (by omega)).trans (r7 q h)
  have g8 : M8.2 = some (8) := by rw [e8]; exact g7
  refine Q_aload_n (pc := 41) C dX8_init_41 rfl rfl ?_
  refine Q_aload_n (pc := 42) C dX8_init_42 rfl rfl ?_
  obtain ⟨M9, e9⟩ : ∃ z, z = ju M8 (4) (.inr (8, [.ref (1), .ref (5), .ref (6), .ref (7), .int (nI 0), .int (nI 0)])) := ⟨_, rfl⟩
  refine Q_putFU (pc := 43) (fs := [.null, .ref (5), .ref (6), .ref (7), .int (nI 0), .int (nI 0)]) C hNm dX8_init_43 p_X8_28 f8_4 (jlt rfl) rfl rfl e9.symm ?_
  have f9_5 : M9.1 (5) = some (nA (4001) (fun _ => 0)) := by rw [e9]; exact (ju_ne (by omega)).trans f8_5
  have f9_6 : M9.1 (6) = some (nA (4001) (fun _ => 0)) := by rw [e9]; exact (ju_ne (by omega)).trans f8_6
  have f9_7 : M9.1 (7) = some (nA (4001) (fun _ => 0)) := by rw [e9]; exact (ju_ne (by omega)).trans f8_7
  have f9_4 : M9.1 (4) = some (.inr (8, [.ref (1), .ref (5), .ref (6), .ref (7), .int (nI 0), .int (nI 0)])) := by rw [e9]; exact ju_eq
  have r9 : ∀ q, (q < 4 ∨ 8 ≤ q) → M9.1 q = M.1 q := fun q h => by rw [e9]; exact (ju_ne (by omega)).trans (r8 q h)
  have g9 : M9.2 = some (8) := by rw [e9]; exact g8
  exact Jq.ofp (E_vret (pc := 46) C dX8_init_46 rfl ⟨M9, rfl, by rw [g9], ⟨by first | exact f9_4 | (rw [f9_4]; rfl), by first | exact f9_5 | (rw [f9_5]; rfl), by first | exact f9_6 | (rw [f9_6]; rfl), by first | exact f9_7 | (rw [f9_7]; rfl)⟩, r9⟩ (by omega) (by omega))
set_option maxHeartbeats 4000000 in
set_option maxRecDepth 100000 in
theorem i_X9 (l : Launch) (G : jG) (M : jMem)  (h0 : M.1 (3) = some (.inr (9, [.null, .null, .int (nI 0), .int (nI 0), .int (nI 0), .int (nI 0), .int (nI 0)]))) (g0 : M.2 = some (4))   : jCp l G yX9_init cX9_init 2 none 2 51 4 (12009) [.ref (3), .ref (1)] M (fun o => ∃ M', o = .inl (none, M') ∧ M'.2 = some (8) ∧ (M'.1 (3) = some (.inr (9, [.ref (1), .ref (4), .int (nI 0), .int (nI 128), .int (nI 0), .int (nI 0), .int (-1)])) ∧ M'.1 (4) = some (.inr (8, [.ref (1), .ref (5), .ref (6), .ref (7), .int (nI 0), .int (nI 0)])) ∧ M'.1 (5) = some (nA 4001 (fun _ => 0)) ∧ M'.1 (6) = some (nA 4001 (fun _ => 0)) ∧ M'.1 (7) = some (nA 4001 (fun _ => 0))) ∧ ∀ q, (q < 3 ∨ 8 ≤ q) → M'.1 q = M.1 q) := by
  refine jCp.ofN (by decide) 0 rfl [some (.ref (3)), some (.ref (1))] rfl (fun p e s m args below meth c C hNm => ?_)
  have r0 : ∀ q, (q < 3 ∨ 8 ≤ q) → M.1 q = M.1 q := fun _ _ => rfl
  refine Q_aload_n (pc := 0) C dX9_init_0 rfl rfl ?_
  refine Q_obj (pc := 1) C dX9_init_1 ol_X9 o_im o_cd (jle rfl) (jle rfl) ?_
  refine Q_aload_n (pc := 4) C dX9_init_4 rfl rfl ?_
  refine Q_iconst (pc := 5) (v := nI 0) C dX9_init_5 (by decide) ?_
  obtain ⟨M1, e1⟩ : ∃ z, z = ju M (3) (.inr (9, [.null, .null, .int (nI 0), .int (nI 0), .int (nI 0), .int (nI 0), .int (nI 0)])) := ⟨_, rfl⟩
  refine Q_putU (pc := 6) (fs := [.null, .null, .int (nI 0), .int (nI 0), .int (nI 0), .int (nI 0), .int (nI 0)]) C dX9_init_6 p_X9_9 h0 (jlt rfl) rfl rfl e1.symm ?_
  have f1_3 : M1.1 (3) = some (.inr (9, [.null, .null, .int (nI 0), .int (nI 0), .int (nI 0), .int (nI 0), .int (nI 0)])) := by rw [e1]; exact ju_eq
  have r1 : ∀ q, (q < 3 ∨ 8 ≤ q) → M1.1 q = M.1 q := fun q h => by rw [e1]; exact (ju_ne (by omega)).trans (r0 q h)
  have g1 : M1.2 = some (4) := by rw [e1]; exact g0
  refine Q_aload_n (pc := 9) C dX9_init_9 rfl rfl ?_
  refine Q_sipush (pc := 10) (v := nI 128) C dX9_init_10 (by decide) ?_
  obtain ⟨M2, e2⟩ : ∃ z, z = ju M1 (3) (.inr (9, [.null, .null, .int (nI 0), .int (nI 128), .int (nI 0), .int (nI 0), .int (nI 0)])) := ⟨_, rfl⟩
  refine Q_putU (pc := 13) (fs := [.null, .null, .int (nI 0), .int (nI 0), .int (nI 0), .int (nI 0), .int (nI 0)]) C dX9_init_13 p_X9_15 f1_3 (jlt rfl) rfl rfl e2.symm ?_
  have f2_3 : M2.1 (3) = some (.inr (9, [.null, .null, .int (nI 0), .int (nI 128), .int (nI 0), .int (nI 0), .int (nI 0)])) := by rw [e2]; exact ju_eq
  have r2 : ∀ q, (q < 3 ∨ 8 ≤ q) → M2.1 q = M.1 q := fun q h => by rw [e2]; exact (ju_ne (by omega)).trans (r1 q h)
  have g2 : M2.2 = some (4) := by rw [e2]; exact g1
  refine Q_aload_n (pc := 16) C dX9_init_16 rfl rfl ?_
  refine Q_iconst (pc := 17) (v := nI 0) C dX9_init_17 (by decide) ?_
  obtain ⟨M3, e3⟩ : ∃ z, z = ju M2 (3) (.inr (9, [.null, .null, .int (nI 0), .int (nI 128), .int (nI 0), .int (nI 0), .int (nI 0)])) := ⟨_, rfl⟩
  refine Q_putU (pc := 18) (fs := [.null, .null, .int (nI 0), .int (nI 128), .int (nI 0), .int (nI 0), .int (nI 0)]) C dX9_init_18 p_X9_18 f2_3 (jlt rfl) rfl rfl e3.symm ?_
  have f3_3 : M3.1 (3) = some (.inr (9, [.null, .null, .int (nI 0), .int (nI 128), .int (nI 0), .int (nI 0), .int (nI 0)])) := by rw [e3]; exact ju_eq
  have r3 : ∀ q, (q < 3 ∨ 8 ≤ q) → M3.1 q = M.1 q := fun q h => by rw [e3]; exact (ju_ne (by omega)).trans (r2 q h)
  have g3 : M3.2 = some (4) := by rw [e3]; exact g2
  refine Q_aload_n (pc := 21) C dX9_init_21 rfl rfl ?_
  refine Q_iconst (pc := 22) (v := nI 0) C dX9_init_22 (by decide) ?_
  obtain ⟨M4, e4⟩ : ∃ z, z = ju M3 (3) (.inr (9, [.null, .null, .int (nI 0), .int (nI 128), .int (nI 0), .int (nI 0), .int (nI 0)])) := ⟨_, rfl⟩
  refine Q_putU (pc := 23) (fs := [.null, .null, .int (nI 0), .int (nI 128), .int (nI 0), .int (nI 0), .int (nI 0)]) C dX9_init_23 p_X9_21 f3_3 (jlt rfl) rfl rfl e4.symm ?_
  have f4_3 : M4.1 (3) = some (.inr (9, [.null, .null, .int (nI 0), .int (nI 128), .int (nI 0), .int (nI 0), .int (nI 0)])) := by rw [e4]; exact ju_eq
  have r4 : ∀ q, (q < 3 ∨ 8 ≤ q) → M4.1 q = M.1 q := fun q h => by rw [e4]; exact (ju_ne (by omega)).trans (r3 q h)
  have g4 : M4.2 = some (4) := by rw [e4]; exact g3
  refine Q_aload_n (pc := 26) C dX9_init_26 rfl rfl ?_
  refine Q_iconst (pc := 27) (v := -1) C dX9_init_27 (by decide) ?_
  obtain ⟨M5, e5⟩ : ∃ z, z = ju M4 (3) (.inr (9, [.null, .null, .int (nI 0), .int (nI 128), .int (nI 0), .int (nI 0), .int (-1)])) := ⟨_, rfl⟩
  refine Q_putU (pc := 28) (fs := [.null, .null, .int (nI 0), .int (nI 128), .int (nI 0), .int (nI 0), .int (nI 0)]) C dX9_init_28 p_X9_24 f4_3 (jlt rfl) rfl rfl e5.symm ?_
  have f5_3 : M5.1 (3) = some (.inr (9, [.null, .null, .int (nI 0), .int (nI 128), .int (nI 0), .int (nI 0), .int (-1)])) := by rw [e5]; exact ju_eq
  have r5 : ∀ q, (q < 3 ∨ 8 ≤ q) → M5.1 q = M.1 q := fun q h => by rw [e5]; exact (ju_ne (by omega)).trans (r4 q h)
  have g5 : M5.2 = some (4) := by rw [e5]; exact g4
  refine Q_aload_n (pc := 31) C dX9_init_31 rfl rfl ?_
  refine Q_aload_n (pc := 32) C dX9_init_32 rfl rfl ?_
  obtain ⟨M6, e6⟩ : ∃ z, z = ju M5 (3) (.inr (9, [.ref (1), .null, .int (nI 0), .int (nI 128), .int (nI 0), .int (nI 0), .int (-1)])) := ⟨_, rfl⟩
  refine Q_putFU (pc := 33) (fs := [.null, .null, .int (nI 0), .int (nI 128), .int (nI 0), .int (nI 0), .int (-1)]) C hNm dX9_init_33 p_X9_27 f5_3 (jlt rfl) rfl rfl e6.symm ?_
  have f6_3 : M6.1 (3) = some (.inr (9, [.ref (1), .null, .int (nI 0), .int (nI 128), .int (nI 0), .int (nI 0), .int (-1)])) := by rw [e6]; exact ju_eq
  have r6 : ∀ q, (q < 3 ∨ 8 ≤ q) → M6.1 q = M.1 q := fun q h => by rw [e6]; exact (ju_ne (by omega)).trans (r5 q h)
  have g6 : M6.2 = some (4) := by rw [e6]; exact g5
  refine Q_aload_n (pc := 36) C dX9_init_36 rfl rfl ?_
  refine Q_new (pc := 37) (ci := 8) (fs := [.null, .null, .null, .null, .int (nI 0), .int (nI 0)]) (k := 4) (n := 4) C dX9_init_37 rfl cl_X9_31 in_X8 ii_X8 df_X8 rfl g6 (by unfold jin; omega) (jr_lo (by omega)) (by simp only [jR]; try omega) (by simp only [jR]; try omega) ?_
  obtain ⟨M7, e7⟩ : ∃ z, z = jn M6 (4) (.inr (8, [.null, .null, .null, .null, .int (nI 0), .int (nI 0)])) (4) := ⟨_, rfl⟩
  rw [← e7]
  have f7_3 : M7.1 (3) = some (.inr (9, [.ref (1), .null, .int (nI 0), .int (nI 128), .int (nI 0), .int (nI 0), .int (-1)])) := by rw [e7]; exact (jn_ne (by omega)).trans f6_3
  have f7_4 : M7.1 (4) = some (.inr (8, [.null, .null, .null, .null, .int (nI 0), .int (nI 0)])) := by rw [e7]; exact jn_eq
  have r7 : ∀ q, (q < 3 ∨ 8 ≤ q) → M7.1 q = M.1 q := fun q h => by rw [e7]; exact (jn_ne (by omega)).trans (r6 q h)
  have g7 : M7.2 = some (5) := by rw [e7]; rfl
  refine Q_dup (pc := 40) C dX9_init_40 rfl ?_
  refine Q_aload_n (pc := 41) C dX9_init_41 rfl rfl ?_
  refine Q_callIz (pc := 42) (k := 4) (As := [.ref (1)]) (st := [.ref (4), .ref (3)]) C dX9_init_42 m_X9_33 (i_X8 l G M7  f7_4 g7 ) ⟨jle rfl, jle rfl⟩ rfl rfl (jle rfl) ⟨by simp only [jR]; try omega, by simp only [jR]; try omega⟩ (fun M8 hz => ?_)
  obtain ⟨g8, ⟨z8_0, z8_1, z8_2, z8_3⟩, q8⟩ := hz
  have f8_3 : M8.1 (3) = some (.inr (9, [.ref (1), .null, .int (nI 0), .int (nI 128), .int (nI 0), .int (nI 0), .int (-1)])) := (q8 _ (by omega)).trans f7_3
  have r8 : ∀ q, (q < 3 ∨ 8 ≤ q) → M8.1 q = M.1 q := fun q h => (q8 q (by omega)).trans (r7 q h)
  obtain ⟨M9, e9⟩ : ∃ z, z = ju M8 (3) (.inr (9, [.ref (1), .ref (4), .int (nI 0), .int (nI 128), .int (nI 0), .int (nI 0), .int (-1)])) := ⟨_, rfl⟩
  refine Q_putFU (pc := 45) (fs := [.ref (1), .null, .int (nI 0), .int (nI 128), .int (nI 0), .int (nI 0), .int (-1)]) C hNm dX9_init_45 p_X9_36 f8_3 (jlt rfl) rfl rfl e9.symm ?_
  have f9_4 : M9.1 (4) = some (.inr (8, [.ref (1), .ref (5), .ref (6), .ref (7), .int (nI 0), .int (nI 0)])) := by rw [e9]; exact (ju_ne (by omega)).trans z8_0
  have f9_5 : M9.1 (5) = some (nA 4001 (fun _ => 0)) := by rw [e9]; exact (ju_ne (by omega)).trans z8_1
  have f9_6 : M9.1 (6) = some (nA 4001 (fun _ => 0)) := by rw [e9]; exact (ju_ne (by omega)).trans z8_2
  have f9_7 : M9.1 (7) = some (nA 4001 (fun _ => 0)) := by rw [e9]; exact (ju_ne (by omega)).trans z8_3
  have f9_3 : M9.1 (3) = some (.inr (9, [.ref (1), .ref (4), .int (nI 0), .int (nI 128), .int (nI 0), .int (nI 0), .int (-1)])) := by rw [e9]; exact ju_eq
  have r9 : ∀ q, (q < 3 ∨ 8 ≤ q) → M9.1 q = M.1 q := fun q h => by rw [e9]; exact (ju_ne (by omega)).trans (r8 q h)
  have g9 : M9.2 = some (8) := by rw [e9]; exact g8
  exact Jq.ofp (E_vret (pc := 48) C dX9_init_48 rfl ⟨M9, rfl, by rw [g9], ⟨by first | exact f9_3 | (rw [f9_3]; rfl), by first | exact f9_4 | (rw [f9_4]; rfl), by first | exact f9_5 | (rw [f9_5]; rfl), by first | exact f9_6 | (rw [f9_6]; rfl), by first | exact f9_7 | (rw [f9_7]; rfl)⟩, r9⟩ (by omega) (by omega))
set_option maxHeartbeats 4000000 in
set_option maxRecDepth 100000 in
theorem i_X7 (l : Launch) (G : jG) (M : jMem)  (h0 : M.1 (857) = some (.inr (7, [.null, .null, .null, .int (nI 0), .int (nI 0)]))) (g0 : M.2 = some (858))   : jCp l G yX7_init cX7_init 1 none 2 51 5 (1843) [.ref (857)] M (fun o => ∃ M', o = .inl (none, M') ∧ M'.2 = some (863) ∧ (M'.1 (857) = some (.inr (7, [.ref (858), .ref (859), .ref (862), .int (nI 0), .int (nI 0)])) ∧ M'.1 (858) = some (rA 1000 (fun _ => nI 0)) ∧ M'.1 (859) = some (.inr (4, [.ref (860), .ref (861), .int (nI 0)])) ∧ M'.1 (860) = some (nA (60 * 12) (fun _ => 0)) ∧ M'.1 (861) = some (nA (60) (fun _ => 0)) ∧ M'.1 (862) = some (nA 60 (fun _ => 0))) ∧ ∀ q, (q < 857 ∨ 863 ≤ q) → M'.1 q = M.1 q) := by
  refine jCp.ofN (by decide) 0 rfl [some (.ref (857))] rfl (fun p e s m args below meth c C hNm => ?_)
  have r0 : ∀ q, (q < 857 ∨ 863 ≤ q) → M.1 q = M.1 q := fun _ _ => rfl
  refine Q_aload_n (pc := 0) C dX7_init_0 rfl rfl ?_
  refine Q_obj (pc := 1) C dX7_init_1 ol_X7 o_im o_cd (jle rfl) (jle rfl) ?_
  refine Q_aload_n (pc := 4) C dX7_init_4 rfl rfl ?_
  refine Q_sipush (pc := 5) (v := nI 1000) C dX7_init_5 (by decide) ?_
  refine Q_newi (pc := 8) (k := 858) (n := 858) (N := 1000) C dX7_init_8 a_int (by omega) g0 (by unfold jin; omega) (jr_lo (by omega)) (by simp only [jR]; try omega) (by simp only [jR]; try omega) ?_
  obtain ⟨M1, e1⟩ : ∃ z, z = jn M (858) (nA (1000) (fun _ => 0)) (858) := ⟨_, rfl⟩
  rw [← e1]
  have f1_857 : M1.1 (857) = some (.inr (7, [.null, .null, .null, .int (nI 0), .int (nI 0)])) := by rw [e1]; exact (jn_ne (by omega)).trans h0
  have f1_858 : M1.1 (858) = some (nA (1000) (fun _ => 0)) := by rw [e1]; exact jn_eq
  have r1 : ∀ q, (q < 857 ∨ 863 ≤ q) → M1.1 q = M.1 q := fun q h => by rw [e1]; exact (jn_ne (by omega)).trans (r0 q h)
  have g1 : M1.2 = some (859) := by rw [e1]; rfl
  obtain ⟨M2, e2⟩ : ∃ z, z = ju M1 (857) (.inr (7, [.ref (858), .null, .null, .int (nI 0), .int (nI 0)])) := ⟨_, rfl⟩
  refine Q_putFU (pc := 10) (fs := [.null, .null, .null, .int (nI 0), .int (nI 0)]) C hNm dX7_init_10 p_X7_9 f1_857 (jlt rfl) rfl rfl e2.symm ?_
  have f2_858 : M2.1 (858) = some (nA (1000) (fun _ => 0)) := by rw [e2]; exact (ju_ne (by omega)).trans f1_858
  have f2_857 : M2.1 (857) = some (.inr (7, [.ref (858), .null, .null, .int (nI 0), .int (nI 0)])) := by rw [e2]; exact ju_eq
  have r2 : ∀ q, (q < 857 ∨ 863 ≤ q) → M2.1 q = M.1 q := fun q h => by rw [e2]; exact (ju_ne (by omega)).trans (r1 q h)
  have g2 : M2.2 = some (859) := by rw [e2]; exact g1
  refine Q_aload_n (pc := 13) C dX7_init_13 rfl rfl ?_
  refine Q_new (pc := 14) (ci := 4) (fs := [.null, .null, .int (nI 0)]) (k := 859) (n := 859) C dX7_init_14 rfl cl_X7_15 in_X4 ii_X4 df_X4 rfl g2 (by unfold jin; omega) (jr_lo (by omega)) (by simp only [jR]; try omega) (by simp only [jR]; try omega) ?_
  obtain ⟨M3, e3⟩ : ∃ z, z = jn M2 (859) (.inr (4, [.null, .null, .int (nI 0)])) (859) := ⟨_, rfl⟩
  rw [← e3]
  have f3_857 : M3.1 (857) = some (.inr (7, [.ref (858), .null, .null, .int (nI 0), .int (nI 0)])) := by rw [e3]; exact (jn_ne (by omega)).trans f2_857
  have f3_858 : M3.1 (858) = some (nA (1000) (fun _ => 0)) := by rw [e3]; exact (jn_ne (by omega)).trans f2_858
  have f3_859 : M3.1 (859) = some (.inr (4, [.null, .null, .int (nI 0)])) := by rw [e3]; exact jn_eq
  have r3 : ∀ q, (q < 857 ∨ 863 ≤ q) → M3.1 q = M.1 q := fun q h => by rw [e3]; exact (jn_ne (by omega)).trans (r2 q h)
  have g3 : M3.2 = some (860) := by rw [e3]; rfl
  refine Q_dup (pc := 17) C dX7_init_17 rfl ?_
  refine Q_bipush (pc := 18) (v := nI 60) C dX7_init_18 (by decide) ?_
  refine Q_callIz (pc := 20) (k := 859) (As := [.int (nI 60)]) (st := [.ref (859), .ref (857)]) C dX7_init_20 m_X7_17 (i_X4 l G M3 859 60 f3_859 g3 (by omega) (by omega)) ⟨jle rfl, jle rfl⟩ rfl rfl (jle rfl) ⟨by simp only [jR]; try omega, by simp only [jR]; try omega⟩ (fun M4 hz => ?_)
  obtain ⟨g4, ⟨z4_0, z4_1, z4_2⟩, q4⟩ := hz
  have f4_857 : M4.1 (857) = some (.inr (7, [.ref (858), .null, .null, .int (nI 0), .int (nI 0)])) := (q4 _ (by omega)).trans f3_857
  have f4_858 : M4.1 (858) = some (nA (1000) (fun _ => 0)) := (q4 _ (by omega)).trans f3_858
  have r4 : ∀ q, (q < 857 ∨ 863 ≤ q) → M4.1 q = M.1 q := fun q h => (q4 q (by omega)).trans (r3 q h)
  obtain ⟨M5, e5⟩ : ∃ z, z = ju M4 (857) (.inr (7, [.ref (858), .ref (859), .null, .int (nI 0), .int (nI 0)])) := ⟨_, rfl⟩
  refine Q_putFU (pc := 23) (fs := [.ref (858), .null, .null, .int (nI 0), .int (nI 0)]) C hNm dX7_init_23 p_X7_20 f4_857 (jlt rfl) rfl rfl e5.symm ?_
  have f5_858 : M5.1 (858) = some (nA (1000) (fun _ => 0)) := by rw [e5]; exact (ju_ne (by omega)).trans f4_858
  have f5_859 : M5.1 (859) = some (.inr (4, [.ref (860), .ref (861), .int (nI 0)])) := by rw [e5]; exact (ju_ne (by omega)).trans z4_0
  have f5_860 : M5.1 (860) = some (nA (60 * 12) (fun _ => 0)) := by rw [e5]; exact (ju_ne (by omega)).trans z4_1
  have f5_861 : M5.1 (861) = some (nA (60) (fun _ => 0)) := by rw [e5]; exact (ju_ne (by omega)).trans z4_2
  have f5_857 : M5.1 (857) = some (.inr (7, [.ref (858), .ref (859), .null, .int (nI 0), .int (nI 0)])) := by rw [e5]; exact ju_eq
  have r5 : ∀ q, (q < 857 ∨ 863 ≤ q) → M5.1 q = M.1 q := fun q h => by rw [e5]; exact (ju_ne (by omega)).trans (r4 q h)
  have g5 : M5.2 = some (862) := by rw [e5]; exact g4
  refine Q_aload_n (pc := 26) C dX7_init_26 rfl rfl ?_
  refine Q_bipush (pc := 27) (v := nI 60) C dX7_init_27 (by decide) ?_
  refine Q_newi (pc := 29) (k := 862) (n := 862) (N := 60) C dX7_init_29 a_int (by omega) g5 (by unfold jin; omega) (jr_lo (by omega)) (by simp only [jR]; try omega) (by simp only [jR]; try omega) ?_
  obtain ⟨M6, e6⟩ : ∃ z, z = jn M5 (862) (nA (60) (fun _ => 0)) (862) := ⟨_, rfl⟩
  rw [← e6]
  have f6_857 : M6.1 (857) = some (.inr (7, [.ref (858), .ref (859), .null, .int (nI 0), .int (nI 0)])) := by rw [e6]; exact (jn_ne (by omega)).trans f5_857
  have f6_858 : M6.1 (858) = some (nA (1000) (fun _ => 0)) := by rw [e6]; exact (jn_ne (by omega)).trans f5_858
  have f6_859 : M6.1 (859) = some (.inr (4, [.ref (860), .ref (861), .int (nI 0)])) := by rw [e6]; exact (jn_ne (by omega)).trans f5_859
  have f6_860 : M6.1 (860) = some (nA (60 * 12) (fun _ => 0)) := by rw [e6]; exact (jn_ne (by omega)).trans f5_860
  have f6_861 : M6.1 (861) = some (nA (60) (fun _ => 0)) := by rw [e6]; exact (jn_ne (by omega)).trans f5_861
  have f6_862 : M6.1 (862) = some (nA (60) (fun _ => 0)) := by rw [e6]; exact jn_eq
  have r6 : ∀ q, (q < 857 ∨ 863 ≤ q) → M6.1 q = M.1 q := fun q h => by rw [e6]; exact (jn_ne (by omega)).trans (r5 q h)
  have g6 : M6.2 = some (863) := by rw [e6]; rfl
  obtain ⟨M7, e7⟩ : ∃ z, z = ju M6 (857) (.inr (7, [.ref (858), .ref (859), .ref (862), .int (nI 0), .int (nI 0)])) := ⟨_, rfl⟩
  refine Q_putFU (pc := 31) (fs := [.ref (858), .ref (859), .null, .int (nI 0), .int (nI 0)]) C hNm dX7_init_31 p_X7_24 f6_857 (jlt rfl) rfl rfl e7.symm ?_
  have f7_858 : M7.1 (858) = some (nA (1000) (fun _ => 0)) := by rw [e7]; exact (ju_ne (by omega)).trans f6_858
  have f7_859 : M7.1 (859) = some (.inr (4, [.ref (860), .ref (861), .int (nI 0)])) := by rw [e7]; exact (ju_ne (by omega)).trans f6_859
  have f7_860 : M7.1 (860) = some (nA (60 * 12) (fun _ => 0)) := by rw [e7]; exact (ju_ne (by omega)).trans f6_860
  have f7_861 : M7.1 (861) = some (nA (60) (fun _ => 0)) := by rw [e7]; exact (ju_ne (by omega)).trans f6_861
  have f7_862 : M7.1 (862) = some (nA (60) (fun _ => 0)) := by rw [e7]; exact (ju_ne (by omega)).trans f6_862
  have f7_857 : M7.1 (857) = some (.inr (7, [.ref (858), .ref (859), .ref (862), .int (nI 0), .int (nI 0)])) := by rw [e7]; exact ju_eq
  have r7 : ∀ q, (q < 857 ∨ 863 ≤ q) → M7.1 q = M.1 q := fun q h => by rw [e7]; exact (ju_ne (by omega)).trans (r6 q h)
  have g7 : M7.2 = some (863) := by rw [e7]; exact g6
  refine Q_aload_n (pc := 34) C dX7_init_34 rfl rfl ?_
  refine Q_iconst (pc := 35) (v := nI 0) C dX7_init_35 (by decide) ?_
  obtain ⟨M8, e8⟩ : ∃ z, z = ju M7 (857) (.inr (7, [.ref (858), .ref (859), .ref (862), .int (nI 0), .int (nI 0)])) := ⟨_, rfl⟩
  refine Q_putU (pc := 36) (fs := [.ref (858), .ref (859), .ref (862), .int (nI 0), .int (nI 0)]) C dX7_init_36 p_X7_27 f7_857 (jlt rfl) rfl rfl e8.symm ?_
  have f8_858 : M8.1 (858) = some (nA (1000) (fun _ => 0)) := by rw [e8]; exact (ju_ne (by omega)).trans f7_858
  have f8_859 : M8.1 (859) = some (.inr (4, [.ref (860), .ref (861), .int (nI 0)])) := by rw [e8]; exact (ju_ne (by omega)).trans f7_859
  have f8_860 : M8.1 (860) = some (nA (60 * 12) (fun _ => 0)) := by rw [e8]; exact (ju_ne (by omega)).trans f7_860
  have f8_861 : M8.1 (861) = some (nA (60) (fun _ => 0)) := by rw [e8]; exact (ju_ne (by omega)).trans f7_861
  have f8_862 : M8.1 (862) = some (nA (60) (fun _ => 0)) := by rw [e8]; exact (ju_ne (by omega)).trans f7_862
  have f8_857 : M8.1 (857) = some (.inr (7, [.ref (858), .ref (859), .ref (862), .int (nI 0), .int (nI 0)])) := by rw [e8]; exact ju_eq
  have r8 : ∀ q, (q < 857 ∨ 863 ≤ q) → M8.1 q = M.1 q := fun q h => by rw [e8]; exact (ju_ne (by omega)).trans (r7 q h)
  have g8 : M8.2 = some (863) := by rw [e8]; exact g7
  refine Q_aload_n (pc := 39) C dX7_init_39 rfl rfl ?_
  refine Q_iconst (pc := 40) (v := nI 0) C dX7_init_40 (by decide) ?_
  obtain ⟨M9, e9⟩ : ∃ z, z = ju M8 (857) (.inr (7, [.ref (858), .ref (859), .ref (862), .int (nI 0), .int (nI 0)])) := ⟨_, rfl⟩
  refine Q_putU (pc := 41) (fs := [.ref (858), .ref (859), .ref (862), .int (nI 0), .int (nI 0)]) C dX7_init_41 p_X7_31 f8_857 (jlt rfl) rfl rfl e9.symm ?_
  have f9_858 : M9.1 (858) = some (nA (1000) (fun _ => 0)) := by rw [e9]; exact (ju_ne (by omega)).trans f8_858
  have f9_859 : M9.1 (859) = some (.inr (4, [.ref (860), .ref (861), .int (nI 0)])) := by rw [e9]; exact (ju_ne (by omega)).trans f8_859
  have f9_860 : M9.1 (860) = some (nA (60 * 12) (fun _ => 0)) := by rw [e9]; exact (ju_ne (by omega)).trans f8_860
  have f9_861 : M9.1 (861) = some (nA (60) (fun _ => 0)) := by rw [e9]; exact (ju_ne (by omega)).trans f8_861
  have f9_862 : M9.1 (862) = some (nA (60) (fun _ => 0)) := by rw [e9]; exact (ju_ne (by omega)).trans f8_862
  have f9_857 : M9.1 (857) = some (.inr (7, [.ref (858), .ref (859), .ref (862), .int (nI 0), .int (nI 0)])) := by rw [e9]; exact ju_eq
  have r9 : ∀ q, (q < 857 ∨ 863 ≤ q) → M9.1 q = M.1 q := fun q h => by rw [e9]; exact (ju_ne (by omega)).trans (r8 q h)
  have g9 : M9.2 = some (863) := by rw [e9]; exact g8
  exact Jq.ofp (E_vret (pc := 44) C dX7_init_44 rfl ⟨M9, rfl, by rw [g9], ⟨by first | exact f9_857 | (rw [f9_857]; rfl), by first | exact f9_858 | (rw [f9_858]; rfl), by first | exact f9_859 | (rw [f9_859]; rfl), by first | exact f9_860 | (rw [f9_860]; rfl), by first | exact f9_861 | (rw [f9_861]; rfl), by first | exact f9_862 | (rw [f9_862]; rfl)⟩, r9⟩ (by omega) (by omega))
set_option maxHeartbeats 4000000 in
set_option maxRecDepth 100000 in
theorem i_X1 (l : Launch) (G : jG) (M : jMem)  (h0 : M.1 (863) = some (.inr (1, [.null, .null, .null]))) (g0 : M.2 = some (864))   : jCp l G yX1_init cX1_init 3 none 2 51 3 (81) [.ref (863), .ref (3), .ref (8)] M (fun o => ∃ M', o = .inl (none, M') ∧ M'.2 = some (867) ∧ (M'.1 (863) = some (.inr (1, [.ref (3), .ref (8), .ref (864)])) ∧ M'.1 (864) = some (.inr (4, [.ref (865), .ref (866), .int (nI 0)])) ∧ M'.1 (865) = some (nA (6 * 12) (fun _ => 0)) ∧ M'.1 (866) = some (nA (6) (fun _ => 0))) ∧ ∀ q, (q < 863 ∨ 867 ≤ q) → M'.1 q = M.1 q) := by
  refine jCp.ofN (by decide) 0 rfl [some (.ref (863)), some (.ref (3)), some (.ref (8))] rfl (fun p e s m args below meth c C hNm => ?_)
  have r0 : ∀ q, (q < 863 ∨ 867 ≤ q) → M.1 q = M.1 q := fun _ _ => rfl
  refine Q_aload_n (pc := 0) C dX1_init_0 rfl rfl ?_
  refine Q_obj (pc := 1) C dX1_init_1 ol_X1 o_im o_cd (jle rfl) (jle rfl) ?_
  refine Q_aload_n (pc := 4) C dX1_init_4 rfl rfl ?_
  refine Q_new (pc := 5) (ci := 4) (fs := [.null, .null, .int (nI 0)]) (k := 864) (n := 864) C dX1_init_5 rfl cl_X1_9 in_X4 ii_X4 df_X4 rfl g0 (by unfold jin; omega) (jr_lo (by omega)) (by simp only [jR]; try omega) (by simp only [jR]; try omega) ?_
  obtain ⟨M1, e1⟩ : ∃ z, z = jn M (864) (.inr (4, [.null, .null, .int (nI 0)])) (864) := ⟨_, rfl⟩
  rw [← e1]
  have f1_863 : M1.1 (863) = some (.inr (1, [.null, .null, .null])) := by rw [e1]; exact (jn_ne (by omega)).trans h0
  have f1_864 : M1.1 (864) = some (.inr (4, [.null, .null, .int (nI 0)])) := by rw [e1]; exact jn_eq
  have r1 : ∀ q, (q < 863 ∨ 867 ≤ q) → M1.1 q = M.1 q := fun q h => by rw [e1]; exact (jn_ne (by omega)).trans (r0 q h)
  have g1 : M1.2 = some (865) := by rw [e1]; rfl
  refine Q_dup (pc := 8) C dX1_init_8 rfl ?_
  refine Q_bipush (pc := 9) (v := nI 6) C dX1_init_9 (by decide) ?_
  refine Q_callIz (pc := 11) (k := 864) (As := [.int (nI 6)]) (st := [.ref (864), .ref (863)]) C dX1_init_11 m_X1_11 (i_X4 l G M1 864 6 f1_864 g1 (by omega) (by omega)) ⟨jle rfl, jle rfl⟩ rfl rfl (jle rfl) ⟨by simp only [jR]; try omega, by simp only [jR]; try omega⟩ (fun M2 hz => ?_)
  obtain ⟨g2, ⟨z2_0, z2_1, z2_2⟩, q2⟩ := hz
  have f2_863 : M2.1 (863) = some (.inr (1, [.null, .null, .null])) := (q2 _ (by omega)).trans f1_863
  have r2 : ∀ q, (q < 863 ∨ 867 ≤ q) → M2.1 q = M.1 q := fun q h => (q2 q (by omega)).trans (r1 q h)
  obtain ⟨M3, e3⟩ : ∃ z, z = ju M2 (863) (.inr (1, [.null, .null, .ref (864)])) := ⟨_, rfl⟩
  refine Q_putFU (pc := 14) (fs := [.null, .null, .null]) C hNm dX1_init_14 p_X1_14 f2_863 (jlt rfl) rfl rfl e3.symm ?_
  have f3_864 : M3.1 (864) = some (.inr (4, [.ref (865), .ref (866), .int (nI 0)])) := by rw [e3]; exact (ju_ne (by omega)).trans z2_0
  have f3_865 : M3.1 (865) = some (nA (6 * 12) (fun _ => 0)) := by rw [e3]; exact (ju_ne (by omega)).trans z2_1
  have f3_866 : M3.1 (866) = some (nA (6) (fun _ => 0)) := by rw [e3]; exact (ju_ne (by omega)).trans z2_2
  have f3_863 : M3.1 (863) = some (.inr (1, [.null, .null, .ref (864)])) := by rw [e3]; exact ju_eq
  have r3 : ∀ q, (q < 863 ∨ 867 ≤ q) → M3.1 q = M.1 q := fun q h => by rw [e3]; exact (ju_ne (by omega)).trans (r2 q h)
  have g3 : M3.2 = some (867) := by rw [e3]; exact g2
  refine Q_aload_n (pc := 17) C dX1_init_17 rfl rfl ?_
  refine Q_aload_n (pc := 18) C dX1_init_18 rfl rfl ?_
  obtain ⟨M4, e4⟩ : ∃ z, z = ju M3 (863) (.inr (1, [.ref (3), .null, .ref (864)])) := ⟨_, rfl⟩
  refine Q_putFU (pc := 19) (fs := [.null, .null, .ref (864)]) C hNm dX1_init_19 p_X1_20 f3_863 (jlt rfl) rfl rfl e4.symm ?_
  have f4_864 : M4.1 (864) = some (.inr (4, [.ref (865), .ref (866), .int (nI 0)])) := by rw [e4]; exact (ju_ne (by omega)).trans f3_864
  have f4_865 : M4.1 (865) = some (nA (6 * 12) (fun _ => 0)) := by rw [e4]; exact (ju_ne (by omega)).trans f3_865
  have f4_866 : M4.1 (866) = some (nA (6) (fun _ => 0)) := by rw [e4]; exact (ju_ne (by omega)).trans f3_866
  have f4_863 : M4.1 (863) = some (.inr (1, [.ref (3), .null, .ref (864)])) := by rw [e4]; exact ju_eq
  have r4 : ∀ q, (q < 863 ∨ 867 ≤ q) → M4.1 q = M.1 q := fun q h => by rw [e4]; exact (ju_ne (by omega)).trans (r3 q h)
  have g4 : M4.2 = some (867) := by rw [e4]; exact g3
  refine Q_aload_n (pc := 22) C dX1_init_22 rfl rfl ?_
  refine Q_aload_n (pc := 23) C dX1_init_23 rfl rfl ?_
  obtain ⟨M5, e5⟩ : ∃ z, z = ju M4 (863) (.inr (1, [.ref (3), .ref (8), .ref (864)])) := ⟨_, rfl⟩
  refine Q_putFU (pc := 24) (fs := [.ref (3), .null, .ref (864)]) C hNm dX1_init_24 p_X1_24 f4_863 (jlt rfl) rfl rfl e5.symm ?_
  have f5_864 : M5.1 (864) = some (.inr (4, [.ref (865), .ref (866), .int (nI 0)])) := by rw [e5]; exact (ju_ne (by omega)).trans f4_864
  have f5_865 : M5.1 (865) = some (nA (6 * 12) (fun _ => 0)) := by rw [e5]; exact (ju_ne (by omega)).trans f4_865
  have f5_866 : M5.1 (866) = some (nA (6) (fun _ => 0)) := by rw [e5]; exact (ju_ne (by omega)).trans f4_866
  have f5_863 : M5.1 (863) = some (.inr (1, [.ref (3), .ref (8), .ref (864)])) := by rw [e5]; exact ju_eq
  have r5 : ∀ q, (q < 863 ∨ 867 ≤ q) → M5.1 q = M.1 q := fun q h => by rw [e5]; exact (ju_ne (by omega)).trans (r4 q h)
  have g5 : M5.2 = some (867) := by rw [e5]; exact g4
  exact Jq.ofp (E_vret (pc := 27) C dX1_init_27 rfl ⟨M5, rfl, by rw [g5], ⟨by first | exact f5_863 | (rw [f5_863]; rfl), by first | exact f5_864 | (rw [f5_864]; rfl), by first | exact f5_865 | (rw [f5_865]; rfl), by first | exact f5_866 | (rw [f5_866]; rfl)⟩, r5⟩ (by omega) (by omega))
set_option maxHeartbeats 4000000 in
set_option maxRecDepth 100000 in
theorem i_X0 (l : Launch) (G : jG) (M : jMem)  (h0 : M.1 (867) = some (.inr (0, [.null, .null, .null, .null, .null, .null, .null, .null, .int (nI 0)]))) (g0 : M.2 = some (868))   : jCp l G yX0_init cX0_init 4 none 1 30 5 (10000) [.ref (867), .ref (3), .ref (8), .ref (857)] M (fun o => ∃ M', o = .inl (none, M') ∧ M'.2 = some (873) ∧ (M'.1 (867) = some (.inr (0, [.ref (3), .ref (8), .ref (857), .ref (868), .ref (869), .ref (870), .ref (871), .ref (872), .int (nI 0)])) ∧ M'.1 (868) = some (nA 2000 (fun _ => 0)) ∧ M'.1 (869) = some (nA 2000 (fun _ => 0)) ∧ M'.1 (870) = some (nA 2000 (fun _ => 0)) ∧ M'.1 (871) = some (nA 2000 (fun _ => 0)) ∧ M'.1 (872) = some (nA 2000 (fun _ => 0))) ∧ ∀ q, (q < 867 ∨ 873 ≤ q) → M'.1 q = M.1 q) := by
  refine jCp.ofN (by decide) 0 rfl [some (.ref (867)), some (.ref (3)), some (.ref (8)), some (.ref (857))] rfl (fun p e s m args below meth c C hNm => ?_)
  have r0 : ∀ q, (q < 867 ∨ 873 ≤ q) → M.1 q = M.1 q := fun _ _ => rfl
  refine Q_aload_n (pc := 0) C dX0_init_0 rfl rfl ?_
  refine Q_obj (pc := 1) C dX0_init_1 ol_X0 o_im o_cd (jle rfl) (jle rfl) ?_
  refine Q_aload_n (pc := 4) C dX0_init_4 rfl rfl ?_
  refine Q_sipush (pc := 5) (v := nI 2000) C dX0_init_5 (by decide) ?_
  refine Q_newi (pc := 8) (k := 868) (n := 868) (N := 2000) C dX0_init_8 a_int (by omega) g0 (by unfold jin; omega) (jr_lo (by omega)) (by simp only [jR]; try omega) (by simp only [jR]; try omega) ?_
  obtain ⟨M1, e1⟩ : ∃ z, z = jn M (868) (nA (2000) (fun _ => 0)) (868) := ⟨_, rfl⟩
  rw [← e1]
  have f1_867 : M1.1 (867) = some (.inr (0, [.null, .null, .null, .null, .null, .null, .null, .null, .int (nI 0)])) := by rw [e1]; exact (jn_ne (by omega)).trans h0
  have f1_868 : M1.1 (868) = some (nA (2000) (fun _ => 0)) := by rw [e1]; exact jn_eq
  have r1 : ∀ q, (q < 867 ∨ 873 ≤ q) → M1.1 q = M.1 q := fun q h => by rw [e1]; exact (jn_ne (by omega)).trans (r0 q h)
  have g1 : M1.2 = some (869) := by rw [e1]; rfl
  obtain ⟨M2, e2⟩ : ∃ z, z = ju M1 (867) (.inr (0, [.null, .null, .null, .ref (868), .null, .null, .null, .null, .int (nI 0)])) := ⟨_, rfl⟩
  refine Q_putFU (pc := 10) (fs := [.null, .null, .null, .null, .null, .null, .null, .null, .int (nI 0)]) C hNm dX0_init_10 p_X0_11 f1_867 (jlt rfl) rfl rfl e2.symm ?_
  have f2_868 : M2.1 (868) = some (nA (2000) (fun _ => 0)) := by rw [e2]; exact (ju_ne (by omega)).trans f1_868
  have f2_867 : M2.1 (867) = some (.inr (0, [.null, .null, .null, .ref (868), .null, .null, .null, .null, .int (nI 0)])) := by rw [e2]; exact ju_eq
  have r2 : ∀ q, (q < 867 ∨ 873 ≤ q) → M2.1 q = M.1 q := fun q h => by rw [e2]; exact (ju_ne (by omega)).trans (r1 q h)
  have g2 : M2.2 = some (869) := by rw [e2]; exact g1
  refine Q_aload_n (pc := 13) C dX0_init_13 rfl rfl ?_
  refine Q_sipush (pc := 14) (v := nI 2000) C dX0_init_14 (by decide) ?_
  refine Q_newi (pc := 17) (k := 869) (n := 869) (N := 2000) C dX0_init_17 a_int (by omega) g2 (by unfold jin; omega) (jr_lo (by omega)) (by simp only [jR]; try omega) (by simp only [jR]; try omega) ?_
  obtain ⟨M3, e3⟩ : ∃ z, z = jn M2 (869) (nA (2000) (fun _ => 0)) (869) := ⟨_, rfl⟩
  rw [← e3]
  have f3_867 : M3.1 (867) = some (.inr (0, [.null, .null, .null, .ref (868), .null, .null, .null, .null, .int (nI 0)])) := by rw [e3]; exact (jn_ne (by omega)).trans f2_867
  have f3_868 : M3.1 (868) = some (nA (2000) (fun _ => 0)) := by rw [e3]; exact (jn_ne (by omega)).trans f2_868
  have f3_869 : M3.1 (869) = some (nA (2000) (fun _ => 0)) := by rw [e3]; exact jn_eq
  have r3 : ∀ q, (q < 867 ∨ 873 ≤ q) → M3.1 q = M.1 q := fun q h => by rw [e3]; exact (jn_ne (by omega)).trans (r2 q h)
  have g3 : M3.2 = some (870) := by rw [e3]; rfl
  obtain ⟨M4, e4⟩ : ∃ z, z = ju M3 (867) (.inr (0, [.null, .null, .null, .ref (868), .ref (869), .null, .null, .null, .int (nI 0)])) := ⟨_, rfl⟩
  refine Q_putFU (pc := 19) (fs := [.null, .null, .null, .ref (868), .null, .null, .null, .null, .int (nI 0)]) C hNm dX0_init_19 p_X0_15 f3_867 (jlt rfl) rfl rfl e4.symm ?_
  have f4_868 : M4.1 (868) = some (nA (2000) (fun _ => 0)) := by rw [e4]; exact (ju_ne (by omega)).trans f3_868
  have f4_869 : M4.1 (869) = some (nA (2000) (fun _ => 0)) := by rw [e4]; exact (ju_ne (by omega)).trans f3_869
  have f4_867 : M4.1 (867) = some (.inr (0, [.null, .null, .null, .ref (868), .ref (869), .null, .null, .null, .int (nI 0)])) := by rw [e4]; exact ju_eq
  have r4 : ∀ q, (q < 867 ∨ 873 ≤ q) → M4.1 q = M.1 q := fun q h => by rw [e4]; exact (ju_ne (by omega)).trans (r3 q h)
  have g4 : M4.2 = some (870) := by rw [e4]; exact g3
  refine Q_aload_n (pc := 22) C dX0_init_22 rfl rfl ?_
  refine Q_sipush (pc := 23) (v := nI 2000) C dX0_init_23 (by decide) ?_
  refine Q_newi (pc := 26) (k := 870) (n := 870) (N := 2000) C dX0_init_26 a_int (by omega) g4 (by unfold jin; omega) (jr_lo (by omega)) (by simp only [jR]; try omega) (by simp only [jR]; try omega) ?_
  obtain ⟨M5, e5⟩ : ∃ z, z = jn M4 (870) (nA (2000) (fun _ => 0)) (870) := ⟨_, rfl⟩
  rw [← e5]
  have f5_867 : M5.1 (867) = some (.inr (0, [.null, .null, .null, .ref (868), .ref (869), .null, .null, .null, .int (nI 0)])) := by rw [e5]; exact (jn_ne (by omega)).trans f4_867
  have f5_868 : M5.1 (868) = some (nA (2000) (fun _ => 0)) := by rw [e5]; exact (jn_ne (by omega)).trans f4_868
  have f5_869 : M5.1 (869) = some (nA (2000) (fun _ => 0)) := by rw [e5]; exact (jn_ne (by omega)).trans f4_869
  have f5_870 : M5.1 (870) = some (nA (2000) (fun _ => 0)) := by rw [e5]; exact jn_eq
  have r5 : ∀ q, (q < 867 ∨ 873 ≤ q) → M5.1 q = M.1 q := fun q h => by rw [e5]; exact (jn_ne (by omega)).trans (r4 q h)
  have g5 : M5.2 = some (871) := by rw [e5]; rfl
  obtain ⟨M6, e6⟩ : ∃ z, z = ju M5 (867) (.inr (0, [.null, .null, .null, .ref (868), .ref (869), .ref (870), .null, .null, .int (nI 0)])) := ⟨_, rfl⟩
  refine Q_putFU (pc := 28) (fs := [.null, .null, .null, .ref (868), .ref (869), .null, .null, .null, .int (nI 0)]) C hNm dX0_init_28 p_X0_18 f5_867 (jlt rfl) rfl rfl e6.symm ?_
  have f6_868 : M6.1 (868) = some (nA (2000) (fun _ => 0)) := by rw [e6]; exact (ju_ne (by omega)).trans f5_868
  have f6_869 : M6.1 (869) = some (nA (2000) (fun _ => 0)) := by rw [e6]; exact (ju_ne (by omega)).trans f5_869
  have f6_870 : M6.1 (870) = some (nA (2000) (fun _ => 0)) := by rw [e6]; exact (ju_ne (by omega)).trans f5_870
  have f6_867 : M6.1 (867) = some (.inr (0, [.null, .null, .null, .ref (868), .ref (869), .ref (870), .null, .null, .int (nI 0)])) := by rw [e6]; exact ju_eq
  have r6 : ∀ q, (q < 867 ∨ 873 ≤ q) → M6.1 q = M.1 q := fun q h => by rw [e6]; exact (ju_ne (by omega)).trans (r5 q h)
  have g6 : M6.2 = some (871) := by rw [e6]; exact g5
  refine Q_aload_n (pc := 31) C dX0_init_31 rfl rfl ?_
  refine Q_sipush (pc := 32) (v := nI 2000) C dX0_init_32 (by decide) ?_
  refine Q_newi (pc := 35) (k := 871) (n := 871) (N := 2000) C dX0_init_35 a_int (by omega) g6 (by unfold jin; omega) (jr_lo (by omega)) (by simp only [jR]; try omega) (by simp only [jR]; try omega) ?_
  obtain ⟨M7, e7⟩ : ∃ z, z = jn M6 (871) (nA (2000) (fun _ => 0)) (871) := ⟨_, rfl⟩
  rw [← e7]
  have f7_867 : M7.1 (867) = some (.inr (0, [.null, .null, .null, .ref (868), .ref (869), .ref (870), .null, .null, .int (nI 0)])) := by rw [e7]; exact (jn_ne (by omega)).trans f6_867
  have f7_868 : M7.1 (868) = some (nA (2000) (fun _ => 0)) := by rw [e7]; exact (jn_ne (by omega)).trans f6_868
  have f7_869 : M7.1 (869) = some (nA (2000) (fun _ => 0)) := by rw [e7]; exact (jn_ne (by omega)).trans f6_869
  have f7_870 : M7.1 (870) = some (nA (2000) (fun _ => 0)) := by rw [e7]; exact (jn_ne (by omega)).trans f6_870
  have f7_871 : M7.1 (871) = some (nA (2000) (fun _ => 0)) := by rw [e7]; exact jn_eq
  have r7 : ∀ q, (q < 867 ∨ 873 ≤ q) → M7.1 q = M.1 q := fun q h => by rw [e7]; exact (jn_ne (by omega)).trans (r6 q h)
  have g7 : M7.2 = some (872) := by rw [e7]; rfl
  obtain ⟨M8, e8⟩ : ∃ z, z = ju M7 (867) (.inr (0, [.null, .null, .null, .ref (868), .ref (869), .ref (870), .ref (871), .null, .int (nI 0)])) := ⟨_, rfl⟩
  refine Q_putFU (pc := 37) (fs := [.null, .null, .null, .ref (868), .ref (869), .ref (870), .null, .null, .int (nI 0)]) C hNm dX0_init_37 p_X0_21 f7_867 (jlt rfl) rfl rfl e8.symm ?_
  have f8_868 : M8.1 (868) = some (nA (2000) (fun _ => 0)) := by rw [e8]; exact (ju_ne (by omega)).trans f7_868
  have f8_869 : M8.1 (869) = some (nA (2000) (fun _ => 0)) := by rw [e8]; exact (ju_ne (by omega)).trans f7_869
  have f8_870 : M8.1 (870) = some (nA (2000) (fun _ => 0)) := by rw [e8]; exact (ju_ne (by omega)).trans f7_870
  have f8_871 : M8.1 (871) = some (nA (2000) (fun _ => 0)) := by rw [e8]; exact (ju_ne (by omega)).trans f7_871
  have f8_867 : M8.1 (867) = some (.inr (0, [.null, .null, .null, .ref (868), .ref (869), .ref (870), .ref (871), .null, .int (nI 0)])) := by rw [e8]; exact ju_eq
  have r8 : ∀ q, (q < 867 ∨ 873 ≤ q) → M8.1 q = M.1 q := fun q h => by rw [e8]; exact (ju_ne (by omega)).trans (r7 q h)
  have g8 : M8.2 = some (872) := by rw [e8]; exact g7
  refine Q_aload_n (pc := 40) C dX0_init_40 rfl rfl ?_
  refine Q_sipush (pc := 41) (v := nI 2000) C dX0_init_41 (by decide) ?_
  refine Q_newi (pc := 44) (k := 872) (n := 872) (N := 2000) C dX0_init_44 a_int (by omega) g8 (by unfold jin; omega) (jr_lo (by omega)) (by simp only [jR]; try omega) (by simp only [jR]; try omega) ?_
  obtain ⟨M9, e9⟩ : ∃ z, z = jn M8 (872) (nA (2000) (fun _ => 0)) (872) := ⟨_, rfl⟩
  rw [← e9]
  have f9_867 : M9.1 (867) = some (.inr (0, [.null, .null, .null, .ref (868), .ref (869), .ref (870), .ref (871), .null, .int (nI 0)])) := by rw [e9]; exact (jn_ne (by omega)).trans f8_867
  have f9_868 : M9.1 (868) = some (nA (2000) (fun _ => 0)) := by rw [e9]; exact (jn_ne (by omega)).trans f8_868
  have f9_869 : M9.1 (869) = some (nA (2000) (fun _ => 0)) := by rw [e9]; exact (jn_ne (by omega)).trans f8_869
  have f9_870 : M9.1 (870) = some (nA (2000) (fun _ => 0)) := by rw [e9]; exact (jn_ne (by omega)).trans f8_870
  have f9_871 : M9.1 (871) = some (nA (2000) (fun _ => 0)) := by rw [e9]; exact (jn_ne (by omega)).trans f8_871
  have f9_872 : M9.1 (872) = some (nA (2000) (fun _ => 0)) := by rw [e9]; exact jn_eq
  have r9 : ∀ q, (q < 867 ∨ 873 ≤ q) → M9.1 q = M.1 q := fun q h => by rw [e9]; exact (jn_ne (by omega)).trans (r8 q h)
  have g9 : M9.2 = some (873) := by rw [e9]; rfl
  obtain ⟨M10, e10⟩ : ∃ z, z = ju M9 (867) (.inr (0, [.null, .null, .null, .ref (868), .ref (869), .ref (870), .ref (871), .ref (872), .int (nI 0)])) := ⟨_, rfl⟩
  refine Q_putFU (pc := 46) (fs := [.null, .null, .null, .ref (868), .ref (869), .ref (870), .ref (871), .null, .int (nI 0)]) C hNm dX0_init_46 p_X0_24 f9_867 (jlt rfl) rfl rfl e10.symm ?_
  have f10_868 : M10.1 (868) = some (nA (2000) (fun _ => 0)) := by rw [e10]; exact (ju_ne (by omega)).trans f9_868
  have f10_869 : M10.1 (869) = some (nA (2000) (fun _ => 0)) := by rw [e10]; exact (ju_ne (by omega)).trans f9_869
  have f10_870 : M10.1 (870) = some (nA (2000) (fun _ => 0)) := by rw [e10]; exact (ju_ne (by omega)).trans f9_870
  have f10_871 : M10.1 (871) = some (nA (2000) (fun _ => 0)) := by rw [e10]; exact (ju_ne (by omega)).trans f9_871
  have f10_872 : M10.1 (872) = some (nA (2000) (fun _ => 0)) := by rw [e10]; exact (ju_ne (by omega)).trans f9_872
  have f10_867 : M10.1 (867) = some (.inr (0, [.null, .null, .null, .ref (868), .ref (869), .ref (870), .ref (871), .ref (872), .int (nI 0)])) := by rw [e10]; exact ju_eq
  have r10 : ∀ q, (q < 867 ∨ 873 ≤ q) → M10.1 q = M.1 q := fun q h => by rw [e10]; exact (ju_ne (by omega)).trans (r9 q h)
  have g10 : M10.2 = some (873) := by rw [e10]; exact g9
  refine Q_aload_n (pc := 49) C dX0_init_49 rfl rfl ?_
  refine Q_iconst (pc := 50) (v := nI 0) C dX0_init_50 (by decide) ?_
  obtain ⟨M11, e11⟩ : ∃ z, z = ju M10 (867) (.inr (0, [.null, .null, .null, .ref (868), .ref (869), .ref (870), .ref (871), .ref (872), .int (nI 0)])) := ⟨_, rfl⟩
  refine Q_putU (pc := 51) (fs := [.null, .null, .null, .ref (868), .ref (869), .ref (870), .ref (871), .ref (872), .int (nI 0)]) C dX0_init_51 p_X0_27 f10_867 (jlt rfl) rfl rfl e11.symm ?_
  have f11_868 : M11.1 (868) = some (nA (2000) (fun _ => 0)) := by rw [e11]; exact (ju_ne (by omega)).trans f10_868
  have f11_869 : M11.1 (869) = some (nA (2000) (fun _ => 0)) := by rw [e11]; exact (ju_ne (by omega)).trans f10_869
  have f11_870 : M11.1 (870) = some (nA (2000) (fun _ => 0)) := by rw [e11]; exact (ju_ne (by omega)).trans f10_870
  have f11_871 : M11.1 (871) = some (nA (2000) (fun _ => 0)) := by rw [e11]; exact (ju_ne (by omega)).trans f10_871
  have f11_872 : M11.1 (872) = some (nA (2000) (fun _ => 0)) := by rw [e11]; exact (ju_ne (by omega)).trans f10_872
  have f11_867 : M11.1 (867) = some (.inr (0, [.null, .null, .null, .ref (868), .ref (869), .ref (870), .ref (871), .ref (872), .int (nI 0)])) := by rw [e11]; exact ju_eq
  have r11 : ∀ q, (q < 867 ∨ 873 ≤ q) → M11.1 q = M.1 q := fun q h => by rw [e11]; exact (ju_ne (by omega)).trans (r10 q h)
  have g11 : M11.2 = some (873) := by rw [e11]; exact g10
  refine Q_aload_n (pc := 54) C dX0_init_54 rfl rfl ?_
  refine Q_aload_n (pc := 55) C dX0_init_55 rfl rfl ?_
  obtain ⟨M12, e12⟩ : ∃ z, z = ju M11 (867) (.inr (0, [.ref (3), .null, .null, .ref (868), .ref (869), .ref (870), .ref (871), .ref (872), .int (nI 0)])) := ⟨_, rfl⟩
  refine Q_putFU (pc := 56) (fs := [.null, .null, .null, .ref (868), .ref (869), .ref (870), .ref (871), .ref (872), .int (nI 0)]) C hNm dX0_init_56 p_X0_31 f11_867 (jlt rfl) rfl rfl e12.symm ?_
  have f12_868 : M12.1 (868) = some (nA (2000) (fun _ => 0)) := by rw [e12]; exact (ju_ne (by omega)).trans f11_868
  have f12_869 : M12.1 (869) = some (nA (2000) (fun _ => 0)) := by rw [e12]; exact (ju_ne (by omega)).trans f11_869
  have f12_870 : M12.1 (870) = some (nA (2000) (fun _ => 0)) := by rw [e12]; exact (ju_ne (by omega)).trans f11_870
  have f12_871 : M12.1 (871) = some (nA (2000) (fun _ => 0)) := by rw [e12]; exact (ju_ne (by omega)).trans f11_871
  have f12_872 : M12.1 (872) = some (nA (2000) (fun _ => 0)) := by rw [e12]; exact (ju_ne (by omega)).trans f11_872
  have f12_867 : M12.1 (867) = some (.inr (0, [.ref (3), .null, .null, .ref (868), .ref (869), .ref (870), .ref (871), .ref (872), .int (nI 0)])) := by rw [e12]; exact ju_eq
  have r12 : ∀ q, (q < 867 ∨ 873 ≤ q) → M12.1 q = M.1 q := fun q h => by rw [e12]; exact (ju_ne (by omega)).trans (r11 q h)
  have g12 : M12.2 = some (873) := by rw [e12]; exact g11
  refine Q_aload_n (pc := 59) C dX0_init_59 rfl rfl ?_
  refine Q_aload_n (pc := 60) C dX0_init_60 rfl rfl ?_
  obtain ⟨M13, e13⟩ : ∃ z, z = ju M12 (867) (.inr (0, [.ref (3), .ref (8), .null, .ref (868), .ref (869), .ref (870), .ref (871), .ref (872), .int (nI 0)])) := ⟨_, rfl⟩
  refine Q_putFU (pc := 61) (fs := [.ref (3), .null, .null, .ref (868), .ref (869), .ref (870), .ref (871), .ref (872), .int (nI 0)]) C hNm dX0_init_61 p_X0_35 f12_867 (jlt rfl) rfl rfl e13.symm ?_
  have f13_868 : M13.1 (868) = some (nA (2000) (fun _ => 0)) := by rw [e13]; exact (ju_ne (by omega)).trans f12_868
  have f13_869 : M13.1 (869) = some (nA (2000) (fun _ => 0)) := by rw [e13]; exact (ju_ne (by omega)).trans f12_869
  have f13_870 : M13.1 (870) = some (nA (2000) (fun _ => 0)) := by rw [e13]; exact (ju_ne (by omega)).trans f12_870
  have f13_871 : M13.1 (871) = some (nA (2000) (fun _ => 0)) := by rw [e13]; exact (ju_ne (by omega)).trans f12_871
  have f13_872 : M13.1 (872) = some (nA (2000) (fun _ => 0)) := by rw [e13]; exact (ju_ne (by omega)).trans f12_872
  have f13_867 : M13.1 (867) = some (.inr (0, [.ref (3), .ref (8), .null, .ref (868), .ref (869), .ref (870), .ref (871), .ref (872), .int (nI 0)])) := by rw [e13]; exact ju_eq
  have r13 : ∀ q, (q < 867 ∨ 873 ≤ q) → M13.1 q = M.1 q := fun q h => by rw [e13]; exact (ju_ne (by omega)).trans (r12 q h)
  have g13 : M13.2 = some (873) := by rw [e13]; exact g12
  refine Q_aload_n (pc := 64) C dX0_init_64 rfl rfl ?_
  refine Q_aload_n (pc := 65) C dX0_init_65 rfl rfl ?_
  obtain ⟨M14, e14⟩ : ∃ z, z = ju M13 (867) (.inr (0, [.ref (3), .ref (8), .ref (857), .ref (868), .ref (869), .ref (870), .ref (871), .ref (872), .int (nI 0)])) := ⟨_, rfl⟩
  refine Q_putFU (pc := 66) (fs := [.ref (3), .ref (8), .null, .ref (868), .ref (869), .ref (870), .ref (871), .ref (872), .int (nI 0)]) C hNm dX0_init_66 p_X0_39 f13_867 (jlt rfl) rfl rfl e14.symm ?_
  have f14_868 : M14.1 (868) = some (nA (2000) (fun _ => 0)) := by rw [e14]; exact (ju_ne (by omega)).trans f13_868
  have f14_869 : M14.1 (869) = some (nA (2000) (fun _ => 0)) := by rw [e14]; exact (ju_ne (by omega)).trans f13_869
  have f14_870 : M14.1 (870) = some (nA (2000) (fun _ => 0)) := by rw [e14]; exact (ju_ne (by omega)).trans f13_870
  have f14_871 : M14.1 (871) = some (nA (2000) (fun _ => 0)) := by rw [e14]; exact (ju_ne (by omega)).trans f13_871
  have f14_872 : M14.1 (872) = some (nA (2000) (fun _ => 0)) := by rw [e14]; exact (ju_ne (by omega)).trans f13_872
  have f14_867 : M14.1 (867) = some (.inr (0, [.ref (3), .ref (8), .ref (857), .ref (868), .ref (869), .ref (870), .ref (871), .ref (872), .int (nI 0)])) := by rw [e14]; exact ju_eq
  have r14 : ∀ q, (q < 867 ∨ 873 ≤ q) → M14.1 q = M.1 q := fun q h => by rw [e14]; exact (ju_ne (by omega)).trans (r13 q h)
  have g14 : M14.2 = some (873) := by rw [e14]; exact g13
  exact Jq.ofp (E_vret (pc := 69) C dX0_init_69 rfl ⟨M14, rfl, by rw [g14], ⟨by first | exact f14_867 | (rw [f14_867]; rfl), by first | exact f14_868 | (rw [f14_868]; rfl), by first | exact f14_869 | (rw [f14_869]; rfl), by first | exact f14_870 | (rw [f14_870]; rfl), by first | exact f14_871 | (rw [f14_871]; rfl), by first | exact f14_872 | (rw [f14_872]; rfl)⟩, r14⟩ (by omega) (by omega))
set_option maxHeartbeats 4000000 in
theorem l_X5 {p : Program} {l : Launch} {e : Env} {s : State} {m : MethodId} {args : Array Value} {below : List Frame} {meth : Method} {c : Code} {G : jG} (C : jX0 p l (jR 2 50 13 222) s m args meth c G cX5_init 2 yX5_init.cls none) {a : Nat} (ha : a + 14 ≤ 875) (M0 : jMem) : ∀ d i M, i + d = 6 → M.2 = some (a + 2 + 2 * i) → M.1 a = some (.inr (5, [.ref (a + 1), .int (nI 0), .int (nI 0), .int (nI 0), .int (nI 0)])) → M.1 (a + 1) = some (qA 3 6 (fun j => if i ≤ j ∧ j < 6 then none else some (a + 2 + 2 * j))) → (∀ k, k < i → M.1 (a + 2 + 2 * k) = some (.inr (6, [.ref (a + 3 + 2 * k), .int (nI 136), .int (nI 0), .int (-1)])) ∧ M.1 (a + 3 + 2 * k) = some (rA 32 (fun _ => nI 0))) → (∀ q, (q < a ∨ a + 14 ≤ q) → M.1 q = M0.1 q) → Jq p l e (jR 2 50 13 222) s m args below meth c G 2 (vx_MQ below (jQp G (fun o => ∃ M', o = .inl (none, M') ∧ M'.2 = some (a + 14) ∧ (M'.1 (a) = some (.inr (5, [.ref (a + 1), .int (nI 0), .int (nI 0), .int (nI 0), .int (nI 0)])) ∧ M'.1 (a + 1) = some (qA 3 6 (fun j => some (a + 2 + 2 * j))) ∧ (∀ k, k < 6 → M'.1 (a + 2 + 2 * k) = some (.inr (6, [.ref (a + 3 + 2 * k), .int (nI 136), .int (nI 0), .int (-1)])) ∧ M'.1 (a + 3 + 2 * k) = some (rA 32 (fun _ => nI 0)))) ∧ ∀ q, (q < a ∨ a + 14 ≤ q) → M'.1 q = M0.1 q)) (jXp G (fun o => ∃ M', o = .inl (none, M') ∧ M'.2 = some (a + 14) ∧ (M'.1 (a) = some (.inr (5, [.ref (a + 1), .int (nI 0), .int (nI 0), .int (nI 0), .int (nI 0)])) ∧ M'.1 (a + 1) = some (qA 3 6 (fun j => some (a + 2 + 2 * j))) ∧ (∀ k, k < 6 → M'.1 (a + 2 + 2 * k) = some (.inr (6, [.ref (a + 3 + 2 * k), .int (nI 136), .int (nI 0), .int (-1)])) ∧ M'.1 (a + 3 + 2 * k) = some (rA 32 (fun _ => nI 0)))) ∧ ∀ q, (q < a ∨ a + 14 ≤ q) → M'.1 q = M0.1 q)) args s 13 222 (jA G)) 35 [some (.ref a), some (.int (nI i))] [] M (1 + 2 * i) (6 + 36 * i) := by
  intro d
  induction d with
  | zero =>
    intro i M hi g0 h0 h1 ha0 r0
    obtain rfl : i = 6 := by omega
    refine Q_iload_n (pc := 35) C dX5_init_35 rfl rfl ?_
    refine Q_bipush (pc := 36) (v := nI 6) C dX5_init_36 (by decide) ?_
    refine Q_icmp_geN (pc := 38) (tgt := 60) C dX5_init_38 rfl (jlt rfl) (jlt rfl) (fun _ => ?_) (fun h => absurd h (by omega))
    refine Jq.ofp (E_vret (pc := 60) C dX5_init_60 rfl ⟨M, rfl, by rw [g0], ⟨h0, ?_, ha0⟩, r0⟩ (by omega) (by omega))
    rw [h1]
    refine congrArg some (congrArg (qA 3 6) (funext fun j => ?_))
    exact if_neg (by omega)
  | succ d ih =>
    intro i M hi g0 h0 h1 ha0 r0
    refine Q_iload_n (pc := 35) C dX5_init_35 rfl rfl ?_
    refine Q_bipush (pc := 36) (v := nI 6) C dX5_init_36 (by decide) ?_
    refine Q_icmp_geN (pc := 38) (tgt := 60) C dX5_init_38 rfl (by omega) (jlt rfl) (fun h => absurd h (by omega)) (fun _ => ?_)
    have r0 : ∀ q, (q < a ∨ a + 14 ≤ q) → M.1 q = M0.1 q := r0
    refine Q_aload_n (pc := 41) C dX5_init_41 rfl rfl ?_
    refine Q_get (pc := 42) C dX5_init_42 f_X5_11 h0 rfl ?_
    refine Q_iload_n (pc := 45) C dX5_init_45 rfl rfl ?_
    refine Q_new (pc := 46) (ci := 6) (fs := [.null, .int (nI 0), .int (nI 0), .int (nI 0)]) (k := a + 2 + 2 * i) (n := a + 2 + 2 * i) C dX5_init_46 rfl cl_X5_9 in_X6 ii_X6 df_X6 rfl g0 (by unfold jin; omega) (jr_lo (by omega)) (by simp only [jR]; try omega) (by simp only [jR]; try omega) ?_
    obtain ⟨M1, e1⟩ : ∃ z, z = jn M (a + 2 + 2 * i) (.inr (6, [.null, .int (nI 0), .int (nI 0), .int (nI 0)])) (a + 2 + 2 * i) := ⟨_, rfl⟩
    rw [← e1]
    have f1_a : M1.1 (a) = some (.inr (5, [.ref (a + 1), .int (nI 0), .int (nI 0), .int (nI 0), .int (nI 0)])) := by rw [e1]; exact (jn_ne (by omega)).trans h0
    have f1_a___1 : M1.1 (a + 1) = some (qA 3 6 (fun j => if i ≤ j ∧ j < 6 then none else some (a + 2 + 2 * j))) := by rw [e1]; exact (jn_ne (by omega)).trans h1
    have f1_a___2___2___i : M1.1 (a + 2 + 2 * i) = some (.inr (6, [.null, .int (nI 0), .int (nI 0), .int (nI 0)])) := by rw [e1]; exact jn_eq
    have a1_0 : ∀ k, k < i → M1.1 (a + 2 + 2 * k) = some (.inr (6, [.ref (a + 3 + 2 * k), .int (nI 136), .int (nI 0), .int (-1)])) ∧ M1.1 (a + 3 + 2 * k) = some (rA 32 (fun _ => nI 0)) := fun k hk => ⟨by rw [e1]; exact (jn_ne (by omega)).trans (ha0 k hk).1, by rw [e1]; exact (jn_ne (by omega)).trans (ha0 k hk).2⟩
    have r1 : ∀ q, (q < a ∨ a + 14 ≤ q) → M1.1 q = M0.1 q := fun q h => by rw [e1]; exact (jn_ne (by omega)).trans (r0 q h)
    have g1 : M1.2 = some (a + 2 + 2 * i + 1) := by rw [e1]; rfl
    refine Q_dup (pc := 49) C dX5_init_49 rfl ?_
    refine Q_callINz (pc := 50) (k := a + 2 + 2 * i) (As := []) (st := [.ref (a + 2 + 2 * i), .int (nI i), .ref (a + 1)]) C dX5_init_50 k_X6_init n_X5_30 im_X6 rfl (i_X6 l G M1 (a + 2 + 2 * i) f1_a___2___2___i g1 (by omega)) ⟨jle rfl, jle rfl⟩ rfl rfl (jle rfl) ⟨by simp only [jR]; try omega, by simp only [jR]; try omega⟩ (fun M2 hz => ?_)
    obtain ⟨g2, ⟨z2_0, z2_1⟩, q2⟩ := hz
    have f2_a : M2.1 (a) = some (.inr (5, [.ref (a + 1), .int (nI 0), .int (nI 0), .int (nI 0), .int (nI 0)])) := (q2 _ (by omega)).trans f1_a
    have f2_a___1 : M2.1 (a + 1) = some (qA 3 6 (fun j => if i ≤ j ∧ j < 6 then none else some (a + 2 + 2 * j))) := (q2 _ (by omega)).trans f1_a___1
    have a2_0 : ∀ k, k < i → M2.1 (a + 2 + 2 * k) = some (.inr (6, [.ref (a + 3 + 2 * k), .int (nI 136), .int (nI 0), .int (-1)])) ∧ M2.1 (a + 3 + 2 * k) = some (rA 32 (fun _ => nI 0)) := fun k hk => ⟨(q2 _ (by omega)).trans (a1_0 k hk).1, (q2 _ (by omega)).trans (a1_0 k hk).2⟩
    have r2 : ∀ q, (q < a ∨ a + 14 ≤ q) → M2.1 q = M0.1 q := fun q h => (q2 q (by omega)).trans (r1 q h)
    obtain ⟨M3, e3⟩ : ∃ z, z = ju M2 (a + 1) (qA 3 6 (va_up (fun j => if i ≤ j ∧ j < 6 then none else some (a + 2 + 2 * j)) i (some (a + 2 + 2 * i)))) := ⟨_, rfl⟩
    refine Q_aast (pc := 53) (t := 3) (ci := 6) (a := i) C dX5_init_53 rfl f2_a___1 z2_0 rfl (by omega) (by omega) e3.symm ?_
    have f3_a : M3.1 (a) = some (.inr (5, [.ref (a + 1), .int (nI 0), .int (nI 0), .int (nI 0), .int (nI 0)])) := by rw [e3]; exact (ju_ne (by omega)).trans f2_a
    have f3_a___2___2___i : M3.1 (a + 2 + 2 * i) = some (.inr (6, [.ref (a + 2 + 2 * i + 1), .int (nI 136), .int (nI 0), .int (-1)])) := by rw [e3]; exact (ju_ne (by omega)).trans z2_0
    have f3_a___2___2___i___1 : M3.1 (a + 2 + 2 * i + 1) = some (rA 32 (fun _ => nI 0)) := by rw [e3]; exact (ju_ne (by omega)).trans z2_1
    have f3_a___1 : M3.1 (a + 1) = some (qA 3 6 (va_up (fun j => if i ≤ j ∧ j < 6 then none else some (a + 2 + 2 * j)) i (some (a + 2 + 2 * i)))) := by rw [e3]; exact ju_eq
    have a3_0 : ∀ k, k < i → M3.1 (a + 2 + 2 * k) = some (.inr (6, [.ref (a + 3 + 2 * k), .int (nI 136), .int (nI 0), .int (-1)])) ∧ M3.1 (a + 3 + 2 * k) = some (rA 32 (fun _ => nI 0)) := fun k hk => ⟨by rw [e3]; exact (ju_ne (by omega)).trans (a2_0 k hk).1, by rw [e3]; exact (ju_ne (by omega)).trans (a2_0 k hk).2⟩
    have r3 : ∀ q, (q < a ∨ a + 14 ≤ q) → M3.1 q = M0.1 q := fun q h => by rw [e3]; exact (ju_ne (by omega)).trans (r2 q h)
    have g3 : M3.2 = some (a + 2 + 2 * i + 2) := by rw [e3]; exact g2
    refine Q_iincN (pc := 54) C dX5_init_54 rfl (jlt rfl) rfl ?_
    refine Q_goto (pc := 57) (tgt := 35) C dX5_init_57 rfl ?_
    have hfu : va_up (fun j => if i ≤ j ∧ j < 6 then none else some (a + 2 + 2 * j)) i (some (a + 2 + 2 * i)) = (fun j => if (i + 1) ≤ j ∧ j < 6 then none else some (a + 2 + 2 * j)) := by
      funext j
      by_cases hj : j = i
      · subst hj; rw [va_up_self, if_neg (by omega)]
      · rw [va_up_ne _ _ hj]
        by_cases hj2 : i ≤ j ∧ j < 6
        · rw [if_pos hj2, if_pos (by omega)]
        · rw [if_neg hj2, if_neg (by omega)]
    rw [hfu] at f3_a___1
    have hf2 : M3.1 (a + 3 + 2 * i) = some (rA 32 (fun _ => nI 0)) := by rw [show a + 3 + 2 * i = a + 2 + 2 * i + 1 by omega]; exact f3_a___2___2___i___1
    have hf1 : M3.1 (a + 2 + 2 * i) = some (.inr (6, [.ref (a + 3 + 2 * i), .int (nI 136), .int (nI 0), .int (-1)])) := by rw [show a + 3 + 2 * i = a + 2 + 2 * i + 1 by omega]; exact f3_a___2___2___i
    have hall : ∀ k, k < i + 1 → M3.1 (a + 2 + 2 * k) = some (.inr (6, [.ref (a + 3 + 2 * k), .int (nI 136), .int (nI 0), .int (-1)])) ∧ M3.1 (a + 3 + 2 * k) = some (rA 32 (fun _ => nI 0)) := fun k hk => by
      by_cases hk2 : k = i
      · subst hk2
        exact ⟨hf1, hf2⟩
      · exact a3_0 k (by omega)
    exact ih (i + 1) M3 (by omega) (by rw [g3]; exact congrArg some (by omega)) f3_a f3_a___1 hall r3
set_option maxHeartbeats 4000000 in
set_option maxRecDepth 100000 in
theorem i_X5 (l : Launch) (G : jG) (M : jMem) (a : Nat) (h0 : M.1 (a) = some (.inr (5, [.null, .int (nI 0), .int (nI 0), .int (nI 0), .int (nI 0)]))) (g0 : M.2 = some (a + 1))  (ha : a + 14 ≤ 875) : jCp l G yX5_init cX5_init 2 none 2 50 13 (222) [.ref (a)] M (fun o => ∃ M', o = .inl (none, M') ∧ M'.2 = some (a + 14) ∧ (M'.1 (a) = some (.inr (5, [.ref (a + 1), .int (nI 0), .int (nI 0), .int (nI 0), .int (nI 0)])) ∧ M'.1 (a + 1) = some (qA 3 6 (fun j => some (a + 2 + 2 * j))) ∧ (∀ k, k < 6 → M'.1 (a + 2 + 2 * k) = some (.inr (6, [.ref (a + 3 + 2 * k), .int (nI 136), .int (nI 0), .int (-1)])) ∧ M'.1 (a + 3 + 2 * k) = some (rA 32 (fun _ => nI 0)))) ∧ ∀ q, (q < a ∨ a + 14 ≤ q) → M'.1 q = M.1 q) := by
  refine jCp.ofN (by decide) 1 rfl [some (.ref (a)), none] rfl (fun p e s m args below meth c C hNm => ?_)
  have r0 : ∀ q, (q < a ∨ a + 14 ≤ q) → M.1 q = M.1 q := fun _ _ => rfl
  refine Q_aload_n (pc := 0) C dX5_init_0 rfl rfl ?_
  refine Q_obj (pc := 1) C dX5_init_1 ol_X5 o_im o_cd (jle rfl) (jle rfl) ?_
  refine Q_aload_n (pc := 4) C dX5_init_4 rfl rfl ?_
  refine Q_bipush (pc := 5) (v := nI 6) C dX5_init_5 (by decide) ?_
  refine Q_anew (pc := 7) (k := a + 1) (n := a + 1) (N := 6) (t := 3) C (fun j => if 0 ≤ j ∧ j < 6 then none else some (a + 2 + 2 * j)) (fun j hj => if_pos (by omega)) dX5_init_7 cl_X5_9 rfl C.S.2.2.2.2.1 (by omega) g0 (by unfold jin; omega) (jr_lo (by omega)) (by simp only [jR]; try omega) (by simp only [jR]; try omega) ?_
  obtain ⟨M1, e1⟩ : ∃ z, z = jn M (a + 1) (qA 3 6 (fun j => if 0 ≤ j ∧ j < 6 then none else some (a + 2 + 2 * j))) (a + 1) := ⟨_, rfl⟩
  rw [← e1]
  have f1_a : M1.1 (a) = some (.inr (5, [.null, .int (nI 0), .int (nI 0), .int (nI 0), .int (nI 0)])) := by rw [e1]; exact (jn_ne (by omega)).trans h0
  have f1_a___1 : M1.1 (a + 1) = some (qA 3 6 (fun j => if 0 ≤ j ∧ j < 6 then none else some (a + 2 + 2 * j))) := by rw [e1]; exact jn_eq
  have r1 : ∀ q, (q < a ∨ a + 14 ≤ q) → M1.1 q = M.1 q := fun q h => by rw [e1]; exact (jn_ne (by omega)).trans (r0 q h)
  have g1 : M1.2 = some (a + 2) := by rw [e1]; rfl
  obtain ⟨M2, e2⟩ : ∃ z, z = ju M1 (a) (.inr (5, [.ref (a + 1), .int (nI 0), .int (nI 0), .int (nI 0), .int (nI 0)])) := ⟨_, rfl⟩
  refine Q_putFU (pc := 10) (fs := [.null, .int (nI 0), .int (nI 0), .int (nI 0), .int (nI 0)]) C hNm dX5_init_10 p_X5_11 f1_a (jlt rfl) rfl rfl e2.symm ?_
  have f2_a___1 : M2.1 (a + 1) = some (qA 3 6 (fun j => if 0 ≤ j ∧ j < 6 then none else some (a + 2 + 2 * j))) := by rw [e2]; exact (ju_ne (by omega)).trans f1_a___1
  have f2_a : M2.1 (a) = some (.inr (5, [.ref (a + 1), .int (nI 0), .int (nI 0), .int (nI 0), .int (nI 0)])) := by rw [e2]; exact ju_eq
  have r2 : ∀ q, (q < a ∨ a + 14 ≤ q) → M2.1 q = M.1 q := fun q h => by rw [e2]; exact (ju_ne (by omega)).trans (r1 q h)
  have g2 : M2.2 = some (a + 2) := by rw [e2]; exact g1
  refine Q_aload_n (pc := 13) C dX5_init_13 rfl rfl ?_
  refine Q_iconst (pc := 14) (v := nI 0) C dX5_init_14 (by decide) ?_
  obtain ⟨M3, e3⟩ : ∃ z, z = ju M2 (a) (.inr (5, [.ref (a + 1), .int (nI 0), .int (nI 0), .int (nI 0), .int (nI 0)])) := ⟨_, rfl⟩
  refine Q_putU (pc := 15) (fs := [.ref (a + 1), .int (nI 0), .int (nI 0), .int (nI 0), .int (nI 0)]) C dX5_init_15 p_X5_17 f2_a (jlt rfl) rfl rfl e3.symm ?_
  have f3_a___1 : M3.1 (a + 1) = some (qA 3 6 (fun j => if 0 ≤ j ∧ j < 6 then none else some (a + 2 + 2 * j))) := by rw [e3]; exact (ju_ne (by omega)).trans f2_a___1
  have f3_a : M3.1 (a) = some (.inr (5, [.ref (a + 1), .int (nI 0), .int (nI 0), .int (nI 0), .int (nI 0)])) := by rw [e3]; exact ju_eq
  have r3 : ∀ q, (q < a ∨ a + 14 ≤ q) → M3.1 q = M.1 q := fun q h => by rw [e3]; exact (ju_ne (by omega)).trans (r2 q h)
  have g3 : M3.2 = some (a + 2) := by rw [e3]; exact g2
  refine Q_aload_n (pc := 18) C dX5_init_18 rfl rfl ?_
  refine Q_iconst (pc := 19) (v := nI 0) C dX5_init_19 (by decide) ?_
  obtain ⟨M4, e4⟩ : ∃ z, z = ju M3 (a) (.inr (5, [.ref (a + 1), .int (nI 0), .int (nI 0), .int (nI 0), .int (nI 0)])) := ⟨_, rfl⟩
  refine Q_putU (pc := 20) (fs := [.ref (a + 1), .int (nI 0), .int (nI 0), .int (nI 0), .int (nI 0)]) C dX5_init_20 p_X5_21 f3_a (jlt rfl) rfl rfl e4.symm ?_
  have f4_a___1 : M4.1 (a + 1) = some (qA 3 6 (fun j => if 0 ≤ j ∧ j < 6 then none else some (a + 2 + 2 * j))) := by rw [e4]; exact (ju_ne (by omega)).trans f3_a___1
  have f4_a : M4.1 (a) = some (.inr (5, [.ref (a + 1), .int (nI 0), .int (nI 0), .int (nI 0), .int (nI 0)])) := by rw [e4]; exact ju_eq
  have r4 : ∀ q, (q < a ∨ a + 14 ≤ q) → M4.1 q = M.1 q := fun q h => by rw [e4]; exact (ju_ne (by omega)).trans (r3 q h)
  have g4 : M4.2 = some (a + 2) := by rw [e4]; exact g3
  refine Q_aload_n (pc := 23) C dX5_init_23 rfl rfl ?_
  refine Q_iconst (pc := 24) (v := nI 0) C dX5_init_24 (by decide) ?_
  obtain ⟨M5, e5⟩ : ∃ z, z = ju M4 (a) (.inr (5, [.ref (a + 1), .int (nI 0), .int (nI 0), .int (nI 0), .int (nI 0)])) := ⟨_, rfl⟩
  refine Q_putU (pc := 25) (fs := [.ref (a + 1), .int (nI 0), .int (nI 0), .int (nI 0), .int (nI 0)]) C dX5_init_25 p_X5_24 f4_a (jlt rfl) rfl rfl e5.symm ?_
  have f5_a___1 : M5.1 (a + 1) = some (qA 3 6 (fun j => if 0 ≤ j ∧ j < 6 then none else some (a + 2 + 2 * j))) := by rw [e5]; exact (ju_ne (by omega)).trans f4_a___1
  have f5_a : M5.1 (a) = some (.inr (5, [.ref (a + 1), .int (nI 0), .int (nI 0), .int (nI 0), .int (nI 0)])) := by rw [e5]; exact ju_eq
  have r5 : ∀ q, (q < a ∨ a + 14 ≤ q) → M5.1 q = M.1 q := fun q h => by rw [e5]; exact (ju_ne (by omega)).trans (r4 q h)
  have g5 : M5.2 = some (a + 2) := by rw [e5]; exact g4
  refine Q_aload_n (pc := 28) C dX5_init_28 rfl rfl ?_
  refine Q_iconst (pc := 29) (v := nI 0) C dX5_init_29 (by decide) ?_
  obtain ⟨M6, e6⟩ : ∃ z, z = ju M5 (a) (.inr (5, [.ref (a + 1), .int (nI 0), .int (nI 0), .int (nI 0), .int (nI 0)])) := ⟨_, rfl⟩
  refine Q_putU (pc := 30) (fs := [.ref (a + 1), .int (nI 0), .int (nI 0), .int (nI 0), .int (nI 0)]) C dX5_init_30 p_X5_27 f5_a (jlt rfl) rfl rfl e6.symm ?_
  have f6_a___1 : M6.1 (a + 1) = some (qA 3 6 (fun j => if 0 ≤ j ∧ j < 6 then none else some (a + 2 + 2 * j))) := by rw [e6]; exact (ju_ne (by omega)).trans f5_a___1
  have f6_a : M6.1 (a) = some (.inr (5, [.ref (a + 1), .int (nI 0), .int (nI 0), .int (nI 0), .int (nI 0)])) := by rw [e6]; exact ju_eq
  have r6 : ∀ q, (q < a ∨ a + 14 ≤ q) → M6.1 q = M.1 q := fun q h => by rw [e6]; exact (ju_ne (by omega)).trans (r5 q h)
  have g6 : M6.2 = some (a + 2) := by rw [e6]; exact g5
  refine Q_iconst (pc := 33) (v := nI 0) C dX5_init_33 (by decide) ?_
  refine Q_istN (pc := 34) (lv2 := [some (.ref (a)), some (.int (nI 0))]) C dX5_init_34 rfl (jlt rfl) rfl rfl ?_
  exact l_X5 C ha M 6 0 M6 rfl (by rw [g6]) f6_a f6_a___1 (fun k hk => absurd hk (Nat.not_lt_zero k)) r6
def z0 : xZ := (fun _ => (0, 0, nI 0, nI 0), fun _ => (136, 0, -1), fun _ _ => nI 0)
theorem opC_z0 {M : jMem} {i : Nat} (h0 : M.1 (17 + 14 * i) = some (.inr (5, [.ref (17 + 14 * i + 1), .int (nI 0), .int (nI 0), .int (nI 0), .int (nI 0)]))) (h1 : M.1 (17 + 14 * i + 1) = some (qA 3 6 (fun j => some (17 + 14 * i + 2 + 2 * j)))) (ha : ∀ k, k < 6 → M.1 (17 + 14 * i + 2 + 2 * k) = some (.inr (6, [.ref (17 + 14 * i + 3 + 2 * k), .int (nI 136), .int (nI 0), .int (-1)])) ∧ M.1 (17 + 14 * i + 3 + 2 * k) = some (rA 32 (fun _ => nI 0))) : ∀ r, r < 14 → M.1 (17 + 14 * i + r) = some (opC z0 i r) := by
  intro r hr
  rcases Nat.lt_or_ge r 2 with h | h
  · rcases Nat.lt_or_ge r 1 with h' | h'
    · obtain rfl : r = 0 := by omega
      rw [Nat.add_zero, h0, show 17 + 14 * i + 1 = 18 + 14 * i by omega]; rfl
    · obtain rfl : r = 1 := by omega
      rw [h1]
      show _ = some (qA 3 6 (fun k => some (19 + 14 * i + 2 * k)))
      refine congrArg some (congrArg (qA 3 6) (funext fun j => congrArg some (by omega)))
  · obtain ⟨k, hk | hk⟩ : ∃ k, r = 2 + 2 * k ∨ r = 3 + 2 * k := ⟨(r - 2) / 2, by omega⟩
    · subst hk
      have e := (ha k (by omega)).1
      rw [show 17 + 14 * i + (2 + 2 * k) = 17 + 14 * i + 2 + 2 * k by omega, e]
      unfold opC
      rw [if_neg (by omega), if_neg (by omega), if_pos (by omega), show (2 + 2 * k - 2) / 2 = k by omega, show 20 + 14 * i + 2 * k = 17 + 14 * i + 3 + 2 * k by omega]
      rfl
    · subst hk
      have e := (ha k (by omega)).2
      rw [show 17 + 14 * i + (3 + 2 * k) = 17 + 14 * i + 3 + 2 * k by omega, e]
      unfold opC
      rw [if_neg (by omega), if_neg (by omega), if_neg (by omega)]
      rfl
set_option maxHeartbeats 8000000 in
set_option maxRecDepth 100000 in
theorem l_X2 {p : Program} {l : Launch} {e : Env} {s : State} {m : MethodId} {args : Array Value} {below : List Frame} {meth : Method} {c : Code} {G : jG} (C : jX0 p l (jR 3 71 848 14634) s m args meth c G cX2_init 2 yX2_init.cls none) (M0 : jMem) : ∀ d i M, i + d = 60 → M.2 = some (17 + 14 * i) → M.1 (8) = some (.inr (2, [.ref (9), .ref (12), .ref (13), .ref (16), .int (nI 0), .int (nI 0)])) → M.1 (9) = some (.inr (4, [.ref (10), .ref (11), .int (nI 0)])) → M.1 (10) = some (nA (12 * 12) (fun _ => 0)) → M.1 (11) = some (nA (12) (fun _ => 0)) → M.1 (12) = some (nA 12 (fun _ => 0)) → M.1 (13) = some (.inr (4, [.ref (14), .ref (15), .int (nI 0)])) → M.1 (14) = some (nA (60 * 12) (fun _ => 0)) → M.1 (15) = some (nA (60) (fun _ => 0)) → M.1 16 = some (qA 2 60 (fun j => if i ≤ j ∧ j < 60 then none else some (17 + 14 * j))) → (∀ k, k < 14 * i → M.1 (17 + k) = some (opC z0 (k / 14) (k % 14))) → (∀ q, (q < 8 ∨ 857 ≤ q) → M.1 q = M0.1 q) → Jq p l e (jR 3 71 848 14634) s m args below meth c G 2 (vx_MQ below (jQp G (fun o => ∃ M', o = .inl (none, M') ∧ M'.2 = some (857) ∧ (M'.1 (8) = some (.inr (2, [.ref (9), .ref (12), .ref (13), .ref (16), .int (nI 0), .int (nI 0)])) ∧ M'.1 (9) = some (.inr (4, [.ref (10), .ref (11), .int (nI 0)])) ∧ M'.1 (10) = some (nA (12 * 12) (fun _ => 0)) ∧ M'.1 (11) = some (nA (12) (fun _ => 0)) ∧ M'.1 (12) = some (nA 12 (fun _ => 0)) ∧ M'.1 (13) = some (.inr (4, [.ref (14), .ref (15), .int (nI 0)])) ∧ M'.1 (14) = some (nA (60 * 12) (fun _ => 0)) ∧ M'.1 (15) = some (nA (60) (fun _ => 0)) ∧ M'.1 (16) = some (qA 2 60 (fun j => some (17 + 14 * j))) ∧ (∀ k, k < 840 → M'.1 (17 + k) = some (opC z0 (k / 14) (k % 14)))) ∧ ∀ q, (q < 8 ∨ 857 ≤ q) → M'.1 q = M0.1 q)) (jXp G (fun o => ∃ M', o = .inl (none, M') ∧ M'.2 = some (857) ∧ (M'.1 (8) = some (.inr (2, [.ref (9), .ref (12), .ref (13), .ref (16), .int (nI 0), .int (nI 0)])) ∧ M'.1 (9) = some (.inr (4, [.ref (10), .ref (11), .int (nI 0)])) ∧ M'.1 (10) = some (nA (12 * 12) (fun _ => 0)) ∧ M'.1 (11) = some (nA (12) (fun _ => 0)) ∧ M'.1 (12) = some (nA 12 (fun _ => 0)) ∧ M'.1 (13) = some (.inr (4, [.ref (14), .ref (15), .int (nI 0)])) ∧ M'.1 (14) = some (nA (60 * 12) (fun _ => 0)) ∧ M'.1 (15) = some (nA (60) (fun _ => 0)) ∧ M'.1 (16) = some (qA 2 60 (fun j => some (17 + 14 * j))) ∧ (∀ k, k < 840 → M'.1 (17 + k) = some (opC z0 (k / 14) (k % 14)))) ∧ ∀ q, (q < 8 ∨ 857 ≤ q) → M'.1 q = M0.1 q)) args s 848 14634 (jA G)) 59 [some (.ref 8), some (.int (nI i))] [] M (8 + 14 * i) (1014 + 227 * i) := by
  intro d
  induction d with
  | zero =>
    intro i M hi g0 h0 h1 h2 h3 h4 h5 h6 h7 h16 ha0 r0
    obtain rfl : i = 60 := by omega
    refine Q_iload_n (pc := 59) C dX2_init_59 rfl rfl ?_
    refine Q_bipush (pc := 60) (v := nI 60) C dX2_init_60 (by decide) ?_
    refine Q_icmp_geN (pc := 62) (tgt := 84) C dX2_init_62 rfl (jlt rfl) (jlt rfl) (fun _ => ?_) (fun h => absurd h (by omega))
    refine Jq.ofp (E_vret (pc := 84) C dX2_init_84 rfl ⟨M, rfl, by rw [g0], ⟨h0, h1, h2, h3, h4, h5, h6, h7, ?_, fun k hk => ha0 k (by omega)⟩, r0⟩ (by omega) (by omega))
    rw [h16]
    refine congrArg some (congrArg (qA 2 60) (funext fun j => ?_))
    exact if_neg (by omega)
  | succ d ih =>
    intro i M hi g0 h0 h1 h2 h3 h4 h5 h6 h7 h16 ha0 r0
    refine Q_iload_n (pc := 59) C dX2_init_59 rfl rfl ?_
    refine Q_bipush (pc := 60) (v := nI 60) C dX2_init_60 (by decide) ?_
    refine Q_icmp_geN (pc := 62) (tgt := 84) C dX2_init_62 rfl (by omega) (jlt rfl) (fun h => absurd h (by omega)) (fun _ => ?_)
    have r0 : ∀ q, (q < 8 ∨ 857 ≤ q) → M.1 q = M0.1 q := r0
    refine Q_aload_n (pc := 65) C dX2_init_65 rfl rfl ?_
    refine Q_get (pc := 66) C dX2_init_66 f_X2_29 h0 rfl ?_
    refine Q_iload_n (pc := 69) C dX2_init_69 rfl rfl ?_
    refine Q_new (pc := 70) (ci := 5) (fs := [.null, .int (nI 0), .int (nI 0), .int (nI 0), .int (nI 0)]) (k := 17 + 14 * i) (n := 17 + 14 * i) C dX2_init_70 rfl cl_X2_27 in_X5 ii_X5 df_X5 rfl g0 (by unfold jin; omega) (jr_lo (by omega)) (by simp only [jR]; try omega) (by simp only [jR]; try omega) ?_
    obtain ⟨M1, e1⟩ : ∃ z, z = jn M (17 + 14 * i) (.inr (5, [.null, .int (nI 0), .int (nI 0), .int (nI 0), .int (nI 0)])) (17 + 14 * i) := ⟨_, rfl⟩
    rw [← e1]
    have f1_8 : M1.1 (8) = some (.inr (2, [.ref (9), .ref (12), .ref (13), .ref (16), .int (nI 0), .int (nI 0)])) := by rw [e1]; exact (jn_ne (by omega)).trans h0
    have f1_9 : M1.1 (9) = some (.inr (4, [.ref (10), .ref (11), .int (nI 0)])) := by rw [e1]; exact (jn_ne (by omega)).trans h1
    have f1_10 : M1.1 (10) = some (nA (12 * 12) (fun _ => 0)) := by rw [e1]; exact (jn_ne (by omega)).trans h2
    have f1_11 : M1.1 (11) = some (nA (12) (fun _ => 0)) := by rw [e1]; exact (jn_ne (by omega)).trans h3
    have f1_12 : M1.1 (12) = some (nA 12 (fun _ => 0)) := by rw [e1]; exact (jn_ne (by omega)).trans h4
    have f1_13 : M1.1 (13) = some (.inr (4, [.ref (14), .ref (15), .int (nI 0)])) := by rw [e1]; exact (jn_ne (by omega)).trans h5
    have f1_14 : M1.1 (14) = some (nA (60 * 12) (fun _ => 0)) := by rw [e1]; exact (jn_ne (by omega)).trans h6
    have f1_15 : M1.1 (15) = some (nA (60) (fun _ => 0)) := by rw [e1]; exact (jn_ne (by omega)).trans h7
    have f1_16 : M1.1 (16) = some (qA 2 60 (fun j => if i ≤ j ∧ j < 60 then none else some (17 + 14 * j))) := by rw [e1]; exact (jn_ne (by omega)).trans h16
    have f1_17___14___i : M1.1 (17 + 14 * i) = some (.inr (5, [.null, .int (nI 0), .int (nI 0), .int (nI 0), .int (nI 0)])) := by rw [e1]; exact jn_eq
    have a1_0 : ∀ k, k < 14 * i → M1.1 (17 + k) = some (opC z0 (k / 14) (k % 14)) := fun k hk => by rw [e1]; exact (jn_ne (by omega)).trans (ha0 k hk)
    have r1 : ∀ q, (q < 8 ∨ 857 ≤ q) → M1.1 q = M0.1 q := fun q h => by rw [e1]; exact (jn_ne (by omega)).trans (r0 q h)
    have g1 : M1.2 = some (17 + 14 * i + 1) := by rw [e1]; rfl
    refine Q_dup (pc := 73) C dX2_init_73 rfl ?_
    refine Q_callIz (pc := 74) (k := 17 + 14 * i) (As := []) (st := [.ref (17 + 14 * i), .int (nI i), .ref (16)]) C dX2_init_74 m_X2_41 (i_X5 l G M1 (17 + 14 * i) f1_17___14___i g1 (by omega)) ⟨jle rfl, jle rfl⟩ rfl rfl (jle rfl) ⟨by simp only [jR]; try omega, by simp only [jR]; try omega⟩ (fun M2 hz => ?_)
    obtain ⟨g2, ⟨z2_0, z2_1, z2_2⟩, q2⟩ := hz
    have f2_8 : M2.1 (8) = some (.inr (2, [.ref (9), .ref (12), .ref (13), .ref (16), .int (nI 0), .int (nI 0)])) := (q2 _ (by omega)).trans f1_8
    have f2_9 : M2.1 (9) = some (.inr (4, [.ref (10), .ref (11), .int (nI 0)])) := (q2 _ (by omega)).trans f1_9
    have f2_10 : M2.1 (10) = some (nA (12 * 12) (fun _ => 0)) := (q2 _ (by omega)).trans f1_10
    have f2_11 : M2.1 (11) = some (nA (12) (fun _ => 0)) := (q2 _ (by omega)).trans f1_11
    have f2_12 : M2.1 (12) = some (nA 12 (fun _ => 0)) := (q2 _ (by omega)).trans f1_12
    have f2_13 : M2.1 (13) = some (.inr (4, [.ref (14), .ref (15), .int (nI 0)])) := (q2 _ (by omega)).trans f1_13
    have f2_14 : M2.1 (14) = some (nA (60 * 12) (fun _ => 0)) := (q2 _ (by omega)).trans f1_14
    have f2_15 : M2.1 (15) = some (nA (60) (fun _ => 0)) := (q2 _ (by omega)).trans f1_15
    have f2_16 : M2.1 (16) = some (qA 2 60 (fun j => if i ≤ j ∧ j < 60 then none else some (17 + 14 * j))) := (q2 _ (by omega)).trans f1_16
    have a2_0 : ∀ k, k < 14 * i → M2.1 (17 + k) = some (opC z0 (k / 14) (k % 14)) := fun k hk => (q2 _ (by omega)).trans (a1_0 k hk)
    have r2 : ∀ q, (q < 8 ∨ 857 ≤ q) → M2.1 q = M0.1 q := fun q h => (q2 q (by omega)).trans (r1 q h)
    have hop := opC_z0 z2_0 z2_1 z2_2
    obtain ⟨M3, e3⟩ : ∃ z, z = ju M2 (16) (qA 2 60 (va_up (fun j => if i ≤ j ∧ j < 60 then none else some (17 + 14 * j)) i (some (17 + 14 * i)))) := ⟨_, rfl⟩
    refine Q_aast (pc := 77) (t := 2) (ci := 5) (a := i) C dX2_init_77 rfl f2_16 z2_0 rfl (by omega) (by omega) e3.symm ?_
    have f3_8 : M3.1 (8) = some (.inr (2, [.ref (9), .ref (12), .ref (13), .ref (16), .int (nI 0), .int (nI 0)])) := by rw [e3]; exact (ju_ne (by omega)).trans f2_8
    have f3_9 : M3.1 (9) = some (.inr (4, [.ref (10), .ref (11), .int (nI 0)])) := by rw [e3]; exact (ju_ne (by omega)).trans f2_9
    have f3_10 : M3.1 (10) = some (nA (12 * 12) (fun _ => 0)) := by rw [e3]; exact (ju_ne (by omega)).trans f2_10
    have f3_11 : M3.1 (11) = some (nA (12) (fun _ => 0)) := by rw [e3]; exact (ju_ne (by omega)).trans f2_11
    have f3_12 : M3.1 (12) = some (nA 12 (fun _ => 0)) := by rw [e3]; exact (ju_ne (by omega)).trans f2_12
    have f3_13 : M3.1 (13) = some (.inr (4, [.ref (14), .ref (15), .int (nI 0)])) := by rw [e3]; exact (ju_ne (by omega)).trans f2_13
    have f3_14 : M3.1 (14) = some (nA (60 * 12) (fun _ => 0)) := by rw [e3]; exact (ju_ne (by omega)).trans f2_14
    have f3_15 : M3.1 (15) = some (nA (60) (fun _ => 0)) := by rw [e3]; exact (ju_ne (by omega)).trans f2_15
    have f3_17___14___i : M3.1 (17 + 14 * i) = some (.inr (5, [.ref (17 + 14 * i + 1), .int (nI 0), .int (nI 0), .int (nI 0), .int (nI 0)])) := by rw [e3]; exact (ju_ne (by omega)).trans z2_0
    have f3_16 : M3.1 (16) = some (qA 2 60 (va_up (fun j => if i ≤ j ∧ j < 60 then none else some (17 + 14 * j)) i (some (17 + 14 * i)))) := by rw [e3]; exact ju_eq
    have a3_0 : ∀ k, k < 14 * i → M3.1 (17 + k) = some (opC z0 (k / 14) (k % 14)) := fun k hk => by rw [e3]; exact (ju_ne (by omega)).trans (a2_0 k hk)
    have r3 : ∀ q, (q < 8 ∨ 857 ≤ q) → M3.1 q = M0.1 q := fun q h => by rw [e3]; exact (ju_ne (by omega)).trans (r2 q h)
    have g3 : M3.2 = some (17 + 14 * i + 14) := by rw [e3]; exact g2
    have hop2 : ∀ r, r < 14 → M3.1 (17 + 14 * i + r) = some (opC z0 i r) := fun r hr => by rw [e3]; exact (ju_ne (by omega)).trans (hop r hr)
    refine Q_iincN (pc := 78) C dX2_init_78 rfl (jlt rfl) rfl ?_
    refine Q_goto (pc := 81) (tgt := 59) C dX2_init_81 rfl ?_
    have hfu : va_up (fun j => if i ≤ j ∧ j < 60 then none else some (17 + 14 * j)) i (some (17 + 14 * i)) = (fun j => if (i + 1) ≤ j ∧ j < 60 then none else some (17 + 14 * j)) := by
      funext j
      by_cases hj : j = i
      · subst hj; rw [va_up_self, if_neg (by omega)]
      · rw [va_up_ne _ _ hj]
        by_cases hj2 : i ≤ j ∧ j < 60
        · rw [if_pos hj2, if_pos (by omega)]
        · rw [if_neg hj2, if_neg (by omega)]
    rw [hfu] at f3_16
    have hall : ∀ k, k < 14 * (i + 1) → M3.1 (17 + k) = some (opC z0 (k / 14) (k % 14)) := fun k hk => by
      by_cases hk2 : k < 14 * i
      · exact a3_0 k hk2
      · have hh := hop2 (k - 14 * i) (by omega)
        rw [show 17 + 14 * i + (k - 14 * i) = 17 + k by omega] at hh
        rw [show k / 14 = i by omega, show k % 14 = k - 14 * i by omega]
        exact hh
    exact ih (i + 1) M3 (by omega) (by rw [g3]; exact congrArg some (by omega)) f3_8 f3_9 f3_10 f3_11 f3_12 f3_13 f3_14 f3_15 f3_16 hall r3
set_option maxHeartbeats 4000000 in
set_option maxRecDepth 100000 in
theorem i_X2 (l : Launch) (G : jG) (M : jMem)  (h0 : M.1 (8) = some (.inr (2, [.null, .null, .null, .null, .int (nI 0), .int (nI 0)]))) (g0 : M.2 = some (9))   : jCp l G yX2_init cX2_init 2 none 3 71 848 (14634) [.ref (8)] M (fun o => ∃ M', o = .inl (none, M') ∧ M'.2 = some (857) ∧ (M'.1 (8) = some (.inr (2, [.ref (9), .ref (12), .ref (13), .ref (16), .int (nI 0), .int (nI 0)])) ∧ M'.1 (9) = some (.inr (4, [.ref (10), .ref (11), .int (nI 0)])) ∧ M'.1 (10) = some (nA (12 * 12) (fun _ => 0)) ∧ M'.1 (11) = some (nA (12) (fun _ => 0)) ∧ M'.1 (12) = some (nA 12 (fun _ => 0)) ∧ M'.1 (13) = some (.inr (4, [.ref (14), .ref (15), .int (nI 0)])) ∧ M'.1 (14) = some (nA (60 * 12) (fun _ => 0)) ∧ M'.1 (15) = some (nA (60) (fun _ => 0)) ∧ M'.1 (16) = some (qA 2 60 (fun j => some (17 + 14 * j))) ∧ (∀ k, k < 840 → M'.1 (17 + k) = some (opC z0 (k / 14) (k % 14)))) ∧ ∀ q, (q < 8 ∨ 857 ≤ q) → M'.1 q = M.1 q) := by
  refine jCp.ofN (by decide) 1 rfl [some (.ref (8)), none] rfl (fun p e s m args below meth c C hNm => ?_)
  have r0 : ∀ q, (q < 8 ∨ 857 ≤ q) → M.1 q = M.1 q := fun _ _ => rfl
  refine Q_aload_n (pc := 0) C dX2_init_0 rfl rfl ?_
  refine Q_obj (pc := 1) C dX2_init_1 ol_X2 o_im o_cd (jle rfl) (jle rfl) ?_
  refine Q_aload_n (pc := 4) C dX2_init_4 rfl rfl ?_
  refine Q_new (pc := 5) (ci := 4) (fs := [.null, .null, .int (nI 0)]) (k := 9) (n := 9) C dX2_init_5 rfl cl_X2_9 in_X4 ii_X4 df_X4 rfl g0 (by unfold jin; omega) (jr_lo (by omega)) (by simp only [jR]; try omega) (by simp only [jR]; try omega) ?_
  obtain ⟨M1, e1⟩ : ∃ z, z = jn M (9) (.inr (4, [.null, .null, .int (nI 0)])) (9) := ⟨_, rfl⟩
  rw [← e1]
  have f1_8 : M1.1 (8) = some (.inr (2, [.null, .null, .null, .null, .int (nI 0), .int (nI 0)])) := by rw [e1]; exact (jn_ne (by omega)).trans h0
  have f1_9 : M1.1 (9) = some (.inr (4, [.null, .null, .int (nI 0)])) := by rw [e1]; exact jn_eq
  have r1 : ∀ q, (q < 8 ∨ 857 ≤ q) → M1.1 q = M.1 q := fun q h => by rw [e1]; exact (jn_ne (by omega)).trans (r0 q h)
  have g1 : M1.2 = some (10) := by rw [e1]; rfl
  refine Q_dup (pc := 8) C dX2_init_8 rfl ?_
  refine Q_bipush (pc := 9) (v := nI 12) C dX2_init_9 (by decide) ?_
  refine Q_callIz (pc := 11) (k := 9) (As := [.int (nI 12)]) (st := [.ref (9), .ref (8)]) C dX2_init_11 m_X2_11 (i_X4 l G M1 9 12 f1_9 g1 (by omega) (by omega)) ⟨jle rfl, jle rfl⟩ rfl rfl (jle rfl) ⟨by simp only [jR]; try omega, by simp only [jR]; try omega⟩ (fun M2 hz => ?_)
  obtain ⟨g2, ⟨z2_0, z2_1, z2_2⟩, q2⟩ := hz
  have f2_8 : M2.1 (8) = some (.inr (2, [.null, .null, .null, .null, .int (nI 0), .int (nI 0)])) := (q2 _ (by omega)).trans f1_8
  have r2 : ∀ q, (q < 8 ∨ 857 ≤ q) → M2.1 q = M.1 q := fun q h => (q2 q (by omega)).trans (r1 q h)
  obtain ⟨M3, e3⟩ : ∃ z, z = ju M2 (8) (.inr (2, [.ref (9), .null, .null, .null, .int (nI 0), .int (nI 0)])) := ⟨_, rfl⟩
  refine Q_putFU (pc := 14) (fs := [.null, .null, .null, .null, .int (nI 0), .int (nI 0)]) C hNm dX2_init_14 p_X2_14 f2_8 (jlt rfl) rfl rfl e3.symm ?_
  have f3_9 : M3.1 (9) = some (.inr (4, [.ref (10), .ref (11), .int (nI 0)])) := by rw [e3]; exact (ju_ne (by omega)).trans z2_0
  have f3_10 : M3.1 (10) = some (nA (12 * 12) (fun _ => 0)) := by rw [e3]; exact (ju_ne (by omega)).trans z2_1
  have f3_11 : M3.1 (11) = some (nA (12) (fun _ => 0)) := by rw [e3]; exact (ju_ne (by omega)).trans z2_2
  have f3_8 : M3.1 (8) = some (.inr (2, [.ref (9), .null, .null, .null, .int (nI 0), .int (nI 0)])) := by rw [e3]; exact ju_eq
  have r3 : ∀ q, (q < 8 ∨ 857 ≤ q) → M3.1 q = M.1 q := fun q h => by rw [e3]; exact (ju_ne (by omega)).trans (r2 q h)
  have g3 : M3.2 = some (12) := by rw [e3]; exact g2
  refine Q_aload_n (pc := 17) C dX2_init_17 rfl rfl ?_
  refine Q_bipush (pc := 18) (v := nI 12) C dX2_init_18 (by decide) ?_
  refine Q_newi (pc := 20) (k := 12) (n := 12) (N := 12) C dX2_init_20 a_int (by omega) g3 (by unfold jin; omega) (jr_lo (by omega)) (by simp only [jR]; try omega) (by simp only [jR]; try omega) ?_
  obtain ⟨M4, e4⟩ : ∃ z, z = jn M3 (12) (nA (12) (fun _ => 0)) (12) := ⟨_, rfl⟩
  rw [← e4]
  have f4_8 : M4.1 (8) = some (.inr (2, [.ref (9), .null, .null, .null, .int (nI 0), .int (nI 0)])) := by rw [e4]; exact (jn_ne (by omega)).trans f3_8
  have f4_9 : M4.1 (9) = some (.inr (4, [.ref (10), .ref (11), .int (nI 0)])) := by rw [e4]; exact (jn_ne (by omega)).trans f3_9
  have f4_10 : M4.1 (10) = some (nA (12 * 12) (fun _ => 0)) := by rw [e4]; exact (jn_ne (by omega)).trans f3_10
  have f4_11 : M4.1 (11) = some (nA (12) (fun _ => 0)) := by rw [e4]; exact (jn_ne (by omega)).trans f3_11
  have f4_12 : M4.1 (12) = some (nA (12) (fun _ => 0)) := by rw [e4]; exact jn_eq
  have r4 : ∀ q, (q < 8 ∨ 857 ≤ q) → M4.1 q = M.1 q := fun q h => by rw [e4]; exact (jn_ne (by omega)).trans (r3 q h)
  have g4 : M4.2 = some (13) := by rw [e4]; rfl
  obtain ⟨M5, e5⟩ : ∃ z, z = ju M4 (8) (.inr (2, [.ref (9), .ref (12), .null, .null, .int (nI 0), .int (nI 0)])) := ⟨_, rfl⟩
  refine Q_putFU (pc := 22) (fs := [.ref (9), .null, .null, .null, .int (nI 0), .int (nI 0)]) C hNm dX2_init_22 p_X2_20 f4_8 (jlt rfl) rfl rfl e5.symm ?_
  have f5_9 : M5.1 (9) = some (.inr (4, [.ref (10), .ref (11), .int (nI 0)])) := by rw [e5]; exact (ju_ne (by omega)).trans f4_9
  have f5_10 : M5.1 (10) = some (nA (12 * 12) (fun _ => 0)) := by rw [e5]; exact (ju_ne (by omega)).trans f4_10
  have f5_11 : M5.1 (11) = some (nA (12) (fun _ => 0)) := by rw [e5]; exact (ju_ne (by omega)).trans f4_11
  have f5_12 : M5.1 (12) = some (nA (12) (fun _ => 0)) := by rw [e5]; exact (ju_ne (by omega)).trans f4_12
  have f5_8 : M5.1 (8) = some (.inr (2, [.ref (9), .ref (12), .null, .null, .int (nI 0), .int (nI 0)])) := by rw [e5]; exact ju_eq
  have r5 : ∀ q, (q < 8 ∨ 857 ≤ q) → M5.1 q = M.1 q := fun q h => by rw [e5]; exact (ju_ne (by omega)).trans (r4 q h)
  have g5 : M5.2 = some (13) := by rw [e5]; exact g4
  refine Q_aload_n (pc := 25) C dX2_init_25 rfl rfl ?_
  refine Q_new (pc := 26) (ci := 4) (fs := [.null, .null, .int (nI 0)]) (k := 13) (n := 13) C dX2_init_26 rfl cl_X2_9 in_X4 ii_X4 df_X4 rfl g5 (by unfold jin; omega) (jr_lo (by omega)) (by simp only [jR]; try omega) (by simp only [jR]; try omega) ?_
  obtain ⟨M6, e6⟩ : ∃ z, z = jn M5 (13) (.inr (4, [.null, .null, .int (nI 0)])) (13) := ⟨_, rfl⟩
  rw [← e6]
  have f6_8 : M6.1 (8) = some (.inr (2, [.ref (9), .ref (12), .null, .null, .int (nI 0), .int (nI 0)])) := by rw [e6]; exact (jn_ne (by omega)).trans f5_8
  have f6_9 : M6.1 (9) = some (.inr (4, [.ref (10), .ref (11), .int (nI 0)])) := by rw [e6]; exact (jn_ne (by omega)).trans f5_9
  have f6_10 : M6.1 (10) = some (nA (12 * 12) (fun _ => 0)) := by rw [e6]; exact (jn_ne (by omega)).trans f5_10
  have f6_11 : M6.1 (11) = some (nA (12) (fun _ => 0)) := by rw [e6]; exact (jn_ne (by omega)).trans f5_11
  have f6_12 : M6.1 (12) = some (nA (12) (fun _ => 0)) := by rw [e6]; exact (jn_ne (by omega)).trans f5_12
  have f6_13 : M6.1 (13) = some (.inr (4, [.null, .null, .int (nI 0)])) := by rw [e6]; exact jn_eq
  have r6 : ∀ q, (q < 8 ∨ 857 ≤ q) → M6.1 q = M.1 q := fun q h => by rw [e6]; exact (jn_ne (by omega)).trans (r5 q h)
  have g6 : M6.2 = some (14) := by rw [e6]; rfl
  refine Q_dup (pc := 29) C dX2_init_29 rfl ?_
  refine Q_bipush (pc := 30) (v := nI 60) C dX2_init_30 (by decide) ?_
  refine Q_callIz (pc := 32) (k := 13) (As := [.int (nI 60)]) (st := [.ref (13), .ref (8)]) C dX2_init_32 m_X2_11 (i_X4 l G M6 13 60 f6_13 g6 (by omega) (by omega)) ⟨jle rfl, jle rfl⟩ rfl rfl (jle rfl) ⟨by simp only [jR]; try omega, by simp only [jR]; try omega⟩ (fun M7 hz => ?_)
  obtain ⟨g7, ⟨z7_0, z7_1, z7_2⟩, q7⟩ := hz
  have f7_8 : M7.1 (8) = some (.inr (2, [.ref (9), .ref (12), .null, .null, .int (nI 0), .int (nI 0)])) := (q7 _ (by omega)).trans f6_8
  have f7_9 : M7.1 (9) = some (.inr (4, [.ref (10), .ref (11), .int (nI 0)])) := (q7 _ (by omega)).trans f6_9
  have f7_10 : M7.1 (10) = some (nA (12 * 12) (fun _ => 0)) := (q7 _ (by omega)).trans f6_10
  have f7_11 : M7.1 (11) = some (nA (12) (fun _ => 0)) := (q7 _ (by omega)).trans f6_11
  have f7_12 : M7.1 (12) = some (nA (12) (fun _ => 0)) := (q7 _ (by omega)).trans f6_12
  have r7 : ∀ q, (q < 8 ∨ 857 ≤ q) → M7.1 q = M.1 q := fun q h => (q7 q (by omega)).trans (r6 q h)
  obtain ⟨M8, e8⟩ : ∃ z, z = ju M7 (8) (.inr (2, [.ref (9), .ref (12), .ref (13), .null, .int (nI 0), .int (nI 0)])) := ⟨_, rfl⟩
  refine Q_putFU (pc := 35) (fs := [.ref (9), .ref (12), .null, .null, .int (nI 0), .int (nI 0)]) C hNm dX2_init_35 p_X2_24 f7_8 (jlt rfl) rfl rfl e8.symm ?_
  have f8_9 : M8.1 (9) = some (.inr (4, [.ref (10), .ref (11), .int (nI 0)])) := by rw [e8]; exact (ju_ne (by omega)).trans f7_9
  have f8_10 : M8.1 (10) = some (nA (12 * 12) (fun _ => 0)) := by rw [e8]; exact (ju_ne (by omega)).trans f7_10
  have f8_11 : M8.1 (11) = some (nA (12) (fun _ => 0)) := by rw [e8]; exact (ju_ne (by omega)).trans f7_11
  have f8_12 : M8.1 (12) = some (nA (12) (fun _ => 0)) := by rw [e8]; exact (ju_ne (by omega)).trans f7_12
  have f8_13 : M8.1 (13) = some (.inr (4, [.ref (14), .ref (15), .int (nI 0)])) := by rw [e8]; exact (ju_ne (by omega)).trans z7_0
  have f8_14 : M8.1 (14) = some (nA (60 * 12) (fun _ => 0)) := by rw [e8]; exact (ju_ne (by omega)).trans z7_1
  have f8_15 : M8.1 (15) = some (nA (60) (fun _ => 0)) := by rw [e8]; exact (ju_ne (by omega)).trans z7_2
  have f8_8 : M8.1 (8) = some (.inr (2, [.ref (9), .ref (12), .ref (13), .null, .int (nI 0), .int (nI 0)])) := by rw [e8]; exact ju_eq
  have r8 : ∀ q, (q < 8 ∨ 857 ≤ q) → M8.1 q = M.1 q := fun q h => by rw [e8]; exact (ju_ne (by omega)).trans (r7 q h)
  have g8 : M8.2 = some (16) := by rw [e8]; exact g7
  refine Q_aload_n (pc := 38) C dX2_init_38 rfl rfl ?_
  refine Q_bipush (pc := 39) (v := nI 60) C dX2_init_39 (by decide) ?_
  refine Q_anew (pc := 41) (k := 16) (n := 16) (N := 60) (t := 2) C (fun j => if 0 ≤ j ∧ j < 60 then none else some (17 + 14 * j)) (fun j hj => if_pos (by omega)) dX2_init_41 cl_X2_27 rfl C.S.2.2.2.1 (by omega) g8 (by unfold jin; omega) (jr_lo (by omega)) (by simp only [jR]; try omega) (by simp only [jR]; try omega) ?_
  obtain ⟨M9, e9⟩ : ∃ z, z = jn M8 (16) (qA 2 60 (fun j => if 0 ≤ j ∧ j < 60 then none else some (17 + 14 * j))) (16) := ⟨_, rfl⟩
  rw [← e9]
  have f9_8 : M9.1 (8) = some (.inr (2, [.ref (9), .ref (12), .ref (13), .null, .int (nI 0), .int (nI 0)])) := by rw [e9]; exact (jn_ne (by omega)).trans f8_8
  have f9_9 : M9.1 (9) = some (.inr (4, [.ref (10), .ref (11), .int (nI 0)])) := by rw [e9]; exact (jn_ne (by omega)).trans f8_9
  have f9_10 : M9.1 (10) = some (nA (12 * 12) (fun _ => 0)) := by rw [e9]; exact (jn_ne (by omega)).trans f8_10
  have f9_11 : M9.1 (11) = some (nA (12) (fun _ => 0)) := by rw [e9]; exact (jn_ne (by omega)).trans f8_11
  have f9_12 : M9.1 (12) = some (nA (12) (fun _ => 0)) := by rw [e9]; exact (jn_ne (by omega)).trans f8_12
  have f9_13 : M9.1 (13) = some (.inr (4, [.ref (14), .ref (15), .int (nI 0)])) := by rw [e9]; exact (jn_ne (by omega)).trans f8_13
  have f9_14 : M9.1 (14) = some (nA (60 * 12) (fun _ => 0)) := by rw [e9]; exact (jn_ne (by omega)).trans f8_14
  have f9_15 : M9.1 (15) = some (nA (60) (fun _ => 0)) := by rw [e9]; exact (jn_ne (by omega)).trans f8_15
  have f9_16 : M9.1 (16) = some (qA 2 60 (fun j => if 0 ≤ j ∧ j < 60 then none else some (17 + 14 * j))) := by rw [e9]; exact jn_eq
  have r9 : ∀ q, (q < 8 ∨ 857 ≤ q) → M9.1 q = M.1 q := fun q h => by rw [e9]; exact (jn_ne (by omega)).trans (r8 q h)
  have g9 : M9.2 = some (17) := by rw [e9]; rfl
  obtain ⟨M10, e10⟩ : ∃ z, z = ju M9 (8) (.inr (2, [.ref (9), .ref (12), .ref (13), .ref (16), .int (nI 0), .int (nI 0)])) := ⟨_, rfl⟩
  refine Q_putFU (pc := 44) (fs := [.ref (9), .ref (12), .ref (13), .null, .int (nI 0), .int (nI 0)]) C hNm dX2_init_44 p_X2_29 f9_8 (jlt rfl) rfl rfl e10.symm ?_
  have f10_9 : M10.1 (9) = some (.inr (4, [.ref (10), .ref (11), .int (nI 0)])) := by rw [e10]; exact (ju_ne (by omega)).trans f9_9
  have f10_10 : M10.1 (10) = some (nA (12 * 12) (fun _ => 0)) := by rw [e10]; exact (ju_ne (by omega)).trans f9_10
  have f10_11 : M10.1 (11) = some (nA (12) (fun _ => 0)) := by rw [e10]; exact (ju_ne (by omega)).trans f9_11
  have f10_12 : M10.1 (12) = some (nA (12) (fun _ => 0)) := by rw [e10]; exact (ju_ne (by omega)).trans f9_12
  have f10_13 : M10.1 (13) = some (.inr (4, [.ref (14), .ref (15), .int (nI 0)])) := by rw [e10]; exact (ju_ne (by omega)).trans f9_13
  have f10_14 : M10.1 (14) = some (nA (60 * 12) (fun _ => 0)) := by rw [e10]; exact (ju_ne (by omega)).trans f9_14
  have f10_15 : M10.1 (15) = some (nA (60) (fun _ => 0)) := by rw [e10]; exact (ju_ne (by omega)).trans f9_15
  have f10_16 : M10.1 (16) = some (qA 2 60 (fun j => if 0 ≤ j ∧ j < 60 then none else some (17 + 14 * j))) := by rw [e10]; exact (ju_ne (by omega)).trans f9_16
  have f10_8 : M10.1 (8) = some (.inr (2, [.ref (9), .ref (12), .ref (13), .ref (16), .int (nI 0), .int (nI 0)])) := by rw [e10]; exact ju_eq
  have r10 : ∀ q, (q < 8 ∨ 857 ≤ q) → M10.1 q = M.1 q := fun q h => by rw [e10]; exact (ju_ne (by omega)).trans (r9 q h)
  have g10 : M10.2 = some (17) := by rw [e10]; exact g9
  refine Q_aload_n (pc := 47) C dX2_init_47 rfl rfl ?_
  refine Q_iconst (pc := 48) (v := nI 0) C dX2_init_48 (by decide) ?_
  obtain ⟨M11, e11⟩ : ∃ z, z = ju M10 (8) (.inr (2, [.ref (9), .ref (12), .ref (13), .ref (16), .int (nI 0), .int (nI 0)])) := ⟨_, rfl⟩
  refine Q_putU (pc := 49) (fs := [.ref (9), .ref (12), .ref (13), .ref (16), .int (nI 0), .int (nI 0)]) C dX2_init_49 p_X2_33 f10_8 (jlt rfl) rfl rfl e11.symm ?_
  have f11_9 : M11.1 (9) = some (.inr (4, [.ref (10), .ref (11), .int (nI 0)])) := by rw [e11]; exact (ju_ne (by omega)).trans f10_9
  have f11_10 : M11.1 (10) = some (nA (12 * 12) (fun _ => 0)) := by rw [e11]; exact (ju_ne (by omega)).trans f10_10
  have f11_11 : M11.1 (11) = some (nA (12) (fun _ => 0)) := by rw [e11]; exact (ju_ne (by omega)).trans f10_11
  have f11_12 : M11.1 (12) = some (nA (12) (fun _ => 0)) := by rw [e11]; exact (ju_ne (by omega)).trans f10_12
  have f11_13 : M11.1 (13) = some (.inr (4, [.ref (14), .ref (15), .int (nI 0)])) := by rw [e11]; exact (ju_ne (by omega)).trans f10_13
  have f11_14 : M11.1 (14) = some (nA (60 * 12) (fun _ => 0)) := by rw [e11]; exact (ju_ne (by omega)).trans f10_14
  have f11_15 : M11.1 (15) = some (nA (60) (fun _ => 0)) := by rw [e11]; exact (ju_ne (by omega)).trans f10_15
  have f11_16 : M11.1 (16) = some (qA 2 60 (fun j => if 0 ≤ j ∧ j < 60 then none else some (17 + 14 * j))) := by rw [e11]; exact (ju_ne (by omega)).trans f10_16
  have f11_8 : M11.1 (8) = some (.inr (2, [.ref (9), .ref (12), .ref (13), .ref (16), .int (nI 0), .int (nI 0)])) := by rw [e11]; exact ju_eq
  have r11 : ∀ q, (q < 8 ∨ 857 ≤ q) → M11.1 q = M.1 q := fun q h => by rw [e11]; exact (ju_ne (by omega)).trans (r10 q h)
  have g11 : M11.2 = some (17) := by rw [e11]; exact g10
  refine Q_aload_n (pc := 52) C dX2_init_52 rfl rfl ?_
  refine Q_iconst (pc := 53) (v := nI 0) C dX2_init_53 (by decide) ?_
  obtain ⟨M12, e12⟩ : ∃ z, z = ju M11 (8) (.inr (2, [.ref (9), .ref (12), .ref (13), .ref (16), .int (nI 0), .int (nI 0)])) := ⟨_, rfl⟩
  refine Q_putU (pc := 54) (fs := [.ref (9), .ref (12), .ref (13), .ref (16), .int (nI 0), .int (nI 0)]) C dX2_init_54 p_X2_37 f11_8 (jlt rfl) rfl rfl e12.symm ?_
  have f12_9 : M12.1 (9) = some (.inr (4, [.ref (10), .ref (11), .int (nI 0)])) := by rw [e12]; exact (ju_ne (by omega)).trans f11_9
  have f12_10 : M12.1 (10) = some (nA (12 * 12) (fun _ => 0)) := by rw [e12]; exact (ju_ne (by omega)).trans f11_10
  have f12_11 : M12.1 (11) = some (nA (12) (fun _ => 0)) := by rw [e12]; exact (ju_ne (by omega)).trans f11_11
  have f12_12 : M12.1 (12) = some (nA (12) (fun _ => 0)) := by rw [e12]; exact (ju_ne (by omega)).trans f11_12
  have f12_13 : M12.1 (13) = some (.inr (4, [.ref (14), .ref (15), .int (nI 0)])) := by rw [e12]; exact (ju_ne (by omega)).trans f11_13
  have f12_14 : M12.1 (14) = some (nA (60 * 12) (fun _ => 0)) := by rw [e12]; exact (ju_ne (by omega)).trans f11_14
  have f12_15 : M12.1 (15) = some (nA (60) (fun _ => 0)) := by rw [e12]; exact (ju_ne (by omega)).trans f11_15
  have f12_16 : M12.1 (16) = some (qA 2 60 (fun j => if 0 ≤ j ∧ j < 60 then none else some (17 + 14 * j))) := by rw [e12]; exact (ju_ne (by omega)).trans f11_16
  have f12_8 : M12.1 (8) = some (.inr (2, [.ref (9), .ref (12), .ref (13), .ref (16), .int (nI 0), .int (nI 0)])) := by rw [e12]; exact ju_eq
  have r12 : ∀ q, (q < 8 ∨ 857 ≤ q) → M12.1 q = M.1 q := fun q h => by rw [e12]; exact (ju_ne (by omega)).trans (r11 q h)
  have g12 : M12.2 = some (17) := by rw [e12]; exact g11
  refine Q_iconst (pc := 57) (v := nI 0) C dX2_init_57 (by decide) ?_
  refine Q_istN (pc := 58) (lv2 := [some (.ref (8)), some (.int (nI 0))]) C dX2_init_58 rfl (jlt rfl) rfl rfl ?_
  exact l_X2 C M 60 0 M12 rfl (by rw [g12]) (by first | exact f12_8 | (rw [f12_8]; rfl)) (by first | exact f12_9 | (rw [f12_9]; rfl)) (by first | exact f12_10 | (rw [f12_10]; rfl)) (by first | exact f12_11 | (rw [f12_11]; rfl)) (by first | exact f12_12 | (rw [f12_12]; rfl)) (by first | exact f12_13 | (rw [f12_13]; rfl)) (by first | exact f12_14 | (rw [f12_14]; rfl)) (by first | exact f12_15 | (rw [f12_15]; rfl)) f12_16 (fun k hk => absurd hk (Nat.not_lt_zero k)) r12
def e0 (T : jMem) : jMem := encX (0, (fun _ => 0), (fun _ => 0)) (0, 0, (fun _ => 0), (fun _ => 0), (fun _ => 0)) (0, 128, 0, 0) (-1) (0, 0, (0, (fun _ => 0), (fun _ => 0)), (fun _ => 0), (0, (fun _ => 0), (fun _ => 0))) z0 (0, 0, (fun _ => nI 0), (0, (fun _ => 0), (fun _ => 0)), (fun _ => 0)) (0, (fun _ => 0), (fun _ => 0)) (0, (fun _ => 0), (fun _ => 0), (fun _ => 0), (fun _ => 0), (fun _ => 0)) (0, (fun _ => 0)) T
theorem e0_out {T : jMem} {q : Nat} (h : 875 ≤ q) : (e0 T).1 q = T.1 q := by
  unfold e0 encX
  rw [jlist_o (by simp only [List.length_cons, List.length_nil]; omega)]
  show (if 17 ≤ q ∧ q < 857 then _ else _) = _
  rw [if_neg (by omega), jlist_o (by simp only [List.length_cons, List.length_nil]; omega)]
theorem e0_ops {T : jMem} {q : Nat} (h : 17 ≤ q ∧ q < 857) : (e0 T).1 q = some (opC z0 ((q - 17) / 14) ((q - 17) % 14)) := by
  unfold e0 encX
  rw [jlist_o (by simp only [List.length_cons, List.length_nil]; omega)]
  show (if 17 ≤ q ∧ q < 857 then _ else _) = _
  rw [if_pos h]
set_option maxHeartbeats 8000000 in
set_option maxRecDepth 100000 in
theorem i_X10 (l : Launch) (G : jG) (M : jMem) (h0 : M.1 (0) = some (.inr (10, [.null, .null, .null, .null, .null, .null, .null, .null, .int (nI 0)]))) (g0 : M.2 = some (1)) : jCp l G yX10_init cX10_init 1 none 4 92 874 (42701) [.ref 0] M (fun o => o = .inl (none, e0 (M.1, some 875))) := by
  refine jCp.ofN (by decide) 0 rfl [some (.ref 0)] rfl (fun p e s m args below meth c C hNm => ?_)
  have r0 : ∀ q, (q < 0 ∨ 875 ≤ q) → M.1 q = M.1 q := fun _ _ => rfl
  refine Q_aload_n (pc := 0) C dX10_init_0 rfl rfl ?_
  refine Q_obj (pc := 1) C dX10_init_1 ol_X10 o_im o_cd (jle rfl) (jle rfl) ?_
  refine Q_aload_n (pc := 4) C dX10_init_4 rfl rfl ?_
  refine Q_sipush (pc := 5) (v := nI 4000) C dX10_init_5 (by decide) ?_
  refine Q_newi (pc := 8) (k := 1) (n := 1) (N := 4000) C dX10_init_8 a_int (by omega) g0 (by unfold jin; omega) (jr_lo (by omega)) (by simp only [jR]; try omega) (by simp only [jR]; try omega) ?_
  obtain ⟨M1, e1⟩ : ∃ z, z = jn M (1) (nA (4000) (fun _ => 0)) (1) := ⟨_, rfl⟩
  rw [← e1]
  have f1_0 : M1.1 (0) = some (.inr (10, [.null, .null, .null, .null, .null, .null, .null, .null, .int (nI 0)])) := by rw [e1]; exact (jn_ne (by omega)).trans h0
  have f1_1 : M1.1 (1) = some (nA (4000) (fun _ => 0)) := by rw [e1]; exact jn_eq
  have r1 : ∀ q, (q < 0 ∨ 875 ≤ q) → M1.1 q = M.1 q := fun q h => by rw [e1]; exact (jn_ne (by omega)).trans (r0 q h)
  have g1 : M1.2 = some (2) := by rw [e1]; rfl
  obtain ⟨M2, e2⟩ : ∃ z, z = ju M1 (0) (.inr (10, [.ref (1), .null, .null, .null, .null, .null, .null, .null, .int (nI 0)])) := ⟨_, rfl⟩
  refine Q_putFU (pc := 10) (fs := [.null, .null, .null, .null, .null, .null, .null, .null, .int (nI 0)]) C hNm dX10_init_10 p_X10_9 f1_0 (jlt rfl) rfl rfl e2.symm ?_
  have f2_1 : M2.1 (1) = some (nA (4000) (fun _ => 0)) := by rw [e2]; exact (ju_ne (by omega)).trans f1_1
  have f2_0 : M2.1 (0) = some (.inr (10, [.ref (1), .null, .null, .null, .null, .null, .null, .null, .int (nI 0)])) := by rw [e2]; exact ju_eq
  have r2 : ∀ q, (q < 0 ∨ 875 ≤ q) → M2.1 q = M.1 q := fun q h => by rw [e2]; exact (ju_ne (by omega)).trans (r1 q h)
  have g2 : M2.2 = some (2) := by rw [e2]; exact g1
  refine Q_aload_n (pc := 13) C dX10_init_13 rfl rfl ?_
  refine Q_bipush (pc := 14) (v := nI 6) C dX10_init_14 (by decide) ?_
  refine Q_newl (pc := 16) (k := 2) (n := 2) (N := 6) C dX10_init_16 a_long (by omega) g2 (by unfold jin; omega) (jr_lo (by omega)) (by simp only [jR]; try omega) (by simp only [jR]; try omega) ?_
  obtain ⟨M3, e3⟩ : ∃ z, z = jn M2 (2) (lA (6) (fun _ => 0)) (2) := ⟨_, rfl⟩
  rw [← e3]
  have f3_0 : M3.1 (0) = some (.inr (10, [.ref (1), .null, .null, .null, .null, .null, .null, .null, .int (nI 0)])) := by rw [e3]; exact (jn_ne (by omega)).trans f2_0
  have f3_1 : M3.1 (1) = some (nA (4000) (fun _ => 0)) := by rw [e3]; exact (jn_ne (by omega)).trans f2_1
  have f3_2 : M3.1 (2) = some (lA (6) (fun _ => 0)) := by rw [e3]; exact jn_eq
  have r3 : ∀ q, (q < 0 ∨ 875 ≤ q) → M3.1 q = M.1 q := fun q h => by rw [e3]; exact (jn_ne (by omega)).trans (r2 q h)
  have g3 : M3.2 = some (3) := by rw [e3]; rfl
  obtain ⟨M4, e4⟩ : ∃ z, z = ju M3 (0) (.inr (10, [.ref (1), .ref (2), .null, .null, .null, .null, .null, .null, .int (nI 0)])) := ⟨_, rfl⟩
  refine Q_putFU (pc := 18) (fs := [.ref (1), .null, .null, .null, .null, .null, .null, .null, .int (nI 0)]) C hNm dX10_init_18 p_X10_13 f3_0 (jlt rfl) rfl rfl e4.symm ?_
  have f4_1 : M4.1 (1) = some (nA (4000) (fun _ => 0)) := by rw [e4]; exact (ju_ne (by omega)).trans f3_1
  have f4_2 : M4.1 (2) = some (lA (6) (fun _ => 0)) := by rw [e4]; exact (ju_ne (by omega)).trans f3_2
  have f4_0 : M4.1 (0) = some (.inr (10, [.ref (1), .ref (2), .null, .null, .null, .null, .null, .null, .int (nI 0)])) := by rw [e4]; exact ju_eq
  have r4 : ∀ q, (q < 0 ∨ 875 ≤ q) → M4.1 q = M.1 q := fun q h => by rw [e4]; exact (ju_ne (by omega)).trans (r3 q h)
  have g4 : M4.2 = some (3) := by rw [e4]; exact g3
  refine Q_aload_n (pc := 21) C dX10_init_21 rfl rfl ?_
  refine Q_new (pc := 22) (ci := 9) (fs := [.null, .null, .int (nI 0), .int (nI 0), .int (nI 0), .int (nI 0), .int (nI 0)]) (k := 3) (n := 3) C dX10_init_22 rfl cl_X10_17 in_X9 ii_X9 df_X9 rfl g4 (by unfold jin; omega) (jr_lo (by omega)) (by simp only [jR]; try omega) (by simp only [jR]; try omega) ?_
  obtain ⟨M5, e5⟩ : ∃ z, z = jn M4 (3) (.inr (9, [.null, .null, .int (nI 0), .int (nI 0), .int (nI 0), .int (nI 0), .int (nI 0)])) (3) := ⟨_, rfl⟩
  rw [← e5]
  have f5_0 : M5.1 (0) = some (.inr (10, [.ref (1), .ref (2), .null, .null, .null, .null, .null, .null, .int (nI 0)])) := by rw [e5]; exact (jn_ne (by omega)).trans f4_0
  have f5_1 : M5.1 (1) = some (nA (4000) (fun _ => 0)) := by rw [e5]; exact (jn_ne (by omega)).trans f4_1
  have f5_2 : M5.1 (2) = some (lA (6) (fun _ => 0)) := by rw [e5]; exact (jn_ne (by omega)).trans f4_2
  have f5_3 : M5.1 (3) = some (.inr (9, [.null, .null, .int (nI 0), .int (nI 0), .int (nI 0), .int (nI 0), .int (nI 0)])) := by rw [e5]; exact jn_eq
  have r5 : ∀ q, (q < 0 ∨ 875 ≤ q) → M5.1 q = M.1 q := fun q h => by rw [e5]; exact (jn_ne (by omega)).trans (r4 q h)
  have g5 : M5.2 = some (4) := by rw [e5]; rfl
  refine Q_dup (pc := 25) C dX10_init_25 rfl ?_
  refine Q_aload_n (pc := 26) C dX10_init_26 rfl rfl ?_
  refine Q_get (pc := 27) C dX10_init_27 f_X10_9 f5_0 rfl ?_
  refine Q_callIz (pc := 30) (k := 3) (As := [.ref (1)]) (st := [.ref (3), .ref (0)]) C dX10_init_30 m_X10_19 (i_X9 l G M5  f5_3 g5 ) ⟨jle rfl, jle rfl⟩ rfl rfl (jle rfl) ⟨by simp only [jR]; try omega, by simp only [jR]; try omega⟩ (fun M6 hz => ?_)
  obtain ⟨g6, ⟨z6_0, z6_1, z6_2, z6_3, z6_4⟩, q6⟩ := hz
  have f6_0 : M6.1 (0) = some (.inr (10, [.ref (1), .ref (2), .null, .null, .null, .null, .null, .null, .int (nI 0)])) := (q6 _ (by omega)).trans f5_0
  have f6_1 : M6.1 (1) = some (nA (4000) (fun _ => 0)) := (q6 _ (by omega)).trans f5_1
  have f6_2 : M6.1 (2) = some (lA (6) (fun _ => 0)) := (q6 _ (by omega)).trans f5_2
  have r6 : ∀ q, (q < 0 ∨ 875 ≤ q) → M6.1 q = M.1 q := fun q h => (q6 q (by omega)).trans (r5 q h)
  obtain ⟨M7, e7⟩ : ∃ z, z = ju M6 (0) (.inr (10, [.ref (1), .ref (2), .ref (3), .null, .null, .null, .null, .null, .int (nI 0)])) := ⟨_, rfl⟩
  refine Q_putFU (pc := 33) (fs := [.ref (1), .ref (2), .null, .null, .null, .null, .null, .null, .int (nI 0)]) C hNm dX10_init_33 p_X10_22 f6_0 (jlt rfl) rfl rfl e7.symm ?_
  have f7_1 : M7.1 (1) = some (nA (4000) (fun _ => 0)) := by rw [e7]; exact (ju_ne (by omega)).trans f6_1
  have f7_2 : M7.1 (2) = some (lA (6) (fun _ => 0)) := by rw [e7]; exact (ju_ne (by omega)).trans f6_2
  have f7_3 : M7.1 (3) = some (.inr (9, [.ref (1), .ref (4), .int (nI 0), .int (nI 128), .int (nI 0), .int (nI 0), .int (-1)])) := by rw [e7]; exact (ju_ne (by omega)).trans z6_0
  have f7_4 : M7.1 (4) = some (.inr (8, [.ref (1), .ref (5), .ref (6), .ref (7), .int (nI 0), .int (nI 0)])) := by rw [e7]; exact (ju_ne (by omega)).trans z6_1
  have f7_5 : M7.1 (5) = some (nA 4001 (fun _ => 0)) := by rw [e7]; exact (ju_ne (by omega)).trans z6_2
  have f7_6 : M7.1 (6) = some (nA 4001 (fun _ => 0)) := by rw [e7]; exact (ju_ne (by omega)).trans z6_3
  have f7_7 : M7.1 (7) = some (nA 4001 (fun _ => 0)) := by rw [e7]; exact (ju_ne (by omega)).trans z6_4
  have f7_0 : M7.1 (0) = some (.inr (10, [.ref (1), .ref (2), .ref (3), .null, .null, .null, .null, .null, .int (nI 0)])) := by rw [e7]; exact ju_eq
  have r7 : ∀ q, (q < 0 ∨ 875 ≤ q) → M7.1 q = M.1 q := fun q h => by rw [e7]; exact (ju_ne (by omega)).trans (r6 q h)
  have g7 : M7.2 = some (8) := by rw [e7]; exact g6
  refine Q_aload_n (pc := 36) C dX10_init_36 rfl rfl ?_
  refine Q_new (pc := 37) (ci := 2) (fs := [.null, .null, .null, .null, .int (nI 0), .int (nI 0)]) (k := 8) (n := 8) C dX10_init_37 rfl cl_X10_26 in_X2 ii_X2 df_X2 rfl g7 (by unfold jin; omega) (jr_lo (by omega)) (by simp only [jR]; try omega) (by simp only [jR]; try omega) ?_
  obtain ⟨M8, e8⟩ : ∃ z, z = jn M7 (8) (.inr (2, [.null, .null, .null, .null, .int (nI 0), .int (nI 0)])) (8) := ⟨_, rfl⟩
  rw [← e8]
  have f8_0 : M8.1 (0) = some (.inr (10, [.ref (1), .ref (2), .ref (3), .null, .null, .null, .null, .null, .int (nI 0)])) := by rw [e8]; exact (jn_ne (by omega)).trans f7_0
  have f8_1 : M8.1 (1) = some (nA (4000) (fun _ => 0)) := by rw [e8]; exact (jn_ne (by omega)).trans f7_1
  have f8_2 : M8.1 (2) = some (lA (6) (fun _ => 0)) := by rw [e8]; exact (jn_ne (by omega)).trans f7_2
  have f8_3 : M8.1 (3) = some (.inr (9, [.ref (1), .ref (4), .int (nI 0), .int (nI 128), .int (nI 0), .int (nI 0), .int (-1)])) := by rw [e8]; exact (jn_ne (by omega)).trans f7_3
  have f8_4 : M8.1 (4) = some (.inr (8, [.ref (1), .ref (5), .ref (6), .ref (7), .int (nI 0), .int (nI 0)])) := by rw [e8]; exact (jn_ne (by omega)).trans f7_4
  have f8_5 : M8.1 (5) = some (nA 4001 (fun _ => 0)) := by rw [e8]; exact (jn_ne (by omega)).trans f7_5
  have f8_6 : M8.1 (6) = some (nA 4001 (fun _ => 0)) := by rw [e8]; exact (jn_ne (by omega)).trans f7_6
  have f8_7 : M8.1 (7) = some (nA 4001 (fun _ => 0)) := by rw [e8]; exact (jn_ne (by omega)).trans f7_7
  have f8_8 : M8.1 (8) = some (.inr (2, [.null, .null, .null, .null, .int (nI 0), .int (nI 0)])) := by rw [e8]; exact jn_eq
  have r8 : ∀ q, (q < 0 ∨ 875 ≤ q) → M8.1 q = M.1 q := fun q h => by rw [e8]; exact (jn_ne (by omega)).trans (r7 q h)
  have g8 : M8.2 = some (9) := by rw [e8]; rfl
  refine Q_dup (pc := 40) C dX10_init_40 rfl ?_
  refine Q_callIz (pc := 41) (k := 8) (As := []) (st := [.ref (8), .ref (0)]) C dX10_init_41 m_X10_28 (i_X2 l G M8  f8_8 g8 ) ⟨jle rfl, jle rfl⟩ rfl rfl (jle rfl) ⟨by simp only [jR]; try omega, by simp only [jR]; try omega⟩ (fun M9 hz => ?_)
  obtain ⟨g9, ⟨z9_0, z9_1, z9_2, z9_3, z9_4, z9_5, z9_6, z9_7, z9_8, z9_9⟩, q9⟩ := hz
  have f9_0 : M9.1 (0) = some (.inr (10, [.ref (1), .ref (2), .ref (3), .null, .null, .null, .null, .null, .int (nI 0)])) := (q9 _ (by omega)).trans f8_0
  have f9_1 : M9.1 (1) = some (nA (4000) (fun _ => 0)) := (q9 _ (by omega)).trans f8_1
  have f9_2 : M9.1 (2) = some (lA (6) (fun _ => 0)) := (q9 _ (by omega)).trans f8_2
  have f9_3 : M9.1 (3) = some (.inr (9, [.ref (1), .ref (4), .int (nI 0), .int (nI 128), .int (nI 0), .int (nI 0), .int (-1)])) := (q9 _ (by omega)).trans f8_3
  have f9_4 : M9.1 (4) = some (.inr (8, [.ref (1), .ref (5), .ref (6), .ref (7), .int (nI 0), .int (nI 0)])) := (q9 _ (by omega)).trans f8_4
  have f9_5 : M9.1 (5) = some (nA 4001 (fun _ => 0)) := (q9 _ (by omega)).trans f8_5
  have f9_6 : M9.1 (6) = some (nA 4001 (fun _ => 0)) := (q9 _ (by omega)).trans f8_6
  have f9_7 : M9.1 (7) = some (nA 4001 (fun _ => 0)) := (q9 _ (by omega)).trans f8_7
  have r9 : ∀ q, (q < 0 ∨ 875 ≤ q) → M9.1 q = M.1 q := fun q h => (q9 q (by omega)).trans (r8 q h)
  obtain ⟨M10, e10⟩ : ∃ z, z = ju M9 (0) (.inr (10, [.ref (1), .ref (2), .ref (3), .ref (8), .null, .null, .null, .null, .int (nI 0)])) := ⟨_, rfl⟩
  refine Q_putFU (pc := 44) (fs := [.ref (1), .ref (2), .ref (3), .null, .null, .null, .null, .null, .int (nI 0)]) C hNm dX10_init_44 p_X10_29 f9_0 (jlt rfl) rfl rfl e10.symm ?_
  have f10_1 : M10.1 (1) = some (nA (4000) (fun _ => 0)) := by rw [e10]; exact (ju_ne (by omega)).trans f9_1
  have f10_2 : M10.1 (2) = some (lA (6) (fun _ => 0)) := by rw [e10]; exact (ju_ne (by omega)).trans f9_2
  have f10_3 : M10.1 (3) = some (.inr (9, [.ref (1), .ref (4), .int (nI 0), .int (nI 128), .int (nI 0), .int (nI 0), .int (-1)])) := by rw [e10]; exact (ju_ne (by omega)).trans f9_3
  have f10_4 : M10.1 (4) = some (.inr (8, [.ref (1), .ref (5), .ref (6), .ref (7), .int (nI 0), .int (nI 0)])) := by rw [e10]; exact (ju_ne (by omega)).trans f9_4
  have f10_5 : M10.1 (5) = some (nA 4001 (fun _ => 0)) := by rw [e10]; exact (ju_ne (by omega)).trans f9_5
  have f10_6 : M10.1 (6) = some (nA 4001 (fun _ => 0)) := by rw [e10]; exact (ju_ne (by omega)).trans f9_6
  have f10_7 : M10.1 (7) = some (nA 4001 (fun _ => 0)) := by rw [e10]; exact (ju_ne (by omega)).trans f9_7
  have f10_8 : M10.1 (8) = some (.inr (2, [.ref (9), .ref (12), .ref (13), .ref (16), .int (nI 0), .int (nI 0)])) := by rw [e10]; exact (ju_ne (by omega)).trans z9_0
  have f10_9 : M10.1 (9) = some (.inr (4, [.ref (10), .ref (11), .int (nI 0)])) := by rw [e10]; exact (ju_ne (by omega)).trans z9_1
  have f10_10 : M10.1 (10) = some (nA (12 * 12) (fun _ => 0)) := by rw [e10]; exact (ju_ne (by omega)).trans z9_2
  have f10_11 : M10.1 (11) = some (nA (12) (fun _ => 0)) := by rw [e10]; exact (ju_ne (by omega)).trans z9_3
  have f10_12 : M10.1 (12) = some (nA 12 (fun _ => 0)) := by rw [e10]; exact (ju_ne (by omega)).trans z9_4
  have f10_13 : M10.1 (13) = some (.inr (4, [.ref (14), .ref (15), .int (nI 0)])) := by rw [e10]; exact (ju_ne (by omega)).trans z9_5
  have f10_14 : M10.1 (14) = some (nA (60 * 12) (fun _ => 0)) := by rw [e10]; exact (ju_ne (by omega)).trans z9_6
  have f10_15 : M10.1 (15) = some (nA (60) (fun _ => 0)) := by rw [e10]; exact (ju_ne (by omega)).trans z9_7
  have f10_16 : M10.1 (16) = some (qA 2 60 (fun j => some (17 + 14 * j))) := by rw [e10]; exact (ju_ne (by omega)).trans z9_8
  have f10_0 : M10.1 (0) = some (.inr (10, [.ref (1), .ref (2), .ref (3), .ref (8), .null, .null, .null, .null, .int (nI 0)])) := by rw [e10]; exact ju_eq
  have a10_0 : ∀ k, k < 840 → M10.1 (17 + k) = some (opC z0 (k / 14) (k % 14)) := fun k hk => by rw [e10]; exact (ju_ne (by omega)).trans (z9_9 k hk)
  have r10 : ∀ q, (q < 0 ∨ 875 ≤ q) → M10.1 q = M.1 q := fun q h => by rw [e10]; exact (ju_ne (by omega)).trans (r9 q h)
  have g10 : M10.2 = some (857) := by rw [e10]; exact g9
  refine Q_aload_n (pc := 47) C dX10_init_47 rfl rfl ?_
  refine Q_new (pc := 48) (ci := 7) (fs := [.null, .null, .null, .int (nI 0), .int (nI 0)]) (k := 857) (n := 857) C dX10_init_48 rfl cl_X10_33 in_X7 ii_X7 df_X7 rfl g10 (by unfold jin; omega) (jr_lo (by omega)) (by simp only [jR]; try omega) (by simp only [jR]; try omega) ?_
  obtain ⟨M11, e11⟩ : ∃ z, z = jn M10 (857) (.inr (7, [.null, .null, .null, .int (nI 0), .int (nI 0)])) (857) := ⟨_, rfl⟩
  rw [← e11]
  have f11_0 : M11.1 (0) = some (.inr (10, [.ref (1), .ref (2), .ref (3), .ref (8), .null, .null, .null, .null, .int (nI 0)])) := by rw [e11]; exact (jn_ne (by omega)).trans f10_0
  have f11_1 : M11.1 (1) = some (nA (4000) (fun _ => 0)) := by rw [e11]; exact (jn_ne (by omega)).trans f10_1
  have f11_2 : M11.1 (2) = some (lA (6) (fun _ => 0)) := by rw [e11]; exact (jn_ne (by omega)).trans f10_2
  have f11_3 : M11.1 (3) = some (.inr (9, [.ref (1), .ref (4), .int (nI 0), .int (nI 128), .int (nI 0), .int (nI 0), .int (-1)])) := by rw [e11]; exact (jn_ne (by omega)).trans f10_3
  have f11_4 : M11.1 (4) = some (.inr (8, [.ref (1), .ref (5), .ref (6), .ref (7), .int (nI 0), .int (nI 0)])) := by rw [e11]; exact (jn_ne (by omega)).trans f10_4
  have f11_5 : M11.1 (5) = some (nA 4001 (fun _ => 0)) := by rw [e11]; exact (jn_ne (by omega)).trans f10_5
  have f11_6 : M11.1 (6) = some (nA 4001 (fun _ => 0)) := by rw [e11]; exact (jn_ne (by omega)).trans f10_6
  have f11_7 : M11.1 (7) = some (nA 4001 (fun _ => 0)) := by rw [e11]; exact (jn_ne (by omega)).trans f10_7
  have f11_8 : M11.1 (8) = some (.inr (2, [.ref (9), .ref (12), .ref (13), .ref (16), .int (nI 0), .int (nI 0)])) := by rw [e11]; exact (jn_ne (by omega)).trans f10_8
  have f11_9 : M11.1 (9) = some (.inr (4, [.ref (10), .ref (11), .int (nI 0)])) := by rw [e11]; exact (jn_ne (by omega)).trans f10_9
  have f11_10 : M11.1 (10) = some (nA (12 * 12) (fun _ => 0)) := by rw [e11]; exact (jn_ne (by omega)).trans f10_10
  have f11_11 : M11.1 (11) = some (nA (12) (fun _ => 0)) := by rw [e11]; exact (jn_ne (by omega)).trans f10_11
  have f11_12 : M11.1 (12) = some (nA 12 (fun _ => 0)) := by rw [e11]; exact (jn_ne (by omega)).trans f10_12
  have f11_13 : M11.1 (13) = some (.inr (4, [.ref (14), .ref (15), .int (nI 0)])) := by rw [e11]; exact (jn_ne (by omega)).trans f10_13
  have f11_14 : M11.1 (14) = some (nA (60 * 12) (fun _ => 0)) := by rw [e11]; exact (jn_ne (by omega)).trans f10_14
  have f11_15 : M11.1 (15) = some (nA (60) (fun _ => 0)) := by rw [e11]; exact (jn_ne (by omega)).trans f10_15
  have f11_16 : M11.1 (16) = some (qA 2 60 (fun j => some (17 + 14 * j))) := by rw [e11]; exact (jn_ne (by omega)).trans f10_16
  have f11_857 : M11.1 (857) = some (.inr (7, [.null, .null, .null, .int (nI 0), .int (nI 0)])) := by rw [e11]; exact jn_eq
  have a11_0 : ∀ k, k < 840 → M11.1 (17 + k) = some (opC z0 (k / 14) (k % 14)) := fun k hk => by rw [e11]; exact (jn_ne (by omega)).trans (a10_0 k hk)
  have r11 : ∀ q, (q < 0 ∨ 875 ≤ q) → M11.1 q = M.1 q := fun q h => by rw [e11]; exact (jn_ne (by omega)).trans (r10 q h)
  have g11 : M11.2 = some (858) := by rw [e11]; rfl
  refine Q_dup (pc := 51) C dX10_init_51 rfl ?_
  refine Q_callINz (pc := 52) (k := 857) (As := []) (st := [.ref (857), .ref (0)]) C dX10_init_52 k_X7_init n_X10_35 im_X7 rfl (i_X7 l G M11  f11_857 g11 ) ⟨jle rfl, jle rfl⟩ rfl rfl (jle rfl) ⟨by simp only [jR]; try omega, by simp only [jR]; try omega⟩ (fun M12 hz => ?_)
  obtain ⟨g12, ⟨z12_0, z12_1, z12_2, z12_3, z12_4, z12_5⟩, q12⟩ := hz
  have f12_0 : M12.1 (0) = some (.inr (10, [.ref (1), .ref (2), .ref (3), .ref (8), .null, .null, .null, .null, .int (nI 0)])) := (q12 _ (by omega)).trans f11_0
  have f12_1 : M12.1 (1) = some (nA (4000) (fun _ => 0)) := (q12 _ (by omega)).trans f11_1
  have f12_2 : M12.1 (2) = some (lA (6) (fun _ => 0)) := (q12 _ (by omega)).trans f11_2
  have f12_3 : M12.1 (3) = some (.inr (9, [.ref (1), .ref (4), .int (nI 0), .int (nI 128), .int (nI 0), .int (nI 0), .int (-1)])) := (q12 _ (by omega)).trans f11_3
  have f12_4 : M12.1 (4) = some (.inr (8, [.ref (1), .ref (5), .ref (6), .ref (7), .int (nI 0), .int (nI 0)])) := (q12 _ (by omega)).trans f11_4
  have f12_5 : M12.1 (5) = some (nA 4001 (fun _ => 0)) := (q12 _ (by omega)).trans f11_5
  have f12_6 : M12.1 (6) = some (nA 4001 (fun _ => 0)) := (q12 _ (by omega)).trans f11_6
  have f12_7 : M12.1 (7) = some (nA 4001 (fun _ => 0)) := (q12 _ (by omega)).trans f11_7
  have f12_8 : M12.1 (8) = some (.inr (2, [.ref (9), .ref (12), .ref (13), .ref (16), .int (nI 0), .int (nI 0)])) := (q12 _ (by omega)).trans f11_8
  have f12_9 : M12.1 (9) = some (.inr (4, [.ref (10), .ref (11), .int (nI 0)])) := (q12 _ (by omega)).trans f11_9
  have f12_10 : M12.1 (10) = some (nA (12 * 12) (fun _ => 0)) := (q12 _ (by omega)).trans f11_10
  have f12_11 : M12.1 (11) = some (nA (12) (fun _ => 0)) := (q12 _ (by omega)).trans f11_11
  have f12_12 : M12.1 (12) = some (nA 12 (fun _ => 0)) := (q12 _ (by omega)).trans f11_12
  have f12_13 : M12.1 (13) = some (.inr (4, [.ref (14), .ref (15), .int (nI 0)])) := (q12 _ (by omega)).trans f11_13
  have f12_14 : M12.1 (14) = some (nA (60 * 12) (fun _ => 0)) := (q12 _ (by omega)).trans f11_14
  have f12_15 : M12.1 (15) = some (nA (60) (fun _ => 0)) := (q12 _ (by omega)).trans f11_15
  have f12_16 : M12.1 (16) = some (qA 2 60 (fun j => some (17 + 14 * j))) := (q12 _ (by omega)).trans f11_16
  have a12_0 : ∀ k, k < 840 → M12.1 (17 + k) = some (opC z0 (k / 14) (k % 14)) := fun k hk => (q12 _ (by omega)).trans (a11_0 k hk)
  have r12 : ∀ q, (q < 0 ∨ 875 ≤ q) → M12.1 q = M.1 q := fun q h => (q12 q (by omega)).trans (r11 q h)
  obtain ⟨M13, e13⟩ : ∃ z, z = ju M12 (0) (.inr (10, [.ref (1), .ref (2), .ref (3), .ref (8), .ref (857), .null, .null, .null, .int (nI 0)])) := ⟨_, rfl⟩
  refine Q_putFU (pc := 55) (fs := [.ref (1), .ref (2), .ref (3), .ref (8), .null, .null, .null, .null, .int (nI 0)]) C hNm dX10_init_55 p_X10_36 f12_0 (jlt rfl) rfl rfl e13.symm ?_
  have f13_1 : M13.1 (1) = some (nA (4000) (fun _ => 0)) := by rw [e13]; exact (ju_ne (by omega)).trans f12_1
  have f13_2 : M13.1 (2) = some (lA (6) (fun _ => 0)) := by rw [e13]; exact (ju_ne (by omega)).trans f12_2
  have f13_3 : M13.1 (3) = some (.inr (9, [.ref (1), .ref (4), .int (nI 0), .int (nI 128), .int (nI 0), .int (nI 0), .int (-1)])) := by rw [e13]; exact (ju_ne (by omega)).trans f12_3
  have f13_4 : M13.1 (4) = some (.inr (8, [.ref (1), .ref (5), .ref (6), .ref (7), .int (nI 0), .int (nI 0)])) := by rw [e13]; exact (ju_ne (by omega)).trans f12_4
  have f13_5 : M13.1 (5) = some (nA 4001 (fun _ => 0)) := by rw [e13]; exact (ju_ne (by omega)).trans f12_5
  have f13_6 : M13.1 (6) = some (nA 4001 (fun _ => 0)) := by rw [e13]; exact (ju_ne (by omega)).trans f12_6
  have f13_7 : M13.1 (7) = some (nA 4001 (fun _ => 0)) := by rw [e13]; exact (ju_ne (by omega)).trans f12_7
  have f13_8 : M13.1 (8) = some (.inr (2, [.ref (9), .ref (12), .ref (13), .ref (16), .int (nI 0), .int (nI 0)])) := by rw [e13]; exact (ju_ne (by omega)).trans f12_8
  have f13_9 : M13.1 (9) = some (.inr (4, [.ref (10), .ref (11), .int (nI 0)])) := by rw [e13]; exact (ju_ne (by omega)).trans f12_9
  have f13_10 : M13.1 (10) = some (nA (12 * 12) (fun _ => 0)) := by rw [e13]; exact (ju_ne (by omega)).trans f12_10
  have f13_11 : M13.1 (11) = some (nA (12) (fun _ => 0)) := by rw [e13]; exact (ju_ne (by omega)).trans f12_11
  have f13_12 : M13.1 (12) = some (nA 12 (fun _ => 0)) := by rw [e13]; exact (ju_ne (by omega)).trans f12_12
  have f13_13 : M13.1 (13) = some (.inr (4, [.ref (14), .ref (15), .int (nI 0)])) := by rw [e13]; exact (ju_ne (by omega)).trans f12_13
  have f13_14 : M13.1 (14) = some (nA (60 * 12) (fun _ => 0)) := by rw [e13]; exact (ju_ne (by omega)).trans f12_14
  have f13_15 : M13.1 (15) = some (nA (60) (fun _ => 0)) := by rw [e13]; exact (ju_ne (by omega)).trans f12_15
  have f13_16 : M13.1 (16) = some (qA 2 60 (fun j => some (17 + 14 * j))) := by rw [e13]; exact (ju_ne (by omega)).trans f12_16
  have f13_857 : M13.1 (857) = some (.inr (7, [.ref (858), .ref (859), .ref (862), .int (nI 0), .int (nI 0)])) := by rw [e13]; exact (ju_ne (by omega)).trans z12_0
  have f13_858 : M13.1 (858) = some (rA 1000 (fun _ => nI 0)) := by rw [e13]; exact (ju_ne (by omega)).trans z12_1
  have f13_859 : M13.1 (859) = some (.inr (4, [.ref (860), .ref (861), .int (nI 0)])) := by rw [e13]; exact (ju_ne (by omega)).trans z12_2
  have f13_860 : M13.1 (860) = some (nA (60 * 12) (fun _ => 0)) := by rw [e13]; exact (ju_ne (by omega)).trans z12_3
  have f13_861 : M13.1 (861) = some (nA (60) (fun _ => 0)) := by rw [e13]; exact (ju_ne (by omega)).trans z12_4
  have f13_862 : M13.1 (862) = some (nA 60 (fun _ => 0)) := by rw [e13]; exact (ju_ne (by omega)).trans z12_5
  have f13_0 : M13.1 (0) = some (.inr (10, [.ref (1), .ref (2), .ref (3), .ref (8), .ref (857), .null, .null, .null, .int (nI 0)])) := by rw [e13]; exact ju_eq
  have a13_0 : ∀ k, k < 840 → M13.1 (17 + k) = some (opC z0 (k / 14) (k % 14)) := fun k hk => by rw [e13]; exact (ju_ne (by omega)).trans (a12_0 k hk)
  have r13 : ∀ q, (q < 0 ∨ 875 ≤ q) → M13.1 q = M.1 q := fun q h => by rw [e13]; exact (ju_ne (by omega)).trans (r12 q h)
  have g13 : M13.2 = some (863) := by rw [e13]; exact g12
  refine Q_aload_n (pc := 58) C dX10_init_58 rfl rfl ?_
  refine Q_new (pc := 59) (ci := 1) (fs := [.null, .null, .null]) (k := 863) (n := 863) C dX10_init_59 rfl cl_X10_40 in_X1 ii_X1 df_X1 rfl g13 (by unfold jin; omega) (jr_lo (by omega)) (by simp only [jR]; try omega) (by simp only [jR]; try omega) ?_
  obtain ⟨M14, e14⟩ : ∃ z, z = jn M13 (863) (.inr (1, [.null, .null, .null])) (863) := ⟨_, rfl⟩
  rw [← e14]
  have f14_0 : M14.1 (0) = some (.inr (10, [.ref (1), .ref (2), .ref (3), .ref (8), .ref (857), .null, .null, .null, .int (nI 0)])) := by rw [e14]; exact (jn_ne (by omega)).trans f13_0
  have f14_1 : M14.1 (1) = some (nA (4000) (fun _ => 0)) := by rw [e14]; exact (jn_ne (by omega)).trans f13_1
  have f14_2 : M14.1 (2) = some (lA (6) (fun _ => 0)) := by rw [e14]; exact (jn_ne (by omega)).trans f13_2
  have f14_3 : M14.1 (3) = some (.inr (9, [.ref (1), .ref (4), .int (nI 0), .int (nI 128), .int (nI 0), .int (nI 0), .int (-1)])) := by rw [e14]; exact (jn_ne (by omega)).trans f13_3
  have f14_4 : M14.1 (4) = some (.inr (8, [.ref (1), .ref (5), .ref (6), .ref (7), .int (nI 0), .int (nI 0)])) := by rw [e14]; exact (jn_ne (by omega)).trans f13_4
  have f14_5 : M14.1 (5) = some (nA 4001 (fun _ => 0)) := by rw [e14]; exact (jn_ne (by omega)).trans f13_5
  have f14_6 : M14.1 (6) = some (nA 4001 (fun _ => 0)) := by rw [e14]; exact (jn_ne (by omega)).trans f13_6
  have f14_7 : M14.1 (7) = some (nA 4001 (fun _ => 0)) := by rw [e14]; exact (jn_ne (by omega)).trans f13_7
  have f14_8 : M14.1 (8) = some (.inr (2, [.ref (9), .ref (12), .ref (13), .ref (16), .int (nI 0), .int (nI 0)])) := by rw [e14]; exact (jn_ne (by omega)).trans f13_8
  have f14_9 : M14.1 (9) = some (.inr (4, [.ref (10), .ref (11), .int (nI 0)])) := by rw [e14]; exact (jn_ne (by omega)).trans f13_9
  have f14_10 : M14.1 (10) = some (nA (12 * 12) (fun _ => 0)) := by rw [e14]; exact (jn_ne (by omega)).trans f13_10
  have f14_11 : M14.1 (11) = some (nA (12) (fun _ => 0)) := by rw [e14]; exact (jn_ne (by omega)).trans f13_11
  have f14_12 : M14.1 (12) = some (nA 12 (fun _ => 0)) := by rw [e14]; exact (jn_ne (by omega)).trans f13_12
  have f14_13 : M14.1 (13) = some (.inr (4, [.ref (14), .ref (15), .int (nI 0)])) := by rw [e14]; exact (jn_ne (by omega)).trans f13_13
  have f14_14 : M14.1 (14) = some (nA (60 * 12) (fun _ => 0)) := by rw [e14]; exact (jn_ne (by omega)).trans f13_14
  have f14_15 : M14.1 (15) = some (nA (60) (fun _ => 0)) := by rw [e14]; exact (jn_ne (by omega)).trans f13_15
  have f14_16 : M14.1 (16) = some (qA 2 60 (fun j => some (17 + 14 * j))) := by rw [e14]; exact (jn_ne (by omega)).trans f13_16
  have f14_857 : M14.1 (857) = some (.inr (7, [.ref (858), .ref (859), .ref (862), .int (nI 0), .int (nI 0)])) := by rw [e14]; exact (jn_ne (by omega)).trans f13_857
  have f14_858 : M14.1 (858) = some (rA 1000 (fun _ => nI 0)) := by rw [e14]; exact (jn_ne (by omega)).trans f13_858
  have f14_859 : M14.1 (859) = some (.inr (4, [.ref (860), .ref (861), .int (nI 0)])) := by rw [e14]; exact (jn_ne (by omega)).trans f13_859
  have f14_860 : M14.1 (860) = some (nA (60 * 12) (fun _ => 0)) := by rw [e14]; exact (jn_ne (by omega)).trans f13_860
  have f14_861 : M14.1 (861) = some (nA (60) (fun _ => 0)) := by rw [e14]; exact (jn_ne (by omega)).trans f13_861
  have f14_862 : M14.1 (862) = some (nA 60 (fun _ => 0)) := by rw [e14]; exact (jn_ne (by omega)).trans f13_862
  have f14_863 : M14.1 (863) = some (.inr (1, [.null, .null, .null])) := by rw [e14]; exact jn_eq
  have a14_0 : ∀ k, k < 840 → M14.1 (17 + k) = some (opC z0 (k / 14) (k % 14)) := fun k hk => by rw [e14]; exact (jn_ne (by omega)).trans (a13_0 k hk)
  have r14 : ∀ q, (q < 0 ∨ 875 ≤ q) → M14.1 q = M.1 q := fun q h => by rw [e14]; exact (jn_ne (by omega)).trans (r13 q h)
  have g14 : M14.2 = some (864) := by rw [e14]; rfl
  refine Q_dup (pc := 62) C dX10_init_62 rfl ?_
  refine Q_aload_n (pc := 63) C dX10_init_63 rfl rfl ?_
  refine Q_get (pc := 64) C dX10_init_64 f_X10_22 f14_0 rfl ?_
  refine Q_aload_n (pc := 67) C dX10_init_67 rfl rfl ?_
  refine Q_get (pc := 68) C dX10_init_68 f_X10_29 f14_0 rfl ?_
  refine Q_callIz (pc := 71) (k := 863) (As := [.ref (3), .ref (8)]) (st := [.ref (863), .ref (0)]) C dX10_init_71 m_X10_42 (i_X1 l G M14  f14_863 g14 ) ⟨jle rfl, jle rfl⟩ rfl rfl (jle rfl) ⟨by simp only [jR]; try omega, by simp only [jR]; try omega⟩ (fun M15 hz => ?_)
  obtain ⟨g15, ⟨z15_0, z15_1, z15_2, z15_3⟩, q15⟩ := hz
  have f15_0 : M15.1 (0) = some (.inr (10, [.ref (1), .ref (2), .ref (3), .ref (8), .ref (857), .null, .null, .null, .int (nI 0)])) := (q15 _ (by omega)).trans f14_0
  have f15_1 : M15.1 (1) = some (nA (4000) (fun _ => 0)) := (q15 _ (by omega)).trans f14_1
  have f15_2 : M15.1 (2) = some (lA (6) (fun _ => 0)) := (q15 _ (by omega)).trans f14_2
  have f15_3 : M15.1 (3) = some (.inr (9, [.ref (1), .ref (4), .int (nI 0), .int (nI 128), .int (nI 0), .int (nI 0), .int (-1)])) := (q15 _ (by omega)).trans f14_3
  have f15_4 : M15.1 (4) = some (.inr (8, [.ref (1), .ref (5), .ref (6), .ref (7), .int (nI 0), .int (nI 0)])) := (q15 _ (by omega)).trans f14_4
  have f15_5 : M15.1 (5) = some (nA 4001 (fun _ => 0)) := (q15 _ (by omega)).trans f14_5
  have f15_6 : M15.1 (6) = some (nA 4001 (fun _ => 0)) := (q15 _ (by omega)).trans f14_6
  have f15_7 : M15.1 (7) = some (nA 4001 (fun _ => 0)) := (q15 _ (by omega)).trans f14_7
  have f15_8 : M15.1 (8) = some (.inr (2, [.ref (9), .ref (12), .ref (13), .ref (16), .int (nI 0), .int (nI 0)])) := (q15 _ (by omega)).trans f14_8
  have f15_9 : M15.1 (9) = some (.inr (4, [.ref (10), .ref (11), .int (nI 0)])) := (q15 _ (by omega)).trans f14_9
  have f15_10 : M15.1 (10) = some (nA (12 * 12) (fun _ => 0)) := (q15 _ (by omega)).trans f14_10
  have f15_11 : M15.1 (11) = some (nA (12) (fun _ => 0)) := (q15 _ (by omega)).trans f14_11
  have f15_12 : M15.1 (12) = some (nA 12 (fun _ => 0)) := (q15 _ (by omega)).trans f14_12
  have f15_13 : M15.1 (13) = some (.inr (4, [.ref (14), .ref (15), .int (nI 0)])) := (q15 _ (by omega)).trans f14_13
  have f15_14 : M15.1 (14) = some (nA (60 * 12) (fun _ => 0)) := (q15 _ (by omega)).trans f14_14
  have f15_15 : M15.1 (15) = some (nA (60) (fun _ => 0)) := (q15 _ (by omega)).trans f14_15
  have f15_16 : M15.1 (16) = some (qA 2 60 (fun j => some (17 + 14 * j))) := (q15 _ (by omega)).trans f14_16
  have f15_857 : M15.1 (857) = some (.inr (7, [.ref (858), .ref (859), .ref (862), .int (nI 0), .int (nI 0)])) := (q15 _ (by omega)).trans f14_857
  have f15_858 : M15.1 (858) = some (rA 1000 (fun _ => nI 0)) := (q15 _ (by omega)).trans f14_858
  have f15_859 : M15.1 (859) = some (.inr (4, [.ref (860), .ref (861), .int (nI 0)])) := (q15 _ (by omega)).trans f14_859
  have f15_860 : M15.1 (860) = some (nA (60 * 12) (fun _ => 0)) := (q15 _ (by omega)).trans f14_860
  have f15_861 : M15.1 (861) = some (nA (60) (fun _ => 0)) := (q15 _ (by omega)).trans f14_861
  have f15_862 : M15.1 (862) = some (nA 60 (fun _ => 0)) := (q15 _ (by omega)).trans f14_862
  have a15_0 : ∀ k, k < 840 → M15.1 (17 + k) = some (opC z0 (k / 14) (k % 14)) := fun k hk => (q15 _ (by omega)).trans (a14_0 k hk)
  have r15 : ∀ q, (q < 0 ∨ 875 ≤ q) → M15.1 q = M.1 q := fun q h => (q15 q (by omega)).trans (r14 q h)
  obtain ⟨M16, e16⟩ : ∃ z, z = ju M15 (0) (.inr (10, [.ref (1), .ref (2), .ref (3), .ref (8), .ref (857), .ref (863), .null, .null, .int (nI 0)])) := ⟨_, rfl⟩
  refine Q_putFU (pc := 74) (fs := [.ref (1), .ref (2), .ref (3), .ref (8), .ref (857), .null, .null, .null, .int (nI 0)]) C hNm dX10_init_74 p_X10_45 f15_0 (jlt rfl) rfl rfl e16.symm ?_
  have f16_1 : M16.1 (1) = some (nA (4000) (fun _ => 0)) := by rw [e16]; exact (ju_ne (by omega)).trans f15_1
  have f16_2 : M16.1 (2) = some (lA (6) (fun _ => 0)) := by rw [e16]; exact (ju_ne (by omega)).trans f15_2
  have f16_3 : M16.1 (3) = some (.inr (9, [.ref (1), .ref (4), .int (nI 0), .int (nI 128), .int (nI 0), .int (nI 0), .int (-1)])) := by rw [e16]; exact (ju_ne (by omega)).trans f15_3
  have f16_4 : M16.1 (4) = some (.inr (8, [.ref (1), .ref (5), .ref (6), .ref (7), .int (nI 0), .int (nI 0)])) := by rw [e16]; exact (ju_ne (by omega)).trans f15_4
  have f16_5 : M16.1 (5) = some (nA 4001 (fun _ => 0)) := by rw [e16]; exact (ju_ne (by omega)).trans f15_5
  have f16_6 : M16.1 (6) = some (nA 4001 (fun _ => 0)) := by rw [e16]; exact (ju_ne (by omega)).trans f15_6
  have f16_7 : M16.1 (7) = some (nA 4001 (fun _ => 0)) := by rw [e16]; exact (ju_ne (by omega)).trans f15_7
  have f16_8 : M16.1 (8) = some (.inr (2, [.ref (9), .ref (12), .ref (13), .ref (16), .int (nI 0), .int (nI 0)])) := by rw [e16]; exact (ju_ne (by omega)).trans f15_8
  have f16_9 : M16.1 (9) = some (.inr (4, [.ref (10), .ref (11), .int (nI 0)])) := by rw [e16]; exact (ju_ne (by omega)).trans f15_9
  have f16_10 : M16.1 (10) = some (nA (12 * 12) (fun _ => 0)) := by rw [e16]; exact (ju_ne (by omega)).trans f15_10
  have f16_11 : M16.1 (11) = some (nA (12) (fun _ => 0)) := by rw [e16]; exact (ju_ne (by omega)).trans f15_11
  have f16_12 : M16.1 (12) = some (nA 12 (fun _ => 0)) := by rw [e16]; exact (ju_ne (by omega)).trans f15_12
  have f16_13 : M16.1 (13) = some (.inr (4, [.ref (14), .ref (15), .int (nI 0)])) := by rw [e16]; exact (ju_ne (by omega)).trans f15_13
  have f16_14 : M16.1 (14) = some (nA (60 * 12) (fun _ => 0)) := by rw [e16]; exact (ju_ne (by omega)).trans f15_14
  have f16_15 : M16.1 (15) = some (nA (60) (fun _ => 0)) := by rw [e16]; exact (ju_ne (by omega)).trans f15_15
  have f16_16 : M16.1 (16) = some (qA 2 60 (fun j => some (17 + 14 * j))) := by rw [e16]; exact (ju_ne (by omega)).trans f15_16
  have f16_857 : M16.1 (857) = some (.inr (7, [.ref (858), .ref (859), .ref (862), .int (nI 0), .int (nI 0)])) := by rw [e16]; exact (ju_ne (by omega)).trans f15_857
  have f16_858 : M16.1 (858) = some (rA 1000 (fun _ => nI 0)) := by rw [e16]; exact (ju_ne (by omega)).trans f15_858
  have f16_859 : M16.1 (859) = some (.inr (4, [.ref (860), .ref (861), .int (nI 0)])) := by rw [e16]; exact (ju_ne (by omega)).trans f15_859
  have f16_860 : M16.1 (860) = some (nA (60 * 12) (fun _ => 0)) := by rw [e16]; exact (ju_ne (by omega)).trans f15_860
  have f16_861 : M16.1 (861) = some (nA (60) (fun _ => 0)) := by rw [e16]; exact (ju_ne (by omega)).trans f15_861
  have f16_862 : M16.1 (862) = some (nA 60 (fun _ => 0)) := by rw [e16]; exact (ju_ne (by omega)).trans f15_862
  have f16_863 : M16.1 (863) = some (.inr (1, [.ref (3), .ref (8), .ref (864)])) := by rw [e16]; exact (ju_ne (by omega)).trans z15_0
  have f16_864 : M16.1 (864) = some (.inr (4, [.ref (865), .ref (866), .int (nI 0)])) := by rw [e16]; exact (ju_ne (by omega)).trans z15_1
  have f16_865 : M16.1 (865) = some (nA (6 * 12) (fun _ => 0)) := by rw [e16]; exact (ju_ne (by omega)).trans z15_2
  have f16_866 : M16.1 (866) = some (nA (6) (fun _ => 0)) := by rw [e16]; exact (ju_ne (by omega)).trans z15_3
  have f16_0 : M16.1 (0) = some (.inr (10, [.ref (1), .ref (2), .ref (3), .ref (8), .ref (857), .ref (863), .null, .null, .int (nI 0)])) := by rw [e16]; exact ju_eq
  have a16_0 : ∀ k, k < 840 → M16.1 (17 + k) = some (opC z0 (k / 14) (k % 14)) := fun k hk => by rw [e16]; exact (ju_ne (by omega)).trans (a15_0 k hk)
  have r16 : ∀ q, (q < 0 ∨ 875 ≤ q) → M16.1 q = M.1 q := fun q h => by rw [e16]; exact (ju_ne (by omega)).trans (r15 q h)
  have g16 : M16.2 = some (867) := by rw [e16]; exact g15
  refine Q_aload_n (pc := 77) C dX10_init_77 rfl rfl ?_
  refine Q_new (pc := 78) (ci := 0) (fs := [.null, .null, .null, .null, .null, .null, .null, .null, .int (nI 0)]) (k := 867) (n := 867) C dX10_init_78 rfl cl_X10_49 in_X0 ii_X0 df_X0 rfl g16 (by unfold jin; omega) (jr_lo (by omega)) (by simp only [jR]; try omega) (by simp only [jR]; try omega) ?_
  obtain ⟨M17, e17⟩ : ∃ z, z = jn M16 (867) (.inr (0, [.null, .null, .null, .null, .null, .null, .null, .null, .int (nI 0)])) (867) := ⟨_, rfl⟩
  rw [← e17]
  have f17_0 : M17.1 (0) = some (.inr (10, [.ref (1), .ref (2), .ref (3), .ref (8), .ref (857), .ref (863), .null, .null, .int (nI 0)])) := by rw [e17]; exact (jn_ne (by omega)).trans f16_0
  have f17_1 : M17.1 (1) = some (nA (4000) (fun _ => 0)) := by rw [e17]; exact (jn_ne (by omega)).trans f16_1
  have f17_2 : M17.1 (2) = some (lA (6) (fun _ => 0)) := by rw [e17]; exact (jn_ne (by omega)).trans f16_2
  have f17_3 : M17.1 (3) = some (.inr (9, [.ref (1), .ref (4), .int (nI 0), .int (nI 128), .int (nI 0), .int (nI 0), .int (-1)])) := by rw [e17]; exact (jn_ne (by omega)).trans f16_3
  have f17_4 : M17.1 (4) = some (.inr (8, [.ref (1), .ref (5), .ref (6), .ref (7), .int (nI 0), .int (nI 0)])) := by rw [e17]; exact (jn_ne (by omega)).trans f16_4
  have f17_5 : M17.1 (5) = some (nA 4001 (fun _ => 0)) := by rw [e17]; exact (jn_ne (by omega)).trans f16_5
  have f17_6 : M17.1 (6) = some (nA 4001 (fun _ => 0)) := by rw [e17]; exact (jn_ne (by omega)).trans f16_6
  have f17_7 : M17.1 (7) = some (nA 4001 (fun _ => 0)) := by rw [e17]; exact (jn_ne (by omega)).trans f16_7
  have f17_8 : M17.1 (8) = some (.inr (2, [.ref (9), .ref (12), .ref (13), .ref (16), .int (nI 0), .int (nI 0)])) := by rw [e17]; exact (jn_ne (by omega)).trans f16_8
  have f17_9 : M17.1 (9) = some (.inr (4, [.ref (10), .ref (11), .int (nI 0)])) := by rw [e17]; exact (jn_ne (by omega)).trans f16_9
  have f17_10 : M17.1 (10) = some (nA (12 * 12) (fun _ => 0)) := by rw [e17]; exact (jn_ne (by omega)).trans f16_10
  have f17_11 : M17.1 (11) = some (nA (12) (fun _ => 0)) := by rw [e17]; exact (jn_ne (by omega)).trans f16_11
  have f17_12 : M17.1 (12) = some (nA 12 (fun _ => 0)) := by rw [e17]; exact (jn_ne (by omega)).trans f16_12
  have f17_13 : M17.1 (13) = some (.inr (4, [.ref (14), .ref (15), .int (nI 0)])) := by rw [e17]; exact (jn_ne (by omega)).trans f16_13
  have f17_14 : M17.1 (14) = some (nA (60 * 12) (fun _ => 0)) := by rw [e17]; exact (jn_ne (by omega)).trans f16_14
  have f17_15 : M17.1 (15) = some (nA (60) (fun _ => 0)) := by rw [e17]; exact (jn_ne (by omega)).trans f16_15
  have f17_16 : M17.1 (16) = some (qA 2 60 (fun j => some (17 + 14 * j))) := by rw [e17]; exact (jn_ne (by omega)).trans f16_16
  have f17_857 : M17.1 (857) = some (.inr (7, [.ref (858), .ref (859), .ref (862), .int (nI 0), .int (nI 0)])) := by rw [e17]; exact (jn_ne (by omega)).trans f16_857
  have f17_858 : M17.1 (858) = some (rA 1000 (fun _ => nI 0)) := by rw [e17]; exact (jn_ne (by omega)).trans f16_858
  have f17_859 : M17.1 (859) = some (.inr (4, [.ref (860), .ref (861), .int (nI 0)])) := by rw [e17]; exact (jn_ne (by omega)).trans f16_859
  have f17_860 : M17.1 (860) = some (nA (60 * 12) (fun _ => 0)) := by rw [e17]; exact (jn_ne (by omega)).trans f16_860
  have f17_861 : M17.1 (861) = some (nA (60) (fun _ => 0)) := by rw [e17]; exact (jn_ne (by omega)).trans f16_861
  have f17_862 : M17.1 (862) = some (nA 60 (fun _ => 0)) := by rw [e17]; exact (jn_ne (by omega)).trans f16_862
  have f17_863 : M17.1 (863) = some (.inr (1, [.ref (3), .ref (8), .ref (864)])) := by rw [e17]; exact (jn_ne (by omega)).trans f16_863
  have f17_864 : M17.1 (864) = some (.inr (4, [.ref (865), .ref (866), .int (nI 0)])) := by rw [e17]; exact (jn_ne (by omega)).trans f16_864
  have f17_865 : M17.1 (865) = some (nA (6 * 12) (fun _ => 0)) := by rw [e17]; exact (jn_ne (by omega)).trans f16_865
  have f17_866 : M17.1 (866) = some (nA (6) (fun _ => 0)) := by rw [e17]; exact (jn_ne (by omega)).trans f16_866
  have f17_867 : M17.1 (867) = some (.inr (0, [.null, .null, .null, .null, .null, .null, .null, .null, .int (nI 0)])) := by rw [e17]; exact jn_eq
  have a17_0 : ∀ k, k < 840 → M17.1 (17 + k) = some (opC z0 (k / 14) (k % 14)) := fun k hk => by rw [e17]; exact (jn_ne (by omega)).trans (a16_0 k hk)
  have r17 : ∀ q, (q < 0 ∨ 875 ≤ q) → M17.1 q = M.1 q := fun q h => by rw [e17]; exact (jn_ne (by omega)).trans (r16 q h)
  have g17 : M17.2 = some (868) := by rw [e17]; rfl
  refine Q_dup (pc := 81) C dX10_init_81 rfl ?_
  refine Q_aload_n (pc := 82) C dX10_init_82 rfl rfl ?_
  refine Q_get (pc := 83) C dX10_init_83 f_X10_22 f17_0 rfl ?_
  refine Q_aload_n (pc := 86) C dX10_init_86 rfl rfl ?_
  refine Q_get (pc := 87) C dX10_init_87 f_X10_29 f17_0 rfl ?_
  refine Q_aload_n (pc := 90) C dX10_init_90 rfl rfl ?_
  refine Q_get (pc := 91) C dX10_init_91 f_X10_36 f17_0 rfl ?_
  refine Q_callIz (pc := 94) (k := 867) (As := [.ref (3), .ref (8), .ref (857)]) (st := [.ref (867), .ref (0)]) C dX10_init_94 m_X10_51 (i_X0 l G M17  f17_867 g17 ) ⟨jle rfl, jle rfl⟩ rfl rfl (jle rfl) ⟨by simp only [jR]; try omega, by simp only [jR]; try omega⟩ (fun M18 hz => ?_)
  obtain ⟨g18, ⟨z18_0, z18_1, z18_2, z18_3, z18_4, z18_5⟩, q18⟩ := hz
  have f18_0 : M18.1 (0) = some (.inr (10, [.ref (1), .ref (2), .ref (3), .ref (8), .ref (857), .ref (863), .null, .null, .int (nI 0)])) := (q18 _ (by omega)).trans f17_0
  have f18_1 : M18.1 (1) = some (nA (4000) (fun _ => 0)) := (q18 _ (by omega)).trans f17_1
  have f18_2 : M18.1 (2) = some (lA (6) (fun _ => 0)) := (q18 _ (by omega)).trans f17_2
  have f18_3 : M18.1 (3) = some (.inr (9, [.ref (1), .ref (4), .int (nI 0), .int (nI 128), .int (nI 0), .int (nI 0), .int (-1)])) := (q18 _ (by omega)).trans f17_3
  have f18_4 : M18.1 (4) = some (.inr (8, [.ref (1), .ref (5), .ref (6), .ref (7), .int (nI 0), .int (nI 0)])) := (q18 _ (by omega)).trans f17_4
  have f18_5 : M18.1 (5) = some (nA 4001 (fun _ => 0)) := (q18 _ (by omega)).trans f17_5
  have f18_6 : M18.1 (6) = some (nA 4001 (fun _ => 0)) := (q18 _ (by omega)).trans f17_6
  have f18_7 : M18.1 (7) = some (nA 4001 (fun _ => 0)) := (q18 _ (by omega)).trans f17_7
  have f18_8 : M18.1 (8) = some (.inr (2, [.ref (9), .ref (12), .ref (13), .ref (16), .int (nI 0), .int (nI 0)])) := (q18 _ (by omega)).trans f17_8
  have f18_9 : M18.1 (9) = some (.inr (4, [.ref (10), .ref (11), .int (nI 0)])) := (q18 _ (by omega)).trans f17_9
  have f18_10 : M18.1 (10) = some (nA (12 * 12) (fun _ => 0)) := (q18 _ (by omega)).trans f17_10
  have f18_11 : M18.1 (11) = some (nA (12) (fun _ => 0)) := (q18 _ (by omega)).trans f17_11
  have f18_12 : M18.1 (12) = some (nA 12 (fun _ => 0)) := (q18 _ (by omega)).trans f17_12
  have f18_13 : M18.1 (13) = some (.inr (4, [.ref (14), .ref (15), .int (nI 0)])) := (q18 _ (by omega)).trans f17_13
  have f18_14 : M18.1 (14) = some (nA (60 * 12) (fun _ => 0)) := (q18 _ (by omega)).trans f17_14
  have f18_15 : M18.1 (15) = some (nA (60) (fun _ => 0)) := (q18 _ (by omega)).trans f17_15
  have f18_16 : M18.1 (16) = some (qA 2 60 (fun j => some (17 + 14 * j))) := (q18 _ (by omega)).trans f17_16
  have f18_857 : M18.1 (857) = some (.inr (7, [.ref (858), .ref (859), .ref (862), .int (nI 0), .int (nI 0)])) := (q18 _ (by omega)).trans f17_857
  have f18_858 : M18.1 (858) = some (rA 1000 (fun _ => nI 0)) := (q18 _ (by omega)).trans f17_858
  have f18_859 : M18.1 (859) = some (.inr (4, [.ref (860), .ref (861), .int (nI 0)])) := (q18 _ (by omega)).trans f17_859
  have f18_860 : M18.1 (860) = some (nA (60 * 12) (fun _ => 0)) := (q18 _ (by omega)).trans f17_860
  have f18_861 : M18.1 (861) = some (nA (60) (fun _ => 0)) := (q18 _ (by omega)).trans f17_861
  have f18_862 : M18.1 (862) = some (nA 60 (fun _ => 0)) := (q18 _ (by omega)).trans f17_862
  have f18_863 : M18.1 (863) = some (.inr (1, [.ref (3), .ref (8), .ref (864)])) := (q18 _ (by omega)).trans f17_863
  have f18_864 : M18.1 (864) = some (.inr (4, [.ref (865), .ref (866), .int (nI 0)])) := (q18 _ (by omega)).trans f17_864
  have f18_865 : M18.1 (865) = some (nA (6 * 12) (fun _ => 0)) := (q18 _ (by omega)).trans f17_865
  have f18_866 : M18.1 (866) = some (nA (6) (fun _ => 0)) := (q18 _ (by omega)).trans f17_866
  have a18_0 : ∀ k, k < 840 → M18.1 (17 + k) = some (opC z0 (k / 14) (k % 14)) := fun k hk => (q18 _ (by omega)).trans (a17_0 k hk)
  have r18 : ∀ q, (q < 0 ∨ 875 ≤ q) → M18.1 q = M.1 q := fun q h => (q18 q (by omega)).trans (r17 q h)
  obtain ⟨M19, e19⟩ : ∃ z, z = ju M18 (0) (.inr (10, [.ref (1), .ref (2), .ref (3), .ref (8), .ref (857), .ref (863), .ref (867), .null, .int (nI 0)])) := ⟨_, rfl⟩
  refine Q_putFU (pc := 97) (fs := [.ref (1), .ref (2), .ref (3), .ref (8), .ref (857), .ref (863), .null, .null, .int (nI 0)]) C hNm dX10_init_97 p_X10_54 f18_0 (jlt rfl) rfl rfl e19.symm ?_
  have f19_1 : M19.1 (1) = some (nA (4000) (fun _ => 0)) := by rw [e19]; exact (ju_ne (by omega)).trans f18_1
  have f19_2 : M19.1 (2) = some (lA (6) (fun _ => 0)) := by rw [e19]; exact (ju_ne (by omega)).trans f18_2
  have f19_3 : M19.1 (3) = some (.inr (9, [.ref (1), .ref (4), .int (nI 0), .int (nI 128), .int (nI 0), .int (nI 0), .int (-1)])) := by rw [e19]; exact (ju_ne (by omega)).trans f18_3
  have f19_4 : M19.1 (4) = some (.inr (8, [.ref (1), .ref (5), .ref (6), .ref (7), .int (nI 0), .int (nI 0)])) := by rw [e19]; exact (ju_ne (by omega)).trans f18_4
  have f19_5 : M19.1 (5) = some (nA 4001 (fun _ => 0)) := by rw [e19]; exact (ju_ne (by omega)).trans f18_5
  have f19_6 : M19.1 (6) = some (nA 4001 (fun _ => 0)) := by rw [e19]; exact (ju_ne (by omega)).trans f18_6
  have f19_7 : M19.1 (7) = some (nA 4001 (fun _ => 0)) := by rw [e19]; exact (ju_ne (by omega)).trans f18_7
  have f19_8 : M19.1 (8) = some (.inr (2, [.ref (9), .ref (12), .ref (13), .ref (16), .int (nI 0), .int (nI 0)])) := by rw [e19]; exact (ju_ne (by omega)).trans f18_8
  have f19_9 : M19.1 (9) = some (.inr (4, [.ref (10), .ref (11), .int (nI 0)])) := by rw [e19]; exact (ju_ne (by omega)).trans f18_9
  have f19_10 : M19.1 (10) = some (nA (12 * 12) (fun _ => 0)) := by rw [e19]; exact (ju_ne (by omega)).trans f18_10
  have f19_11 : M19.1 (11) = some (nA (12) (fun _ => 0)) := by rw [e19]; exact (ju_ne (by omega)).trans f18_11
  have f19_12 : M19.1 (12) = some (nA 12 (fun _ => 0)) := by rw [e19]; exact (ju_ne (by omega)).trans f18_12
  have f19_13 : M19.1 (13) = some (.inr (4, [.ref (14), .ref (15), .int (nI 0)])) := by rw [e19]; exact (ju_ne (by omega)).trans f18_13
  have f19_14 : M19.1 (14) = some (nA (60 * 12) (fun _ => 0)) := by rw [e19]; exact (ju_ne (by omega)).trans f18_14
  have f19_15 : M19.1 (15) = some (nA (60) (fun _ => 0)) := by rw [e19]; exact (ju_ne (by omega)).trans f18_15
  have f19_16 : M19.1 (16) = some (qA 2 60 (fun j => some (17 + 14 * j))) := by rw [e19]; exact (ju_ne (by omega)).trans f18_16
  have f19_857 : M19.1 (857) = some (.inr (7, [.ref (858), .ref (859), .ref (862), .int (nI 0), .int (nI 0)])) := by rw [e19]; exact (ju_ne (by omega)).trans f18_857
  have f19_858 : M19.1 (858) = some (rA 1000 (fun _ => nI 0)) := by rw [e19]; exact (ju_ne (by omega)).trans f18_858
  have f19_859 : M19.1 (859) = some (.inr (4, [.ref (860), .ref (861), .int (nI 0)])) := by rw [e19]; exact (ju_ne (by omega)).trans f18_859
  have f19_860 : M19.1 (860) = some (nA (60 * 12) (fun _ => 0)) := by rw [e19]; exact (ju_ne (by omega)).trans f18_860
  have f19_861 : M19.1 (861) = some (nA (60) (fun _ => 0)) := by rw [e19]; exact (ju_ne (by omega)).trans f18_861
  have f19_862 : M19.1 (862) = some (nA 60 (fun _ => 0)) := by rw [e19]; exact (ju_ne (by omega)).trans f18_862
  have f19_863 : M19.1 (863) = some (.inr (1, [.ref (3), .ref (8), .ref (864)])) := by rw [e19]; exact (ju_ne (by omega)).trans f18_863
  have f19_864 : M19.1 (864) = some (.inr (4, [.ref (865), .ref (866), .int (nI 0)])) := by rw [e19]; exact (ju_ne (by omega)).trans f18_864
  have f19_865 : M19.1 (865) = some (nA (6 * 12) (fun _ => 0)) := by rw [e19]; exact (ju_ne (by omega)).trans f18_865
  have f19_866 : M19.1 (866) = some (nA (6) (fun _ => 0)) := by rw [e19]; exact (ju_ne (by omega)).trans f18_866
  have f19_867 : M19.1 (867) = some (.inr (0, [.ref (3), .ref (8), .ref (857), .ref (868), .ref (869), .ref (870), .ref (871), .ref (872), .int (nI 0)])) := by rw [e19]; exact (ju_ne (by omega)).trans z18_0
  have f19_868 : M19.1 (868) = some (nA 2000 (fun _ => 0)) := by rw [e19]; exact (ju_ne (by omega)).trans z18_1
  have f19_869 : M19.1 (869) = some (nA 2000 (fun _ => 0)) := by rw [e19]; exact (ju_ne (by omega)).trans z18_2
  have f19_870 : M19.1 (870) = some (nA 2000 (fun _ => 0)) := by rw [e19]; exact (ju_ne (by omega)).trans z18_3
  have f19_871 : M19.1 (871) = some (nA 2000 (fun _ => 0)) := by rw [e19]; exact (ju_ne (by omega)).trans z18_4
  have f19_872 : M19.1 (872) = some (nA 2000 (fun _ => 0)) := by rw [e19]; exact (ju_ne (by omega)).trans z18_5
  have f19_0 : M19.1 (0) = some (.inr (10, [.ref (1), .ref (2), .ref (3), .ref (8), .ref (857), .ref (863), .ref (867), .null, .int (nI 0)])) := by rw [e19]; exact ju_eq
  have a19_0 : ∀ k, k < 840 → M19.1 (17 + k) = some (opC z0 (k / 14) (k % 14)) := fun k hk => by rw [e19]; exact (ju_ne (by omega)).trans (a18_0 k hk)
  have r19 : ∀ q, (q < 0 ∨ 875 ≤ q) → M19.1 q = M.1 q := fun q h => by rw [e19]; exact (ju_ne (by omega)).trans (r18 q h)
  have g19 : M19.2 = some (873) := by rw [e19]; exact g18
  refine Q_aload_n (pc := 100) C dX10_init_100 rfl rfl ?_
  refine Q_new (pc := 101) (ci := 3) (fs := [.null, .int (nI 0)]) (k := 873) (n := 873) C dX10_init_101 rfl cl_X10_58 in_X3 ii_X3 df_X3 rfl g19 (by unfold jin; omega) (jr_lo (by omega)) (by simp only [jR]; try omega) (by simp only [jR]; try omega) ?_
  obtain ⟨M20, e20⟩ : ∃ z, z = jn M19 (873) (.inr (3, [.null, .int (nI 0)])) (873) := ⟨_, rfl⟩
  rw [← e20]
  have f20_0 : M20.1 (0) = some (.inr (10, [.ref (1), .ref (2), .ref (3), .ref (8), .ref (857), .ref (863), .ref (867), .null, .int (nI 0)])) := by rw [e20]; exact (jn_ne (by omega)).trans f19_0
  have f20_1 : M20.1 (1) = some (nA (4000) (fun _ => 0)) := by rw [e20]; exact (jn_ne (by omega)).trans f19_1
  have f20_2 : M20.1 (2) = some (lA (6) (fun _ => 0)) := by rw [e20]; exact (jn_ne (by omega)).trans f19_2
  have f20_3 : M20.1 (3) = some (.inr (9, [.ref (1), .ref (4), .int (nI 0), .int (nI 128), .int (nI 0), .int (nI 0), .int (-1)])) := by rw [e20]; exact (jn_ne (by omega)).trans f19_3
  have f20_4 : M20.1 (4) = some (.inr (8, [.ref (1), .ref (5), .ref (6), .ref (7), .int (nI 0), .int (nI 0)])) := by rw [e20]; exact (jn_ne (by omega)).trans f19_4
  have f20_5 : M20.1 (5) = some (nA 4001 (fun _ => 0)) := by rw [e20]; exact (jn_ne (by omega)).trans f19_5
  have f20_6 : M20.1 (6) = some (nA 4001 (fun _ => 0)) := by rw [e20]; exact (jn_ne (by omega)).trans f19_6
  have f20_7 : M20.1 (7) = some (nA 4001 (fun _ => 0)) := by rw [e20]; exact (jn_ne (by omega)).trans f19_7
  have f20_8 : M20.1 (8) = some (.inr (2, [.ref (9), .ref (12), .ref (13), .ref (16), .int (nI 0), .int (nI 0)])) := by rw [e20]; exact (jn_ne (by omega)).trans f19_8
  have f20_9 : M20.1 (9) = some (.inr (4, [.ref (10), .ref (11), .int (nI 0)])) := by rw [e20]; exact (jn_ne (by omega)).trans f19_9
  have f20_10 : M20.1 (10) = some (nA (12 * 12) (fun _ => 0)) := by rw [e20]; exact (jn_ne (by omega)).trans f19_10
  have f20_11 : M20.1 (11) = some (nA (12) (fun _ => 0)) := by rw [e20]; exact (jn_ne (by omega)).trans f19_11
  have f20_12 : M20.1 (12) = some (nA 12 (fun _ => 0)) := by rw [e20]; exact (jn_ne (by omega)).trans f19_12
  have f20_13 : M20.1 (13) = some (.inr (4, [.ref (14), .ref (15), .int (nI 0)])) := by rw [e20]; exact (jn_ne (by omega)).trans f19_13
  have f20_14 : M20.1 (14) = some (nA (60 * 12) (fun _ => 0)) := by rw [e20]; exact (jn_ne (by omega)).trans f19_14
  have f20_15 : M20.1 (15) = some (nA (60) (fun _ => 0)) := by rw [e20]; exact (jn_ne (by omega)).trans f19_15
  have f20_16 : M20.1 (16) = some (qA 2 60 (fun j => some (17 + 14 * j))) := by rw [e20]; exact (jn_ne (by omega)).trans f19_16
  have f20_857 : M20.1 (857) = some (.inr (7, [.ref (858), .ref (859), .ref (862), .int (nI 0), .int (nI 0)])) := by rw [e20]; exact (jn_ne (by omega)).trans f19_857
  have f20_858 : M20.1 (858) = some (rA 1000 (fun _ => nI 0)) := by rw [e20]; exact (jn_ne (by omega)).trans f19_858
  have f20_859 : M20.1 (859) = some (.inr (4, [.ref (860), .ref (861), .int (nI 0)])) := by rw [e20]; exact (jn_ne (by omega)).trans f19_859
  have f20_860 : M20.1 (860) = some (nA (60 * 12) (fun _ => 0)) := by rw [e20]; exact (jn_ne (by omega)).trans f19_860
  have f20_861 : M20.1 (861) = some (nA (60) (fun _ => 0)) := by rw [e20]; exact (jn_ne (by omega)).trans f19_861
  have f20_862 : M20.1 (862) = some (nA 60 (fun _ => 0)) := by rw [e20]; exact (jn_ne (by omega)).trans f19_862
  have f20_863 : M20.1 (863) = some (.inr (1, [.ref (3), .ref (8), .ref (864)])) := by rw [e20]; exact (jn_ne (by omega)).trans f19_863
  have f20_864 : M20.1 (864) = some (.inr (4, [.ref (865), .ref (866), .int (nI 0)])) := by rw [e20]; exact (jn_ne (by omega)).trans f19_864
  have f20_865 : M20.1 (865) = some (nA (6 * 12) (fun _ => 0)) := by rw [e20]; exact (jn_ne (by omega)).trans f19_865
  have f20_866 : M20.1 (866) = some (nA (6) (fun _ => 0)) := by rw [e20]; exact (jn_ne (by omega)).trans f19_866
  have f20_867 : M20.1 (867) = some (.inr (0, [.ref (3), .ref (8), .ref (857), .ref (868), .ref (869), .ref (870), .ref (871), .ref (872), .int (nI 0)])) := by rw [e20]; exact (jn_ne (by omega)).trans f19_867
  have f20_868 : M20.1 (868) = some (nA 2000 (fun _ => 0)) := by rw [e20]; exact (jn_ne (by omega)).trans f19_868
  have f20_869 : M20.1 (869) = some (nA 2000 (fun _ => 0)) := by rw [e20]; exact (jn_ne (by omega)).trans f19_869
  have f20_870 : M20.1 (870) = some (nA 2000 (fun _ => 0)) := by rw [e20]; exact (jn_ne (by omega)).trans f19_870
  have f20_871 : M20.1 (871) = some (nA 2000 (fun _ => 0)) := by rw [e20]; exact (jn_ne (by omega)).trans f19_871
  have f20_872 : M20.1 (872) = some (nA 2000 (fun _ => 0)) := by rw [e20]; exact (jn_ne (by omega)).trans f19_872
  have f20_873 : M20.1 (873) = some (.inr (3, [.null, .int (nI 0)])) := by rw [e20]; exact jn_eq
  have a20_0 : ∀ k, k < 840 → M20.1 (17 + k) = some (opC z0 (k / 14) (k % 14)) := fun k hk => by rw [e20]; exact (jn_ne (by omega)).trans (a19_0 k hk)
  have r20 : ∀ q, (q < 0 ∨ 875 ≤ q) → M20.1 q = M.1 q := fun q h => by rw [e20]; exact (jn_ne (by omega)).trans (r19 q h)
  have g20 : M20.2 = some (874) := by rw [e20]; rfl
  refine Q_dup (pc := 104) C dX10_init_104 rfl ?_
  refine Q_callINz (pc := 105) (k := 873) (As := []) (st := [.ref (873), .ref (0)]) C dX10_init_105 k_X3_init n_X10_60 im_X3 rfl (i_X3 l G M20 873 f20_873 g20 (by omega)) ⟨jle rfl, jle rfl⟩ rfl rfl (jle rfl) ⟨by simp only [jR]; try omega, by simp only [jR]; try omega⟩ (fun M21 hz => ?_)
  obtain ⟨g21, ⟨z21_0, z21_1⟩, q21⟩ := hz
  have f21_0 : M21.1 (0) = some (.inr (10, [.ref (1), .ref (2), .ref (3), .ref (8), .ref (857), .ref (863), .ref (867), .null, .int (nI 0)])) := (q21 _ (by omega)).trans f20_0
  have f21_1 : M21.1 (1) = some (nA (4000) (fun _ => 0)) := (q21 _ (by omega)).trans f20_1
  have f21_2 : M21.1 (2) = some (lA (6) (fun _ => 0)) := (q21 _ (by omega)).trans f20_2
  have f21_3 : M21.1 (3) = some (.inr (9, [.ref (1), .ref (4), .int (nI 0), .int (nI 128), .int (nI 0), .int (nI 0), .int (-1)])) := (q21 _ (by omega)).trans f20_3
  have f21_4 : M21.1 (4) = some (.inr (8, [.ref (1), .ref (5), .ref (6), .ref (7), .int (nI 0), .int (nI 0)])) := (q21 _ (by omega)).trans f20_4
  have f21_5 : M21.1 (5) = some (nA 4001 (fun _ => 0)) := (q21 _ (by omega)).trans f20_5
  have f21_6 : M21.1 (6) = some (nA 4001 (fun _ => 0)) := (q21 _ (by omega)).trans f20_6
  have f21_7 : M21.1 (7) = some (nA 4001 (fun _ => 0)) := (q21 _ (by omega)).trans f20_7
  have f21_8 : M21.1 (8) = some (.inr (2, [.ref (9), .ref (12), .ref (13), .ref (16), .int (nI 0), .int (nI 0)])) := (q21 _ (by omega)).trans f20_8
  have f21_9 : M21.1 (9) = some (.inr (4, [.ref (10), .ref (11), .int (nI 0)])) := (q21 _ (by omega)).trans f20_9
  have f21_10 : M21.1 (10) = some (nA (12 * 12) (fun _ => 0)) := (q21 _ (by omega)).trans f20_10
  have f21_11 : M21.1 (11) = some (nA (12) (fun _ => 0)) := (q21 _ (by omega)).trans f20_11
  have f21_12 : M21.1 (12) = some (nA 12 (fun _ => 0)) := (q21 _ (by omega)).trans f20_12
  have f21_13 : M21.1 (13) = some (.inr (4, [.ref (14), .ref (15), .int (nI 0)])) := (q21 _ (by omega)).trans f20_13
  have f21_14 : M21.1 (14) = some (nA (60 * 12) (fun _ => 0)) := (q21 _ (by omega)).trans f20_14
  have f21_15 : M21.1 (15) = some (nA (60) (fun _ => 0)) := (q21 _ (by omega)).trans f20_15
  have f21_16 : M21.1 (16) = some (qA 2 60 (fun j => some (17 + 14 * j))) := (q21 _ (by omega)).trans f20_16
  have f21_857 : M21.1 (857) = some (.inr (7, [.ref (858), .ref (859), .ref (862), .int (nI 0), .int (nI 0)])) := (q21 _ (by omega)).trans f20_857
  have f21_858 : M21.1 (858) = some (rA 1000 (fun _ => nI 0)) := (q21 _ (by omega)).trans f20_858
  have f21_859 : M21.1 (859) = some (.inr (4, [.ref (860), .ref (861), .int (nI 0)])) := (q21 _ (by omega)).trans f20_859
  have f21_860 : M21.1 (860) = some (nA (60 * 12) (fun _ => 0)) := (q21 _ (by omega)).trans f20_860
  have f21_861 : M21.1 (861) = some (nA (60) (fun _ => 0)) := (q21 _ (by omega)).trans f20_861
  have f21_862 : M21.1 (862) = some (nA 60 (fun _ => 0)) := (q21 _ (by omega)).trans f20_862
  have f21_863 : M21.1 (863) = some (.inr (1, [.ref (3), .ref (8), .ref (864)])) := (q21 _ (by omega)).trans f20_863
  have f21_864 : M21.1 (864) = some (.inr (4, [.ref (865), .ref (866), .int (nI 0)])) := (q21 _ (by omega)).trans f20_864
  have f21_865 : M21.1 (865) = some (nA (6 * 12) (fun _ => 0)) := (q21 _ (by omega)).trans f20_865
  have f21_866 : M21.1 (866) = some (nA (6) (fun _ => 0)) := (q21 _ (by omega)).trans f20_866
  have f21_867 : M21.1 (867) = some (.inr (0, [.ref (3), .ref (8), .ref (857), .ref (868), .ref (869), .ref (870), .ref (871), .ref (872), .int (nI 0)])) := (q21 _ (by omega)).trans f20_867
  have f21_868 : M21.1 (868) = some (nA 2000 (fun _ => 0)) := (q21 _ (by omega)).trans f20_868
  have f21_869 : M21.1 (869) = some (nA 2000 (fun _ => 0)) := (q21 _ (by omega)).trans f20_869
  have f21_870 : M21.1 (870) = some (nA 2000 (fun _ => 0)) := (q21 _ (by omega)).trans f20_870
  have f21_871 : M21.1 (871) = some (nA 2000 (fun _ => 0)) := (q21 _ (by omega)).trans f20_871
  have f21_872 : M21.1 (872) = some (nA 2000 (fun _ => 0)) := (q21 _ (by omega)).trans f20_872
  have a21_0 : ∀ k, k < 840 → M21.1 (17 + k) = some (opC z0 (k / 14) (k % 14)) := fun k hk => (q21 _ (by omega)).trans (a20_0 k hk)
  have r21 : ∀ q, (q < 0 ∨ 875 ≤ q) → M21.1 q = M.1 q := fun q h => (q21 q (by omega)).trans (r20 q h)
  obtain ⟨M22, e22⟩ : ∃ z, z = ju M21 (0) (.inr (10, [.ref (1), .ref (2), .ref (3), .ref (8), .ref (857), .ref (863), .ref (867), .ref (873), .int (nI 0)])) := ⟨_, rfl⟩
  refine Q_putFU (pc := 108) (fs := [.ref (1), .ref (2), .ref (3), .ref (8), .ref (857), .ref (863), .ref (867), .null, .int (nI 0)]) C hNm dX10_init_108 p_X10_61 f21_0 (jlt rfl) rfl rfl e22.symm ?_
  have f22_1 : M22.1 (1) = some (nA (4000) (fun _ => 0)) := by rw [e22]; exact (ju_ne (by omega)).trans f21_1
  have f22_2 : M22.1 (2) = some (lA (6) (fun _ => 0)) := by rw [e22]; exact (ju_ne (by omega)).trans f21_2
  have f22_3 : M22.1 (3) = some (.inr (9, [.ref (1), .ref (4), .int (nI 0), .int (nI 128), .int (nI 0), .int (nI 0), .int (-1)])) := by rw [e22]; exact (ju_ne (by omega)).trans f21_3
  have f22_4 : M22.1 (4) = some (.inr (8, [.ref (1), .ref (5), .ref (6), .ref (7), .int (nI 0), .int (nI 0)])) := by rw [e22]; exact (ju_ne (by omega)).trans f21_4
  have f22_5 : M22.1 (5) = some (nA 4001 (fun _ => 0)) := by rw [e22]; exact (ju_ne (by omega)).trans f21_5
  have f22_6 : M22.1 (6) = some (nA 4001 (fun _ => 0)) := by rw [e22]; exact (ju_ne (by omega)).trans f21_6
  have f22_7 : M22.1 (7) = some (nA 4001 (fun _ => 0)) := by rw [e22]; exact (ju_ne (by omega)).trans f21_7
  have f22_8 : M22.1 (8) = some (.inr (2, [.ref (9), .ref (12), .ref (13), .ref (16), .int (nI 0), .int (nI 0)])) := by rw [e22]; exact (ju_ne (by omega)).trans f21_8
  have f22_9 : M22.1 (9) = some (.inr (4, [.ref (10), .ref (11), .int (nI 0)])) := by rw [e22]; exact (ju_ne (by omega)).trans f21_9
  have f22_10 : M22.1 (10) = some (nA (12 * 12) (fun _ => 0)) := by rw [e22]; exact (ju_ne (by omega)).trans f21_10
  have f22_11 : M22.1 (11) = some (nA (12) (fun _ => 0)) := by rw [e22]; exact (ju_ne (by omega)).trans f21_11
  have f22_12 : M22.1 (12) = some (nA 12 (fun _ => 0)) := by rw [e22]; exact (ju_ne (by omega)).trans f21_12
  have f22_13 : M22.1 (13) = some (.inr (4, [.ref (14), .ref (15), .int (nI 0)])) := by rw [e22]; exact (ju_ne (by omega)).trans f21_13
  have f22_14 : M22.1 (14) = some (nA (60 * 12) (fun _ => 0)) := by rw [e22]; exact (ju_ne (by omega)).trans f21_14
  have f22_15 : M22.1 (15) = some (nA (60) (fun _ => 0)) := by rw [e22]; exact (ju_ne (by omega)).trans f21_15
  have f22_16 : M22.1 (16) = some (qA 2 60 (fun j => some (17 + 14 * j))) := by rw [e22]; exact (ju_ne (by omega)).trans f21_16
  have f22_857 : M22.1 (857) = some (.inr (7, [.ref (858), .ref (859), .ref (862), .int (nI 0), .int (nI 0)])) := by rw [e22]; exact (ju_ne (by omega)).trans f21_857
  have f22_858 : M22.1 (858) = some (rA 1000 (fun _ => nI 0)) := by rw [e22]; exact (ju_ne (by omega)).trans f21_858
  have f22_859 : M22.1 (859) = some (.inr (4, [.ref (860), .ref (861), .int (nI 0)])) := by rw [e22]; exact (ju_ne (by omega)).trans f21_859
  have f22_860 : M22.1 (860) = some (nA (60 * 12) (fun _ => 0)) := by rw [e22]; exact (ju_ne (by omega)).trans f21_860
  have f22_861 : M22.1 (861) = some (nA (60) (fun _ => 0)) := by rw [e22]; exact (ju_ne (by omega)).trans f21_861
  have f22_862 : M22.1 (862) = some (nA 60 (fun _ => 0)) := by rw [e22]; exact (ju_ne (by omega)).trans f21_862
  have f22_863 : M22.1 (863) = some (.inr (1, [.ref (3), .ref (8), .ref (864)])) := by rw [e22]; exact (ju_ne (by omega)).trans f21_863
  have f22_864 : M22.1 (864) = some (.inr (4, [.ref (865), .ref (866), .int (nI 0)])) := by rw [e22]; exact (ju_ne (by omega)).trans f21_864
  have f22_865 : M22.1 (865) = some (nA (6 * 12) (fun _ => 0)) := by rw [e22]; exact (ju_ne (by omega)).trans f21_865
  have f22_866 : M22.1 (866) = some (nA (6) (fun _ => 0)) := by rw [e22]; exact (ju_ne (by omega)).trans f21_866
  have f22_867 : M22.1 (867) = some (.inr (0, [.ref (3), .ref (8), .ref (857), .ref (868), .ref (869), .ref (870), .ref (871), .ref (872), .int (nI 0)])) := by rw [e22]; exact (ju_ne (by omega)).trans f21_867
  have f22_868 : M22.1 (868) = some (nA 2000 (fun _ => 0)) := by rw [e22]; exact (ju_ne (by omega)).trans f21_868
  have f22_869 : M22.1 (869) = some (nA 2000 (fun _ => 0)) := by rw [e22]; exact (ju_ne (by omega)).trans f21_869
  have f22_870 : M22.1 (870) = some (nA 2000 (fun _ => 0)) := by rw [e22]; exact (ju_ne (by omega)).trans f21_870
  have f22_871 : M22.1 (871) = some (nA 2000 (fun _ => 0)) := by rw [e22]; exact (ju_ne (by omega)).trans f21_871
  have f22_872 : M22.1 (872) = some (nA 2000 (fun _ => 0)) := by rw [e22]; exact (ju_ne (by omega)).trans f21_872
  have f22_873 : M22.1 (873) = some (.inr (3, [.ref (874), .int (nI 0)])) := by rw [e22]; exact (ju_ne (by omega)).trans z21_0
  have f22_874 : M22.1 (874) = some (nA 96 (fun _ => 0)) := by rw [e22]; exact (ju_ne (by omega)).trans z21_1
  have f22_0 : M22.1 (0) = some (.inr (10, [.ref (1), .ref (2), .ref (3), .ref (8), .ref (857), .ref (863), .ref (867), .ref (873), .int (nI 0)])) := by rw [e22]; exact ju_eq
  have a22_0 : ∀ k, k < 840 → M22.1 (17 + k) = some (opC z0 (k / 14) (k % 14)) := fun k hk => by rw [e22]; exact (ju_ne (by omega)).trans (a21_0 k hk)
  have r22 : ∀ q, (q < 0 ∨ 875 ≤ q) → M22.1 q = M.1 q := fun q h => by rw [e22]; exact (ju_ne (by omega)).trans (r21 q h)
  have g22 : M22.2 = some (875) := by rw [e22]; exact g21
  refine Q_aload_n (pc := 111) C dX10_init_111 rfl rfl ?_
  refine Q_iconst (pc := 112) (v := nI 0) C dX10_init_112 (by decide) ?_
  obtain ⟨M23, e23⟩ : ∃ z, z = ju M22 (0) (.inr (10, [.ref (1), .ref (2), .ref (3), .ref (8), .ref (857), .ref (863), .ref (867), .ref (873), .int (nI 0)])) := ⟨_, rfl⟩
  refine Q_putU (pc := 113) (fs := [.ref (1), .ref (2), .ref (3), .ref (8), .ref (857), .ref (863), .ref (867), .ref (873), .int (nI 0)]) C dX10_init_113 p_X10_65 f22_0 (jlt rfl) rfl rfl e23.symm ?_
  have f23_1 : M23.1 (1) = some (nA (4000) (fun _ => 0)) := by rw [e23]; exact (ju_ne (by omega)).trans f22_1
  have f23_2 : M23.1 (2) = some (lA (6) (fun _ => 0)) := by rw [e23]; exact (ju_ne (by omega)).trans f22_2
  have f23_3 : M23.1 (3) = some (.inr (9, [.ref (1), .ref (4), .int (nI 0), .int (nI 128), .int (nI 0), .int (nI 0), .int (-1)])) := by rw [e23]; exact (ju_ne (by omega)).trans f22_3
  have f23_4 : M23.1 (4) = some (.inr (8, [.ref (1), .ref (5), .ref (6), .ref (7), .int (nI 0), .int (nI 0)])) := by rw [e23]; exact (ju_ne (by omega)).trans f22_4
  have f23_5 : M23.1 (5) = some (nA 4001 (fun _ => 0)) := by rw [e23]; exact (ju_ne (by omega)).trans f22_5
  have f23_6 : M23.1 (6) = some (nA 4001 (fun _ => 0)) := by rw [e23]; exact (ju_ne (by omega)).trans f22_6
  have f23_7 : M23.1 (7) = some (nA 4001 (fun _ => 0)) := by rw [e23]; exact (ju_ne (by omega)).trans f22_7
  have f23_8 : M23.1 (8) = some (.inr (2, [.ref (9), .ref (12), .ref (13), .ref (16), .int (nI 0), .int (nI 0)])) := by rw [e23]; exact (ju_ne (by omega)).trans f22_8
  have f23_9 : M23.1 (9) = some (.inr (4, [.ref (10), .ref (11), .int (nI 0)])) := by rw [e23]; exact (ju_ne (by omega)).trans f22_9
  have f23_10 : M23.1 (10) = some (nA (12 * 12) (fun _ => 0)) := by rw [e23]; exact (ju_ne (by omega)).trans f22_10
  have f23_11 : M23.1 (11) = some (nA (12) (fun _ => 0)) := by rw [e23]; exact (ju_ne (by omega)).trans f22_11
  have f23_12 : M23.1 (12) = some (nA 12 (fun _ => 0)) := by rw [e23]; exact (ju_ne (by omega)).trans f22_12
  have f23_13 : M23.1 (13) = some (.inr (4, [.ref (14), .ref (15), .int (nI 0)])) := by rw [e23]; exact (ju_ne (by omega)).trans f22_13
  have f23_14 : M23.1 (14) = some (nA (60 * 12) (fun _ => 0)) := by rw [e23]; exact (ju_ne (by omega)).trans f22_14
  have f23_15 : M23.1 (15) = some (nA (60) (fun _ => 0)) := by rw [e23]; exact (ju_ne (by omega)).trans f22_15
  have f23_16 : M23.1 (16) = some (qA 2 60 (fun j => some (17 + 14 * j))) := by rw [e23]; exact (ju_ne (by omega)).trans f22_16
  have f23_857 : M23.1 (857) = some (.inr (7, [.ref (858), .ref (859), .ref (862), .int (nI 0), .int (nI 0)])) := by rw [e23]; exact (ju_ne (by omega)).trans f22_857
  have f23_858 : M23.1 (858) = some (rA 1000 (fun _ => nI 0)) := by rw [e23]; exact (ju_ne (by omega)).trans f22_858
  have f23_859 : M23.1 (859) = some (.inr (4, [.ref (860), .ref (861), .int (nI 0)])) := by rw [e23]; exact (ju_ne (by omega)).trans f22_859
  have f23_860 : M23.1 (860) = some (nA (60 * 12) (fun _ => 0)) := by rw [e23]; exact (ju_ne (by omega)).trans f22_860
  have f23_861 : M23.1 (861) = some (nA (60) (fun _ => 0)) := by rw [e23]; exact (ju_ne (by omega)).trans f22_861
  have f23_862 : M23.1 (862) = some (nA 60 (fun _ => 0)) := by rw [e23]; exact (ju_ne (by omega)).trans f22_862
  have f23_863 : M23.1 (863) = some (.inr (1, [.ref (3), .ref (8), .ref (864)])) := by rw [e23]; exact (ju_ne (by omega)).trans f22_863
  have f23_864 : M23.1 (864) = some (.inr (4, [.ref (865), .ref (866), .int (nI 0)])) := by rw [e23]; exact (ju_ne (by omega)).trans f22_864
  have f23_865 : M23.1 (865) = some (nA (6 * 12) (fun _ => 0)) := by rw [e23]; exact (ju_ne (by omega)).trans f22_865
  have f23_866 : M23.1 (866) = some (nA (6) (fun _ => 0)) := by rw [e23]; exact (ju_ne (by omega)).trans f22_866
  have f23_867 : M23.1 (867) = some (.inr (0, [.ref (3), .ref (8), .ref (857), .ref (868), .ref (869), .ref (870), .ref (871), .ref (872), .int (nI 0)])) := by rw [e23]; exact (ju_ne (by omega)).trans f22_867
  have f23_868 : M23.1 (868) = some (nA 2000 (fun _ => 0)) := by rw [e23]; exact (ju_ne (by omega)).trans f22_868
  have f23_869 : M23.1 (869) = some (nA 2000 (fun _ => 0)) := by rw [e23]; exact (ju_ne (by omega)).trans f22_869
  have f23_870 : M23.1 (870) = some (nA 2000 (fun _ => 0)) := by rw [e23]; exact (ju_ne (by omega)).trans f22_870
  have f23_871 : M23.1 (871) = some (nA 2000 (fun _ => 0)) := by rw [e23]; exact (ju_ne (by omega)).trans f22_871
  have f23_872 : M23.1 (872) = some (nA 2000 (fun _ => 0)) := by rw [e23]; exact (ju_ne (by omega)).trans f22_872
  have f23_873 : M23.1 (873) = some (.inr (3, [.ref (874), .int (nI 0)])) := by rw [e23]; exact (ju_ne (by omega)).trans f22_873
  have f23_874 : M23.1 (874) = some (nA 96 (fun _ => 0)) := by rw [e23]; exact (ju_ne (by omega)).trans f22_874
  have f23_0 : M23.1 (0) = some (.inr (10, [.ref (1), .ref (2), .ref (3), .ref (8), .ref (857), .ref (863), .ref (867), .ref (873), .int (nI 0)])) := by rw [e23]; exact ju_eq
  have a23_0 : ∀ k, k < 840 → M23.1 (17 + k) = some (opC z0 (k / 14) (k % 14)) := fun k hk => by rw [e23]; exact (ju_ne (by omega)).trans (a22_0 k hk)
  have r23 : ∀ q, (q < 0 ∨ 875 ≤ q) → M23.1 q = M.1 q := fun q h => by rw [e23]; exact (ju_ne (by omega)).trans (r22 q h)
  have g23 : M23.2 = some (875) := by rw [e23]; exact g22
  refine Jq.ofp (E_vret (pc := 116) C dX10_init_116 rfl (congrArg (fun z => Sum.inl (none, z)) (Prod.ext (funext fun q => ?_) g23)) (by omega) (by omega))
  by_cases hq : q < 0 ∨ 875 ≤ q
  · rw [r23 q hq]
    exact (e0_out (by omega)).symm
  by_cases hq0 : 0 ≤ q ∧ q < 17
  · have hv : q = 0 ∨ q = 1 ∨ q = 2 ∨ q = 3 ∨ q = 4 ∨ q = 5 ∨ q = 6 ∨ q = 7 ∨ q = 8 ∨ q = 9 ∨ q = 10 ∨ q = 11 ∨ q = 12 ∨ q = 13 ∨ q = 14 ∨ q = 15 ∨ q = 16 := by omega
    rcases hv with rfl | rfl | rfl | rfl | rfl | rfl | rfl | rfl | rfl | rfl | rfl | rfl | rfl | rfl | rfl | rfl | rfl
    · rw [f23_0]; rfl
    · rw [f23_1]; rfl
    · rw [f23_2]; rfl
    · rw [f23_3]; rfl
    · rw [f23_4]; rfl
    · rw [f23_5]; rfl
    · rw [f23_6]; rfl
    · rw [f23_7]; rfl
    · rw [f23_8]; rfl
    · rw [f23_9]; rfl
    · rw [f23_10]; rfl
    · rw [f23_11]; rfl
    · rw [f23_12]; rfl
    · rw [f23_13]; rfl
    · rw [f23_14]; rfl
    · rw [f23_15]; rfl
    · rw [f23_16]; rfl
  by_cases hq17 : 17 ≤ q ∧ q < 857
  · have hh := a23_0 (q - 17) (by omega)
    rw [show 17 + (q - 17) = q by omega] at hh
    rw [hh]
    exact (e0_ops hq17).symm
  by_cases hq857 : 857 ≤ q ∧ q < 875
  · have hv : q = 857 ∨ q = 858 ∨ q = 859 ∨ q = 860 ∨ q = 861 ∨ q = 862 ∨ q = 863 ∨ q = 864 ∨ q = 865 ∨ q = 866 ∨ q = 867 ∨ q = 868 ∨ q = 869 ∨ q = 870 ∨ q = 871 ∨ q = 872 ∨ q = 873 ∨ q = 874 := by omega
    rcases hv with rfl | rfl | rfl | rfl | rfl | rfl | rfl | rfl | rfl | rfl | rfl | rfl | rfl | rfl | rfl | rfl | rfl | rfl
    · rw [f23_857]; rfl
    · rw [f23_858]; rfl
    · rw [f23_859]; rfl
    · rw [f23_860]; rfl
    · rw [f23_861]; rfl
    · rw [f23_862]; rfl
    · rw [f23_863]; rfl
    · rw [f23_864]; rfl
    · rw [f23_865]; rfl
    · rw [f23_866]; rfl
    · rw [f23_867]; rfl
    · rw [f23_868]; rfl
    · rw [f23_869]; rfl
    · rw [f23_870]; rfl
    · rw [f23_871]; rfl
    · rw [f23_872]; rfl
    · rw [f23_873]; rfl
    · rw [f23_874]; rfl
  omega
def m0 (T : jMem) : jMem := encM 0 (0, (fun _ => 0)) (0, (fun _ => 0)) (0, 0, 0) (-1) (0, 0, 0, 0, (fun _ => 0), (fun _ => 0), (fun _ => 0), (fun _ => 0), (fun _ => 0), (fun _ => 0), (fun _ => nI 0), (fun _ => nI 0), (fun _ => nI 0)) (0, 0, 0, (fun _ => 0), (fun _ => 0), (fun _ => nI 0), (fun _ => 0), (fun _ => 0), (fun _ => 0), (fun _ => 0)) (fun _ => 0) (0, (fun _ => 0)) T
theorem m0_out {T : jMem} {q : Nat} (h : q < 1000 ∨ 1021 ≤ q) : (m0 T).1 q = T.1 q := by
  unfold m0 encM
  rw [jlist_o (by simp only [List.length_cons, List.length_nil]; omega)]
set_option maxHeartbeats 8000000 in
set_option maxRecDepth 100000 in
theorem i_X11 (l : Launch) (G : jG) (M : jMem) (h0 : M.1 (1000) = some (.inr (11, (.int (nI 0) :: .int (nI 0) :: .int (nI 0) :: .int (nI 0) :: .int (nI 0) :: .int (nI 0) :: .int (nI 0) :: .int (nI 0) :: .int (nI 0) :: .int (nI 0) :: .int (nI 0) :: .null :: .null :: .null :: .null :: .null :: .null :: .null :: .null :: .null :: .null :: .null :: .null :: .null :: .null :: .null :: .null :: .null :: .null :: .null :: .int (nI 0) :: .int (nI 0) :: .int (nI 0) :: .int (nI 0) :: .null :: [])))) (g0 : M.2 = some (876)) : jCp l G yX11_init cX11_init 1 none 1 30 20 (38194) [.ref 1000] M (fun o => o = .inl (none, m0 (M.1, some 896))) := by
  refine jCp.ofN (by decide) 0 rfl [some (.ref 1000)] rfl (fun p e s m args below meth c C hNm => ?_)
  have r0 : ∀ q, (q < 1000 ∨ 1021 ≤ q) → M.1 q = M.1 q := fun _ _ => rfl
  refine Q_aload_n (pc := 0) C dX11_init_0 rfl rfl ?_
  refine Q_obj (pc := 1) C dX11_init_1 ol_X11 o_im o_cd (jle rfl) (jle rfl) ?_
  refine Q_aload_n (pc := 4) C dX11_init_4 rfl rfl ?_
  refine Q_iconst (pc := 5) (v := -1) C dX11_init_5 (by decide) ?_
  obtain ⟨M1, e1⟩ : ∃ z, z = ju M (1000) (.inr (11, (.int (nI 0) :: .int (nI 0) :: .int (nI 0) :: .int (-1) :: .int (nI 0) :: .int (nI 0) :: .int (nI 0) :: .int (nI 0) :: .int (nI 0) :: .int (nI 0) :: .int (nI 0) :: .null :: .null :: .null :: .null :: .null :: .null :: .null :: .null :: .null :: .null :: .null :: .null :: .null :: .null :: .null :: .null :: .null :: .null :: .null :: .int (nI 0) :: .int (nI 0) :: .int (nI 0) :: .int (nI 0) :: .null :: []))) := ⟨_, rfl⟩
  refine Q_putU (pc := 6) (fs := (.int (nI 0) :: .int (nI 0) :: .int (nI 0) :: .int (nI 0) :: .int (nI 0) :: .int (nI 0) :: .int (nI 0) :: .int (nI 0) :: .int (nI 0) :: .int (nI 0) :: .int (nI 0) :: .null :: .null :: .null :: .null :: .null :: .null :: .null :: .null :: .null :: .null :: .null :: .null :: .null :: .null :: .null :: .null :: .null :: .null :: .null :: .int (nI 0) :: .int (nI 0) :: .int (nI 0) :: .int (nI 0) :: .null :: [])) C dX11_init_6 p_X11_7 h0 (jlt rfl) rfl rfl e1.symm ?_
  have f1_1000 : M1.1 (1000) = some (.inr (11, (.int (nI 0) :: .int (nI 0) :: .int (nI 0) :: .int (-1) :: .int (nI 0) :: .int (nI 0) :: .int (nI 0) :: .int (nI 0) :: .int (nI 0) :: .int (nI 0) :: .int (nI 0) :: .null :: .null :: .null :: .null :: .null :: .null :: .null :: .null :: .null :: .null :: .null :: .null :: .null :: .null :: .null :: .null :: .null :: .null :: .null :: .int (nI 0) :: .int (nI 0) :: .int (nI 0) :: .int (nI 0) :: .null :: []))) := by rw [e1]; exact ju_eq
  have r1 : ∀ q, (q < 1000 ∨ 1021 ≤ q) → M1.1 q = M.1 q := fun q h => by rw [e1]; exact (ju_ne (by omega)).trans (r0 q h)
  have g1 : M1.2 = some (876) := by rw [e1]; exact g0
  refine Q_aload_n (pc := 9) C dX11_init_9 rfl rfl ?_
  refine Q_sipush (pc := 10) (v := nI 4000) C dX11_init_10 (by decide) ?_
  refine Q_newi (pc := 13) (k := 1001) (n := 876) (N := 4000) C dX11_init_13 a_int (by omega) g1 (by unfold jin; omega) (jr_hi (k := 1) (by omega)) (by simp only [jR]; try omega) (by simp only [jR]; try omega) ?_
  obtain ⟨M2, e2⟩ : ∃ z, z = jn M1 (1001) (nA (4000) (fun _ => 0)) (876) := ⟨_, rfl⟩
  rw [← e2]
  have f2_1000 : M2.1 (1000) = some (.inr (11, (.int (nI 0) :: .int (nI 0) :: .int (nI 0) :: .int (-1) :: .int (nI 0) :: .int (nI 0) :: .int (nI 0) :: .int (nI 0) :: .int (nI 0) :: .int (nI 0) :: .int (nI 0) :: .null :: .null :: .null :: .null :: .null :: .null :: .null :: .null :: .null :: .null :: .null :: .null :: .null :: .null :: .null :: .null :: .null :: .null :: .null :: .int (nI 0) :: .int (nI 0) :: .int (nI 0) :: .int (nI 0) :: .null :: []))) := by rw [e2]; exact (jn_ne (by omega)).trans f1_1000
  have f2_1001 : M2.1 (1001) = some (nA (4000) (fun _ => 0)) := by rw [e2]; exact jn_eq
  have r2 : ∀ q, (q < 1000 ∨ 1021 ≤ q) → M2.1 q = M.1 q := fun q h => by rw [e2]; exact (jn_ne (by omega)).trans (r1 q h)
  have g2 : M2.2 = some (877) := by rw [e2]; rfl
  obtain ⟨M3, e3⟩ : ∃ z, z = ju M2 (1000) (.inr (11, (.int (nI 0) :: .int (nI 0) :: .int (nI 0) :: .int (-1) :: .int (nI 0) :: .int (nI 0) :: .int (nI 0) :: .int (nI 0) :: .int (nI 0) :: .int (nI 0) :: .int (nI 0) :: .ref (1001) :: .null :: .null :: .null :: .null :: .null :: .null :: .null :: .null :: .null :: .null :: .null :: .null :: .null :: .null :: .null :: .null :: .null :: .null :: .int (nI 0) :: .int (nI 0) :: .int (nI 0) :: .int (nI 0) :: .null :: []))) := ⟨_, rfl⟩
  refine Q_putFU (pc := 15) (fs := (.int (nI 0) :: .int (nI 0) :: .int (nI 0) :: .int (-1) :: .int (nI 0) :: .int (nI 0) :: .int (nI 0) :: .int (nI 0) :: .int (nI 0) :: .int (nI 0) :: .int (nI 0) :: .null :: .null :: .null :: .null :: .null :: .null :: .null :: .null :: .null :: .null :: .null :: .null :: .null :: .null :: .null :: .null :: .null :: .null :: .null :: .int (nI 0) :: .int (nI 0) :: .int (nI 0) :: .int (nI 0) :: .null :: [])) C hNm dX11_init_15 p_X11_13 f2_1000 (jlt rfl) rfl rfl e3.symm ?_
  have f3_1001 : M3.1 (1001) = some (nA (4000) (fun _ => 0)) := by rw [e3]; exact (ju_ne (by omega)).trans f2_1001
  have f3_1000 : M3.1 (1000) = some (.inr (11, (.int (nI 0) :: .int (nI 0) :: .int (nI 0) :: .int (-1) :: .int (nI 0) :: .int (nI 0) :: .int (nI 0) :: .int (nI 0) :: .int (nI 0) :: .int (nI 0) :: .int (nI 0) :: .ref (1001) :: .null :: .null :: .null :: .null :: .null :: .null :: .null :: .null :: .null :: .null :: .null :: .null :: .null :: .null :: .null :: .null :: .null :: .null :: .int (nI 0) :: .int (nI 0) :: .int (nI 0) :: .int (nI 0) :: .null :: []))) := by rw [e3]; exact ju_eq
  have r3 : ∀ q, (q < 1000 ∨ 1021 ≤ q) → M3.1 q = M.1 q := fun q h => by rw [e3]; exact (ju_ne (by omega)).trans (r2 q h)
  have g3 : M3.2 = some (877) := by rw [e3]; exact g2
  refine Q_aload_n (pc := 18) C dX11_init_18 rfl rfl ?_
  refine Q_sipush (pc := 19) (v := nI 4000) C dX11_init_19 (by decide) ?_
  refine Q_newi (pc := 22) (k := 1002) (n := 877) (N := 4000) C dX11_init_22 a_int (by omega) g3 (by unfold jin; omega) (jr_hi (k := 2) (by omega)) (by simp only [jR]; try omega) (by simp only [jR]; try omega) ?_
  obtain ⟨M4, e4⟩ : ∃ z, z = jn M3 (1002) (nA (4000) (fun _ => 0)) (877) := ⟨_, rfl⟩
  rw [← e4]
  have f4_1000 : M4.1 (1000) = some (.inr (11, (.int (nI 0) :: .int (nI 0) :: .int (nI 0) :: .int (-1) :: .int (nI 0) :: .int (nI 0) :: .int (nI 0) :: .int (nI 0) :: .int (nI 0) :: .int (nI 0) :: .int (nI 0) :: .ref (1001) :: .null :: .null :: .null :: .null :: .null :: .null :: .null :: .null :: .null :: .null :: .null :: .null :: .null :: .null :: .null :: .null :: .null :: .null :: .int (nI 0) :: .int (nI 0) :: .int (nI 0) :: .int (nI 0) :: .null :: []))) := by rw [e4]; exact (jn_ne (by omega)).trans f3_1000
  have f4_1001 : M4.1 (1001) = some (nA (4000) (fun _ => 0)) := by rw [e4]; exact (jn_ne (by omega)).trans f3_1001
  have f4_1002 : M4.1 (1002) = some (nA (4000) (fun _ => 0)) := by rw [e4]; exact jn_eq
  have r4 : ∀ q, (q < 1000 ∨ 1021 ≤ q) → M4.1 q = M.1 q := fun q h => by rw [e4]; exact (jn_ne (by omega)).trans (r3 q h)
  have g4 : M4.2 = some (878) := by rw [e4]; rfl
  obtain ⟨M5, e5⟩ : ∃ z, z = ju M4 (1000) (.inr (11, (.int (nI 0) :: .int (nI 0) :: .int (nI 0) :: .int (-1) :: .int (nI 0) :: .int (nI 0) :: .int (nI 0) :: .int (nI 0) :: .int (nI 0) :: .int (nI 0) :: .int (nI 0) :: .ref (1001) :: .ref (1002) :: .null :: .null :: .null :: .null :: .null :: .null :: .null :: .null :: .null :: .null :: .null :: .null :: .null :: .null :: .null :: .null :: .null :: .int (nI 0) :: .int (nI 0) :: .int (nI 0) :: .int (nI 0) :: .null :: []))) := ⟨_, rfl⟩
  refine Q_putFU (pc := 24) (fs := (.int (nI 0) :: .int (nI 0) :: .int (nI 0) :: .int (-1) :: .int (nI 0) :: .int (nI 0) :: .int (nI 0) :: .int (nI 0) :: .int (nI 0) :: .int (nI 0) :: .int (nI 0) :: .ref (1001) :: .null :: .null :: .null :: .null :: .null :: .null :: .null :: .null :: .null :: .null :: .null :: .null :: .null :: .null :: .null :: .null :: .null :: .null :: .int (nI 0) :: .int (nI 0) :: .int (nI 0) :: .int (nI 0) :: .null :: [])) C hNm dX11_init_24 p_X11_17 f4_1000 (jlt rfl) rfl rfl e5.symm ?_
  have f5_1001 : M5.1 (1001) = some (nA (4000) (fun _ => 0)) := by rw [e5]; exact (ju_ne (by omega)).trans f4_1001
  have f5_1002 : M5.1 (1002) = some (nA (4000) (fun _ => 0)) := by rw [e5]; exact (ju_ne (by omega)).trans f4_1002
  have f5_1000 : M5.1 (1000) = some (.inr (11, (.int (nI 0) :: .int (nI 0) :: .int (nI 0) :: .int (-1) :: .int (nI 0) :: .int (nI 0) :: .int (nI 0) :: .int (nI 0) :: .int (nI 0) :: .int (nI 0) :: .int (nI 0) :: .ref (1001) :: .ref (1002) :: .null :: .null :: .null :: .null :: .null :: .null :: .null :: .null :: .null :: .null :: .null :: .null :: .null :: .null :: .null :: .null :: .null :: .int (nI 0) :: .int (nI 0) :: .int (nI 0) :: .int (nI 0) :: .null :: []))) := by rw [e5]; exact ju_eq
  have r5 : ∀ q, (q < 1000 ∨ 1021 ≤ q) → M5.1 q = M.1 q := fun q h => by rw [e5]; exact (ju_ne (by omega)).trans (r4 q h)
  have g5 : M5.2 = some (878) := by rw [e5]; exact g4
  refine Q_aload_n (pc := 27) C dX11_init_27 rfl rfl ?_
  refine Q_sipush (pc := 28) (v := nI 400) C dX11_init_28 (by decide) ?_
  refine Q_newi (pc := 31) (k := 1003) (n := 878) (N := 400) C dX11_init_31 a_int (by omega) g5 (by unfold jin; omega) (jr_hi (k := 3) (by omega)) (by simp only [jR]; try omega) (by simp only [jR]; try omega) ?_
  obtain ⟨M6, e6⟩ : ∃ z, z = jn M5 (1003) (nA (400) (fun _ => 0)) (878) := ⟨_, rfl⟩
  rw [← e6]
  have f6_1000 : M6.1 (1000) = some (.inr (11, (.int (nI 0) :: .int (nI 0) :: .int (nI 0) :: .int (-1) :: .int (nI 0) :: .int (nI 0) :: .int (nI 0) :: .int (nI 0) :: .int (nI 0) :: .int (nI 0) :: .int (nI 0) :: .ref (1001) :: .ref (1002) :: .null :: .null :: .null :: .null :: .null :: .null :: .null :: .null :: .null :: .null :: .null :: .null :: .null :: .null :: .null :: .null :: .null :: .int (nI 0) :: .int (nI 0) :: .int (nI 0) :: .int (nI 0) :: .null :: []))) := by rw [e6]; exact (jn_ne (by omega)).trans f5_1000
  have f6_1001 : M6.1 (1001) = some (nA (4000) (fun _ => 0)) := by rw [e6]; exact (jn_ne (by omega)).trans f5_1001
  have f6_1002 : M6.1 (1002) = some (nA (4000) (fun _ => 0)) := by rw [e6]; exact (jn_ne (by omega)).trans f5_1002
  have f6_1003 : M6.1 (1003) = some (nA (400) (fun _ => 0)) := by rw [e6]; exact jn_eq
  have r6 : ∀ q, (q < 1000 ∨ 1021 ≤ q) → M6.1 q = M.1 q := fun q h => by rw [e6]; exact (jn_ne (by omega)).trans (r5 q h)
  have g6 : M6.2 = some (879) := by rw [e6]; rfl
  obtain ⟨M7, e7⟩ : ∃ z, z = ju M6 (1000) (.inr (11, (.int (nI 0) :: .int (nI 0) :: .int (nI 0) :: .int (-1) :: .int (nI 0) :: .int (nI 0) :: .int (nI 0) :: .int (nI 0) :: .int (nI 0) :: .int (nI 0) :: .int (nI 0) :: .ref (1001) :: .ref (1002) :: .ref (1003) :: .null :: .null :: .null :: .null :: .null :: .null :: .null :: .null :: .null :: .null :: .null :: .null :: .null :: .null :: .null :: .null :: .int (nI 0) :: .int (nI 0) :: .int (nI 0) :: .int (nI 0) :: .null :: []))) := ⟨_, rfl⟩
  refine Q_putFU (pc := 33) (fs := (.int (nI 0) :: .int (nI 0) :: .int (nI 0) :: .int (-1) :: .int (nI 0) :: .int (nI 0) :: .int (nI 0) :: .int (nI 0) :: .int (nI 0) :: .int (nI 0) :: .int (nI 0) :: .ref (1001) :: .ref (1002) :: .null :: .null :: .null :: .null :: .null :: .null :: .null :: .null :: .null :: .null :: .null :: .null :: .null :: .null :: .null :: .null :: .null :: .int (nI 0) :: .int (nI 0) :: .int (nI 0) :: .int (nI 0) :: .null :: [])) C hNm dX11_init_33 p_X11_20 f6_1000 (jlt rfl) rfl rfl e7.symm ?_
  have f7_1001 : M7.1 (1001) = some (nA (4000) (fun _ => 0)) := by rw [e7]; exact (ju_ne (by omega)).trans f6_1001
  have f7_1002 : M7.1 (1002) = some (nA (4000) (fun _ => 0)) := by rw [e7]; exact (ju_ne (by omega)).trans f6_1002
  have f7_1003 : M7.1 (1003) = some (nA (400) (fun _ => 0)) := by rw [e7]; exact (ju_ne (by omega)).trans f6_1003
  have f7_1000 : M7.1 (1000) = some (.inr (11, (.int (nI 0) :: .int (nI 0) :: .int (nI 0) :: .int (-1) :: .int (nI 0) :: .int (nI 0) :: .int (nI 0) :: .int (nI 0) :: .int (nI 0) :: .int (nI 0) :: .int (nI 0) :: .ref (1001) :: .ref (1002) :: .ref (1003) :: .null :: .null :: .null :: .null :: .null :: .null :: .null :: .null :: .null :: .null :: .null :: .null :: .null :: .null :: .null :: .null :: .int (nI 0) :: .int (nI 0) :: .int (nI 0) :: .int (nI 0) :: .null :: []))) := by rw [e7]; exact ju_eq
  have r7 : ∀ q, (q < 1000 ∨ 1021 ≤ q) → M7.1 q = M.1 q := fun q h => by rw [e7]; exact (ju_ne (by omega)).trans (r6 q h)
  have g7 : M7.2 = some (879) := by rw [e7]; exact g6
  refine Q_aload_n (pc := 36) C dX11_init_36 rfl rfl ?_
  refine Q_sipush (pc := 37) (v := nI 144) C dX11_init_37 (by decide) ?_
  refine Q_newi (pc := 40) (k := 1004) (n := 879) (N := 144) C dX11_init_40 a_int (by omega) g7 (by unfold jin; omega) (jr_hi (k := 4) (by omega)) (by simp only [jR]; try omega) (by simp only [jR]; try omega) ?_
  obtain ⟨M8, e8⟩ : ∃ z, z = jn M7 (1004) (nA (144) (fun _ => 0)) (879) := ⟨_, rfl⟩
  rw [← e8]
  have f8_1000 : M8.1 (1000) = some (.inr (11, (.int (nI 0) :: .int (nI 0) :: .int (nI 0) :: .int (-1) :: .int (nI 0) :: .int (nI 0) :: .int (nI 0) :: .int (nI 0) :: .int (nI 0) :: .int (nI 0) :: .int (nI 0) :: .ref (1001) :: .ref (1002) :: .ref (1003) :: .null :: .null :: .null :: .null :: .null :: .null :: .null :: .null :: .null :: .null :: .null :: .null :: .null :: .null :: .null :: .null :: .int (nI 0) :: .int (nI 0) :: .int (nI 0) :: .int (nI 0) :: .null :: []))) := by rw [e8]; exact (jn_ne (by omega)).trans f7_1000
  have f8_1001 : M8.1 (1001) = some (nA (4000) (fun _ => 0)) := by rw [e8]; exact (jn_ne (by omega)).trans f7_1001
  have f8_1002 : M8.1 (1002) = some (nA (4000) (fun _ => 0)) := by rw [e8]; exact (jn_ne (by omega)).trans f7_1002
  have f8_1003 : M8.1 (1003) = some (nA (400) (fun _ => 0)) := by rw [e8]; exact (jn_ne (by omega)).trans f7_1003
  have f8_1004 : M8.1 (1004) = some (nA (144) (fun _ => 0)) := by rw [e8]; exact jn_eq
  have r8 : ∀ q, (q < 1000 ∨ 1021 ≤ q) → M8.1 q = M.1 q := fun q h => by rw [e8]; exact (jn_ne (by omega)).trans (r7 q h)
  have g8 : M8.2 = some (880) := by rw [e8]; rfl
  obtain ⟨M9, e9⟩ : ∃ z, z = ju M8 (1000) (.inr (11, (.int (nI 0) :: .int (nI 0) :: .int (nI 0) :: .int (-1) :: .int (nI 0) :: .int (nI 0) :: .int (nI 0) :: .int (nI 0) :: .int (nI 0) :: .int (nI 0) :: .int (nI 0) :: .ref (1001) :: .ref (1002) :: .ref (1003) :: .ref (1004) :: .null :: .null :: .null :: .null :: .null :: .null :: .null :: .null :: .null :: .null :: .null :: .null :: .null :: .null :: .null :: .int (nI 0) :: .int (nI 0) :: .int (nI 0) :: .int (nI 0) :: .null :: []))) := ⟨_, rfl⟩
  refine Q_putFU (pc := 42) (fs := (.int (nI 0) :: .int (nI 0) :: .int (nI 0) :: .int (-1) :: .int (nI 0) :: .int (nI 0) :: .int (nI 0) :: .int (nI 0) :: .int (nI 0) :: .int (nI 0) :: .int (nI 0) :: .ref (1001) :: .ref (1002) :: .ref (1003) :: .null :: .null :: .null :: .null :: .null :: .null :: .null :: .null :: .null :: .null :: .null :: .null :: .null :: .null :: .null :: .null :: .int (nI 0) :: .int (nI 0) :: .int (nI 0) :: .int (nI 0) :: .null :: [])) C hNm dX11_init_42 p_X11_23 f8_1000 (jlt rfl) rfl rfl e9.symm ?_
  have f9_1001 : M9.1 (1001) = some (nA (4000) (fun _ => 0)) := by rw [e9]; exact (ju_ne (by omega)).trans f8_1001
  have f9_1002 : M9.1 (1002) = some (nA (4000) (fun _ => 0)) := by rw [e9]; exact (ju_ne (by omega)).trans f8_1002
  have f9_1003 : M9.1 (1003) = some (nA (400) (fun _ => 0)) := by rw [e9]; exact (ju_ne (by omega)).trans f8_1003
  have f9_1004 : M9.1 (1004) = some (nA (144) (fun _ => 0)) := by rw [e9]; exact (ju_ne (by omega)).trans f8_1004
  have f9_1000 : M9.1 (1000) = some (.inr (11, (.int (nI 0) :: .int (nI 0) :: .int (nI 0) :: .int (-1) :: .int (nI 0) :: .int (nI 0) :: .int (nI 0) :: .int (nI 0) :: .int (nI 0) :: .int (nI 0) :: .int (nI 0) :: .ref (1001) :: .ref (1002) :: .ref (1003) :: .ref (1004) :: .null :: .null :: .null :: .null :: .null :: .null :: .null :: .null :: .null :: .null :: .null :: .null :: .null :: .null :: .null :: .int (nI 0) :: .int (nI 0) :: .int (nI 0) :: .int (nI 0) :: .null :: []))) := by rw [e9]; exact ju_eq
  have r9 : ∀ q, (q < 1000 ∨ 1021 ≤ q) → M9.1 q = M.1 q := fun q h => by rw [e9]; exact (ju_ne (by omega)).trans (r8 q h)
  have g9 : M9.2 = some (880) := by rw [e9]; exact g8
  refine Q_aload_n (pc := 45) C dX11_init_45 rfl rfl ?_
  refine Q_bipush (pc := 46) (v := nI 12) C dX11_init_46 (by decide) ?_
  refine Q_newi (pc := 48) (k := 1005) (n := 880) (N := 12) C dX11_init_48 a_int (by omega) g9 (by unfold jin; omega) (jr_hi (k := 5) (by omega)) (by simp only [jR]; try omega) (by simp only [jR]; try omega) ?_
  obtain ⟨M10, e10⟩ : ∃ z, z = jn M9 (1005) (nA (12) (fun _ => 0)) (880) := ⟨_, rfl⟩
  rw [← e10]
  have f10_1000 : M10.1 (1000) = some (.inr (11, (.int (nI 0) :: .int (nI 0) :: .int (nI 0) :: .int (-1) :: .int (nI 0) :: .int (nI 0) :: .int (nI 0) :: .int (nI 0) :: .int (nI 0) :: .int (nI 0) :: .int (nI 0) :: .ref (1001) :: .ref (1002) :: .ref (1003) :: .ref (1004) :: .null :: .null :: .null :: .null :: .null :: .null :: .null :: .null :: .null :: .null :: .null :: .null :: .null :: .null :: .null :: .int (nI 0) :: .int (nI 0) :: .int (nI 0) :: .int (nI 0) :: .null :: []))) := by rw [e10]; exact (jn_ne (by omega)).trans f9_1000
  have f10_1001 : M10.1 (1001) = some (nA (4000) (fun _ => 0)) := by rw [e10]; exact (jn_ne (by omega)).trans f9_1001
  have f10_1002 : M10.1 (1002) = some (nA (4000) (fun _ => 0)) := by rw [e10]; exact (jn_ne (by omega)).trans f9_1002
  have f10_1003 : M10.1 (1003) = some (nA (400) (fun _ => 0)) := by rw [e10]; exact (jn_ne (by omega)).trans f9_1003
  have f10_1004 : M10.1 (1004) = some (nA (144) (fun _ => 0)) := by rw [e10]; exact (jn_ne (by omega)).trans f9_1004
  have f10_1005 : M10.1 (1005) = some (nA (12) (fun _ => 0)) := by rw [e10]; exact jn_eq
  have r10 : ∀ q, (q < 1000 ∨ 1021 ≤ q) → M10.1 q = M.1 q := fun q h => by rw [e10]; exact (jn_ne (by omega)).trans (r9 q h)
  have g10 : M10.2 = some (881) := by rw [e10]; rfl
  obtain ⟨M11, e11⟩ : ∃ z, z = ju M10 (1000) (.inr (11, (.int (nI 0) :: .int (nI 0) :: .int (nI 0) :: .int (-1) :: .int (nI 0) :: .int (nI 0) :: .int (nI 0) :: .int (nI 0) :: .int (nI 0) :: .int (nI 0) :: .int (nI 0) :: .ref (1001) :: .ref (1002) :: .ref (1003) :: .ref (1004) :: .ref (1005) :: .null :: .null :: .null :: .null :: .null :: .null :: .null :: .null :: .null :: .null :: .null :: .null :: .null :: .null :: .int (nI 0) :: .int (nI 0) :: .int (nI 0) :: .int (nI 0) :: .null :: []))) := ⟨_, rfl⟩
  refine Q_putFU (pc := 50) (fs := (.int (nI 0) :: .int (nI 0) :: .int (nI 0) :: .int (-1) :: .int (nI 0) :: .int (nI 0) :: .int (nI 0) :: .int (nI 0) :: .int (nI 0) :: .int (nI 0) :: .int (nI 0) :: .ref (1001) :: .ref (1002) :: .ref (1003) :: .ref (1004) :: .null :: .null :: .null :: .null :: .null :: .null :: .null :: .null :: .null :: .null :: .null :: .null :: .null :: .null :: .null :: .int (nI 0) :: .int (nI 0) :: .int (nI 0) :: .int (nI 0) :: .null :: [])) C hNm dX11_init_50 p_X11_26 f10_1000 (jlt rfl) rfl rfl e11.symm ?_
  have f11_1001 : M11.1 (1001) = some (nA (4000) (fun _ => 0)) := by rw [e11]; exact (ju_ne (by omega)).trans f10_1001
  have f11_1002 : M11.1 (1002) = some (nA (4000) (fun _ => 0)) := by rw [e11]; exact (ju_ne (by omega)).trans f10_1002
  have f11_1003 : M11.1 (1003) = some (nA (400) (fun _ => 0)) := by rw [e11]; exact (ju_ne (by omega)).trans f10_1003
  have f11_1004 : M11.1 (1004) = some (nA (144) (fun _ => 0)) := by rw [e11]; exact (ju_ne (by omega)).trans f10_1004
  have f11_1005 : M11.1 (1005) = some (nA (12) (fun _ => 0)) := by rw [e11]; exact (ju_ne (by omega)).trans f10_1005
  have f11_1000 : M11.1 (1000) = some (.inr (11, (.int (nI 0) :: .int (nI 0) :: .int (nI 0) :: .int (-1) :: .int (nI 0) :: .int (nI 0) :: .int (nI 0) :: .int (nI 0) :: .int (nI 0) :: .int (nI 0) :: .int (nI 0) :: .ref (1001) :: .ref (1002) :: .ref (1003) :: .ref (1004) :: .ref (1005) :: .null :: .null :: .null :: .null :: .null :: .null :: .null :: .null :: .null :: .null :: .null :: .null :: .null :: .null :: .int (nI 0) :: .int (nI 0) :: .int (nI 0) :: .int (nI 0) :: .null :: []))) := by rw [e11]; exact ju_eq
  have r11 : ∀ q, (q < 1000 ∨ 1021 ≤ q) → M11.1 q = M.1 q := fun q h => by rw [e11]; exact (ju_ne (by omega)).trans (r10 q h)
  have g11 : M11.2 = some (881) := by rw [e11]; exact g10
  refine Q_aload_n (pc := 53) C dX11_init_53 rfl rfl ?_
  refine Q_sipush (pc := 54) (v := nI 720) C dX11_init_54 (by decide) ?_
  refine Q_newi (pc := 57) (k := 1006) (n := 881) (N := 720) C dX11_init_57 a_int (by omega) g11 (by unfold jin; omega) (jr_hi (k := 6) (by omega)) (by simp only [jR]; try omega) (by simp only [jR]; try omega) ?_
  obtain ⟨M12, e12⟩ : ∃ z, z = jn M11 (1006) (nA (720) (fun _ => 0)) (881) := ⟨_, rfl⟩
  rw [← e12]
  have f12_1000 : M12.1 (1000) = some (.inr (11, (.int (nI 0) :: .int (nI 0) :: .int (nI 0) :: .int (-1) :: .int (nI 0) :: .int (nI 0) :: .int (nI 0) :: .int (nI 0) :: .int (nI 0) :: .int (nI 0) :: .int (nI 0) :: .ref (1001) :: .ref (1002) :: .ref (1003) :: .ref (1004) :: .ref (1005) :: .null :: .null :: .null :: .null :: .null :: .null :: .null :: .null :: .null :: .null :: .null :: .null :: .null :: .null :: .int (nI 0) :: .int (nI 0) :: .int (nI 0) :: .int (nI 0) :: .null :: []))) := by rw [e12]; exact (jn_ne (by omega)).trans f11_1000
  have f12_1001 : M12.1 (1001) = some (nA (4000) (fun _ => 0)) := by rw [e12]; exact (jn_ne (by omega)).trans f11_1001
  have f12_1002 : M12.1 (1002) = some (nA (4000) (fun _ => 0)) := by rw [e12]; exact (jn_ne (by omega)).trans f11_1002
  have f12_1003 : M12.1 (1003) = some (nA (400) (fun _ => 0)) := by rw [e12]; exact (jn_ne (by omega)).trans f11_1003
  have f12_1004 : M12.1 (1004) = some (nA (144) (fun _ => 0)) := by rw [e12]; exact (jn_ne (by omega)).trans f11_1004
  have f12_1005 : M12.1 (1005) = some (nA (12) (fun _ => 0)) := by rw [e12]; exact (jn_ne (by omega)).trans f11_1005
  have f12_1006 : M12.1 (1006) = some (nA (720) (fun _ => 0)) := by rw [e12]; exact jn_eq
  have r12 : ∀ q, (q < 1000 ∨ 1021 ≤ q) → M12.1 q = M.1 q := fun q h => by rw [e12]; exact (jn_ne (by omega)).trans (r11 q h)
  have g12 : M12.2 = some (882) := by rw [e12]; rfl
  obtain ⟨M13, e13⟩ : ∃ z, z = ju M12 (1000) (.inr (11, (.int (nI 0) :: .int (nI 0) :: .int (nI 0) :: .int (-1) :: .int (nI 0) :: .int (nI 0) :: .int (nI 0) :: .int (nI 0) :: .int (nI 0) :: .int (nI 0) :: .int (nI 0) :: .ref (1001) :: .ref (1002) :: .ref (1003) :: .ref (1004) :: .ref (1005) :: .ref (1006) :: .null :: .null :: .null :: .null :: .null :: .null :: .null :: .null :: .null :: .null :: .null :: .null :: .null :: .int (nI 0) :: .int (nI 0) :: .int (nI 0) :: .int (nI 0) :: .null :: []))) := ⟨_, rfl⟩
  refine Q_putFU (pc := 59) (fs := (.int (nI 0) :: .int (nI 0) :: .int (nI 0) :: .int (-1) :: .int (nI 0) :: .int (nI 0) :: .int (nI 0) :: .int (nI 0) :: .int (nI 0) :: .int (nI 0) :: .int (nI 0) :: .ref (1001) :: .ref (1002) :: .ref (1003) :: .ref (1004) :: .ref (1005) :: .null :: .null :: .null :: .null :: .null :: .null :: .null :: .null :: .null :: .null :: .null :: .null :: .null :: .null :: .int (nI 0) :: .int (nI 0) :: .int (nI 0) :: .int (nI 0) :: .null :: [])) C hNm dX11_init_59 p_X11_29 f12_1000 (jlt rfl) rfl rfl e13.symm ?_
  have f13_1001 : M13.1 (1001) = some (nA (4000) (fun _ => 0)) := by rw [e13]; exact (ju_ne (by omega)).trans f12_1001
  have f13_1002 : M13.1 (1002) = some (nA (4000) (fun _ => 0)) := by rw [e13]; exact (ju_ne (by omega)).trans f12_1002
  have f13_1003 : M13.1 (1003) = some (nA (400) (fun _ => 0)) := by rw [e13]; exact (ju_ne (by omega)).trans f12_1003
  have f13_1004 : M13.1 (1004) = some (nA (144) (fun _ => 0)) := by rw [e13]; exact (ju_ne (by omega)).trans f12_1004
  have f13_1005 : M13.1 (1005) = some (nA (12) (fun _ => 0)) := by rw [e13]; exact (ju_ne (by omega)).trans f12_1005
  have f13_1006 : M13.1 (1006) = some (nA (720) (fun _ => 0)) := by rw [e13]; exact (ju_ne (by omega)).trans f12_1006
  have f13_1000 : M13.1 (1000) = some (.inr (11, (.int (nI 0) :: .int (nI 0) :: .int (nI 0) :: .int (-1) :: .int (nI 0) :: .int (nI 0) :: .int (nI 0) :: .int (nI 0) :: .int (nI 0) :: .int (nI 0) :: .int (nI 0) :: .ref (1001) :: .ref (1002) :: .ref (1003) :: .ref (1004) :: .ref (1005) :: .ref (1006) :: .null :: .null :: .null :: .null :: .null :: .null :: .null :: .null :: .null :: .null :: .null :: .null :: .null :: .int (nI 0) :: .int (nI 0) :: .int (nI 0) :: .int (nI 0) :: .null :: []))) := by rw [e13]; exact ju_eq
  have r13 : ∀ q, (q < 1000 ∨ 1021 ≤ q) → M13.1 q = M.1 q := fun q h => by rw [e13]; exact (ju_ne (by omega)).trans (r12 q h)
  have g13 : M13.2 = some (882) := by rw [e13]; exact g12
  refine Q_aload_n (pc := 62) C dX11_init_62 rfl rfl ?_
  refine Q_bipush (pc := 63) (v := nI 72) C dX11_init_63 (by decide) ?_
  refine Q_newi (pc := 65) (k := 1007) (n := 882) (N := 72) C dX11_init_65 a_int (by omega) g13 (by unfold jin; omega) (jr_hi (k := 7) (by omega)) (by simp only [jR]; try omega) (by simp only [jR]; try omega) ?_
  obtain ⟨M14, e14⟩ : ∃ z, z = jn M13 (1007) (nA (72) (fun _ => 0)) (882) := ⟨_, rfl⟩
  rw [← e14]
  have f14_1000 : M14.1 (1000) = some (.inr (11, (.int (nI 0) :: .int (nI 0) :: .int (nI 0) :: .int (-1) :: .int (nI 0) :: .int (nI 0) :: .int (nI 0) :: .int (nI 0) :: .int (nI 0) :: .int (nI 0) :: .int (nI 0) :: .ref (1001) :: .ref (1002) :: .ref (1003) :: .ref (1004) :: .ref (1005) :: .ref (1006) :: .null :: .null :: .null :: .null :: .null :: .null :: .null :: .null :: .null :: .null :: .null :: .null :: .null :: .int (nI 0) :: .int (nI 0) :: .int (nI 0) :: .int (nI 0) :: .null :: []))) := by rw [e14]; exact (jn_ne (by omega)).trans f13_1000
  have f14_1001 : M14.1 (1001) = some (nA (4000) (fun _ => 0)) := by rw [e14]; exact (jn_ne (by omega)).trans f13_1001
  have f14_1002 : M14.1 (1002) = some (nA (4000) (fun _ => 0)) := by rw [e14]; exact (jn_ne (by omega)).trans f13_1002
  have f14_1003 : M14.1 (1003) = some (nA (400) (fun _ => 0)) := by rw [e14]; exact (jn_ne (by omega)).trans f13_1003
  have f14_1004 : M14.1 (1004) = some (nA (144) (fun _ => 0)) := by rw [e14]; exact (jn_ne (by omega)).trans f13_1004
  have f14_1005 : M14.1 (1005) = some (nA (12) (fun _ => 0)) := by rw [e14]; exact (jn_ne (by omega)).trans f13_1005
  have f14_1006 : M14.1 (1006) = some (nA (720) (fun _ => 0)) := by rw [e14]; exact (jn_ne (by omega)).trans f13_1006
  have f14_1007 : M14.1 (1007) = some (nA (72) (fun _ => 0)) := by rw [e14]; exact jn_eq
  have r14 : ∀ q, (q < 1000 ∨ 1021 ≤ q) → M14.1 q = M.1 q := fun q h => by rw [e14]; exact (jn_ne (by omega)).trans (r13 q h)
  have g14 : M14.2 = some (883) := by rw [e14]; rfl
  obtain ⟨M15, e15⟩ : ∃ z, z = ju M14 (1000) (.inr (11, (.int (nI 0) :: .int (nI 0) :: .int (nI 0) :: .int (-1) :: .int (nI 0) :: .int (nI 0) :: .int (nI 0) :: .int (nI 0) :: .int (nI 0) :: .int (nI 0) :: .int (nI 0) :: .ref (1001) :: .ref (1002) :: .ref (1003) :: .ref (1004) :: .ref (1005) :: .ref (1006) :: .ref (1007) :: .null :: .null :: .null :: .null :: .null :: .null :: .null :: .null :: .null :: .null :: .null :: .null :: .int (nI 0) :: .int (nI 0) :: .int (nI 0) :: .int (nI 0) :: .null :: []))) := ⟨_, rfl⟩
  refine Q_putFU (pc := 67) (fs := (.int (nI 0) :: .int (nI 0) :: .int (nI 0) :: .int (-1) :: .int (nI 0) :: .int (nI 0) :: .int (nI 0) :: .int (nI 0) :: .int (nI 0) :: .int (nI 0) :: .int (nI 0) :: .ref (1001) :: .ref (1002) :: .ref (1003) :: .ref (1004) :: .ref (1005) :: .ref (1006) :: .null :: .null :: .null :: .null :: .null :: .null :: .null :: .null :: .null :: .null :: .null :: .null :: .null :: .int (nI 0) :: .int (nI 0) :: .int (nI 0) :: .int (nI 0) :: .null :: [])) C hNm dX11_init_67 p_X11_32 f14_1000 (jlt rfl) rfl rfl e15.symm ?_
  have f15_1001 : M15.1 (1001) = some (nA (4000) (fun _ => 0)) := by rw [e15]; exact (ju_ne (by omega)).trans f14_1001
  have f15_1002 : M15.1 (1002) = some (nA (4000) (fun _ => 0)) := by rw [e15]; exact (ju_ne (by omega)).trans f14_1002
  have f15_1003 : M15.1 (1003) = some (nA (400) (fun _ => 0)) := by rw [e15]; exact (ju_ne (by omega)).trans f14_1003
  have f15_1004 : M15.1 (1004) = some (nA (144) (fun _ => 0)) := by rw [e15]; exact (ju_ne (by omega)).trans f14_1004
  have f15_1005 : M15.1 (1005) = some (nA (12) (fun _ => 0)) := by rw [e15]; exact (ju_ne (by omega)).trans f14_1005
  have f15_1006 : M15.1 (1006) = some (nA (720) (fun _ => 0)) := by rw [e15]; exact (ju_ne (by omega)).trans f14_1006
  have f15_1007 : M15.1 (1007) = some (nA (72) (fun _ => 0)) := by rw [e15]; exact (ju_ne (by omega)).trans f14_1007
  have f15_1000 : M15.1 (1000) = some (.inr (11, (.int (nI 0) :: .int (nI 0) :: .int (nI 0) :: .int (-1) :: .int (nI 0) :: .int (nI 0) :: .int (nI 0) :: .int (nI 0) :: .int (nI 0) :: .int (nI 0) :: .int (nI 0) :: .ref (1001) :: .ref (1002) :: .ref (1003) :: .ref (1004) :: .ref (1005) :: .ref (1006) :: .ref (1007) :: .null :: .null :: .null :: .null :: .null :: .null :: .null :: .null :: .null :: .null :: .null :: .null :: .int (nI 0) :: .int (nI 0) :: .int (nI 0) :: .int (nI 0) :: .null :: []))) := by rw [e15]; exact ju_eq
  have r15 : ∀ q, (q < 1000 ∨ 1021 ≤ q) → M15.1 q = M.1 q := fun q h => by rw [e15]; exact (ju_ne (by omega)).trans (r14 q h)
  have g15 : M15.2 = some (883) := by rw [e15]; exact g14
  refine Q_aload_n (pc := 70) C dX11_init_70 rfl rfl ?_
  refine Q_sipush (pc := 71) (v := nI 720) C dX11_init_71 (by decide) ?_
  refine Q_newi (pc := 74) (k := 1008) (n := 883) (N := 720) C dX11_init_74 a_int (by omega) g15 (by unfold jin; omega) (jr_hi (k := 8) (by omega)) (by simp only [jR]; try omega) (by simp only [jR]; try omega) ?_
  obtain ⟨M16, e16⟩ : ∃ z, z = jn M15 (1008) (nA (720) (fun _ => 0)) (883) := ⟨_, rfl⟩
  rw [← e16]
  have f16_1000 : M16.1 (1000) = some (.inr (11, (.int (nI 0) :: .int (nI 0) :: .int (nI 0) :: .int (-1) :: .int (nI 0) :: .int (nI 0) :: .int (nI 0) :: .int (nI 0) :: .int (nI 0) :: .int (nI 0) :: .int (nI 0) :: .ref (1001) :: .ref (1002) :: .ref (1003) :: .ref (1004) :: .ref (1005) :: .ref (1006) :: .ref (1007) :: .null :: .null :: .null :: .null :: .null :: .null :: .null :: .null :: .null :: .null :: .null :: .null :: .int (nI 0) :: .int (nI 0) :: .int (nI 0) :: .int (nI 0) :: .null :: []))) := by rw [e16]; exact (jn_ne (by omega)).trans f15_1000
  have f16_1001 : M16.1 (1001) = some (nA (4000) (fun _ => 0)) := by rw [e16]; exact (jn_ne (by omega)).trans f15_1001
  have f16_1002 : M16.1 (1002) = some (nA (4000) (fun _ => 0)) := by rw [e16]; exact (jn_ne (by omega)).trans f15_1002
  have f16_1003 : M16.1 (1003) = some (nA (400) (fun _ => 0)) := by rw [e16]; exact (jn_ne (by omega)).trans f15_1003
  have f16_1004 : M16.1 (1004) = some (nA (144) (fun _ => 0)) := by rw [e16]; exact (jn_ne (by omega)).trans f15_1004
  have f16_1005 : M16.1 (1005) = some (nA (12) (fun _ => 0)) := by rw [e16]; exact (jn_ne (by omega)).trans f15_1005
  have f16_1006 : M16.1 (1006) = some (nA (720) (fun _ => 0)) := by rw [e16]; exact (jn_ne (by omega)).trans f15_1006
  have f16_1007 : M16.1 (1007) = some (nA (72) (fun _ => 0)) := by rw [e16]; exact (jn_ne (by omega)).trans f15_1007
  have f16_1008 : M16.1 (1008) = some (nA (720) (fun _ => 0)) := by rw [e16]; exact jn_eq
  have r16 : ∀ q, (q < 1000 ∨ 1021 ≤ q) → M16.1 q = M.1 q := fun q h => by rw [e16]; exact (jn_ne (by omega)).trans (r15 q h)
  have g16 : M16.2 = some (884) := by rw [e16]; rfl
  obtain ⟨M17, e17⟩ : ∃ z, z = ju M16 (1000) (.inr (11, (.int (nI 0) :: .int (nI 0) :: .int (nI 0) :: .int (-1) :: .int (nI 0) :: .int (nI 0) :: .int (nI 0) :: .int (nI 0) :: .int (nI 0) :: .int (nI 0) :: .int (nI 0) :: .ref (1001) :: .ref (1002) :: .ref (1003) :: .ref (1004) :: .ref (1005) :: .ref (1006) :: .ref (1007) :: .ref (1008) :: .null :: .null :: .null :: .null :: .null :: .null :: .null :: .null :: .null :: .null :: .null :: .int (nI 0) :: .int (nI 0) :: .int (nI 0) :: .int (nI 0) :: .null :: []))) := ⟨_, rfl⟩
  refine Q_putFU (pc := 76) (fs := (.int (nI 0) :: .int (nI 0) :: .int (nI 0) :: .int (-1) :: .int (nI 0) :: .int (nI 0) :: .int (nI 0) :: .int (nI 0) :: .int (nI 0) :: .int (nI 0) :: .int (nI 0) :: .ref (1001) :: .ref (1002) :: .ref (1003) :: .ref (1004) :: .ref (1005) :: .ref (1006) :: .ref (1007) :: .null :: .null :: .null :: .null :: .null :: .null :: .null :: .null :: .null :: .null :: .null :: .null :: .int (nI 0) :: .int (nI 0) :: .int (nI 0) :: .int (nI 0) :: .null :: [])) C hNm dX11_init_76 p_X11_35 f16_1000 (jlt rfl) rfl rfl e17.symm ?_
  have f17_1001 : M17.1 (1001) = some (nA (4000) (fun _ => 0)) := by rw [e17]; exact (ju_ne (by omega)).trans f16_1001
  have f17_1002 : M17.1 (1002) = some (nA (4000) (fun _ => 0)) := by rw [e17]; exact (ju_ne (by omega)).trans f16_1002
  have f17_1003 : M17.1 (1003) = some (nA (400) (fun _ => 0)) := by rw [e17]; exact (ju_ne (by omega)).trans f16_1003
  have f17_1004 : M17.1 (1004) = some (nA (144) (fun _ => 0)) := by rw [e17]; exact (ju_ne (by omega)).trans f16_1004
  have f17_1005 : M17.1 (1005) = some (nA (12) (fun _ => 0)) := by rw [e17]; exact (ju_ne (by omega)).trans f16_1005
  have f17_1006 : M17.1 (1006) = some (nA (720) (fun _ => 0)) := by rw [e17]; exact (ju_ne (by omega)).trans f16_1006
  have f17_1007 : M17.1 (1007) = some (nA (72) (fun _ => 0)) := by rw [e17]; exact (ju_ne (by omega)).trans f16_1007
  have f17_1008 : M17.1 (1008) = some (nA (720) (fun _ => 0)) := by rw [e17]; exact (ju_ne (by omega)).trans f16_1008
  have f17_1000 : M17.1 (1000) = some (.inr (11, (.int (nI 0) :: .int (nI 0) :: .int (nI 0) :: .int (-1) :: .int (nI 0) :: .int (nI 0) :: .int (nI 0) :: .int (nI 0) :: .int (nI 0) :: .int (nI 0) :: .int (nI 0) :: .ref (1001) :: .ref (1002) :: .ref (1003) :: .ref (1004) :: .ref (1005) :: .ref (1006) :: .ref (1007) :: .ref (1008) :: .null :: .null :: .null :: .null :: .null :: .null :: .null :: .null :: .null :: .null :: .null :: .int (nI 0) :: .int (nI 0) :: .int (nI 0) :: .int (nI 0) :: .null :: []))) := by rw [e17]; exact ju_eq
  have r17 : ∀ q, (q < 1000 ∨ 1021 ≤ q) → M17.1 q = M.1 q := fun q h => by rw [e17]; exact (ju_ne (by omega)).trans (r16 q h)
  have g17 : M17.2 = some (884) := by rw [e17]; exact g16
  refine Q_aload_n (pc := 79) C dX11_init_79 rfl rfl ?_
  refine Q_bipush (pc := 80) (v := nI 60) C dX11_init_80 (by decide) ?_
  refine Q_newi (pc := 82) (k := 1009) (n := 884) (N := 60) C dX11_init_82 a_int (by omega) g17 (by unfold jin; omega) (jr_hi (k := 9) (by omega)) (by simp only [jR]; try omega) (by simp only [jR]; try omega) ?_
  obtain ⟨M18, e18⟩ : ∃ z, z = jn M17 (1009) (nA (60) (fun _ => 0)) (884) := ⟨_, rfl⟩
  rw [← e18]
  have f18_1000 : M18.1 (1000) = some (.inr (11, (.int (nI 0) :: .int (nI 0) :: .int (nI 0) :: .int (-1) :: .int (nI 0) :: .int (nI 0) :: .int (nI 0) :: .int (nI 0) :: .int (nI 0) :: .int (nI 0) :: .int (nI 0) :: .ref (1001) :: .ref (1002) :: .ref (1003) :: .ref (1004) :: .ref (1005) :: .ref (1006) :: .ref (1007) :: .ref (1008) :: .null :: .null :: .null :: .null :: .null :: .null :: .null :: .null :: .null :: .null :: .null :: .int (nI 0) :: .int (nI 0) :: .int (nI 0) :: .int (nI 0) :: .null :: []))) := by rw [e18]; exact (jn_ne (by omega)).trans f17_1000
  have f18_1001 : M18.1 (1001) = some (nA (4000) (fun _ => 0)) := by rw [e18]; exact (jn_ne (by omega)).trans f17_1001
  have f18_1002 : M18.1 (1002) = some (nA (4000) (fun _ => 0)) := by rw [e18]; exact (jn_ne (by omega)).trans f17_1002
  have f18_1003 : M18.1 (1003) = some (nA (400) (fun _ => 0)) := by rw [e18]; exact (jn_ne (by omega)).trans f17_1003
  have f18_1004 : M18.1 (1004) = some (nA (144) (fun _ => 0)) := by rw [e18]; exact (jn_ne (by omega)).trans f17_1004
  have f18_1005 : M18.1 (1005) = some (nA (12) (fun _ => 0)) := by rw [e18]; exact (jn_ne (by omega)).trans f17_1005
  have f18_1006 : M18.1 (1006) = some (nA (720) (fun _ => 0)) := by rw [e18]; exact (jn_ne (by omega)).trans f17_1006
  have f18_1007 : M18.1 (1007) = some (nA (72) (fun _ => 0)) := by rw [e18]; exact (jn_ne (by omega)).trans f17_1007
  have f18_1008 : M18.1 (1008) = some (nA (720) (fun _ => 0)) := by rw [e18]; exact (jn_ne (by omega)).trans f17_1008
  have f18_1009 : M18.1 (1009) = some (nA (60) (fun _ => 0)) := by rw [e18]; exact jn_eq
  have r18 : ∀ q, (q < 1000 ∨ 1021 ≤ q) → M18.1 q = M.1 q := fun q h => by rw [e18]; exact (jn_ne (by omega)).trans (r17 q h)
  have g18 : M18.2 = some (885) := by rw [e18]; rfl
  obtain ⟨M19, e19⟩ : ∃ z, z = ju M18 (1000) (.inr (11, (.int (nI 0) :: .int (nI 0) :: .int (nI 0) :: .int (-1) :: .int (nI 0) :: .int (nI 0) :: .int (nI 0) :: .int (nI 0) :: .int (nI 0) :: .int (nI 0) :: .int (nI 0) :: .ref (1001) :: .ref (1002) :: .ref (1003) :: .ref (1004) :: .ref (1005) :: .ref (1006) :: .ref (1007) :: .ref (1008) :: .ref (1009) :: .null :: .null :: .null :: .null :: .null :: .null :: .null :: .null :: .null :: .null :: .int (nI 0) :: .int (nI 0) :: .int (nI 0) :: .int (nI 0) :: .null :: []))) := ⟨_, rfl⟩
  refine Q_putFU (pc := 84) (fs := (.int (nI 0) :: .int (nI 0) :: .int (nI 0) :: .int (-1) :: .int (nI 0) :: .int (nI 0) :: .int (nI 0) :: .int (nI 0) :: .int (nI 0) :: .int (nI 0) :: .int (nI 0) :: .ref (1001) :: .ref (1002) :: .ref (1003) :: .ref (1004) :: .ref (1005) :: .ref (1006) :: .ref (1007) :: .ref (1008) :: .null :: .null :: .null :: .null :: .null :: .null :: .null :: .null :: .null :: .null :: .null :: .int (nI 0) :: .int (nI 0) :: .int (nI 0) :: .int (nI 0) :: .null :: [])) C hNm dX11_init_84 p_X11_38 f18_1000 (jlt rfl) rfl rfl e19.symm ?_
  have f19_1001 : M19.1 (1001) = some (nA (4000) (fun _ => 0)) := by rw [e19]; exact (ju_ne (by omega)).trans f18_1001
  have f19_1002 : M19.1 (1002) = some (nA (4000) (fun _ => 0)) := by rw [e19]; exact (ju_ne (by omega)).trans f18_1002
  have f19_1003 : M19.1 (1003) = some (nA (400) (fun _ => 0)) := by rw [e19]; exact (ju_ne (by omega)).trans f18_1003
  have f19_1004 : M19.1 (1004) = some (nA (144) (fun _ => 0)) := by rw [e19]; exact (ju_ne (by omega)).trans f18_1004
  have f19_1005 : M19.1 (1005) = some (nA (12) (fun _ => 0)) := by rw [e19]; exact (ju_ne (by omega)).trans f18_1005
  have f19_1006 : M19.1 (1006) = some (nA (720) (fun _ => 0)) := by rw [e19]; exact (ju_ne (by omega)).trans f18_1006
  have f19_1007 : M19.1 (1007) = some (nA (72) (fun _ => 0)) := by rw [e19]; exact (ju_ne (by omega)).trans f18_1007
  have f19_1008 : M19.1 (1008) = some (nA (720) (fun _ => 0)) := by rw [e19]; exact (ju_ne (by omega)).trans f18_1008
  have f19_1009 : M19.1 (1009) = some (nA (60) (fun _ => 0)) := by rw [e19]; exact (ju_ne (by omega)).trans f18_1009
  have f19_1000 : M19.1 (1000) = some (.inr (11, (.int (nI 0) :: .int (nI 0) :: .int (nI 0) :: .int (-1) :: .int (nI 0) :: .int (nI 0) :: .int (nI 0) :: .int (nI 0) :: .int (nI 0) :: .int (nI 0) :: .int (nI 0) :: .ref (1001) :: .ref (1002) :: .ref (1003) :: .ref (1004) :: .ref (1005) :: .ref (1006) :: .ref (1007) :: .ref (1008) :: .ref (1009) :: .null :: .null :: .null :: .null :: .null :: .null :: .null :: .null :: .null :: .null :: .int (nI 0) :: .int (nI 0) :: .int (nI 0) :: .int (nI 0) :: .null :: []))) := by rw [e19]; exact ju_eq
  have r19 : ∀ q, (q < 1000 ∨ 1021 ≤ q) → M19.1 q = M.1 q := fun q h => by rw [e19]; exact (ju_ne (by omega)).trans (r18 q h)
  have g19 : M19.2 = some (885) := by rw [e19]; exact g18
  refine Q_aload_n (pc := 87) C dX11_init_87 rfl rfl ?_
  refine Q_bipush (pc := 88) (v := nI 60) C dX11_init_88 (by decide) ?_
  refine Q_newi (pc := 90) (k := 1010) (n := 885) (N := 60) C dX11_init_90 a_int (by omega) g19 (by unfold jin; omega) (jr_hi (k := 10) (by omega)) (by simp only [jR]; try omega) (by simp only [jR]; try omega) ?_
  obtain ⟨M20, e20⟩ : ∃ z, z = jn M19 (1010) (nA (60) (fun _ => 0)) (885) := ⟨_, rfl⟩
  rw [← e20]
  have f20_1000 : M20.1 (1000) = some (.inr (11, (.int (nI 0) :: .int (nI 0) :: .int (nI 0) :: .int (-1) :: .int (nI 0) :: .int (nI 0) :: .int (nI 0) :: .int (nI 0) :: .int (nI 0) :: .int (nI 0) :: .int (nI 0) :: .ref (1001) :: .ref (1002) :: .ref (1003) :: .ref (1004) :: .ref (1005) :: .ref (1006) :: .ref (1007) :: .ref (1008) :: .ref (1009) :: .null :: .null :: .null :: .null :: .null :: .null :: .null :: .null :: .null :: .null :: .int (nI 0) :: .int (nI 0) :: .int (nI 0) :: .int (nI 0) :: .null :: []))) := by rw [e20]; exact (jn_ne (by omega)).trans f19_1000
  have f20_1001 : M20.1 (1001) = some (nA (4000) (fun _ => 0)) := by rw [e20]; exact (jn_ne (by omega)).trans f19_1001
  have f20_1002 : M20.1 (1002) = some (nA (4000) (fun _ => 0)) := by rw [e20]; exact (jn_ne (by omega)).trans f19_1002
  have f20_1003 : M20.1 (1003) = some (nA (400) (fun _ => 0)) := by rw [e20]; exact (jn_ne (by omega)).trans f19_1003
  have f20_1004 : M20.1 (1004) = some (nA (144) (fun _ => 0)) := by rw [e20]; exact (jn_ne (by omega)).trans f19_1004
  have f20_1005 : M20.1 (1005) = some (nA (12) (fun _ => 0)) := by rw [e20]; exact (jn_ne (by omega)).trans f19_1005
  have f20_1006 : M20.1 (1006) = some (nA (720) (fun _ => 0)) := by rw [e20]; exact (jn_ne (by omega)).trans f19_1006
  have f20_1007 : M20.1 (1007) = some (nA (72) (fun _ => 0)) := by rw [e20]; exact (jn_ne (by omega)).trans f19_1007
  have f20_1008 : M20.1 (1008) = some (nA (720) (fun _ => 0)) := by rw [e20]; exact (jn_ne (by omega)).trans f19_1008
  have f20_1009 : M20.1 (1009) = some (nA (60) (fun _ => 0)) := by rw [e20]; exact (jn_ne (by omega)).trans f19_1009
  have f20_1010 : M20.1 (1010) = some (nA (60) (fun _ => 0)) := by rw [e20]; exact jn_eq
  have r20 : ∀ q, (q < 1000 ∨ 1021 ≤ q) → M20.1 q = M.1 q := fun q h => by rw [e20]; exact (jn_ne (by omega)).trans (r19 q h)
  have g20 : M20.2 = some (886) := by rw [e20]; rfl
  obtain ⟨M21, e21⟩ : ∃ z, z = ju M20 (1000) (.inr (11, (.int (nI 0) :: .int (nI 0) :: .int (nI 0) :: .int (-1) :: .int (nI 0) :: .int (nI 0) :: .int (nI 0) :: .int (nI 0) :: .int (nI 0) :: .int (nI 0) :: .int (nI 0) :: .ref (1001) :: .ref (1002) :: .ref (1003) :: .ref (1004) :: .ref (1005) :: .ref (1006) :: .ref (1007) :: .ref (1008) :: .ref (1009) :: .ref (1010) :: .null :: .null :: .null :: .null :: .null :: .null :: .null :: .null :: .null :: .int (nI 0) :: .int (nI 0) :: .int (nI 0) :: .int (nI 0) :: .null :: []))) := ⟨_, rfl⟩
  refine Q_putFU (pc := 92) (fs := (.int (nI 0) :: .int (nI 0) :: .int (nI 0) :: .int (-1) :: .int (nI 0) :: .int (nI 0) :: .int (nI 0) :: .int (nI 0) :: .int (nI 0) :: .int (nI 0) :: .int (nI 0) :: .ref (1001) :: .ref (1002) :: .ref (1003) :: .ref (1004) :: .ref (1005) :: .ref (1006) :: .ref (1007) :: .ref (1008) :: .ref (1009) :: .null :: .null :: .null :: .null :: .null :: .null :: .null :: .null :: .null :: .null :: .int (nI 0) :: .int (nI 0) :: .int (nI 0) :: .int (nI 0) :: .null :: [])) C hNm dX11_init_92 p_X11_41 f20_1000 (jlt rfl) rfl rfl e21.symm ?_
  have f21_1001 : M21.1 (1001) = some (nA (4000) (fun _ => 0)) := by rw [e21]; exact (ju_ne (by omega)).trans f20_1001
  have f21_1002 : M21.1 (1002) = some (nA (4000) (fun _ => 0)) := by rw [e21]; exact (ju_ne (by omega)).trans f20_1002
  have f21_1003 : M21.1 (1003) = some (nA (400) (fun _ => 0)) := by rw [e21]; exact (ju_ne (by omega)).trans f20_1003
  have f21_1004 : M21.1 (1004) = some (nA (144) (fun _ => 0)) := by rw [e21]; exact (ju_ne (by omega)).trans f20_1004
  have f21_1005 : M21.1 (1005) = some (nA (12) (fun _ => 0)) := by rw [e21]; exact (ju_ne (by omega)).trans f20_1005
  have f21_1006 : M21.1 (1006) = some (nA (720) (fun _ => 0)) := by rw [e21]; exact (ju_ne (by omega)).trans f20_1006
  have f21_1007 : M21.1 (1007) = some (nA (72) (fun _ => 0)) := by rw [e21]; exact (ju_ne (by omega)).trans f20_1007
  have f21_1008 : M21.1 (1008) = some (nA (720) (fun _ => 0)) := by rw [e21]; exact (ju_ne (by omega)).trans f20_1008
  have f21_1009 : M21.1 (1009) = some (nA (60) (fun _ => 0)) := by rw [e21]; exact (ju_ne (by omega)).trans f20_1009
  have f21_1010 : M21.1 (1010) = some (nA (60) (fun _ => 0)) := by rw [e21]; exact (ju_ne (by omega)).trans f20_1010
  have f21_1000 : M21.1 (1000) = some (.inr (11, (.int (nI 0) :: .int (nI 0) :: .int (nI 0) :: .int (-1) :: .int (nI 0) :: .int (nI 0) :: .int (nI 0) :: .int (nI 0) :: .int (nI 0) :: .int (nI 0) :: .int (nI 0) :: .ref (1001) :: .ref (1002) :: .ref (1003) :: .ref (1004) :: .ref (1005) :: .ref (1006) :: .ref (1007) :: .ref (1008) :: .ref (1009) :: .ref (1010) :: .null :: .null :: .null :: .null :: .null :: .null :: .null :: .null :: .null :: .int (nI 0) :: .int (nI 0) :: .int (nI 0) :: .int (nI 0) :: .null :: []))) := by rw [e21]; exact ju_eq
  have r21 : ∀ q, (q < 1000 ∨ 1021 ≤ q) → M21.1 q = M.1 q := fun q h => by rw [e21]; exact (ju_ne (by omega)).trans (r20 q h)
  have g21 : M21.2 = some (886) := by rw [e21]; exact g20
  refine Q_aload_n (pc := 95) C dX11_init_95 rfl rfl ?_
  refine Q_sipush (pc := 96) (v := nI 360) C dX11_init_96 (by decide) ?_
  refine Q_newi (pc := 99) (k := 1011) (n := 886) (N := 360) C dX11_init_99 a_int (by omega) g21 (by unfold jin; omega) (jr_hi (k := 11) (by omega)) (by simp only [jR]; try omega) (by simp only [jR]; try omega) ?_
  obtain ⟨M22, e22⟩ : ∃ z, z = jn M21 (1011) (nA (360) (fun _ => 0)) (886) := ⟨_, rfl⟩
  rw [← e22]
  have f22_1000 : M22.1 (1000) = some (.inr (11, (.int (nI 0) :: .int (nI 0) :: .int (nI 0) :: .int (-1) :: .int (nI 0) :: .int (nI 0) :: .int (nI 0) :: .int (nI 0) :: .int (nI 0) :: .int (nI 0) :: .int (nI 0) :: .ref (1001) :: .ref (1002) :: .ref (1003) :: .ref (1004) :: .ref (1005) :: .ref (1006) :: .ref (1007) :: .ref (1008) :: .ref (1009) :: .ref (1010) :: .null :: .null :: .null :: .null :: .null :: .null :: .null :: .null :: .null :: .int (nI 0) :: .int (nI 0) :: .int (nI 0) :: .int (nI 0) :: .null :: []))) := by rw [e22]; exact (jn_ne (by omega)).trans f21_1000
  have f22_1001 : M22.1 (1001) = some (nA (4000) (fun _ => 0)) := by rw [e22]; exact (jn_ne (by omega)).trans f21_1001
  have f22_1002 : M22.1 (1002) = some (nA (4000) (fun _ => 0)) := by rw [e22]; exact (jn_ne (by omega)).trans f21_1002
  have f22_1003 : M22.1 (1003) = some (nA (400) (fun _ => 0)) := by rw [e22]; exact (jn_ne (by omega)).trans f21_1003
  have f22_1004 : M22.1 (1004) = some (nA (144) (fun _ => 0)) := by rw [e22]; exact (jn_ne (by omega)).trans f21_1004
  have f22_1005 : M22.1 (1005) = some (nA (12) (fun _ => 0)) := by rw [e22]; exact (jn_ne (by omega)).trans f21_1005
  have f22_1006 : M22.1 (1006) = some (nA (720) (fun _ => 0)) := by rw [e22]; exact (jn_ne (by omega)).trans f21_1006
  have f22_1007 : M22.1 (1007) = some (nA (72) (fun _ => 0)) := by rw [e22]; exact (jn_ne (by omega)).trans f21_1007
  have f22_1008 : M22.1 (1008) = some (nA (720) (fun _ => 0)) := by rw [e22]; exact (jn_ne (by omega)).trans f21_1008
  have f22_1009 : M22.1 (1009) = some (nA (60) (fun _ => 0)) := by rw [e22]; exact (jn_ne (by omega)).trans f21_1009
  have f22_1010 : M22.1 (1010) = some (nA (60) (fun _ => 0)) := by rw [e22]; exact (jn_ne (by omega)).trans f21_1010
  have f22_1011 : M22.1 (1011) = some (nA (360) (fun _ => 0)) := by rw [e22]; exact jn_eq
  have r22 : ∀ q, (q < 1000 ∨ 1021 ≤ q) → M22.1 q = M.1 q := fun q h => by rw [e22]; exact (jn_ne (by omega)).trans (r21 q h)
  have g22 : M22.2 = some (887) := by rw [e22]; rfl
  obtain ⟨M23, e23⟩ : ∃ z, z = ju M22 (1000) (.inr (11, (.int (nI 0) :: .int (nI 0) :: .int (nI 0) :: .int (-1) :: .int (nI 0) :: .int (nI 0) :: .int (nI 0) :: .int (nI 0) :: .int (nI 0) :: .int (nI 0) :: .int (nI 0) :: .ref (1001) :: .ref (1002) :: .ref (1003) :: .ref (1004) :: .ref (1005) :: .ref (1006) :: .ref (1007) :: .ref (1008) :: .ref (1009) :: .ref (1010) :: .ref (1011) :: .null :: .null :: .null :: .null :: .null :: .null :: .null :: .null :: .int (nI 0) :: .int (nI 0) :: .int (nI 0) :: .int (nI 0) :: .null :: []))) := ⟨_, rfl⟩
  refine Q_putFU (pc := 101) (fs := (.int (nI 0) :: .int (nI 0) :: .int (nI 0) :: .int (-1) :: .int (nI 0) :: .int (nI 0) :: .int (nI 0) :: .int (nI 0) :: .int (nI 0) :: .int (nI 0) :: .int (nI 0) :: .ref (1001) :: .ref (1002) :: .ref (1003) :: .ref (1004) :: .ref (1005) :: .ref (1006) :: .ref (1007) :: .ref (1008) :: .ref (1009) :: .ref (1010) :: .null :: .null :: .null :: .null :: .null :: .null :: .null :: .null :: .null :: .int (nI 0) :: .int (nI 0) :: .int (nI 0) :: .int (nI 0) :: .null :: [])) C hNm dX11_init_101 p_X11_44 f22_1000 (jlt rfl) rfl rfl e23.symm ?_
  have f23_1001 : M23.1 (1001) = some (nA (4000) (fun _ => 0)) := by rw [e23]; exact (ju_ne (by omega)).trans f22_1001
  have f23_1002 : M23.1 (1002) = some (nA (4000) (fun _ => 0)) := by rw [e23]; exact (ju_ne (by omega)).trans f22_1002
  have f23_1003 : M23.1 (1003) = some (nA (400) (fun _ => 0)) := by rw [e23]; exact (ju_ne (by omega)).trans f22_1003
  have f23_1004 : M23.1 (1004) = some (nA (144) (fun _ => 0)) := by rw [e23]; exact (ju_ne (by omega)).trans f22_1004
  have f23_1005 : M23.1 (1005) = some (nA (12) (fun _ => 0)) := by rw [e23]; exact (ju_ne (by omega)).trans f22_1005
  have f23_1006 : M23.1 (1006) = some (nA (720) (fun _ => 0)) := by rw [e23]; exact (ju_ne (by omega)).trans f22_1006
  have f23_1007 : M23.1 (1007) = some (nA (72) (fun _ => 0)) := by rw [e23]; exact (ju_ne (by omega)).trans f22_1007
  have f23_1008 : M23.1 (1008) = some (nA (720) (fun _ => 0)) := by rw [e23]; exact (ju_ne (by omega)).trans f22_1008
  have f23_1009 : M23.1 (1009) = some (nA (60) (fun _ => 0)) := by rw [e23]; exact (ju_ne (by omega)).trans f22_1009
  have f23_1010 : M23.1 (1010) = some (nA (60) (fun _ => 0)) := by rw [e23]; exact (ju_ne (by omega)).trans f22_1010
  have f23_1011 : M23.1 (1011) = some (nA (360) (fun _ => 0)) := by rw [e23]; exact (ju_ne (by omega)).trans f22_1011
  have f23_1000 : M23.1 (1000) = some (.inr (11, (.int (nI 0) :: .int (nI 0) :: .int (nI 0) :: .int (-1) :: .int (nI 0) :: .int (nI 0) :: .int (nI 0) :: .int (nI 0) :: .int (nI 0) :: .int (nI 0) :: .int (nI 0) :: .ref (1001) :: .ref (1002) :: .ref (1003) :: .ref (1004) :: .ref (1005) :: .ref (1006) :: .ref (1007) :: .ref (1008) :: .ref (1009) :: .ref (1010) :: .ref (1011) :: .null :: .null :: .null :: .null :: .null :: .null :: .null :: .null :: .int (nI 0) :: .int (nI 0) :: .int (nI 0) :: .int (nI 0) :: .null :: []))) := by rw [e23]; exact ju_eq
  have r23 : ∀ q, (q < 1000 ∨ 1021 ≤ q) → M23.1 q = M.1 q := fun q h => by rw [e23]; exact (ju_ne (by omega)).trans (r22 q h)
  have g23 : M23.2 = some (887) := by rw [e23]; exact g22
  refine Q_aload_n (pc := 104) C dX11_init_104 rfl rfl ?_
  refine Q_sipush (pc := 105) (v := nI 360) C dX11_init_105 (by decide) ?_
  refine Q_newi (pc := 108) (k := 1012) (n := 887) (N := 360) C dX11_init_108 a_int (by omega) g23 (by unfold jin; omega) (jr_hi (k := 12) (by omega)) (by simp only [jR]; try omega) (by simp only [jR]; try omega) ?_
  obtain ⟨M24, e24⟩ : ∃ z, z = jn M23 (1012) (nA (360) (fun _ => 0)) (887) := ⟨_, rfl⟩
  rw [← e24]
  have f24_1000 : M24.1 (1000) = some (.inr (11, (.int (nI 0) :: .int (nI 0) :: .int (nI 0) :: .int (-1) :: .int (nI 0) :: .int (nI 0) :: .int (nI 0) :: .int (nI 0) :: .int (nI 0) :: .int (nI 0) :: .int (nI 0) :: .ref (1001) :: .ref (1002) :: .ref (1003) :: .ref (1004) :: .ref (1005) :: .ref (1006) :: .ref (1007) :: .ref (1008) :: .ref (1009) :: .ref (1010) :: .ref (1011) :: .null :: .null :: .null :: .null :: .null :: .null :: .null :: .null :: .int (nI 0) :: .int (nI 0) :: .int (nI 0) :: .int (nI 0) :: .null :: []))) := by rw [e24]; exact (jn_ne (by omega)).trans f23_1000
  have f24_1001 : M24.1 (1001) = some (nA (4000) (fun _ => 0)) := by rw [e24]; exact (jn_ne (by omega)).trans f23_1001
  have f24_1002 : M24.1 (1002) = some (nA (4000) (fun _ => 0)) := by rw [e24]; exact (jn_ne (by omega)).trans f23_1002
  have f24_1003 : M24.1 (1003) = some (nA (400) (fun _ => 0)) := by rw [e24]; exact (jn_ne (by omega)).trans f23_1003
  have f24_1004 : M24.1 (1004) = some (nA (144) (fun _ => 0)) := by rw [e24]; exact (jn_ne (by omega)).trans f23_1004
  have f24_1005 : M24.1 (1005) = some (nA (12) (fun _ => 0)) := by rw [e24]; exact (jn_ne (by omega)).trans f23_1005
  have f24_1006 : M24.1 (1006) = some (nA (720) (fun _ => 0)) := by rw [e24]; exact (jn_ne (by omega)).trans f23_1006
  have f24_1007 : M24.1 (1007) = some (nA (72) (fun _ => 0)) := by rw [e24]; exact (jn_ne (by omega)).trans f23_1007
  have f24_1008 : M24.1 (1008) = some (nA (720) (fun _ => 0)) := by rw [e24]; exact (jn_ne (by omega)).trans f23_1008
  have f24_1009 : M24.1 (1009) = some (nA (60) (fun _ => 0)) := by rw [e24]; exact (jn_ne (by omega)).trans f23_1009
  have f24_1010 : M24.1 (1010) = some (nA (60) (fun _ => 0)) := by rw [e24]; exact (jn_ne (by omega)).trans f23_1010
  have f24_1011 : M24.1 (1011) = some (nA (360) (fun _ => 0)) := by rw [e24]; exact (jn_ne (by omega)).trans f23_1011
  have f24_1012 : M24.1 (1012) = some (nA (360) (fun _ => 0)) := by rw [e24]; exact jn_eq
  have r24 : ∀ q, (q < 1000 ∨ 1021 ≤ q) → M24.1 q = M.1 q := fun q h => by rw [e24]; exact (jn_ne (by omega)).trans (r23 q h)
  have g24 : M24.2 = some (888) := by rw [e24]; rfl
  obtain ⟨M25, e25⟩ : ∃ z, z = ju M24 (1000) (.inr (11, (.int (nI 0) :: .int (nI 0) :: .int (nI 0) :: .int (-1) :: .int (nI 0) :: .int (nI 0) :: .int (nI 0) :: .int (nI 0) :: .int (nI 0) :: .int (nI 0) :: .int (nI 0) :: .ref (1001) :: .ref (1002) :: .ref (1003) :: .ref (1004) :: .ref (1005) :: .ref (1006) :: .ref (1007) :: .ref (1008) :: .ref (1009) :: .ref (1010) :: .ref (1011) :: .ref (1012) :: .null :: .null :: .null :: .null :: .null :: .null :: .null :: .int (nI 0) :: .int (nI 0) :: .int (nI 0) :: .int (nI 0) :: .null :: []))) := ⟨_, rfl⟩
  refine Q_putFU (pc := 110) (fs := (.int (nI 0) :: .int (nI 0) :: .int (nI 0) :: .int (-1) :: .int (nI 0) :: .int (nI 0) :: .int (nI 0) :: .int (nI 0) :: .int (nI 0) :: .int (nI 0) :: .int (nI 0) :: .ref (1001) :: .ref (1002) :: .ref (1003) :: .ref (1004) :: .ref (1005) :: .ref (1006) :: .ref (1007) :: .ref (1008) :: .ref (1009) :: .ref (1010) :: .ref (1011) :: .null :: .null :: .null :: .null :: .null :: .null :: .null :: .null :: .int (nI 0) :: .int (nI 0) :: .int (nI 0) :: .int (nI 0) :: .null :: [])) C hNm dX11_init_110 p_X11_47 f24_1000 (jlt rfl) rfl rfl e25.symm ?_
  have f25_1001 : M25.1 (1001) = some (nA (4000) (fun _ => 0)) := by rw [e25]; exact (ju_ne (by omega)).trans f24_1001
  have f25_1002 : M25.1 (1002) = some (nA (4000) (fun _ => 0)) := by rw [e25]; exact (ju_ne (by omega)).trans f24_1002
  have f25_1003 : M25.1 (1003) = some (nA (400) (fun _ => 0)) := by rw [e25]; exact (ju_ne (by omega)).trans f24_1003
  have f25_1004 : M25.1 (1004) = some (nA (144) (fun _ => 0)) := by rw [e25]; exact (ju_ne (by omega)).trans f24_1004
  have f25_1005 : M25.1 (1005) = some (nA (12) (fun _ => 0)) := by rw [e25]; exact (ju_ne (by omega)).trans f24_1005
  have f25_1006 : M25.1 (1006) = some (nA (720) (fun _ => 0)) := by rw [e25]; exact (ju_ne (by omega)).trans f24_1006
  have f25_1007 : M25.1 (1007) = some (nA (72) (fun _ => 0)) := by rw [e25]; exact (ju_ne (by omega)).trans f24_1007
  have f25_1008 : M25.1 (1008) = some (nA (720) (fun _ => 0)) := by rw [e25]; exact (ju_ne (by omega)).trans f24_1008
  have f25_1009 : M25.1 (1009) = some (nA (60) (fun _ => 0)) := by rw [e25]; exact (ju_ne (by omega)).trans f24_1009
  have f25_1010 : M25.1 (1010) = some (nA (60) (fun _ => 0)) := by rw [e25]; exact (ju_ne (by omega)).trans f24_1010
  have f25_1011 : M25.1 (1011) = some (nA (360) (fun _ => 0)) := by rw [e25]; exact (ju_ne (by omega)).trans f24_1011
  have f25_1012 : M25.1 (1012) = some (nA (360) (fun _ => 0)) := by rw [e25]; exact (ju_ne (by omega)).trans f24_1012
  have f25_1000 : M25.1 (1000) = some (.inr (11, (.int (nI 0) :: .int (nI 0) :: .int (nI 0) :: .int (-1) :: .int (nI 0) :: .int (nI 0) :: .int (nI 0) :: .int (nI 0) :: .int (nI 0) :: .int (nI 0) :: .int (nI 0) :: .ref (1001) :: .ref (1002) :: .ref (1003) :: .ref (1004) :: .ref (1005) :: .ref (1006) :: .ref (1007) :: .ref (1008) :: .ref (1009) :: .ref (1010) :: .ref (1011) :: .ref (1012) :: .null :: .null :: .null :: .null :: .null :: .null :: .null :: .int (nI 0) :: .int (nI 0) :: .int (nI 0) :: .int (nI 0) :: .null :: []))) := by rw [e25]; exact ju_eq
  have r25 : ∀ q, (q < 1000 ∨ 1021 ≤ q) → M25.1 q = M.1 q := fun q h => by rw [e25]; exact (ju_ne (by omega)).trans (r24 q h)
  have g25 : M25.2 = some (888) := by rw [e25]; exact g24
  refine Q_aload_n (pc := 113) C dX11_init_113 rfl rfl ?_
  refine Q_sipush (pc := 114) (v := nI 360) C dX11_init_114 (by decide) ?_
  refine Q_newi (pc := 117) (k := 1013) (n := 888) (N := 360) C dX11_init_117 a_int (by omega) g25 (by unfold jin; omega) (jr_hi (k := 13) (by omega)) (by simp only [jR]; try omega) (by simp only [jR]; try omega) ?_
  obtain ⟨M26, e26⟩ : ∃ z, z = jn M25 (1013) (nA (360) (fun _ => 0)) (888) := ⟨_, rfl⟩
  rw [← e26]
  have f26_1000 : M26.1 (1000) = some (.inr (11, (.int (nI 0) :: .int (nI 0) :: .int (nI 0) :: .int (-1) :: .int (nI 0) :: .int (nI 0) :: .int (nI 0) :: .int (nI 0) :: .int (nI 0) :: .int (nI 0) :: .int (nI 0) :: .ref (1001) :: .ref (1002) :: .ref (1003) :: .ref (1004) :: .ref (1005) :: .ref (1006) :: .ref (1007) :: .ref (1008) :: .ref (1009) :: .ref (1010) :: .ref (1011) :: .ref (1012) :: .null :: .null :: .null :: .null :: .null :: .null :: .null :: .int (nI 0) :: .int (nI 0) :: .int (nI 0) :: .int (nI 0) :: .null :: []))) := by rw [e26]; exact (jn_ne (by omega)).trans f25_1000
  have f26_1001 : M26.1 (1001) = some (nA (4000) (fun _ => 0)) := by rw [e26]; exact (jn_ne (by omega)).trans f25_1001
  have f26_1002 : M26.1 (1002) = some (nA (4000) (fun _ => 0)) := by rw [e26]; exact (jn_ne (by omega)).trans f25_1002
  have f26_1003 : M26.1 (1003) = some (nA (400) (fun _ => 0)) := by rw [e26]; exact (jn_ne (by omega)).trans f25_1003
  have f26_1004 : M26.1 (1004) = some (nA (144) (fun _ => 0)) := by rw [e26]; exact (jn_ne (by omega)).trans f25_1004
  have f26_1005 : M26.1 (1005) = some (nA (12) (fun _ => 0)) := by rw [e26]; exact (jn_ne (by omega)).trans f25_1005
  have f26_1006 : M26.1 (1006) = some (nA (720) (fun _ => 0)) := by rw [e26]; exact (jn_ne (by omega)).trans f25_1006
  have f26_1007 : M26.1 (1007) = some (nA (72) (fun _ => 0)) := by rw [e26]; exact (jn_ne (by omega)).trans f25_1007
  have f26_1008 : M26.1 (1008) = some (nA (720) (fun _ => 0)) := by rw [e26]; exact (jn_ne (by omega)).trans f25_1008
  have f26_1009 : M26.1 (1009) = some (nA (60) (fun _ => 0)) := by rw [e26]; exact (jn_ne (by omega)).trans f25_1009
  have f26_1010 : M26.1 (1010) = some (nA (60) (fun _ => 0)) := by rw [e26]; exact (jn_ne (by omega)).trans f25_1010
  have f26_1011 : M26.1 (1011) = some (nA (360) (fun _ => 0)) := by rw [e26]; exact (jn_ne (by omega)).trans f25_1011
  have f26_1012 : M26.1 (1012) = some (nA (360) (fun _ => 0)) := by rw [e26]; exact (jn_ne (by omega)).trans f25_1012
  have f26_1013 : M26.1 (1013) = some (nA (360) (fun _ => 0)) := by rw [e26]; exact jn_eq
  have r26 : ∀ q, (q < 1000 ∨ 1021 ≤ q) → M26.1 q = M.1 q := fun q h => by rw [e26]; exact (jn_ne (by omega)).trans (r25 q h)
  have g26 : M26.2 = some (889) := by rw [e26]; rfl
  obtain ⟨M27, e27⟩ : ∃ z, z = ju M26 (1000) (.inr (11, (.int (nI 0) :: .int (nI 0) :: .int (nI 0) :: .int (-1) :: .int (nI 0) :: .int (nI 0) :: .int (nI 0) :: .int (nI 0) :: .int (nI 0) :: .int (nI 0) :: .int (nI 0) :: .ref (1001) :: .ref (1002) :: .ref (1003) :: .ref (1004) :: .ref (1005) :: .ref (1006) :: .ref (1007) :: .ref (1008) :: .ref (1009) :: .ref (1010) :: .ref (1011) :: .ref (1012) :: .ref (1013) :: .null :: .null :: .null :: .null :: .null :: .null :: .int (nI 0) :: .int (nI 0) :: .int (nI 0) :: .int (nI 0) :: .null :: []))) := ⟨_, rfl⟩
  refine Q_putFU (pc := 119) (fs := (.int (nI 0) :: .int (nI 0) :: .int (nI 0) :: .int (-1) :: .int (nI 0) :: .int (nI 0) :: .int (nI 0) :: .int (nI 0) :: .int (nI 0) :: .int (nI 0) :: .int (nI 0) :: .ref (1001) :: .ref (1002) :: .ref (1003) :: .ref (1004) :: .ref (1005) :: .ref (1006) :: .ref (1007) :: .ref (1008) :: .ref (1009) :: .ref (1010) :: .ref (1011) :: .ref (1012) :: .null :: .null :: .null :: .null :: .null :: .null :: .null :: .int (nI 0) :: .int (nI 0) :: .int (nI 0) :: .int (nI 0) :: .null :: [])) C hNm dX11_init_119 p_X11_50 f26_1000 (jlt rfl) rfl rfl e27.symm ?_
  have f27_1001 : M27.1 (1001) = some (nA (4000) (fun _ => 0)) := by rw [e27]; exact (ju_ne (by omega)).trans f26_1001
  have f27_1002 : M27.1 (1002) = some (nA (4000) (fun _ => 0)) := by rw [e27]; exact (ju_ne (by omega)).trans f26_1002
  have f27_1003 : M27.1 (1003) = some (nA (400) (fun _ => 0)) := by rw [e27]; exact (ju_ne (by omega)).trans f26_1003
  have f27_1004 : M27.1 (1004) = some (nA (144) (fun _ => 0)) := by rw [e27]; exact (ju_ne (by omega)).trans f26_1004
  have f27_1005 : M27.1 (1005) = some (nA (12) (fun _ => 0)) := by rw [e27]; exact (ju_ne (by omega)).trans f26_1005
  have f27_1006 : M27.1 (1006) = some (nA (720) (fun _ => 0)) := by rw [e27]; exact (ju_ne (by omega)).trans f26_1006
  have f27_1007 : M27.1 (1007) = some (nA (72) (fun _ => 0)) := by rw [e27]; exact (ju_ne (by omega)).trans f26_1007
  have f27_1008 : M27.1 (1008) = some (nA (720) (fun _ => 0)) := by rw [e27]; exact (ju_ne (by omega)).trans f26_1008
  have f27_1009 : M27.1 (1009) = some (nA (60) (fun _ => 0)) := by rw [e27]; exact (ju_ne (by omega)).trans f26_1009
  have f27_1010 : M27.1 (1010) = some (nA (60) (fun _ => 0)) := by rw [e27]; exact (ju_ne (by omega)).trans f26_1010
  have f27_1011 : M27.1 (1011) = some (nA (360) (fun _ => 0)) := by rw [e27]; exact (ju_ne (by omega)).trans f26_1011
  have f27_1012 : M27.1 (1012) = some (nA (360) (fun _ => 0)) := by rw [e27]; exact (ju_ne (by omega)).trans f26_1012
  have f27_1013 : M27.1 (1013) = some (nA (360) (fun _ => 0)) := by rw [e27]; exact (ju_ne (by omega)).trans f26_1013
  have f27_1000 : M27.1 (1000) = some (.inr (11, (.int (nI 0) :: .int (nI 0) :: .int (nI 0) :: .int (-1) :: .int (nI 0) :: .int (nI 0) :: .int (nI 0) :: .int (nI 0) :: .int (nI 0) :: .int (nI 0) :: .int (nI 0) :: .ref (1001) :: .ref (1002) :: .ref (1003) :: .ref (1004) :: .ref (1005) :: .ref (1006) :: .ref (1007) :: .ref (1008) :: .ref (1009) :: .ref (1010) :: .ref (1011) :: .ref (1012) :: .ref (1013) :: .null :: .null :: .null :: .null :: .null :: .null :: .int (nI 0) :: .int (nI 0) :: .int (nI 0) :: .int (nI 0) :: .null :: []))) := by rw [e27]; exact ju_eq
  have r27 : ∀ q, (q < 1000 ∨ 1021 ≤ q) → M27.1 q = M.1 q := fun q h => by rw [e27]; exact (ju_ne (by omega)).trans (r26 q h)
  have g27 : M27.2 = some (889) := by rw [e27]; exact g26
  refine Q_aload_n (pc := 122) C dX11_init_122 rfl rfl ?_
  refine Q_sipush (pc := 123) (v := nI 1920) C dX11_init_123 (by decide) ?_
  refine Q_newi (pc := 126) (k := 1014) (n := 889) (N := 1920) C dX11_init_126 a_int (by omega) g27 (by unfold jin; omega) (jr_hi (k := 14) (by omega)) (by simp only [jR]; try omega) (by simp only [jR]; try omega) ?_
  obtain ⟨M28, e28⟩ : ∃ z, z = jn M27 (1014) (nA (1920) (fun _ => 0)) (889) := ⟨_, rfl⟩
  rw [← e28]
  have f28_1000 : M28.1 (1000) = some (.inr (11, (.int (nI 0) :: .int (nI 0) :: .int (nI 0) :: .int (-1) :: .int (nI 0) :: .int (nI 0) :: .int (nI 0) :: .int (nI 0) :: .int (nI 0) :: .int (nI 0) :: .int (nI 0) :: .ref (1001) :: .ref (1002) :: .ref (1003) :: .ref (1004) :: .ref (1005) :: .ref (1006) :: .ref (1007) :: .ref (1008) :: .ref (1009) :: .ref (1010) :: .ref (1011) :: .ref (1012) :: .ref (1013) :: .null :: .null :: .null :: .null :: .null :: .null :: .int (nI 0) :: .int (nI 0) :: .int (nI 0) :: .int (nI 0) :: .null :: []))) := by rw [e28]; exact (jn_ne (by omega)).trans f27_1000
  have f28_1001 : M28.1 (1001) = some (nA (4000) (fun _ => 0)) := by rw [e28]; exact (jn_ne (by omega)).trans f27_1001
  have f28_1002 : M28.1 (1002) = some (nA (4000) (fun _ => 0)) := by rw [e28]; exact (jn_ne (by omega)).trans f27_1002
  have f28_1003 : M28.1 (1003) = some (nA (400) (fun _ => 0)) := by rw [e28]; exact (jn_ne (by omega)).trans f27_1003
  have f28_1004 : M28.1 (1004) = some (nA (144) (fun _ => 0)) := by rw [e28]; exact (jn_ne (by omega)).trans f27_1004
  have f28_1005 : M28.1 (1005) = some (nA (12) (fun _ => 0)) := by rw [e28]; exact (jn_ne (by omega)).trans f27_1005
  have f28_1006 : M28.1 (1006) = some (nA (720) (fun _ => 0)) := by rw [e28]; exact (jn_ne (by omega)).trans f27_1006
  have f28_1007 : M28.1 (1007) = some (nA (72) (fun _ => 0)) := by rw [e28]; exact (jn_ne (by omega)).trans f27_1007
  have f28_1008 : M28.1 (1008) = some (nA (720) (fun _ => 0)) := by rw [e28]; exact (jn_ne (by omega)).trans f27_1008
  have f28_1009 : M28.1 (1009) = some (nA (60) (fun _ => 0)) := by rw [e28]; exact (jn_ne (by omega)).trans f27_1009
  have f28_1010 : M28.1 (1010) = some (nA (60) (fun _ => 0)) := by rw [e28]; exact (jn_ne (by omega)).trans f27_1010
  have f28_1011 : M28.1 (1011) = some (nA (360) (fun _ => 0)) := by rw [e28]; exact (jn_ne (by omega)).trans f27_1011
  have f28_1012 : M28.1 (1012) = some (nA (360) (fun _ => 0)) := by rw [e28]; exact (jn_ne (by omega)).trans f27_1012
  have f28_1013 : M28.1 (1013) = some (nA (360) (fun _ => 0)) := by rw [e28]; exact (jn_ne (by omega)).trans f27_1013
  have f28_1014 : M28.1 (1014) = some (nA (1920) (fun _ => 0)) := by rw [e28]; exact jn_eq
  have r28 : ∀ q, (q < 1000 ∨ 1021 ≤ q) → M28.1 q = M.1 q := fun q h => by rw [e28]; exact (jn_ne (by omega)).trans (r27 q h)
  have g28 : M28.2 = some (890) := by rw [e28]; rfl
  obtain ⟨M29, e29⟩ : ∃ z, z = ju M28 (1000) (.inr (11, (.int (nI 0) :: .int (nI 0) :: .int (nI 0) :: .int (-1) :: .int (nI 0) :: .int (nI 0) :: .int (nI 0) :: .int (nI 0) :: .int (nI 0) :: .int (nI 0) :: .int (nI 0) :: .ref (1001) :: .ref (1002) :: .ref (1003) :: .ref (1004) :: .ref (1005) :: .ref (1006) :: .ref (1007) :: .ref (1008) :: .ref (1009) :: .ref (1010) :: .ref (1011) :: .ref (1012) :: .ref (1013) :: .ref (1014) :: .null :: .null :: .null :: .null :: .null :: .int (nI 0) :: .int (nI 0) :: .int (nI 0) :: .int (nI 0) :: .null :: []))) := ⟨_, rfl⟩
  refine Q_putFU (pc := 128) (fs := (.int (nI 0) :: .int (nI 0) :: .int (nI 0) :: .int (-1) :: .int (nI 0) :: .int (nI 0) :: .int (nI 0) :: .int (nI 0) :: .int (nI 0) :: .int (nI 0) :: .int (nI 0) :: .ref (1001) :: .ref (1002) :: .ref (1003) :: .ref (1004) :: .ref (1005) :: .ref (1006) :: .ref (1007) :: .ref (1008) :: .ref (1009) :: .ref (1010) :: .ref (1011) :: .ref (1012) :: .ref (1013) :: .null :: .null :: .null :: .null :: .null :: .null :: .int (nI 0) :: .int (nI 0) :: .int (nI 0) :: .int (nI 0) :: .null :: [])) C hNm dX11_init_128 p_X11_53 f28_1000 (jlt rfl) rfl rfl e29.symm ?_
  have f29_1001 : M29.1 (1001) = some (nA (4000) (fun _ => 0)) := by rw [e29]; exact (ju_ne (by omega)).trans f28_1001
  have f29_1002 : M29.1 (1002) = some (nA (4000) (fun _ => 0)) := by rw [e29]; exact (ju_ne (by omega)).trans f28_1002
  have f29_1003 : M29.1 (1003) = some (nA (400) (fun _ => 0)) := by rw [e29]; exact (ju_ne (by omega)).trans f28_1003
  have f29_1004 : M29.1 (1004) = some (nA (144) (fun _ => 0)) := by rw [e29]; exact (ju_ne (by omega)).trans f28_1004
  have f29_1005 : M29.1 (1005) = some (nA (12) (fun _ => 0)) := by rw [e29]; exact (ju_ne (by omega)).trans f28_1005
  have f29_1006 : M29.1 (1006) = some (nA (720) (fun _ => 0)) := by rw [e29]; exact (ju_ne (by omega)).trans f28_1006
  have f29_1007 : M29.1 (1007) = some (nA (72) (fun _ => 0)) := by rw [e29]; exact (ju_ne (by omega)).trans f28_1007
  have f29_1008 : M29.1 (1008) = some (nA (720) (fun _ => 0)) := by rw [e29]; exact (ju_ne (by omega)).trans f28_1008
  have f29_1009 : M29.1 (1009) = some (nA (60) (fun _ => 0)) := by rw [e29]; exact (ju_ne (by omega)).trans f28_1009
  have f29_1010 : M29.1 (1010) = some (nA (60) (fun _ => 0)) := by rw [e29]; exact (ju_ne (by omega)).trans f28_1010
  have f29_1011 : M29.1 (1011) = some (nA (360) (fun _ => 0)) := by rw [e29]; exact (ju_ne (by omega)).trans f28_1011
  have f29_1012 : M29.1 (1012) = some (nA (360) (fun _ => 0)) := by rw [e29]; exact (ju_ne (by omega)).trans f28_1012
  have f29_1013 : M29.1 (1013) = some (nA (360) (fun _ => 0)) := by rw [e29]; exact (ju_ne (by omega)).trans f28_1013
  have f29_1014 : M29.1 (1014) = some (nA (1920) (fun _ => 0)) := by rw [e29]; exact (ju_ne (by omega)).trans f28_1014
  have f29_1000 : M29.1 (1000) = some (.inr (11, (.int (nI 0) :: .int (nI 0) :: .int (nI 0) :: .int (-1) :: .int (nI 0) :: .int (nI 0) :: .int (nI 0) :: .int (nI 0) :: .int (nI 0) :: .int (nI 0) :: .int (nI 0) :: .ref (1001) :: .ref (1002) :: .ref (1003) :: .ref (1004) :: .ref (1005) :: .ref (1006) :: .ref (1007) :: .ref (1008) :: .ref (1009) :: .ref (1010) :: .ref (1011) :: .ref (1012) :: .ref (1013) :: .ref (1014) :: .null :: .null :: .null :: .null :: .null :: .int (nI 0) :: .int (nI 0) :: .int (nI 0) :: .int (nI 0) :: .null :: []))) := by rw [e29]; exact ju_eq
  have r29 : ∀ q, (q < 1000 ∨ 1021 ≤ q) → M29.1 q = M.1 q := fun q h => by rw [e29]; exact (ju_ne (by omega)).trans (r28 q h)
  have g29 : M29.2 = some (890) := by rw [e29]; exact g28
  refine Q_aload_n (pc := 131) C dX11_init_131 rfl rfl ?_
  refine Q_sipush (pc := 132) (v := nI 1000) C dX11_init_132 (by decide) ?_
  refine Q_newi (pc := 135) (k := 1015) (n := 890) (N := 1000) C dX11_init_135 a_int (by omega) g29 (by unfold jin; omega) (jr_hi (k := 15) (by omega)) (by simp only [jR]; try omega) (by simp only [jR]; try omega) ?_
  obtain ⟨M30, e30⟩ : ∃ z, z = jn M29 (1015) (nA (1000) (fun _ => 0)) (890) := ⟨_, rfl⟩
  rw [← e30]
  have f30_1000 : M30.1 (1000) = some (.inr (11, (.int (nI 0) :: .int (nI 0) :: .int (nI 0) :: .int (-1) :: .int (nI 0) :: .int (nI 0) :: .int (nI 0) :: .int (nI 0) :: .int (nI 0) :: .int (nI 0) :: .int (nI 0) :: .ref (1001) :: .ref (1002) :: .ref (1003) :: .ref (1004) :: .ref (1005) :: .ref (1006) :: .ref (1007) :: .ref (1008) :: .ref (1009) :: .ref (1010) :: .ref (1011) :: .ref (1012) :: .ref (1013) :: .ref (1014) :: .null :: .null :: .null :: .null :: .null :: .int (nI 0) :: .int (nI 0) :: .int (nI 0) :: .int (nI 0) :: .null :: []))) := by rw [e30]; exact (jn_ne (by omega)).trans f29_1000
  have f30_1001 : M30.1 (1001) = some (nA (4000) (fun _ => 0)) := by rw [e30]; exact (jn_ne (by omega)).trans f29_1001
  have f30_1002 : M30.1 (1002) = some (nA (4000) (fun _ => 0)) := by rw [e30]; exact (jn_ne (by omega)).trans f29_1002
  have f30_1003 : M30.1 (1003) = some (nA (400) (fun _ => 0)) := by rw [e30]; exact (jn_ne (by omega)).trans f29_1003
  have f30_1004 : M30.1 (1004) = some (nA (144) (fun _ => 0)) := by rw [e30]; exact (jn_ne (by omega)).trans f29_1004
  have f30_1005 : M30.1 (1005) = some (nA (12) (fun _ => 0)) := by rw [e30]; exact (jn_ne (by omega)).trans f29_1005
  have f30_1006 : M30.1 (1006) = some (nA (720) (fun _ => 0)) := by rw [e30]; exact (jn_ne (by omega)).trans f29_1006
  have f30_1007 : M30.1 (1007) = some (nA (72) (fun _ => 0)) := by rw [e30]; exact (jn_ne (by omega)).trans f29_1007
  have f30_1008 : M30.1 (1008) = some (nA (720) (fun _ => 0)) := by rw [e30]; exact (jn_ne (by omega)).trans f29_1008
  have f30_1009 : M30.1 (1009) = some (nA (60) (fun _ => 0)) := by rw [e30]; exact (jn_ne (by omega)).trans f29_1009
  have f30_1010 : M30.1 (1010) = some (nA (60) (fun _ => 0)) := by rw [e30]; exact (jn_ne (by omega)).trans f29_1010
  have f30_1011 : M30.1 (1011) = some (nA (360) (fun _ => 0)) := by rw [e30]; exact (jn_ne (by omega)).trans f29_1011
  have f30_1012 : M30.1 (1012) = some (nA (360) (fun _ => 0)) := by rw [e30]; exact (jn_ne (by omega)).trans f29_1012
  have f30_1013 : M30.1 (1013) = some (nA (360) (fun _ => 0)) := by rw [e30]; exact (jn_ne (by omega)).trans f29_1013
  have f30_1014 : M30.1 (1014) = some (nA (1920) (fun _ => 0)) := by rw [e30]; exact (jn_ne (by omega)).trans f29_1014
  have f30_1015 : M30.1 (1015) = some (nA (1000) (fun _ => 0)) := by rw [e30]; exact jn_eq
  have r30 : ∀ q, (q < 1000 ∨ 1021 ≤ q) → M30.1 q = M.1 q := fun q h => by rw [e30]; exact (jn_ne (by omega)).trans (r29 q h)
  have g30 : M30.2 = some (891) := by rw [e30]; rfl
  obtain ⟨M31, e31⟩ : ∃ z, z = ju M30 (1000) (.inr (11, (.int (nI 0) :: .int (nI 0) :: .int (nI 0) :: .int (-1) :: .int (nI 0) :: .int (nI 0) :: .int (nI 0) :: .int (nI 0) :: .int (nI 0) :: .int (nI 0) :: .int (nI 0) :: .ref (1001) :: .ref (1002) :: .ref (1003) :: .ref (1004) :: .ref (1005) :: .ref (1006) :: .ref (1007) :: .ref (1008) :: .ref (1009) :: .ref (1010) :: .ref (1011) :: .ref (1012) :: .ref (1013) :: .ref (1014) :: .ref (1015) :: .null :: .null :: .null :: .null :: .int (nI 0) :: .int (nI 0) :: .int (nI 0) :: .int (nI 0) :: .null :: []))) := ⟨_, rfl⟩
  refine Q_putFU (pc := 137) (fs := (.int (nI 0) :: .int (nI 0) :: .int (nI 0) :: .int (-1) :: .int (nI 0) :: .int (nI 0) :: .int (nI 0) :: .int (nI 0) :: .int (nI 0) :: .int (nI 0) :: .int (nI 0) :: .ref (1001) :: .ref (1002) :: .ref (1003) :: .ref (1004) :: .ref (1005) :: .ref (1006) :: .ref (1007) :: .ref (1008) :: .ref (1009) :: .ref (1010) :: .ref (1011) :: .ref (1012) :: .ref (1013) :: .ref (1014) :: .null :: .null :: .null :: .null :: .null :: .int (nI 0) :: .int (nI 0) :: .int (nI 0) :: .int (nI 0) :: .null :: [])) C hNm dX11_init_137 p_X11_56 f30_1000 (jlt rfl) rfl rfl e31.symm ?_
  have f31_1001 : M31.1 (1001) = some (nA (4000) (fun _ => 0)) := by rw [e31]; exact (ju_ne (by omega)).trans f30_1001
  have f31_1002 : M31.1 (1002) = some (nA (4000) (fun _ => 0)) := by rw [e31]; exact (ju_ne (by omega)).trans f30_1002
  have f31_1003 : M31.1 (1003) = some (nA (400) (fun _ => 0)) := by rw [e31]; exact (ju_ne (by omega)).trans f30_1003
  have f31_1004 : M31.1 (1004) = some (nA (144) (fun _ => 0)) := by rw [e31]; exact (ju_ne (by omega)).trans f30_1004
  have f31_1005 : M31.1 (1005) = some (nA (12) (fun _ => 0)) := by rw [e31]; exact (ju_ne (by omega)).trans f30_1005
  have f31_1006 : M31.1 (1006) = some (nA (720) (fun _ => 0)) := by rw [e31]; exact (ju_ne (by omega)).trans f30_1006
  have f31_1007 : M31.1 (1007) = some (nA (72) (fun _ => 0)) := by rw [e31]; exact (ju_ne (by omega)).trans f30_1007
  have f31_1008 : M31.1 (1008) = some (nA (720) (fun _ => 0)) := by rw [e31]; exact (ju_ne (by omega)).trans f30_1008
  have f31_1009 : M31.1 (1009) = some (nA (60) (fun _ => 0)) := by rw [e31]; exact (ju_ne (by omega)).trans f30_1009
  have f31_1010 : M31.1 (1010) = some (nA (60) (fun _ => 0)) := by rw [e31]; exact (ju_ne (by omega)).trans f30_1010
  have f31_1011 : M31.1 (1011) = some (nA (360) (fun _ => 0)) := by rw [e31]; exact (ju_ne (by omega)).trans f30_1011
  have f31_1012 : M31.1 (1012) = some (nA (360) (fun _ => 0)) := by rw [e31]; exact (ju_ne (by omega)).trans f30_1012
  have f31_1013 : M31.1 (1013) = some (nA (360) (fun _ => 0)) := by rw [e31]; exact (ju_ne (by omega)).trans f30_1013
  have f31_1014 : M31.1 (1014) = some (nA (1920) (fun _ => 0)) := by rw [e31]; exact (ju_ne (by omega)).trans f30_1014
  have f31_1015 : M31.1 (1015) = some (nA (1000) (fun _ => 0)) := by rw [e31]; exact (ju_ne (by omega)).trans f30_1015
  have f31_1000 : M31.1 (1000) = some (.inr (11, (.int (nI 0) :: .int (nI 0) :: .int (nI 0) :: .int (-1) :: .int (nI 0) :: .int (nI 0) :: .int (nI 0) :: .int (nI 0) :: .int (nI 0) :: .int (nI 0) :: .int (nI 0) :: .ref (1001) :: .ref (1002) :: .ref (1003) :: .ref (1004) :: .ref (1005) :: .ref (1006) :: .ref (1007) :: .ref (1008) :: .ref (1009) :: .ref (1010) :: .ref (1011) :: .ref (1012) :: .ref (1013) :: .ref (1014) :: .ref (1015) :: .null :: .null :: .null :: .null :: .int (nI 0) :: .int (nI 0) :: .int (nI 0) :: .int (nI 0) :: .null :: []))) := by rw [e31]; exact ju_eq
  have r31 : ∀ q, (q < 1000 ∨ 1021 ≤ q) → M31.1 q = M.1 q := fun q h => by rw [e31]; exact (ju_ne (by omega)).trans (r30 q h)
  have g31 : M31.2 = some (891) := by rw [e31]; exact g30
  refine Q_aload_n (pc := 140) C dX11_init_140 rfl rfl ?_
  refine Q_sipush (pc := 141) (v := nI 6000) C dX11_init_141 (by decide) ?_
  refine Q_newi (pc := 144) (k := 1016) (n := 891) (N := 6000) C dX11_init_144 a_int (by omega) g31 (by unfold jin; omega) (jr_hi (k := 16) (by omega)) (by simp only [jR]; try omega) (by simp only [jR]; try omega) ?_
  obtain ⟨M32, e32⟩ : ∃ z, z = jn M31 (1016) (nA (6000) (fun _ => 0)) (891) := ⟨_, rfl⟩
  rw [← e32]
  have f32_1000 : M32.1 (1000) = some (.inr (11, (.int (nI 0) :: .int (nI 0) :: .int (nI 0) :: .int (-1) :: .int (nI 0) :: .int (nI 0) :: .int (nI 0) :: .int (nI 0) :: .int (nI 0) :: .int (nI 0) :: .int (nI 0) :: .ref (1001) :: .ref (1002) :: .ref (1003) :: .ref (1004) :: .ref (1005) :: .ref (1006) :: .ref (1007) :: .ref (1008) :: .ref (1009) :: .ref (1010) :: .ref (1011) :: .ref (1012) :: .ref (1013) :: .ref (1014) :: .ref (1015) :: .null :: .null :: .null :: .null :: .int (nI 0) :: .int (nI 0) :: .int (nI 0) :: .int (nI 0) :: .null :: []))) := by rw [e32]; exact (jn_ne (by omega)).trans f31_1000
  have f32_1001 : M32.1 (1001) = some (nA (4000) (fun _ => 0)) := by rw [e32]; exact (jn_ne (by omega)).trans f31_1001
  have f32_1002 : M32.1 (1002) = some (nA (4000) (fun _ => 0)) := by rw [e32]; exact (jn_ne (by omega)).trans f31_1002
  have f32_1003 : M32.1 (1003) = some (nA (400) (fun _ => 0)) := by rw [e32]; exact (jn_ne (by omega)).trans f31_1003
  have f32_1004 : M32.1 (1004) = some (nA (144) (fun _ => 0)) := by rw [e32]; exact (jn_ne (by omega)).trans f31_1004
  have f32_1005 : M32.1 (1005) = some (nA (12) (fun _ => 0)) := by rw [e32]; exact (jn_ne (by omega)).trans f31_1005
  have f32_1006 : M32.1 (1006) = some (nA (720) (fun _ => 0)) := by rw [e32]; exact (jn_ne (by omega)).trans f31_1006
  have f32_1007 : M32.1 (1007) = some (nA (72) (fun _ => 0)) := by rw [e32]; exact (jn_ne (by omega)).trans f31_1007
  have f32_1008 : M32.1 (1008) = some (nA (720) (fun _ => 0)) := by rw [e32]; exact (jn_ne (by omega)).trans f31_1008
  have f32_1009 : M32.1 (1009) = some (nA (60) (fun _ => 0)) := by rw [e32]; exact (jn_ne (by omega)).trans f31_1009
  have f32_1010 : M32.1 (1010) = some (nA (60) (fun _ => 0)) := by rw [e32]; exact (jn_ne (by omega)).trans f31_1010
  have f32_1011 : M32.1 (1011) = some (nA (360) (fun _ => 0)) := by rw [e32]; exact (jn_ne (by omega)).trans f31_1011
  have f32_1012 : M32.1 (1012) = some (nA (360) (fun _ => 0)) := by rw [e32]; exact (jn_ne (by omega)).trans f31_1012
  have f32_1013 : M32.1 (1013) = some (nA (360) (fun _ => 0)) := by rw [e32]; exact (jn_ne (by omega)).trans f31_1013
  have f32_1014 : M32.1 (1014) = some (nA (1920) (fun _ => 0)) := by rw [e32]; exact (jn_ne (by omega)).trans f31_1014
  have f32_1015 : M32.1 (1015) = some (nA (1000) (fun _ => 0)) := by rw [e32]; exact (jn_ne (by omega)).trans f31_1015
  have f32_1016 : M32.1 (1016) = some (nA (6000) (fun _ => 0)) := by rw [e32]; exact jn_eq
  have r32 : ∀ q, (q < 1000 ∨ 1021 ≤ q) → M32.1 q = M.1 q := fun q h => by rw [e32]; exact (jn_ne (by omega)).trans (r31 q h)
  have g32 : M32.2 = some (892) := by rw [e32]; rfl
  obtain ⟨M33, e33⟩ : ∃ z, z = ju M32 (1000) (.inr (11, (.int (nI 0) :: .int (nI 0) :: .int (nI 0) :: .int (-1) :: .int (nI 0) :: .int (nI 0) :: .int (nI 0) :: .int (nI 0) :: .int (nI 0) :: .int (nI 0) :: .int (nI 0) :: .ref (1001) :: .ref (1002) :: .ref (1003) :: .ref (1004) :: .ref (1005) :: .ref (1006) :: .ref (1007) :: .ref (1008) :: .ref (1009) :: .ref (1010) :: .ref (1011) :: .ref (1012) :: .ref (1013) :: .ref (1014) :: .ref (1015) :: .ref (1016) :: .null :: .null :: .null :: .int (nI 0) :: .int (nI 0) :: .int (nI 0) :: .int (nI 0) :: .null :: []))) := ⟨_, rfl⟩
  refine Q_putFU (pc := 146) (fs := (.int (nI 0) :: .int (nI 0) :: .int (nI 0) :: .int (-1) :: .int (nI 0) :: .int (nI 0) :: .int (nI 0) :: .int (nI 0) :: .int (nI 0) :: .int (nI 0) :: .int (nI 0) :: .ref (1001) :: .ref (1002) :: .ref (1003) :: .ref (1004) :: .ref (1005) :: .ref (1006) :: .ref (1007) :: .ref (1008) :: .ref (1009) :: .ref (1010) :: .ref (1011) :: .ref (1012) :: .ref (1013) :: .ref (1014) :: .ref (1015) :: .null :: .null :: .null :: .null :: .int (nI 0) :: .int (nI 0) :: .int (nI 0) :: .int (nI 0) :: .null :: [])) C hNm dX11_init_146 p_X11_59 f32_1000 (jlt rfl) rfl rfl e33.symm ?_
  have f33_1001 : M33.1 (1001) = some (nA (4000) (fun _ => 0)) := by rw [e33]; exact (ju_ne (by omega)).trans f32_1001
  have f33_1002 : M33.1 (1002) = some (nA (4000) (fun _ => 0)) := by rw [e33]; exact (ju_ne (by omega)).trans f32_1002
  have f33_1003 : M33.1 (1003) = some (nA (400) (fun _ => 0)) := by rw [e33]; exact (ju_ne (by omega)).trans f32_1003
  have f33_1004 : M33.1 (1004) = some (nA (144) (fun _ => 0)) := by rw [e33]; exact (ju_ne (by omega)).trans f32_1004
  have f33_1005 : M33.1 (1005) = some (nA (12) (fun _ => 0)) := by rw [e33]; exact (ju_ne (by omega)).trans f32_1005
  have f33_1006 : M33.1 (1006) = some (nA (720) (fun _ => 0)) := by rw [e33]; exact (ju_ne (by omega)).trans f32_1006
  have f33_1007 : M33.1 (1007) = some (nA (72) (fun _ => 0)) := by rw [e33]; exact (ju_ne (by omega)).trans f32_1007
  have f33_1008 : M33.1 (1008) = some (nA (720) (fun _ => 0)) := by rw [e33]; exact (ju_ne (by omega)).trans f32_1008
  have f33_1009 : M33.1 (1009) = some (nA (60) (fun _ => 0)) := by rw [e33]; exact (ju_ne (by omega)).trans f32_1009
  have f33_1010 : M33.1 (1010) = some (nA (60) (fun _ => 0)) := by rw [e33]; exact (ju_ne (by omega)).trans f32_1010
  have f33_1011 : M33.1 (1011) = some (nA (360) (fun _ => 0)) := by rw [e33]; exact (ju_ne (by omega)).trans f32_1011
  have f33_1012 : M33.1 (1012) = some (nA (360) (fun _ => 0)) := by rw [e33]; exact (ju_ne (by omega)).trans f32_1012
  have f33_1013 : M33.1 (1013) = some (nA (360) (fun _ => 0)) := by rw [e33]; exact (ju_ne (by omega)).trans f32_1013
  have f33_1014 : M33.1 (1014) = some (nA (1920) (fun _ => 0)) := by rw [e33]; exact (ju_ne (by omega)).trans f32_1014
  have f33_1015 : M33.1 (1015) = some (nA (1000) (fun _ => 0)) := by rw [e33]; exact (ju_ne (by omega)).trans f32_1015
  have f33_1016 : M33.1 (1016) = some (nA (6000) (fun _ => 0)) := by rw [e33]; exact (ju_ne (by omega)).trans f32_1016
  have f33_1000 : M33.1 (1000) = some (.inr (11, (.int (nI 0) :: .int (nI 0) :: .int (nI 0) :: .int (-1) :: .int (nI 0) :: .int (nI 0) :: .int (nI 0) :: .int (nI 0) :: .int (nI 0) :: .int (nI 0) :: .int (nI 0) :: .ref (1001) :: .ref (1002) :: .ref (1003) :: .ref (1004) :: .ref (1005) :: .ref (1006) :: .ref (1007) :: .ref (1008) :: .ref (1009) :: .ref (1010) :: .ref (1011) :: .ref (1012) :: .ref (1013) :: .ref (1014) :: .ref (1015) :: .ref (1016) :: .null :: .null :: .null :: .int (nI 0) :: .int (nI 0) :: .int (nI 0) :: .int (nI 0) :: .null :: []))) := by rw [e33]; exact ju_eq
  have r33 : ∀ q, (q < 1000 ∨ 1021 ≤ q) → M33.1 q = M.1 q := fun q h => by rw [e33]; exact (ju_ne (by omega)).trans (r32 q h)
  have g33 : M33.2 = some (892) := by rw [e33]; exact g32
  refine Q_aload_n (pc := 149) C dX11_init_149 rfl rfl ?_
  refine Q_sipush (pc := 150) (v := nI 6000) C dX11_init_150 (by decide) ?_
  refine Q_newi (pc := 153) (k := 1017) (n := 892) (N := 6000) C dX11_init_153 a_int (by omega) g33 (by unfold jin; omega) (jr_hi (k := 17) (by omega)) (by simp only [jR]; try omega) (by simp only [jR]; try omega) ?_
  obtain ⟨M34, e34⟩ : ∃ z, z = jn M33 (1017) (nA (6000) (fun _ => 0)) (892) := ⟨_, rfl⟩
  rw [← e34]
  have f34_1000 : M34.1 (1000) = some (.inr (11, (.int (nI 0) :: .int (nI 0) :: .int (nI 0) :: .int (-1) :: .int (nI 0) :: .int (nI 0) :: .int (nI 0) :: .int (nI 0) :: .int (nI 0) :: .int (nI 0) :: .int (nI 0) :: .ref (1001) :: .ref (1002) :: .ref (1003) :: .ref (1004) :: .ref (1005) :: .ref (1006) :: .ref (1007) :: .ref (1008) :: .ref (1009) :: .ref (1010) :: .ref (1011) :: .ref (1012) :: .ref (1013) :: .ref (1014) :: .ref (1015) :: .ref (1016) :: .null :: .null :: .null :: .int (nI 0) :: .int (nI 0) :: .int (nI 0) :: .int (nI 0) :: .null :: []))) := by rw [e34]; exact (jn_ne (by omega)).trans f33_1000
  have f34_1001 : M34.1 (1001) = some (nA (4000) (fun _ => 0)) := by rw [e34]; exact (jn_ne (by omega)).trans f33_1001
  have f34_1002 : M34.1 (1002) = some (nA (4000) (fun _ => 0)) := by rw [e34]; exact (jn_ne (by omega)).trans f33_1002
  have f34_1003 : M34.1 (1003) = some (nA (400) (fun _ => 0)) := by rw [e34]; exact (jn_ne (by omega)).trans f33_1003
  have f34_1004 : M34.1 (1004) = some (nA (144) (fun _ => 0)) := by rw [e34]; exact (jn_ne (by omega)).trans f33_1004
  have f34_1005 : M34.1 (1005) = some (nA (12) (fun _ => 0)) := by rw [e34]; exact (jn_ne (by omega)).trans f33_1005
  have f34_1006 : M34.1 (1006) = some (nA (720) (fun _ => 0)) := by rw [e34]; exact (jn_ne (by omega)).trans f33_1006
  have f34_1007 : M34.1 (1007) = some (nA (72) (fun _ => 0)) := by rw [e34]; exact (jn_ne (by omega)).trans f33_1007
  have f34_1008 : M34.1 (1008) = some (nA (720) (fun _ => 0)) := by rw [e34]; exact (jn_ne (by omega)).trans f33_1008
  have f34_1009 : M34.1 (1009) = some (nA (60) (fun _ => 0)) := by rw [e34]; exact (jn_ne (by omega)).trans f33_1009
  have f34_1010 : M34.1 (1010) = some (nA (60) (fun _ => 0)) := by rw [e34]; exact (jn_ne (by omega)).trans f33_1010
  have f34_1011 : M34.1 (1011) = some (nA (360) (fun _ => 0)) := by rw [e34]; exact (jn_ne (by omega)).trans f33_1011
  have f34_1012 : M34.1 (1012) = some (nA (360) (fun _ => 0)) := by rw [e34]; exact (jn_ne (by omega)).trans f33_1012
  have f34_1013 : M34.1 (1013) = some (nA (360) (fun _ => 0)) := by rw [e34]; exact (jn_ne (by omega)).trans f33_1013
  have f34_1014 : M34.1 (1014) = some (nA (1920) (fun _ => 0)) := by rw [e34]; exact (jn_ne (by omega)).trans f33_1014
  have f34_1015 : M34.1 (1015) = some (nA (1000) (fun _ => 0)) := by rw [e34]; exact (jn_ne (by omega)).trans f33_1015
  have f34_1016 : M34.1 (1016) = some (nA (6000) (fun _ => 0)) := by rw [e34]; exact (jn_ne (by omega)).trans f33_1016
  have f34_1017 : M34.1 (1017) = some (nA (6000) (fun _ => 0)) := by rw [e34]; exact jn_eq
  have r34 : ∀ q, (q < 1000 ∨ 1021 ≤ q) → M34.1 q = M.1 q := fun q h => by rw [e34]; exact (jn_ne (by omega)).trans (r33 q h)
  have g34 : M34.2 = some (893) := by rw [e34]; rfl
  obtain ⟨M35, e35⟩ : ∃ z, z = ju M34 (1000) (.inr (11, (.int (nI 0) :: .int (nI 0) :: .int (nI 0) :: .int (-1) :: .int (nI 0) :: .int (nI 0) :: .int (nI 0) :: .int (nI 0) :: .int (nI 0) :: .int (nI 0) :: .int (nI 0) :: .ref (1001) :: .ref (1002) :: .ref (1003) :: .ref (1004) :: .ref (1005) :: .ref (1006) :: .ref (1007) :: .ref (1008) :: .ref (1009) :: .ref (1010) :: .ref (1011) :: .ref (1012) :: .ref (1013) :: .ref (1014) :: .ref (1015) :: .ref (1016) :: .ref (1017) :: .null :: .null :: .int (nI 0) :: .int (nI 0) :: .int (nI 0) :: .int (nI 0) :: .null :: []))) := ⟨_, rfl⟩
  refine Q_putFU (pc := 155) (fs := (.int (nI 0) :: .int (nI 0) :: .int (nI 0) :: .int (-1) :: .int (nI 0) :: .int (nI 0) :: .int (nI 0) :: .int (nI 0) :: .int (nI 0) :: .int (nI 0) :: .int (nI 0) :: .ref (1001) :: .ref (1002) :: .ref (1003) :: .ref (1004) :: .ref (1005) :: .ref (1006) :: .ref (1007) :: .ref (1008) :: .ref (1009) :: .ref (1010) :: .ref (1011) :: .ref (1012) :: .ref (1013) :: .ref (1014) :: .ref (1015) :: .ref (1016) :: .null :: .null :: .null :: .int (nI 0) :: .int (nI 0) :: .int (nI 0) :: .int (nI 0) :: .null :: [])) C hNm dX11_init_155 p_X11_62 f34_1000 (jlt rfl) rfl rfl e35.symm ?_
  have f35_1001 : M35.1 (1001) = some (nA (4000) (fun _ => 0)) := by rw [e35]; exact (ju_ne (by omega)).trans f34_1001
  have f35_1002 : M35.1 (1002) = some (nA (4000) (fun _ => 0)) := by rw [e35]; exact (ju_ne (by omega)).trans f34_1002
  have f35_1003 : M35.1 (1003) = some (nA (400) (fun _ => 0)) := by rw [e35]; exact (ju_ne (by omega)).trans f34_1003
  have f35_1004 : M35.1 (1004) = some (nA (144) (fun _ => 0)) := by rw [e35]; exact (ju_ne (by omega)).trans f34_1004
  have f35_1005 : M35.1 (1005) = some (nA (12) (fun _ => 0)) := by rw [e35]; exact (ju_ne (by omega)).trans f34_1005
  have f35_1006 : M35.1 (1006) = some (nA (720) (fun _ => 0)) := by rw [e35]; exact (ju_ne (by omega)).trans f34_1006
  have f35_1007 : M35.1 (1007) = some (nA (72) (fun _ => 0)) := by rw [e35]; exact (ju_ne (by omega)).trans f34_1007
  have f35_1008 : M35.1 (1008) = some (nA (720) (fun _ => 0)) := by rw [e35]; exact (ju_ne (by omega)).trans f34_1008
  have f35_1009 : M35.1 (1009) = some (nA (60) (fun _ => 0)) := by rw [e35]; exact (ju_ne (by omega)).trans f34_1009
  have f35_1010 : M35.1 (1010) = some (nA (60) (fun _ => 0)) := by rw [e35]; exact (ju_ne (by omega)).trans f34_1010
  have f35_1011 : M35.1 (1011) = some (nA (360) (fun _ => 0)) := by rw [e35]; exact (ju_ne (by omega)).trans f34_1011
  have f35_1012 : M35.1 (1012) = some (nA (360) (fun _ => 0)) := by rw [e35]; exact (ju_ne (by omega)).trans f34_1012
  have f35_1013 : M35.1 (1013) = some (nA (360) (fun _ => 0)) := by rw [e35]; exact (ju_ne (by omega)).trans f34_1013
  have f35_1014 : M35.1 (1014) = some (nA (1920) (fun _ => 0)) := by rw [e35]; exact (ju_ne (by omega)).trans f34_1014
  have f35_1015 : M35.1 (1015) = some (nA (1000) (fun _ => 0)) := by rw [e35]; exact (ju_ne (by omega)).trans f34_1015
  have f35_1016 : M35.1 (1016) = some (nA (6000) (fun _ => 0)) := by rw [e35]; exact (ju_ne (by omega)).trans f34_1016
  have f35_1017 : M35.1 (1017) = some (nA (6000) (fun _ => 0)) := by rw [e35]; exact (ju_ne (by omega)).trans f34_1017
  have f35_1000 : M35.1 (1000) = some (.inr (11, (.int (nI 0) :: .int (nI 0) :: .int (nI 0) :: .int (-1) :: .int (nI 0) :: .int (nI 0) :: .int (nI 0) :: .int (nI 0) :: .int (nI 0) :: .int (nI 0) :: .int (nI 0) :: .ref (1001) :: .ref (1002) :: .ref (1003) :: .ref (1004) :: .ref (1005) :: .ref (1006) :: .ref (1007) :: .ref (1008) :: .ref (1009) :: .ref (1010) :: .ref (1011) :: .ref (1012) :: .ref (1013) :: .ref (1014) :: .ref (1015) :: .ref (1016) :: .ref (1017) :: .null :: .null :: .int (nI 0) :: .int (nI 0) :: .int (nI 0) :: .int (nI 0) :: .null :: []))) := by rw [e35]; exact ju_eq
  have r35 : ∀ q, (q < 1000 ∨ 1021 ≤ q) → M35.1 q = M.1 q := fun q h => by rw [e35]; exact (ju_ne (by omega)).trans (r34 q h)
  have g35 : M35.2 = some (893) := by rw [e35]; exact g34
  refine Q_aload_n (pc := 158) C dX11_init_158 rfl rfl ?_
  refine Q_sipush (pc := 159) (v := nI 6000) C dX11_init_159 (by decide) ?_
  refine Q_newi (pc := 162) (k := 1018) (n := 893) (N := 6000) C dX11_init_162 a_int (by omega) g35 (by unfold jin; omega) (jr_hi (k := 18) (by omega)) (by simp only [jR]; try omega) (by simp only [jR]; try omega) ?_
  obtain ⟨M36, e36⟩ : ∃ z, z = jn M35 (1018) (nA (6000) (fun _ => 0)) (893) := ⟨_, rfl⟩
  rw [← e36]
  have f36_1000 : M36.1 (1000) = some (.inr (11, (.int (nI 0) :: .int (nI 0) :: .int (nI 0) :: .int (-1) :: .int (nI 0) :: .int (nI 0) :: .int (nI 0) :: .int (nI 0) :: .int (nI 0) :: .int (nI 0) :: .int (nI 0) :: .ref (1001) :: .ref (1002) :: .ref (1003) :: .ref (1004) :: .ref (1005) :: .ref (1006) :: .ref (1007) :: .ref (1008) :: .ref (1009) :: .ref (1010) :: .ref (1011) :: .ref (1012) :: .ref (1013) :: .ref (1014) :: .ref (1015) :: .ref (1016) :: .ref (1017) :: .null :: .null :: .int (nI 0) :: .int (nI 0) :: .int (nI 0) :: .int (nI 0) :: .null :: []))) := by rw [e36]; exact (jn_ne (by omega)).trans f35_1000
  have f36_1001 : M36.1 (1001) = some (nA (4000) (fun _ => 0)) := by rw [e36]; exact (jn_ne (by omega)).trans f35_1001
  have f36_1002 : M36.1 (1002) = some (nA (4000) (fun _ => 0)) := by rw [e36]; exact (jn_ne (by omega)).trans f35_1002
  have f36_1003 : M36.1 (1003) = some (nA (400) (fun _ => 0)) := by rw [e36]; exact (jn_ne (by omega)).trans f35_1003
  have f36_1004 : M36.1 (1004) = some (nA (144) (fun _ => 0)) := by rw [e36]; exact (jn_ne (by omega)).trans f35_1004
  have f36_1005 : M36.1 (1005) = some (nA (12) (fun _ => 0)) := by rw [e36]; exact (jn_ne (by omega)).trans f35_1005
  have f36_1006 : M36.1 (1006) = some (nA (720) (fun _ => 0)) := by rw [e36]; exact (jn_ne (by omega)).trans f35_1006
  have f36_1007 : M36.1 (1007) = some (nA (72) (fun _ => 0)) := by rw [e36]; exact (jn_ne (by omega)).trans f35_1007
  have f36_1008 : M36.1 (1008) = some (nA (720) (fun _ => 0)) := by rw [e36]; exact (jn_ne (by omega)).trans f35_1008
  have f36_1009 : M36.1 (1009) = some (nA (60) (fun _ => 0)) := by rw [e36]; exact (jn_ne (by omega)).trans f35_1009
  have f36_1010 : M36.1 (1010) = some (nA (60) (fun _ => 0)) := by rw [e36]; exact (jn_ne (by omega)).trans f35_1010
  have f36_1011 : M36.1 (1011) = some (nA (360) (fun _ => 0)) := by rw [e36]; exact (jn_ne (by omega)).trans f35_1011
  have f36_1012 : M36.1 (1012) = some (nA (360) (fun _ => 0)) := by rw [e36]; exact (jn_ne (by omega)).trans f35_1012
  have f36_1013 : M36.1 (1013) = some (nA (360) (fun _ => 0)) := by rw [e36]; exact (jn_ne (by omega)).trans f35_1013
  have f36_1014 : M36.1 (1014) = some (nA (1920) (fun _ => 0)) := by rw [e36]; exact (jn_ne (by omega)).trans f35_1014
  have f36_1015 : M36.1 (1015) = some (nA (1000) (fun _ => 0)) := by rw [e36]; exact (jn_ne (by omega)).trans f35_1015
  have f36_1016 : M36.1 (1016) = some (nA (6000) (fun _ => 0)) := by rw [e36]; exact (jn_ne (by omega)).trans f35_1016
  have f36_1017 : M36.1 (1017) = some (nA (6000) (fun _ => 0)) := by rw [e36]; exact (jn_ne (by omega)).trans f35_1017
  have f36_1018 : M36.1 (1018) = some (nA (6000) (fun _ => 0)) := by rw [e36]; exact jn_eq
  have r36 : ∀ q, (q < 1000 ∨ 1021 ≤ q) → M36.1 q = M.1 q := fun q h => by rw [e36]; exact (jn_ne (by omega)).trans (r35 q h)
  have g36 : M36.2 = some (894) := by rw [e36]; rfl
  obtain ⟨M37, e37⟩ : ∃ z, z = ju M36 (1000) (.inr (11, (.int (nI 0) :: .int (nI 0) :: .int (nI 0) :: .int (-1) :: .int (nI 0) :: .int (nI 0) :: .int (nI 0) :: .int (nI 0) :: .int (nI 0) :: .int (nI 0) :: .int (nI 0) :: .ref (1001) :: .ref (1002) :: .ref (1003) :: .ref (1004) :: .ref (1005) :: .ref (1006) :: .ref (1007) :: .ref (1008) :: .ref (1009) :: .ref (1010) :: .ref (1011) :: .ref (1012) :: .ref (1013) :: .ref (1014) :: .ref (1015) :: .ref (1016) :: .ref (1017) :: .ref (1018) :: .null :: .int (nI 0) :: .int (nI 0) :: .int (nI 0) :: .int (nI 0) :: .null :: []))) := ⟨_, rfl⟩
  refine Q_putFU (pc := 164) (fs := (.int (nI 0) :: .int (nI 0) :: .int (nI 0) :: .int (-1) :: .int (nI 0) :: .int (nI 0) :: .int (nI 0) :: .int (nI 0) :: .int (nI 0) :: .int (nI 0) :: .int (nI 0) :: .ref (1001) :: .ref (1002) :: .ref (1003) :: .ref (1004) :: .ref (1005) :: .ref (1006) :: .ref (1007) :: .ref (1008) :: .ref (1009) :: .ref (1010) :: .ref (1011) :: .ref (1012) :: .ref (1013) :: .ref (1014) :: .ref (1015) :: .ref (1016) :: .ref (1017) :: .null :: .null :: .int (nI 0) :: .int (nI 0) :: .int (nI 0) :: .int (nI 0) :: .null :: [])) C hNm dX11_init_164 p_X11_65 f36_1000 (jlt rfl) rfl rfl e37.symm ?_
  have f37_1001 : M37.1 (1001) = some (nA (4000) (fun _ => 0)) := by rw [e37]; exact (ju_ne (by omega)).trans f36_1001
  have f37_1002 : M37.1 (1002) = some (nA (4000) (fun _ => 0)) := by rw [e37]; exact (ju_ne (by omega)).trans f36_1002
  have f37_1003 : M37.1 (1003) = some (nA (400) (fun _ => 0)) := by rw [e37]; exact (ju_ne (by omega)).trans f36_1003
  have f37_1004 : M37.1 (1004) = some (nA (144) (fun _ => 0)) := by rw [e37]; exact (ju_ne (by omega)).trans f36_1004
  have f37_1005 : M37.1 (1005) = some (nA (12) (fun _ => 0)) := by rw [e37]; exact (ju_ne (by omega)).trans f36_1005
  have f37_1006 : M37.1 (1006) = some (nA (720) (fun _ => 0)) := by rw [e37]; exact (ju_ne (by omega)).trans f36_1006
  have f37_1007 : M37.1 (1007) = some (nA (72) (fun _ => 0)) := by rw [e37]; exact (ju_ne (by omega)).trans f36_1007
  have f37_1008 : M37.1 (1008) = some (nA (720) (fun _ => 0)) := by rw [e37]; exact (ju_ne (by omega)).trans f36_1008
  have f37_1009 : M37.1 (1009) = some (nA (60) (fun _ => 0)) := by rw [e37]; exact (ju_ne (by omega)).trans f36_1009
  have f37_1010 : M37.1 (1010) = some (nA (60) (fun _ => 0)) := by rw [e37]; exact (ju_ne (by omega)).trans f36_1010
  have f37_1011 : M37.1 (1011) = some (nA (360) (fun _ => 0)) := by rw [e37]; exact (ju_ne (by omega)).trans f36_1011
  have f37_1012 : M37.1 (1012) = some (nA (360) (fun _ => 0)) := by rw [e37]; exact (ju_ne (by omega)).trans f36_1012
  have f37_1013 : M37.1 (1013) = some (nA (360) (fun _ => 0)) := by rw [e37]; exact (ju_ne (by omega)).trans f36_1013
  have f37_1014 : M37.1 (1014) = some (nA (1920) (fun _ => 0)) := by rw [e37]; exact (ju_ne (by omega)).trans f36_1014
  have f37_1015 : M37.1 (1015) = some (nA (1000) (fun _ => 0)) := by rw [e37]; exact (ju_ne (by omega)).trans f36_1015
  have f37_1016 : M37.1 (1016) = some (nA (6000) (fun _ => 0)) := by rw [e37]; exact (ju_ne (by omega)).trans f36_1016
  have f37_1017 : M37.1 (1017) = some (nA (6000) (fun _ => 0)) := by rw [e37]; exact (ju_ne (by omega)).trans f36_1017
  have f37_1018 : M37.1 (1018) = some (nA (6000) (fun _ => 0)) := by rw [e37]; exact (ju_ne (by omega)).trans f36_1018
  have f37_1000 : M37.1 (1000) = some (.inr (11, (.int (nI 0) :: .int (nI 0) :: .int (nI 0) :: .int (-1) :: .int (nI 0) :: .int (nI 0) :: .int (nI 0) :: .int (nI 0) :: .int (nI 0) :: .int (nI 0) :: .int (nI 0) :: .ref (1001) :: .ref (1002) :: .ref (1003) :: .ref (1004) :: .ref (1005) :: .ref (1006) :: .ref (1007) :: .ref (1008) :: .ref (1009) :: .ref (1010) :: .ref (1011) :: .ref (1012) :: .ref (1013) :: .ref (1014) :: .ref (1015) :: .ref (1016) :: .ref (1017) :: .ref (1018) :: .null :: .int (nI 0) :: .int (nI 0) :: .int (nI 0) :: .int (nI 0) :: .null :: []))) := by rw [e37]; exact ju_eq
  have r37 : ∀ q, (q < 1000 ∨ 1021 ≤ q) → M37.1 q = M.1 q := fun q h => by rw [e37]; exact (ju_ne (by omega)).trans (r36 q h)
  have g37 : M37.2 = some (894) := by rw [e37]; exact g36
  refine Q_aload_n (pc := 167) C dX11_init_167 rfl rfl ?_
  refine Q_sipush (pc := 168) (v := nI 6000) C dX11_init_168 (by decide) ?_
  refine Q_newi (pc := 171) (k := 1019) (n := 894) (N := 6000) C dX11_init_171 a_int (by omega) g37 (by unfold jin; omega) (jr_hi (k := 19) (by omega)) (by simp only [jR]; try omega) (by simp only [jR]; try omega) ?_
  obtain ⟨M38, e38⟩ : ∃ z, z = jn M37 (1019) (nA (6000) (fun _ => 0)) (894) := ⟨_, rfl⟩
  rw [← e38]
  have f38_1000 : M38.1 (1000) = some (.inr (11, (.int (nI 0) :: .int (nI 0) :: .int (nI 0) :: .int (-1) :: .int (nI 0) :: .int (nI 0) :: .int (nI 0) :: .int (nI 0) :: .int (nI 0) :: .int (nI 0) :: .int (nI 0) :: .ref (1001) :: .ref (1002) :: .ref (1003) :: .ref (1004) :: .ref (1005) :: .ref (1006) :: .ref (1007) :: .ref (1008) :: .ref (1009) :: .ref (1010) :: .ref (1011) :: .ref (1012) :: .ref (1013) :: .ref (1014) :: .ref (1015) :: .ref (1016) :: .ref (1017) :: .ref (1018) :: .null :: .int (nI 0) :: .int (nI 0) :: .int (nI 0) :: .int (nI 0) :: .null :: []))) := by rw [e38]; exact (jn_ne (by omega)).trans f37_1000
  have f38_1001 : M38.1 (1001) = some (nA (4000) (fun _ => 0)) := by rw [e38]; exact (jn_ne (by omega)).trans f37_1001
  have f38_1002 : M38.1 (1002) = some (nA (4000) (fun _ => 0)) := by rw [e38]; exact (jn_ne (by omega)).trans f37_1002
  have f38_1003 : M38.1 (1003) = some (nA (400) (fun _ => 0)) := by rw [e38]; exact (jn_ne (by omega)).trans f37_1003
  have f38_1004 : M38.1 (1004) = some (nA (144) (fun _ => 0)) := by rw [e38]; exact (jn_ne (by omega)).trans f37_1004
  have f38_1005 : M38.1 (1005) = some (nA (12) (fun _ => 0)) := by rw [e38]; exact (jn_ne (by omega)).trans f37_1005
  have f38_1006 : M38.1 (1006) = some (nA (720) (fun _ => 0)) := by rw [e38]; exact (jn_ne (by omega)).trans f37_1006
  have f38_1007 : M38.1 (1007) = some (nA (72) (fun _ => 0)) := by rw [e38]; exact (jn_ne (by omega)).trans f37_1007
  have f38_1008 : M38.1 (1008) = some (nA (720) (fun _ => 0)) := by rw [e38]; exact (jn_ne (by omega)).trans f37_1008
  have f38_1009 : M38.1 (1009) = some (nA (60) (fun _ => 0)) := by rw [e38]; exact (jn_ne (by omega)).trans f37_1009
  have f38_1010 : M38.1 (1010) = some (nA (60) (fun _ => 0)) := by rw [e38]; exact (jn_ne (by omega)).trans f37_1010
  have f38_1011 : M38.1 (1011) = some (nA (360) (fun _ => 0)) := by rw [e38]; exact (jn_ne (by omega)).trans f37_1011
  have f38_1012 : M38.1 (1012) = some (nA (360) (fun _ => 0)) := by rw [e38]; exact (jn_ne (by omega)).trans f37_1012
  have f38_1013 : M38.1 (1013) = some (nA (360) (fun _ => 0)) := by rw [e38]; exact (jn_ne (by omega)).trans f37_1013
  have f38_1014 : M38.1 (1014) = some (nA (1920) (fun _ => 0)) := by rw [e38]; exact (jn_ne (by omega)).trans f37_1014
  have f38_1015 : M38.1 (1015) = some (nA (1000) (fun _ => 0)) := by rw [e38]; exact (jn_ne (by omega)).trans f37_1015
  have f38_1016 : M38.1 (1016) = some (nA (6000) (fun _ => 0)) := by rw [e38]; exact (jn_ne (by omega)).trans f37_1016
  have f38_1017 : M38.1 (1017) = some (nA (6000) (fun _ => 0)) := by rw [e38]; exact (jn_ne (by omega)).trans f37_1017
  have f38_1018 : M38.1 (1018) = some (nA (6000) (fun _ => 0)) := by rw [e38]; exact (jn_ne (by omega)).trans f37_1018
  have f38_1019 : M38.1 (1019) = some (nA (6000) (fun _ => 0)) := by rw [e38]; exact jn_eq
  have r38 : ∀ q, (q < 1000 ∨ 1021 ≤ q) → M38.1 q = M.1 q := fun q h => by rw [e38]; exact (jn_ne (by omega)).trans (r37 q h)
  have g38 : M38.2 = some (895) := by rw [e38]; rfl
  obtain ⟨M39, e39⟩ : ∃ z, z = ju M38 (1000) (.inr (11, (.int (nI 0) :: .int (nI 0) :: .int (nI 0) :: .int (-1) :: .int (nI 0) :: .int (nI 0) :: .int (nI 0) :: .int (nI 0) :: .int (nI 0) :: .int (nI 0) :: .int (nI 0) :: .ref (1001) :: .ref (1002) :: .ref (1003) :: .ref (1004) :: .ref (1005) :: .ref (1006) :: .ref (1007) :: .ref (1008) :: .ref (1009) :: .ref (1010) :: .ref (1011) :: .ref (1012) :: .ref (1013) :: .ref (1014) :: .ref (1015) :: .ref (1016) :: .ref (1017) :: .ref (1018) :: .ref (1019) :: .int (nI 0) :: .int (nI 0) :: .int (nI 0) :: .int (nI 0) :: .null :: []))) := ⟨_, rfl⟩
  refine Q_putFU (pc := 173) (fs := (.int (nI 0) :: .int (nI 0) :: .int (nI 0) :: .int (-1) :: .int (nI 0) :: .int (nI 0) :: .int (nI 0) :: .int (nI 0) :: .int (nI 0) :: .int (nI 0) :: .int (nI 0) :: .ref (1001) :: .ref (1002) :: .ref (1003) :: .ref (1004) :: .ref (1005) :: .ref (1006) :: .ref (1007) :: .ref (1008) :: .ref (1009) :: .ref (1010) :: .ref (1011) :: .ref (1012) :: .ref (1013) :: .ref (1014) :: .ref (1015) :: .ref (1016) :: .ref (1017) :: .ref (1018) :: .null :: .int (nI 0) :: .int (nI 0) :: .int (nI 0) :: .int (nI 0) :: .null :: [])) C hNm dX11_init_173 p_X11_68 f38_1000 (jlt rfl) rfl rfl e39.symm ?_
  have f39_1001 : M39.1 (1001) = some (nA (4000) (fun _ => 0)) := by rw [e39]; exact (ju_ne (by omega)).trans f38_1001
  have f39_1002 : M39.1 (1002) = some (nA (4000) (fun _ => 0)) := by rw [e39]; exact (ju_ne (by omega)).trans f38_1002
  have f39_1003 : M39.1 (1003) = some (nA (400) (fun _ => 0)) := by rw [e39]; exact (ju_ne (by omega)).trans f38_1003
  have f39_1004 : M39.1 (1004) = some (nA (144) (fun _ => 0)) := by rw [e39]; exact (ju_ne (by omega)).trans f38_1004
  have f39_1005 : M39.1 (1005) = some (nA (12) (fun _ => 0)) := by rw [e39]; exact (ju_ne (by omega)).trans f38_1005
  have f39_1006 : M39.1 (1006) = some (nA (720) (fun _ => 0)) := by rw [e39]; exact (ju_ne (by omega)).trans f38_1006
  have f39_1007 : M39.1 (1007) = some (nA (72) (fun _ => 0)) := by rw [e39]; exact (ju_ne (by omega)).trans f38_1007
  have f39_1008 : M39.1 (1008) = some (nA (720) (fun _ => 0)) := by rw [e39]; exact (ju_ne (by omega)).trans f38_1008
  have f39_1009 : M39.1 (1009) = some (nA (60) (fun _ => 0)) := by rw [e39]; exact (ju_ne (by omega)).trans f38_1009
  have f39_1010 : M39.1 (1010) = some (nA (60) (fun _ => 0)) := by rw [e39]; exact (ju_ne (by omega)).trans f38_1010
  have f39_1011 : M39.1 (1011) = some (nA (360) (fun _ => 0)) := by rw [e39]; exact (ju_ne (by omega)).trans f38_1011
  have f39_1012 : M39.1 (1012) = some (nA (360) (fun _ => 0)) := by rw [e39]; exact (ju_ne (by omega)).trans f38_1012
  have f39_1013 : M39.1 (1013) = some (nA (360) (fun _ => 0)) := by rw [e39]; exact (ju_ne (by omega)).trans f38_1013
  have f39_1014 : M39.1 (1014) = some (nA (1920) (fun _ => 0)) := by rw [e39]; exact (ju_ne (by omega)).trans f38_1014
  have f39_1015 : M39.1 (1015) = some (nA (1000) (fun _ => 0)) := by rw [e39]; exact (ju_ne (by omega)).trans f38_1015
  have f39_1016 : M39.1 (1016) = some (nA (6000) (fun _ => 0)) := by rw [e39]; exact (ju_ne (by omega)).trans f38_1016
  have f39_1017 : M39.1 (1017) = some (nA (6000) (fun _ => 0)) := by rw [e39]; exact (ju_ne (by omega)).trans f38_1017
  have f39_1018 : M39.1 (1018) = some (nA (6000) (fun _ => 0)) := by rw [e39]; exact (ju_ne (by omega)).trans f38_1018
  have f39_1019 : M39.1 (1019) = some (nA (6000) (fun _ => 0)) := by rw [e39]; exact (ju_ne (by omega)).trans f38_1019
  have f39_1000 : M39.1 (1000) = some (.inr (11, (.int (nI 0) :: .int (nI 0) :: .int (nI 0) :: .int (-1) :: .int (nI 0) :: .int (nI 0) :: .int (nI 0) :: .int (nI 0) :: .int (nI 0) :: .int (nI 0) :: .int (nI 0) :: .ref (1001) :: .ref (1002) :: .ref (1003) :: .ref (1004) :: .ref (1005) :: .ref (1006) :: .ref (1007) :: .ref (1008) :: .ref (1009) :: .ref (1010) :: .ref (1011) :: .ref (1012) :: .ref (1013) :: .ref (1014) :: .ref (1015) :: .ref (1016) :: .ref (1017) :: .ref (1018) :: .ref (1019) :: .int (nI 0) :: .int (nI 0) :: .int (nI 0) :: .int (nI 0) :: .null :: []))) := by rw [e39]; exact ju_eq
  have r39 : ∀ q, (q < 1000 ∨ 1021 ≤ q) → M39.1 q = M.1 q := fun q h => by rw [e39]; exact (ju_ne (by omega)).trans (r38 q h)
  have g39 : M39.2 = some (895) := by rw [e39]; exact g38
  refine Q_aload_n (pc := 176) C dX11_init_176 rfl rfl ?_
  refine Q_bipush (pc := 177) (v := nI 6) C dX11_init_177 (by decide) ?_
  refine Q_newl (pc := 179) (k := 1020) (n := 895) (N := 6) C dX11_init_179 a_long (by omega) g39 (by unfold jin; omega) (jr_hi (k := 20) (by omega)) (by simp only [jR]; try omega) (by simp only [jR]; try omega) ?_
  obtain ⟨M40, e40⟩ : ∃ z, z = jn M39 (1020) (lA (6) (fun _ => 0)) (895) := ⟨_, rfl⟩
  rw [← e40]
  have f40_1000 : M40.1 (1000) = some (.inr (11, (.int (nI 0) :: .int (nI 0) :: .int (nI 0) :: .int (-1) :: .int (nI 0) :: .int (nI 0) :: .int (nI 0) :: .int (nI 0) :: .int (nI 0) :: .int (nI 0) :: .int (nI 0) :: .ref (1001) :: .ref (1002) :: .ref (1003) :: .ref (1004) :: .ref (1005) :: .ref (1006) :: .ref (1007) :: .ref (1008) :: .ref (1009) :: .ref (1010) :: .ref (1011) :: .ref (1012) :: .ref (1013) :: .ref (1014) :: .ref (1015) :: .ref (1016) :: .ref (1017) :: .ref (1018) :: .ref (1019) :: .int (nI 0) :: .int (nI 0) :: .int (nI 0) :: .int (nI 0) :: .null :: []))) := by rw [e40]; exact (jn_ne (by omega)).trans f39_1000
  have f40_1001 : M40.1 (1001) = some (nA (4000) (fun _ => 0)) := by rw [e40]; exact (jn_ne (by omega)).trans f39_1001
  have f40_1002 : M40.1 (1002) = some (nA (4000) (fun _ => 0)) := by rw [e40]; exact (jn_ne (by omega)).trans f39_1002
  have f40_1003 : M40.1 (1003) = some (nA (400) (fun _ => 0)) := by rw [e40]; exact (jn_ne (by omega)).trans f39_1003
  have f40_1004 : M40.1 (1004) = some (nA (144) (fun _ => 0)) := by rw [e40]; exact (jn_ne (by omega)).trans f39_1004
  have f40_1005 : M40.1 (1005) = some (nA (12) (fun _ => 0)) := by rw [e40]; exact (jn_ne (by omega)).trans f39_1005
  have f40_1006 : M40.1 (1006) = some (nA (720) (fun _ => 0)) := by rw [e40]; exact (jn_ne (by omega)).trans f39_1006
  have f40_1007 : M40.1 (1007) = some (nA (72) (fun _ => 0)) := by rw [e40]; exact (jn_ne (by omega)).trans f39_1007
  have f40_1008 : M40.1 (1008) = some (nA (720) (fun _ => 0)) := by rw [e40]; exact (jn_ne (by omega)).trans f39_1008
  have f40_1009 : M40.1 (1009) = some (nA (60) (fun _ => 0)) := by rw [e40]; exact (jn_ne (by omega)).trans f39_1009
  have f40_1010 : M40.1 (1010) = some (nA (60) (fun _ => 0)) := by rw [e40]; exact (jn_ne (by omega)).trans f39_1010
  have f40_1011 : M40.1 (1011) = some (nA (360) (fun _ => 0)) := by rw [e40]; exact (jn_ne (by omega)).trans f39_1011
  have f40_1012 : M40.1 (1012) = some (nA (360) (fun _ => 0)) := by rw [e40]; exact (jn_ne (by omega)).trans f39_1012
  have f40_1013 : M40.1 (1013) = some (nA (360) (fun _ => 0)) := by rw [e40]; exact (jn_ne (by omega)).trans f39_1013
  have f40_1014 : M40.1 (1014) = some (nA (1920) (fun _ => 0)) := by rw [e40]; exact (jn_ne (by omega)).trans f39_1014
  have f40_1015 : M40.1 (1015) = some (nA (1000) (fun _ => 0)) := by rw [e40]; exact (jn_ne (by omega)).trans f39_1015
  have f40_1016 : M40.1 (1016) = some (nA (6000) (fun _ => 0)) := by rw [e40]; exact (jn_ne (by omega)).trans f39_1016
  have f40_1017 : M40.1 (1017) = some (nA (6000) (fun _ => 0)) := by rw [e40]; exact (jn_ne (by omega)).trans f39_1017
  have f40_1018 : M40.1 (1018) = some (nA (6000) (fun _ => 0)) := by rw [e40]; exact (jn_ne (by omega)).trans f39_1018
  have f40_1019 : M40.1 (1019) = some (nA (6000) (fun _ => 0)) := by rw [e40]; exact (jn_ne (by omega)).trans f39_1019
  have f40_1020 : M40.1 (1020) = some (lA (6) (fun _ => 0)) := by rw [e40]; exact jn_eq
  have r40 : ∀ q, (q < 1000 ∨ 1021 ≤ q) → M40.1 q = M.1 q := fun q h => by rw [e40]; exact (jn_ne (by omega)).trans (r39 q h)
  have g40 : M40.2 = some (896) := by rw [e40]; rfl
  obtain ⟨M41, e41⟩ : ∃ z, z = ju M40 (1000) (.inr (11, (.int (nI 0) :: .int (nI 0) :: .int (nI 0) :: .int (-1) :: .int (nI 0) :: .int (nI 0) :: .int (nI 0) :: .int (nI 0) :: .int (nI 0) :: .int (nI 0) :: .int (nI 0) :: .ref (1001) :: .ref (1002) :: .ref (1003) :: .ref (1004) :: .ref (1005) :: .ref (1006) :: .ref (1007) :: .ref (1008) :: .ref (1009) :: .ref (1010) :: .ref (1011) :: .ref (1012) :: .ref (1013) :: .ref (1014) :: .ref (1015) :: .ref (1016) :: .ref (1017) :: .ref (1018) :: .ref (1019) :: .int (nI 0) :: .int (nI 0) :: .int (nI 0) :: .int (nI 0) :: .ref (1020) :: []))) := ⟨_, rfl⟩
  refine Q_putFU (pc := 181) (fs := (.int (nI 0) :: .int (nI 0) :: .int (nI 0) :: .int (-1) :: .int (nI 0) :: .int (nI 0) :: .int (nI 0) :: .int (nI 0) :: .int (nI 0) :: .int (nI 0) :: .int (nI 0) :: .ref (1001) :: .ref (1002) :: .ref (1003) :: .ref (1004) :: .ref (1005) :: .ref (1006) :: .ref (1007) :: .ref (1008) :: .ref (1009) :: .ref (1010) :: .ref (1011) :: .ref (1012) :: .ref (1013) :: .ref (1014) :: .ref (1015) :: .ref (1016) :: .ref (1017) :: .ref (1018) :: .ref (1019) :: .int (nI 0) :: .int (nI 0) :: .int (nI 0) :: .int (nI 0) :: .null :: [])) C hNm dX11_init_181 p_X11_71 f40_1000 (jlt rfl) rfl rfl e41.symm ?_
  have f41_1001 : M41.1 (1001) = some (nA (4000) (fun _ => 0)) := by rw [e41]; exact (ju_ne (by omega)).trans f40_1001
  have f41_1002 : M41.1 (1002) = some (nA (4000) (fun _ => 0)) := by rw [e41]; exact (ju_ne (by omega)).trans f40_1002
  have f41_1003 : M41.1 (1003) = some (nA (400) (fun _ => 0)) := by rw [e41]; exact (ju_ne (by omega)).trans f40_1003
  have f41_1004 : M41.1 (1004) = some (nA (144) (fun _ => 0)) := by rw [e41]; exact (ju_ne (by omega)).trans f40_1004
  have f41_1005 : M41.1 (1005) = some (nA (12) (fun _ => 0)) := by rw [e41]; exact (ju_ne (by omega)).trans f40_1005
  have f41_1006 : M41.1 (1006) = some (nA (720) (fun _ => 0)) := by rw [e41]; exact (ju_ne (by omega)).trans f40_1006
  have f41_1007 : M41.1 (1007) = some (nA (72) (fun _ => 0)) := by rw [e41]; exact (ju_ne (by omega)).trans f40_1007
  have f41_1008 : M41.1 (1008) = some (nA (720) (fun _ => 0)) := by rw [e41]; exact (ju_ne (by omega)).trans f40_1008
  have f41_1009 : M41.1 (1009) = some (nA (60) (fun _ => 0)) := by rw [e41]; exact (ju_ne (by omega)).trans f40_1009
  have f41_1010 : M41.1 (1010) = some (nA (60) (fun _ => 0)) := by rw [e41]; exact (ju_ne (by omega)).trans f40_1010
  have f41_1011 : M41.1 (1011) = some (nA (360) (fun _ => 0)) := by rw [e41]; exact (ju_ne (by omega)).trans f40_1011
  have f41_1012 : M41.1 (1012) = some (nA (360) (fun _ => 0)) := by rw [e41]; exact (ju_ne (by omega)).trans f40_1012
  have f41_1013 : M41.1 (1013) = some (nA (360) (fun _ => 0)) := by rw [e41]; exact (ju_ne (by omega)).trans f40_1013
  have f41_1014 : M41.1 (1014) = some (nA (1920) (fun _ => 0)) := by rw [e41]; exact (ju_ne (by omega)).trans f40_1014
  have f41_1015 : M41.1 (1015) = some (nA (1000) (fun _ => 0)) := by rw [e41]; exact (ju_ne (by omega)).trans f40_1015
  have f41_1016 : M41.1 (1016) = some (nA (6000) (fun _ => 0)) := by rw [e41]; exact (ju_ne (by omega)).trans f40_1016
  have f41_1017 : M41.1 (1017) = some (nA (6000) (fun _ => 0)) := by rw [e41]; exact (ju_ne (by omega)).trans f40_1017
  have f41_1018 : M41.1 (1018) = some (nA (6000) (fun _ => 0)) := by rw [e41]; exact (ju_ne (by omega)).trans f40_1018
  have f41_1019 : M41.1 (1019) = some (nA (6000) (fun _ => 0)) := by rw [e41]; exact (ju_ne (by omega)).trans f40_1019
  have f41_1020 : M41.1 (1020) = some (lA (6) (fun _ => 0)) := by rw [e41]; exact (ju_ne (by omega)).trans f40_1020
  have f41_1000 : M41.1 (1000) = some (.inr (11, (.int (nI 0) :: .int (nI 0) :: .int (nI 0) :: .int (-1) :: .int (nI 0) :: .int (nI 0) :: .int (nI 0) :: .int (nI 0) :: .int (nI 0) :: .int (nI 0) :: .int (nI 0) :: .ref (1001) :: .ref (1002) :: .ref (1003) :: .ref (1004) :: .ref (1005) :: .ref (1006) :: .ref (1007) :: .ref (1008) :: .ref (1009) :: .ref (1010) :: .ref (1011) :: .ref (1012) :: .ref (1013) :: .ref (1014) :: .ref (1015) :: .ref (1016) :: .ref (1017) :: .ref (1018) :: .ref (1019) :: .int (nI 0) :: .int (nI 0) :: .int (nI 0) :: .int (nI 0) :: .ref (1020) :: []))) := by rw [e41]; exact ju_eq
  have r41 : ∀ q, (q < 1000 ∨ 1021 ≤ q) → M41.1 q = M.1 q := fun q h => by rw [e41]; exact (ju_ne (by omega)).trans (r40 q h)
  have g41 : M41.2 = some (896) := by rw [e41]; exact g40
  refine Jq.ofp (E_vret (pc := 184) C dX11_init_184 rfl (congrArg (fun z => Sum.inl (none, z)) (Prod.ext (funext fun q => ?_) g41)) (by omega) (by omega))
  by_cases hq : q < 1000 ∨ 1021 ≤ q
  · rw [r41 q hq]
    exact (m0_out (by omega)).symm
  by_cases hq1000 : 1000 ≤ q ∧ q < 1021
  · have hv : q = 1000 ∨ q = 1001 ∨ q = 1002 ∨ q = 1003 ∨ q = 1004 ∨ q = 1005 ∨ q = 1006 ∨ q = 1007 ∨ q = 1008 ∨ q = 1009 ∨ q = 1010 ∨ q = 1011 ∨ q = 1012 ∨ q = 1013 ∨ q = 1014 ∨ q = 1015 ∨ q = 1016 ∨ q = 1017 ∨ q = 1018 ∨ q = 1019 ∨ q = 1020 := by omega
    rcases hv with rfl | rfl | rfl | rfl | rfl | rfl | rfl | rfl | rfl | rfl | rfl | rfl | rfl | rfl | rfl | rfl | rfl | rfl | rfl | rfl | rfl
    · rw [f41_1000]; rfl
    · rw [f41_1001]; rfl
    · rw [f41_1002]; rfl
    · rw [f41_1003]; rfl
    · rw [f41_1004]; rfl
    · rw [f41_1005]; rfl
    · rw [f41_1006]; rfl
    · rw [f41_1007]; rfl
    · rw [f41_1008]; rfl
    · rw [f41_1009]; rfl
    · rw [f41_1010]; rfl
    · rw [f41_1011]; rfl
    · rw [f41_1012]; rfl
    · rw [f41_1013]; rfl
    · rw [f41_1014]; rfl
    · rw [f41_1015]; rfl
    · rw [f41_1016]; rfl
    · rw [f41_1017]; rfl
    · rw [f41_1018]; rfl
    · rw [f41_1019]; rfl
    · rw [f41_1020]; rfl
  omega
