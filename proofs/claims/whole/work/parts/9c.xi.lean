theorem df_X0 : ∀ j, j < 9 → (parseFieldDescriptor (TX0 j).2.2.1).map defaultValue = some (vp_V [.null, .null, .null, .null, .null, .null, .null, .null, .int (nI 0)] j) := by decide +kernel
theorem df_X1 : ∀ j, j < 3 → (parseFieldDescriptor (TX1 j).2.2.1).map defaultValue = some (vp_V [.null, .null, .null] j) := by decide +kernel
theorem df_X2 : ∀ j, j < 6 → (parseFieldDescriptor (TX2 j).2.2.1).map defaultValue = some (vp_V [.null, .null, .null, .null, .int (nI 0), .int (nI 0)] j) := by decide +kernel
theorem df_X3 : ∀ j, j < 2 → (parseFieldDescriptor (TX3 j).2.2.1).map defaultValue = some (vp_V [.null, .int (nI 0)] j) := by decide +kernel
theorem df_X4 : ∀ j, j < 3 → (parseFieldDescriptor (TX4 j).2.2.1).map defaultValue = some (vp_V [.null, .null, .int (nI 0)] j) := by decide +kernel
theorem df_X5 : ∀ j, j < 5 → (parseFieldDescriptor (TX5 j).2.2.1).map defaultValue = some (vp_V [.null, .int (nI 0), .int (nI 0), .int (nI 0), .int (nI 0)] j) := by decide +kernel
theorem df_X6 : ∀ j, j < 4 → (parseFieldDescriptor (TX6 j).2.2.1).map defaultValue = some (vp_V [.null, .int (nI 0), .int (nI 0), .int (nI 0)] j) := by decide +kernel
theorem df_X7 : ∀ j, j < 5 → (parseFieldDescriptor (TX7 j).2.2.1).map defaultValue = some (vp_V [.null, .null, .null, .int (nI 0), .int (nI 0)] j) := by decide +kernel
theorem df_X8 : ∀ j, j < 6 → (parseFieldDescriptor (TX8 j).2.2.1).map defaultValue = some (vp_V [.null, .null, .null, .null, .int (nI 0), .int (nI 0)] j) := by decide +kernel
theorem df_X9 : ∀ j, j < 7 → (parseFieldDescriptor (TX9 j).2.2.1).map defaultValue = some (vp_V [.null, .null, .int (nI 0), .int (nI 0), .int (nI 0), .int (nI 0), .int (nI 0)] j) := by decide +kernel
theorem df_X10 : ∀ j, j < 9 → (parseFieldDescriptor (TX10 j).2.2.1).map defaultValue = some (vp_V [.null, .null, .null, .null, .null, .null, .null, .null, .int (nI 0)] j) := by decide +kernel
theorem df_X11 : ∀ j, j < 35 → (parseFieldDescriptor (TX11 j).2.2.1).map defaultValue = some (vp_V [.int (nI 0), .int (nI 0), .int (nI 0), .int (nI 0), .int (nI 0), .int (nI 0), .int (nI 0), .int (nI 0), .int (nI 0), .int (nI 0), .int (nI 0), .null, .null, .null, .null, .null, .null, .null, .null, .null, .null, .null, .null, .null, .null, .null, .null, .null, .null, .null, .int (nI 0), .int (nI 0), .int (nI 0), .int (nI 0), .null] j) := by decide +kernel
theorem jCp.ofN {l : Launch} {G : jG} {cc : ByteArray} {ret : Option FieldType} {mc ms : Nat} {M : jMem} {Φ : jO → Prop} {y : MethodName} {maxL fr lo : Nat} {As : List Value} (hy : plainName y.cls = true) (k9 : Nat) (hk : (lg_sl (As.map (jv G))).length + k9 = maxL) (lv0 : List (Option Value)) (hlv : lv0 = jargs As ++ List.replicate k9 none)
    (body : ∀ (p : Program) (e : Env) (s : State) (m : MethodId) (args : Array Value) (below : List Frame) (meth : Method) (c : Code), jX0 p l (jR fr lo mc ms) s m args meth c G cc maxL y.cls ret → meth.name = y.name → Jq p l e (jR fr lo mc ms) s m args below meth c G maxL (vx_MQ below (jQp G Φ) (jXp G Φ) args s mc ms (jA G)) 0 lv0 [] M 0 0) :
    jCp l G y cc maxL ret fr lo mc ms As M Φ := by
  refine vx_ofW (cc := cc) (maxL := maxL) (ret := ret) hy rfl ?_
  intro p e s m args below meth c s₁ B hml hT hP
  obtain ⟨hargs, hW, hK, hS, hb⟩ := hP
  have hts : ∀ w ∈ jws y cc maxL ret, w.before args s = true := atoms_spec (ws := jws y cc maxL ret) B.pre
  have hown : s.vm.findClass y.cls = some m.cls := findClass_of_methodNamed B.named
  subst hargs
  rw [lg_entry_eq]
  have hl := lv_entry (As.map (jv G)) (n := maxL) (by omega)
  refine body p e s m _ below meth c ⟨B.exec, B.bytes, hml, hown, fun w hw => hts w (List.mem_cons_of_mem _ hw), B.returns, B.notSynchronized, hK, hS, hb⟩ ?_ s.heap [] _ hW va_S.rf ?_
  · exact (name_of_methodNamed B.named B.method).1
  · rw [hlv]
    show lv_has _ _ (jasc G 0 (jargs As ++ List.replicate k9 none))
    rw [jasc_args]
    exact hl
section QP
variable {p : Program} {l : Launch} {e : Env} {R : Room} {s : State} {m : MethodId} {args : Array Value} {below : List Frame} {meth : Method} {c : Code} {G : jG} {cc : ByteArray} {nL : Nat} {own : String} {ret : Option FieldType}
variable {pc kc ks mc ms : Nat} {Q : State → Prop} {Φ : jO → Prop} {lv : List (Option Value)} {st : List Value} {M M2 : jMem}
theorem Jq.p (h : Jp p l e R s m args below meth c G nL mc ms Φ pc lv st M kc ks) : Jq p l e R s m args below meth c G nL (vx_MQ below (jQp G Φ) (jXp G Φ) args s mc ms (jA G)) pc lv st M kc ks := h
theorem Q_putFU (C : jX0 p l R s m args meth c G cc nL own ret) (hin2 : meth.name = "<init>") {idx ci j k : Nat} {fs : List Value} {v : Value} {ty : FieldType} (hd : decode cc pc = .ok (.putfield idx, 3)) (hf : jFp true own idx ci j ty) (hM0 : M.1 k = some (.inr (ci, fs))) (hj' : j < fs.length) (hn : narrow ty (jv G v) = jv G v) (hfit : fits ty (jv G v) = true) (hu : ju M k (.inr (ci, fs.set j v)) = M2) (k' : Jq p l e R s m args below meth c G nL Q (pc + 3) lv st M2 kc ks) : Jq p l e R s m args below meth c G nL Q pc lv (v :: .ref k :: st) M kc ks := by
  subst hu
  exact Q_putF C hin2 hd hf hM0 hj' hn hfit k'
end QP
set_option maxHeartbeats 4000000 in
set_option maxRecDepth 100000 in
theorem i_X4 (l : Launch) (G : jG) (M : jMem) (a ml : Nat) (h0 : M.1 (a) = some (.inr (4, [.null, .null, .int (nI 0)]))) (g0 : M.2 = some (a + 1)) (ha : a + 2 < 875) (hml : ml ≤ 60) : jCp l G yX4_init cX4_init 2 none 1 30 2 (13 * ml) [.ref a, .int (nI ml)] M (fun o => ∃ M', o = .inl (none, M') ∧ M'.2 = some (a + 1 + 2) ∧ (M'.1 (a) = some (.inr (4, [.ref (a + 1), .ref (a + 2), .int (nI 0)])) ∧ M'.1 (a + 1) = some (nA (12 * ml) (fun _ => 0)) ∧ M'.1 (a + 2) = some (nA ml (fun _ => 0))) ∧ ∀ q, (q < a ∨ a + 3 ≤ q) → M'.1 q = M.1 q) := by
  refine jCp.ofN (by decide) 0 rfl [some (.ref a), some (.int (nI ml))] rfl (fun p e s m args below meth c C hNm => ?_)
  have r0 : ∀ q, (q < a ∨ a + 3 ≤ q) → M.1 q = M.1 q := fun _ _ => rfl
  refine Q_aload_n (pc := 0) C dX4_init_0 rfl rfl ?_
  refine Q_obj (pc := 1) C dX4_init_1 ol_X4 o_im o_cd (jle rfl) (jle rfl) ?_
  refine Q_aload_n (pc := 4) C dX4_init_4 rfl rfl ?_
  refine Q_iconst (pc := 5) (v := nI 0) C dX4_init_5 (by decide) ?_
  obtain ⟨M1, e1⟩ : ∃ z, z = ju M (a) (.inr (4, [.null, .null, .int (nI 0)])) := ⟨_, rfl⟩
  refine Q_putU (pc := 6) (fs := [.null, .null, .int (nI 0)]) C dX4_init_6 p_X4_9 h0 (jlt rfl) rfl rfl e1.symm ?_
  have f1_a : M1.1 (a) = some (.inr (4, [.null, .null, .int (nI 0)])) := by rw [e1]; exact ju_eq
  have r1 : ∀ q, (q < a ∨ a + 3 ≤ q) → M1.1 q = M.1 q := fun q h => by rw [e1, ju_ne (by omega)]; exact r0 q h
  have g1 : M1.2 = some (a + 1) := by rw [e1]; exact g0
  refine Q_aload_n (pc := 9) C dX4_init_9 rfl rfl ?_
  refine Q_iload_n (pc := 10) C dX4_init_10 rfl rfl ?_
  refine Q_bipush (pc := 11) (v := nI 12) C dX4_init_11 (by decide) ?_
  refine Q_imulN (pc := 13) C dX4_init_13 ?_
  refine Q_newi (pc := 14) (k := a + 1) (n := a + 1) (N := ml * 12) C dX4_init_14 a_int (by omega) g1 (by unfold jin; omega) (jr_lo (by omega)) (by simp only [jR]; omega) (by simp only [jR]; omega) ?_
  obtain ⟨M2, e2⟩ : ∃ z, z = jn M1 (a + 1) (nA (ml * 12) (fun _ => 0)) (a + 1) := ⟨_, rfl⟩
  rw [← e2]
  have f2_a : M2.1 (a) = some (.inr (4, [.null, .null, .int (nI 0)])) := by rw [e2, jn_ne (by omega)]; exact f1_a
  have f2_a___1 : M2.1 (a + 1) = some (nA (ml * 12) (fun _ => 0)) := by rw [e2]; exact jn_eq
  have r2 : ∀ q, (q < a ∨ a + 3 ≤ q) → M2.1 q = M.1 q := fun q h => by rw [e2, jn_ne (by omega)]; exact r1 q h
  have g2 : M2.2 = some (a + 1 + 1) := by rw [e2]; rfl
  obtain ⟨M3, e3⟩ : ∃ z, z = ju M2 (a) (.inr (4, [.ref (a + 1), .null, .int (nI 0)])) := ⟨_, rfl⟩
  refine Q_putFU (pc := 16) (fs := [.null, .null, .int (nI 0)]) C hNm dX4_init_16 p_X4_15 f2_a (jlt rfl) rfl rfl e3.symm ?_
  have f3_a___1 : M3.1 (a + 1) = some (nA (ml * 12) (fun _ => 0)) := by rw [e3, ju_ne (by omega)]; exact f2_a___1
  have f3_a : M3.1 (a) = some (.inr (4, [.ref (a + 1), .null, .int (nI 0)])) := by rw [e3]; exact ju_eq
  have r3 : ∀ q, (q < a ∨ a + 3 ≤ q) → M3.1 q = M.1 q := fun q h => by rw [e3, ju_ne (by omega)]; exact r2 q h
  have g3 : M3.2 = some (a + 1 + 1) := by rw [e3]; exact g2
  refine Q_aload_n (pc := 19) C dX4_init_19 rfl rfl ?_
  refine Q_iload_n (pc := 20) C dX4_init_20 rfl rfl ?_
  refine Q_newi (pc := 21) (k := a + 2) (n := a + 1 + 1) (N := ml) C dX4_init_21 a_int (by omega) g3 (by unfold jin; omega) (jr_lo (by omega)) (by simp only [jR]; omega) (by simp only [jR]; omega) ?_
  obtain ⟨M4, e4⟩ : ∃ z, z = jn M3 (a + 2) (nA (ml) (fun _ => 0)) (a + 1 + 1) := ⟨_, rfl⟩
  rw [← e4]
  have f4_a : M4.1 (a) = some (.inr (4, [.ref (a + 1), .null, .int (nI 0)])) := by rw [e4, jn_ne (by omega)]; exact f3_a
  have f4_a___1 : M4.1 (a + 1) = some (nA (ml * 12) (fun _ => 0)) := by rw [e4, jn_ne (by omega)]; exact f3_a___1
  have f4_a___2 : M4.1 (a + 2) = some (nA (ml) (fun _ => 0)) := by rw [e4]; exact jn_eq
  have r4 : ∀ q, (q < a ∨ a + 3 ≤ q) → M4.1 q = M.1 q := fun q h => by rw [e4, jn_ne (by omega)]; exact r3 q h
  have g4 : M4.2 = some (a + 1 + 1 + 1) := by rw [e4]; rfl
  obtain ⟨M5, e5⟩ : ∃ z, z = ju M4 (a) (.inr (4, [.ref (a + 1), .ref (a + 2), .int (nI 0)])) := ⟨_, rfl⟩
  refine Q_putFU (pc := 23) (fs := [.ref (a + 1), .null, .int (nI 0)]) C hNm dX4_init_23 p_X4_19 f4_a (jlt rfl) rfl rfl e5.symm ?_
  have f5_a___1 : M5.1 (a + 1) = some (nA (ml * 12) (fun _ => 0)) := by rw [e5, ju_ne (by omega)]; exact f4_a___1
  have f5_a___2 : M5.1 (a + 2) = some (nA (ml) (fun _ => 0)) := by rw [e5, ju_ne (by omega)]; exact f4_a___2
  have f5_a : M5.1 (a) = some (.inr (4, [.ref (a + 1), .ref (a + 2), .int (nI 0)])) := by rw [e5]; exact ju_eq
  have r5 : ∀ q, (q < a ∨ a + 3 ≤ q) → M5.1 q = M.1 q := fun q h => by rw [e5, ju_ne (by omega)]; exact r4 q h
  have g5 : M5.2 = some (a + 1 + 1 + 1) := by rw [e5]; exact g4
  exact Jq.p (E_vret (pc := 26) C dX4_init_26 rfl ⟨M5, rfl, by rw [g5], ⟨by first | exact f5_a | (rw [f5_a]; rfl), by first | exact f5_a___1 | (rw [f5_a___1]; rfl), by first | exact f5_a___2 | (rw [f5_a___2]; rfl)⟩, r5⟩ (by simp only []; omega) (by simp only []; omega))
set_option maxHeartbeats 4000000 in
set_option maxRecDepth 100000 in
theorem i_X6 (l : Launch) (G : jG) (M : jMem) (a : Nat) (h0 : M.1 (a) = some (.inr (6, [.null, .int (nI 0), .int (nI 0), .int (nI 0)]))) (g0 : M.2 = some (a + 1)) (ha : a + 1 < 875) : jCp l G yX6_init cX6_init 1 none 1 30 1 (32) [.ref a] M (fun o => ∃ M', o = .inl (none, M') ∧ M'.2 = some (a + 1 + 1) ∧ (M'.1 (a) = some (.inr (6, [.ref (a + 1), .int (nI 136), .int (nI 0), .int (-1)])) ∧ M'.1 (a + 1) = some (rA 32 (fun _ => nI 0))) ∧ ∀ q, (q < a ∨ a + 2 ≤ q) → M'.1 q = M.1 q) := by
  refine jCp.ofN (by decide) 0 rfl [some (.ref a)] rfl (fun p e s m args below meth c C hNm => ?_)
  have r0 : ∀ q, (q < a ∨ a + 2 ≤ q) → M.1 q = M.1 q := fun _ _ => rfl
  refine Q_aload_n (pc := 0) C dX6_init_0 rfl rfl ?_
  refine Q_obj (pc := 1) C dX6_init_1 ol_X6 o_im o_cd (jle rfl) (jle rfl) ?_
  refine Q_aload_n (pc := 4) C dX6_init_4 rfl rfl ?_
  refine Q_bipush (pc := 5) (v := nI 32) C dX6_init_5 (by decide) ?_
  refine Q_newi (pc := 7) (k := a + 1) (n := a + 1) (N := 32) C dX6_init_7 a_int (by omega) g0 (by unfold jin; omega) (jr_lo (by omega)) (by simp only [jR]; omega) (by simp only [jR]; omega) ?_
  obtain ⟨M1, e1⟩ : ∃ z, z = jn M (a + 1) (nA (32) (fun _ => 0)) (a + 1) := ⟨_, rfl⟩
  rw [← e1]
  have f1_a : M1.1 (a) = some (.inr (6, [.null, .int (nI 0), .int (nI 0), .int (nI 0)])) := by rw [e1, jn_ne (by omega)]; exact h0
  have f1_a___1 : M1.1 (a + 1) = some (nA (32) (fun _ => 0)) := by rw [e1]; exact jn_eq
  have r1 : ∀ q, (q < a ∨ a + 2 ≤ q) → M1.1 q = M.1 q := fun q h => by rw [e1, jn_ne (by omega)]; exact r0 q h
  have g1 : M1.2 = some (a + 1 + 1) := by rw [e1]; rfl
  obtain ⟨M2, e2⟩ : ∃ z, z = ju M1 (a) (.inr (6, [.ref (a + 1), .int (nI 0), .int (nI 0), .int (nI 0)])) := ⟨_, rfl⟩
  refine Q_putFU (pc := 9) (fs := [.null, .int (nI 0), .int (nI 0), .int (nI 0)]) C hNm dX6_init_9 p_X6_9 f1_a (jlt rfl) rfl rfl e2.symm ?_
  have f2_a___1 : M2.1 (a + 1) = some (nA (32) (fun _ => 0)) := by rw [e2, ju_ne (by omega)]; exact f1_a___1
  have f2_a : M2.1 (a) = some (.inr (6, [.ref (a + 1), .int (nI 0), .int (nI 0), .int (nI 0)])) := by rw [e2]; exact ju_eq
  have r2 : ∀ q, (q < a ∨ a + 2 ≤ q) → M2.1 q = M.1 q := fun q h => by rw [e2, ju_ne (by omega)]; exact r1 q h
  have g2 : M2.2 = some (a + 1 + 1) := by rw [e2]; exact g1
  refine Q_aload_n (pc := 12) C dX6_init_12 rfl rfl ?_
  refine Q_sipush (pc := 13) (v := nI 136) C dX6_init_13 (by decide) ?_
  obtain ⟨M3, e3⟩ : ∃ z, z = ju M2 (a) (.inr (6, [.ref (a + 1), .int (nI 136), .int (nI 0), .int (nI 0)])) := ⟨_, rfl⟩
  refine Q_putU (pc := 16) (fs := [.ref (a + 1), .int (nI 0), .int (nI 0), .int (nI 0)]) C dX6_init_16 p_X6_15 f2_a (jlt rfl) rfl rfl e3.symm ?_
  have f3_a___1 : M3.1 (a + 1) = some (nA (32) (fun _ => 0)) := by rw [e3, ju_ne (by omega)]; exact f2_a___1
  have f3_a : M3.1 (a) = some (.inr (6, [.ref (a + 1), .int (nI 136), .int (nI 0), .int (nI 0)])) := by rw [e3]; exact ju_eq
  have r3 : ∀ q, (q < a ∨ a + 2 ≤ q) → M3.1 q = M.1 q := fun q h => by rw [e3, ju_ne (by omega)]; exact r2 q h
  have g3 : M3.2 = some (a + 1 + 1) := by rw [e3]; exact g2
  refine Q_aload_n (pc := 19) C dX6_init_19 rfl rfl ?_
  refine Q_iconst (pc := 20) (v := nI 0) C dX6_init_20 (by decide) ?_
  obtain ⟨M4, e4⟩ : ∃ z, z = ju M3 (a) (.inr (6, [.ref (a + 1), .int (nI 136), .int (nI 0), .int (nI 0)])) := ⟨_, rfl⟩
  refine Q_putU (pc := 21) (fs := [.ref (a + 1), .int (nI 136), .int (nI 0), .int (nI 0)]) C dX6_init_21 p_X6_19 f3_a (jlt rfl) rfl rfl e4.symm ?_
  have f4_a___1 : M4.1 (a + 1) = some (nA (32) (fun _ => 0)) := by rw [e4, ju_ne (by omega)]; exact f3_a___1
  have f4_a : M4.1 (a) = some (.inr (6, [.ref (a + 1), .int (nI 136), .int (nI 0), .int (nI 0)])) := by rw [e4]; exact ju_eq
  have r4 : ∀ q, (q < a ∨ a + 2 ≤ q) → M4.1 q = M.1 q := fun q h => by rw [e4, ju_ne (by omega)]; exact r3 q h
  have g4 : M4.2 = some (a + 1 + 1) := by rw [e4]; exact g3
  refine Q_aload_n (pc := 24) C dX6_init_24 rfl rfl ?_
  refine Q_iconst (pc := 25) (v := -1) C dX6_init_25 (by decide) ?_
  obtain ⟨M5, e5⟩ : ∃ z, z = ju M4 (a) (.inr (6, [.ref (a + 1), .int (nI 136), .int (nI 0), .int (-1)])) := ⟨_, rfl⟩
  refine Q_putU (pc := 26) (fs := [.ref (a + 1), .int (nI 136), .int (nI 0), .int (nI 0)]) C dX6_init_26 p_X6_22 f4_a (jlt rfl) rfl rfl e5.symm ?_
  have f5_a___1 : M5.1 (a + 1) = some (nA (32) (fun _ => 0)) := by rw [e5, ju_ne (by omega)]; exact f4_a___1
  have f5_a : M5.1 (a) = some (.inr (6, [.ref (a + 1), .int (nI 136), .int (nI 0), .int (-1)])) := by rw [e5]; exact ju_eq
  have r5 : ∀ q, (q < a ∨ a + 2 ≤ q) → M5.1 q = M.1 q := fun q h => by rw [e5, ju_ne (by omega)]; exact r4 q h
  have g5 : M5.2 = some (a + 1 + 1) := by rw [e5]; exact g4
  exact Jq.p (E_vret (pc := 29) C dX6_init_29 rfl ⟨M5, rfl, by rw [g5], ⟨by first | exact f5_a | (rw [f5_a]; rfl), by first | exact f5_a___1 | (rw [f5_a___1]; rfl)⟩, r5⟩ (by simp only []; omega) (by simp only []; omega))
set_option maxHeartbeats 4000000 in
set_option maxRecDepth 100000 in
theorem i_X3 (l : Launch) (G : jG) (M : jMem) (a : Nat) (h0 : M.1 (a) = some (.inr (3, [.null, .int (nI 0)]))) (g0 : M.2 = some (a + 1)) (ha : a + 1 < 875) : jCp l G yX3_init cX3_init 1 none 1 30 1 (96) [.ref a] M (fun o => ∃ M', o = .inl (none, M') ∧ M'.2 = some (a + 1 + 1) ∧ (M'.1 (a) = some (.inr (3, [.ref (a + 1), .int (nI 0)])) ∧ M'.1 (a + 1) = some (nA 96 (fun _ => 0))) ∧ ∀ q, (q < a ∨ a + 2 ≤ q) → M'.1 q = M.1 q) := by
  refine jCp.ofN (by decide) 0 rfl [some (.ref a)] rfl (fun p e s m args below meth c C hNm => ?_)
  have r0 : ∀ q, (q < a ∨ a + 2 ≤ q) → M.1 q = M.1 q := fun _ _ => rfl
  refine Q_aload_n (pc := 0) C dX3_init_0 rfl rfl ?_
  refine Q_obj (pc := 1) C dX3_init_1 ol_X3 o_im o_cd (jle rfl) (jle rfl) ?_
  refine Q_aload_n (pc := 4) C dX3_init_4 rfl rfl ?_
  refine Q_bipush (pc := 5) (v := nI 96) C dX3_init_5 (by decide) ?_
  refine Q_newi (pc := 7) (k := a + 1) (n := a + 1) (N := 96) C dX3_init_7 a_int (by omega) g0 (by unfold jin; omega) (jr_lo (by omega)) (by simp only [jR]; omega) (by simp only [jR]; omega) ?_
  obtain ⟨M1, e1⟩ : ∃ z, z = jn M (a + 1) (nA (96) (fun _ => 0)) (a + 1) := ⟨_, rfl⟩
  rw [← e1]
  have f1_a : M1.1 (a) = some (.inr (3, [.null, .int (nI 0)])) := by rw [e1, jn_ne (by omega)]; exact h0
  have f1_a___1 : M1.1 (a + 1) = some (nA (96) (fun _ => 0)) := by rw [e1]; exact jn_eq
  have r1 : ∀ q, (q < a ∨ a + 2 ≤ q) → M1.1 q = M.1 q := fun q h => by rw [e1, jn_ne (by omega)]; exact r0 q h
  have g1 : M1.2 = some (a + 1 + 1) := by rw [e1]; rfl
  obtain ⟨M2, e2⟩ : ∃ z, z = ju M1 (a) (.inr (3, [.ref (a + 1), .int (nI 0)])) := ⟨_, rfl⟩
  refine Q_putFU (pc := 9) (fs := [.null, .int (nI 0)]) C hNm dX3_init_9 p_X3_9 f1_a (jlt rfl) rfl rfl e2.symm ?_
  have f2_a___1 : M2.1 (a + 1) = some (nA (96) (fun _ => 0)) := by rw [e2, ju_ne (by omega)]; exact f1_a___1
  have f2_a : M2.1 (a) = some (.inr (3, [.ref (a + 1), .int (nI 0)])) := by rw [e2]; exact ju_eq
  have r2 : ∀ q, (q < a ∨ a + 2 ≤ q) → M2.1 q = M.1 q := fun q h => by rw [e2, ju_ne (by omega)]; exact r1 q h
  have g2 : M2.2 = some (a + 1 + 1) := by rw [e2]; exact g1
  refine Q_aload_n (pc := 12) C dX3_init_12 rfl rfl ?_
  refine Q_iconst (pc := 13) (v := nI 0) C dX3_init_13 (by decide) ?_
  obtain ⟨M3, e3⟩ : ∃ z, z = ju M2 (a) (.inr (3, [.ref (a + 1), .int (nI 0)])) := ⟨_, rfl⟩
  refine Q_putU (pc := 14) (fs := [.ref (a + 1), .int (nI 0)]) C dX3_init_14 p_X3_15 f2_a (jlt rfl) rfl rfl e3.symm ?_
  have f3_a___1 : M3.1 (a + 1) = some (nA (96) (fun _ => 0)) := by rw [e3, ju_ne (by omega)]; exact f2_a___1
  have f3_a : M3.1 (a) = some (.inr (3, [.ref (a + 1), .int (nI 0)])) := by rw [e3]; exact ju_eq
  have r3 : ∀ q, (q < a ∨ a + 2 ≤ q) → M3.1 q = M.1 q := fun q h => by rw [e3, ju_ne (by omega)]; exact r2 q h
  have g3 : M3.2 = some (a + 1 + 1) := by rw [e3]; exact g2
  exact Jq.p (E_vret (pc := 17) C dX3_init_17 rfl ⟨M3, rfl, by rw [g3], ⟨by first | exact f3_a | (rw [f3_a]; rfl), by first | exact f3_a___1 | (rw [f3_a___1]; rfl)⟩, r3⟩ (by simp only []; omega) (by simp only []; omega))
