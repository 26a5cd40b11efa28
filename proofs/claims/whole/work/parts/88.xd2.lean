set_option maxHeartbeats 4000000 in
set_option maxRecDepth 100000 in
theorem l_aOperands (l : Launch) (G : jG) {p : Program} {e : Env} {s : State} {m : MethodId} {args : Array Value} {below : List Frame} {meth : Method} {c : Code} {X : Nat × (Nat → Nat)} {ix : Nat} {K : Nat × Nat × Nat} {D : mD} {P : mP} {gv : Nat → Int64} {nz : Nat} (A : xA) (S : xS) (B : xB) (Z : xZ) (Q : xN) (L : xL) (T : jMem) (C9 : xC) (V : xV) (o k c9 : Nat) (C : jX0 p l (jR 9 157 1 6) s m args meth c G cX0_readOperands 4 RX0 (some .int)) (hT9 : ∀ x ∈ c.exceptionTable.toList, False) (hst : l.stackTraces = false) (hT2 : T.2 = some nz) (hx : xcx X A S) (hA8 : ∀ k, A.2.1 k < 256) (hk : xtk X S ix K) (hg : gC C9) (hp : pR X D P C9 V) (hd : dR D B Z D.2.2.1) (hb : nB B.2.2.1 12 ∧ nB B.2.2.2.2 60) (hz9 : s.heap.size = G.1 + nz) (ho : o < D.2.2.1) (hkc : k + c9 = mOpds D o) (hu : 2 * P.2.2.1 ≤ K.2.1 + (if k = 0 then 0 else 1)) (hpI : pI X D K.2.1 P) (hw : P.1 < 1000) : Jp p l e (jR 9 157 1 6) s m args below meth c G 4 1 6 (vP X A S B Z Q L T D (some (.int (cwF Z o (vlL X D o c9 k K P gv).2.2.2 (mOpds D o)))) (vlL X D o c9 k K P gv)) 15 [some (.ref 867), some (.int (nI o)), some (.int (cwF Z o gv k)), some (.int (nI k))] [] (encX A S (tt X ix K) (-1) B Z C9 Q V L T) 0 0 := by
  have hX1 := hx.1
  have hX2 := hx.2.1
  have hoc := hx.2.2.1
  have hS := hx.2.2.2.1
  have hok := hx.2.2.2.2
  have hm1 := hd.2.2.2.1.1
  have hm2 := hb.2.1
  have ho6 : o < 60 := by omega
  obtain ⟨hR, hW⟩ := hd.2.2.2.2 o ho
  have hsz : (Z.1 o).1 = mOpds D o := hR.1.1
  have hs6 := hR.1.2.1
  induction c9 generalizing k K P gv ix C9 V with
  | zero =>
    have e9 : k = mOpds D o := by omega
    subst e9
    refine E_iload_n (pc := 15) C dX0_readOperands_15 rfl rfl ?_
    refine E_aload_n (pc := 16) C dX0_readOperands_16 rfl rfl ?_
    refine E_get (pc := 17) C dX0_readOperands_17 f_X0_35 rfl rfl ?_
    refine E_get (pc := 20) C dX0_readOperands_20 f_X0_125 rfl rfl ?_
    refine E_iload_n (pc := 23) C dX0_readOperands_23 rfl rfl ?_
    refine E_aaldN (pc := 24) C dX0_readOperands_24 rfl (by decide) (by omega) (by decide) rfl ?_
    refine E_get (pc := 25) C dX0_readOperands_25 f_X0_134 (gX_op ho6) rfl ?_
    try dsimp only [tt]
    refine E_icmp_geN (pc := 28) (tgt := 59) C dX0_readOperands_28 (by decide) (by omega) (by omega) (fun h28 => ?_) (fun h28 => ?_)
    · refine E_iload_n (pc := 59) C dX0_readOperands_59 rfl rfl ?_
      exact E_iret (pc := 60) C dX0_readOperands_60 rfl (vP.t rfl hk hg hp) (Nat.zero_le _) (Nat.zero_le _)
    · omega
  | succ c9 ih =>
    have hn := hk.n
    have hg1 := hn.g.1
    have hg2 := hg1.1
    have hg3 := hg1.2.1
    have hkl := kcl_lt hX2 (K := K)
    have hk6 : k < mOpds D o := by omega
    refine E_iload_n (pc := 15) C dX0_readOperands_15 rfl rfl ?_
    refine E_aload_n (pc := 16) C dX0_readOperands_16 rfl rfl ?_
    refine E_get (pc := 17) C dX0_readOperands_17 f_X0_35 rfl rfl ?_
    refine E_get (pc := 20) C dX0_readOperands_20 f_X0_125 rfl rfl ?_
    refine E_iload_n (pc := 23) C dX0_readOperands_23 rfl rfl ?_
    refine E_aaldN (pc := 24) C dX0_readOperands_24 rfl (by decide) (by omega) (by decide) rfl ?_
    refine E_get (pc := 25) C dX0_readOperands_25 f_X0_134 (gX_op ho6) rfl ?_
    try dsimp only [tt]
    refine E_icmp_geN (pc := 28) (tgt := 59) C dX0_readOperands_28 (by decide) (by omega) (by omega) (fun h28 => ?_) (fun h28 => ?_)
    · omega
    · refine E_iload_n (pc := 31) C dX0_readOperands_31 rfl rfl ?_
      refine E_if_leN (pc := 32) (tgt := 44) C dX0_readOperands_32 (by decide) (by omega) (fun h32 => ?_) (fun h32 => ?_)
      · have k0 : k = 0 := by omega
        subst k0
        have r1 : vlL X D o (c9 + 1) 0 K P gv = vB (valF X D o 0 K P gv) (vlL X D o c9 1) := if_pos rfl
        refine E_iload_n (pc := 44) C dX0_readOperands_44 rfl rfl ?_
        refine E_aload_n (pc := 45) C dX0_readOperands_45 rfl rfl ?_
        refine E_iload_n (pc := 46) C dX0_readOperands_46 rfl rfl ?_
        refine E_iload_n (pc := 47) C dX0_readOperands_47 rfl rfl ?_
        have hG := valF_G (gv := gv) (o := o) (k := 0) hn hpI ho hk6 hw
        refine E_callVp (pc := 48) C hT9 dX0_readOperands_48 m_X0_135 (x_aOperand l G A S B Z Q L T _ _ o 0 hst hT2 hx hA8 hk hg hp hd hb ho hk6 (by rw [if_pos rfl] at hu; omega)) ⟨jle rfl, jle rfl⟩ rfl rfl rfl rfl rfl (jle rfl) ⟨jle rfl, jle rfl⟩ (jle rfl) (jle rfl) (fun E9 M9 h9 => vP.thr h9 (fun p hp => by rw [r1]; exact vB_x hp)) (fun v9 M9 h9 => ?_)
        obtain ⟨e0, ev, ix2, C2, V2, hk2, hg2, hR2, eM⟩ := vP.ret h9
        subst ev eM
        refine E_low hz9 hT2 ?_
        have r2 := r1.trans (vB_n e0)
        rw [r2]
        have hcw : cwF Z o gv 0 ||| spF (Z.2.2 (6 * o + 0)) ((valF X D o 0 K P gv).2.2.2 0) (Z.2.1 (6 * o + 0)).2.1 0 (nI 0) = cwF Z o (valF X D o 0 K P gv).2.2.2 (0 + 1) := by
          rfl
        try dsimp only [tt]
        refine E_ior (pc := 51) C dX0_readOperands_51 ?_
        rw [hcw]
        refine E_istore_n (pc := 52) C dX0_readOperands_52 rfl (by decide) rfl ?_
        dsimp only [List.set]
        refine E_iincN (pc := 53) C dX0_readOperands_53 rfl (by decide) rfl ?_
        dsimp only [List.set]
        refine E_goto (pc := 56) (tgt := 15) C dX0_readOperands_56 (by decide) ?_
        exact ih C2 V2 (0 + 1) hk2 hg2 hR2 (by omega) (by have := valF_u hG hn (by rw [if_pos rfl] at hu; omega) e0; rw [if_neg (by omega)]; omega) (hG.2.2.1) (by rw [hG.2.2.2.1]; exact hw)
      · refine E_aload_n (pc := 35) C dX0_readOperands_35 rfl rfl ?_
        refine E_get (pc := 36) C dX0_readOperands_36 f_X0_31 rfl rfl ?_
        refine E_bipush (pc := 39) (v := nI 44) C dX0_readOperands_39 (by decide) ?_
        by_cases q41 : isSignF X K 44 = true
        · refine E_callV0 (pc := 41) C dX0_readOperands_41 m_X0_91 (x_take l G A S _ _ _ _ _ _ L T _ hx hk ((kcl_sg hn hok (by decide) (by decide)).mpr q41)) ⟨jle rfl, jle rfl⟩ rfl rfl rfl rfl rfl (jle rfl) ⟨Nat.zero_le _, Nat.zero_le _⟩ ?_
          try dsimp only [tt]
          have hk1 := hk.adv hS
          have hn1 := hk1.n
          have hg11 := hn1.g.1
          have hg21 := hg11.1
          have hg31 := hg11.2.1
          have hkl1 := kcl_lt hX2 (K := (nextF X K.2.2))
          have hlt9 := hn.g.lt (by have := sg_4 q41; omega)
          have hu1 : 2 * P.2.2.1 ≤ (nextF X K.2.2).2.1 := by rw [if_neg (by omega)] at hu; omega
          have hpI1 := hpI.up hn.g.fr
          refine E_iload_n (pc := 44) C dX0_readOperands_44 rfl rfl ?_
          refine E_aload_n (pc := 45) C dX0_readOperands_45 rfl rfl ?_
          refine E_iload_n (pc := 46) C dX0_readOperands_46 rfl rfl ?_
          refine E_iload_n (pc := 47) C dX0_readOperands_47 rfl rfl ?_
          have r1 : vlL X D o (c9 + 1) k K P gv = vB (valF X D o k (nextF X K.2.2) P gv) (vlL X D o c9 (k + 1)) := (if_neg (by omega)).trans (if_pos q41)
          have hG := valF_G (gv := gv) (o := o) (k := k) hn1 hpI1 ho hk6 hw
          refine E_callVp (pc := 48) C hT9 dX0_readOperands_48 m_X0_135 (x_aOperand l G A S B Z Q L T _ _ o k hst hT2 hx hA8 hk1 hg hp hd hb ho hk6 hu1) ⟨jle rfl, jle rfl⟩ rfl rfl rfl rfl rfl (jle rfl) ⟨jle rfl, jle rfl⟩ (jle rfl) (jle rfl) (fun E9 M9 h9 => vP.thr h9 (fun p hp => by rw [r1]; exact vB_x hp)) (fun v9 M9 h9 => ?_)
          obtain ⟨e0, ev, ix2, C2, V2, hk2, hg2, hR2, eM⟩ := vP.ret h9
          subst ev eM
          refine E_low hz9 hT2 ?_
          have r2 := r1.trans (vB_n e0)
          rw [r2]
          have hcw : cwF Z o gv k ||| spF (Z.2.2 (6 * o + k)) ((valF X D o k (nextF X K.2.2) P gv).2.2.2 k) (Z.2.1 (6 * o + k)).2.1 0 (nI 0) = cwF Z o (valF X D o k (nextF X K.2.2) P gv).2.2.2 (k + 1) := by
            rw [cwF, cwF_cong (gv := gv) (gv' := (valF X D o k (nextF X K.2.2) P gv).2.2.2) k (fun j hj => (valF_gv e0 j (by omega)).symm)]
          try dsimp only [tt]
          refine E_ior (pc := 51) C dX0_readOperands_51 ?_
          rw [hcw]
          refine E_istore_n (pc := 52) C dX0_readOperands_52 rfl (by decide) rfl ?_
          dsimp only [List.set]
          refine E_iincN (pc := 53) C dX0_readOperands_53 rfl (by decide) rfl ?_
          dsimp only [List.set]
          refine E_goto (pc := 56) (tgt := 15) C dX0_readOperands_56 (by decide) ?_
          exact ih C2 V2 (k + 1) hk2 hg2 hR2 (by omega) (by have := valF_u hG hn1 hu1 e0; rw [if_neg (by omega)]; omega) (hG.2.2.1) (by rw [hG.2.2.2.1]; exact hw)
        · exact E_callVx (pc := 41) C hT9 dX0_readOperands_41 m_X0_91 (x_take_x l G A S _ _ _ _ _ _ L T _ hst hx hk (by decide) (fun z => q41 ((kcl_sg hn hok (by decide) (by decide)).mp z))) ⟨jle rfl, jle rfl⟩ rfl rfl rfl rfl rfl (jle rfl) ⟨jle rfl, jle rfl⟩ (jle rfl) (jle rfl) (vP.x (by rw [show vlL X D o (c9 + 1) k K P gv = _ from (if_neg (by omega)).trans (if_neg q41)]) hg)
set_option maxHeartbeats 4000000 in
set_option maxRecDepth 100000 in
theorem x_aOperands (l : Launch) (G : jG) {X : Nat × (Nat → Nat)} {ix : Nat} {K : Nat × Nat × Nat} {D : mD} {P : mP} {gv : Nat → Int64} {nz : Nat} (A : xA) (S : xS) (B : xB) (Z : xZ) (Q : xN) (L : xL) (T : jMem) (C9 : xC) (V : xV) (o : Nat) (hst : l.stackTraces = false) (hT2 : T.2 = some nz) (hx : xcx X A S) (hA8 : ∀ k, A.2.1 k < 256) (hk : xtk X S ix K) (hg : gC C9) (hp : pR X D P C9 V) (hd : dR D B Z D.2.2.1) (hb : nB B.2.2.1 12 ∧ nB B.2.2.2.2 60) (ho : o < D.2.2.1) (hu : 2 * P.2.2.1 ≤ K.2.1) (hpI : pI X D K.2.1 P) (hw : P.1 < 1000) : jCp l G yX0_readOperands cX0_readOperands 4 (some .int) 9 157 1 6 [.ref 867, .int (nI o)] (encX A S (tt X ix K) (-1) B Z C9 Q V L T) (vP X A S B Z Q L T D (some (.int (cwF Z o (vlL X D o (mOpds D o) 0 K P gv).2.2.2 (mOpds D o)))) (vlL X D o (mOpds D o) 0 K P gv)) := by
  refine jCp.of (by decide) 2 rfl [some (.ref 867), some (.int (nI o)), none, none] rfl (fun p e s m args below meth c C hT9 hz9 => ?_)
  have hz9 := hz9 _ hT2
  have hm1 := hd.2.2.2.1.1
  have hm2 := hb.2.1
  have ho6 : o < 60 := by omega
  refine E_aload_n (pc := 0) C dX0_readOperands_0 rfl rfl ?_
  refine E_get (pc := 1) C dX0_readOperands_1 f_X0_35 rfl rfl ?_
  refine E_get (pc := 4) C dX0_readOperands_4 f_X0_125 rfl rfl ?_
  refine E_iload_n (pc := 7) C dX0_readOperands_7 rfl rfl ?_
  refine E_aaldN (pc := 8) C dX0_readOperands_8 rfl (by decide) (by omega) (by decide) rfl ?_
  refine E_get (pc := 9) C dX0_readOperands_9 f_X0_129 (gX_op ho6) rfl ?_
  try dsimp only [tt]
  refine E_istore_n (pc := 12) C dX0_readOperands_12 rfl (by decide) rfl ?_
  dsimp only [List.set]
  refine E_iconst (pc := 13) (v := nI 0) C dX0_readOperands_13 (by decide) ?_
  refine E_istore_n (pc := 14) C dX0_readOperands_14 rfl (by decide) rfl ?_
  dsimp only [List.set]
  exact l_aOperands l G A S B Z Q L T C9 V o 0 (mOpds D o) C hT9 hst hT2 hx hA8 hk hg hp hd hb hz9 ho (by omega) (by rw [if_pos rfl]; exact hu) hpI hw
set_option maxHeartbeats 4000000 in
set_option maxRecDepth 100000 in
theorem x_addLabel (l : Launch) (G : jG) {X : Nat × (Nat → Nat)} {K : Nat × Nat × Nat} {D : mD} {P : mP} (A : xA) (S : xS) (B : xB) (Z : xZ) (Q : xN) (L : xL) (T : jMem) (t : xT) (C9 : xC) (V : xV) (hx : xcx X A S) (hA8 : ∀ k, A.2.1 k < 256) (hn : tkN X K) (hnm : isNameF X K = true) (hg : gC C9) (hp : pR X D P C9 V) (hq : P.2.1 ≠ 60 ∧ findF X K P.2.2.2.1 P.2.1 0 = 1000) : jC l G yX0_addLabel cX0_addLabel 4 none 7 103 0 0 [.ref 867, .int (nI K.2.1), .int (nI K.2.2)] (encX A S t (-1) B Z C9 Q V L T) (.inl (none, encX A S t (-1) B Z (C9.1, C9.2.1, C9.2.2.1, nAdd A.2.1 C9.2.2.2.1 K.2.1 K.2.2, va_up C9.2.2.2.2 C9.2.2.2.1.1 C9.1) Q V L T)) := by
  refine jC.of (by decide) 1 rfl [some (.ref 867), some (.int (nI K.2.1)), some (.int (nI K.2.2)), none] rfl (fun p e s m args below meth c C hT9 hNm9 => ?_)
  have hX1 := hx.1
  have hoc := hx.2.2.1
  have hg1 := hn.g.1
  have hg2 := hg1.1
  have hg3 := hg1.2.1
  have hl1 := hp.2.1.1
  have hl2 := hg.1.1
  have hs1 := hp.1
  have hln := (nm_len hn hnm).1
  have hfd := nR_find hp.2.1 hn hoc 0
  rw [if_pos hnm] at hfd
  rw [hq.2] at hfd
  refine J_aload_n (pc := 0) C dX0_addLabel_0 rfl rfl ?_
  refine J_get (pc := 1) C dX0_addLabel_1 f_X0_39 rfl rfl ?_
  refine J_get (pc := 4) C dX0_addLabel_4 f_X0_48 rfl rfl ?_
  refine J_astore_n (pc := 7) C dX0_addLabel_7 rfl (by decide) rfl ?_
  dsimp only [List.set]
  refine J_aload_n (pc := 8) C dX0_addLabel_8 rfl rfl ?_
  refine J_get (pc := 9) C dX0_addLabel_9 f_X0_52 rfl rfl ?_
  try dsimp only [tt]
  refine J_bipush (pc := 12) (v := nI 60) C dX0_addLabel_12 (by decide) ?_
  refine J_icmp_geN (pc := 14) (tgt := 33) C dX0_addLabel_14 (by decide) (by omega) (by omega) (fun h14 => ?_) (fun h14 => ?_)
  · omega
  · refine J_aload_n (pc := 17) C dX0_addLabel_17 rfl rfl ?_
    refine J_aload_n (pc := 18) C dX0_addLabel_18 rfl rfl ?_
    refine J_get (pc := 19) C dX0_addLabel_19 f_X0_31 rfl rfl ?_
    refine J_get (pc := 22) C dX0_addLabel_22 f_X0_100 rfl rfl ?_
    refine J_iload_n (pc := 25) C dX0_addLabel_25 rfl rfl ?_
    refine J_iload_n (pc := 26) C dX0_addLabel_26 rfl rfl ?_
    refine J_callV1 (pc := 27) C dX0_addLabel_27 m_X0_103 (x_find l G _ 859 60 720 C9.2.2.2.1 A.2.1 K.2.1 K.2.2 rfl rfl rfl rfl rfl hg.1 hA8 hg2 (by omega)) ⟨jle rfl, jle rfl⟩ rfl rfl rfl rfl rfl (jle rfl) ⟨Nat.zero_le _, Nat.zero_le _⟩ ?_
    try dsimp only [tt]
    rw [hfd]
    refine J_if_lt (pc := 30) (tgt := 41) C dX0_addLabel_30 (by decide) (fun h30 => ?_) (fun h30 => ?_)
    · refine J_aload_n (pc := 41) C dX0_addLabel_41 rfl rfl ?_
      refine J_get (pc := 42) C dX0_addLabel_42 f_X0_39 rfl rfl ?_
      refine J_get (pc := 45) C dX0_addLabel_45 f_X0_118 rfl rfl ?_
      refine J_aload_n (pc := 48) C dX0_addLabel_48 rfl rfl ?_
      refine J_get (pc := 49) C dX0_addLabel_49 f_X0_52 rfl rfl ?_
      try dsimp only [tt]
      refine J_aload_n (pc := 52) C dX0_addLabel_52 rfl rfl ?_
      refine J_get (pc := 53) C dX0_addLabel_53 f_X0_39 rfl rfl ?_
      refine J_get (pc := 56) C dX0_addLabel_56 f_X0_43 rfl rfl ?_
      try dsimp only [tt]
      refine J_iastN (pc := 59) C dX0_addLabel_59 rfl (by omega) (by decide) (uX_pplaces _) ?_
      refine J_aload_n (pc := 60) C dX0_addLabel_60 rfl rfl ?_
      refine J_aload_n (pc := 61) C dX0_addLabel_61 rfl rfl ?_
      refine J_get (pc := 62) C dX0_addLabel_62 f_X0_31 rfl rfl ?_
      refine J_get (pc := 65) C dX0_addLabel_65 f_X0_100 rfl rfl ?_
      refine J_iload_n (pc := 68) C dX0_addLabel_68 rfl rfl ?_
      refine J_iload_n (pc := 69) C dX0_addLabel_69 rfl rfl ?_
      refine J_callV0 (pc := 70) C dX0_addLabel_70 m_X0_121 (x_add l G _ _ _ _ 859 60 720 C9.2.2.2.1 A.2.1 K.2.1 K.2.2 rfl rfl rfl rfl rfl hg.1 hA8 (by decide) hg2 (by omega) (by omega) hln (uX_lnlen _) (uX_lnlet _) (uX_lnsize _)) ⟨jle rfl, jle rfl⟩ rfl rfl rfl rfl rfl (jle rfl) ⟨Nat.zero_le _, Nat.zero_le _⟩ ?_
      try dsimp only [tt]
      exact J_vret (pc := 73) C dX0_addLabel_73 rfl (rfl) (Nat.zero_le _) (Nat.zero_le _)
    · exact absurd (by decide) h30
set_option maxHeartbeats 4000000 in
set_option maxRecDepth 100000 in
theorem x_addLabel_x (l : Launch) (G : jG) {X : Nat × (Nat → Nat)} {K : Nat × Nat × Nat} {D : mD} {P : mP} (A : xA) (S : xS) (B : xB) (Z : xZ) (Q : xN) (L : xL) (T : jMem) (t : xT) (C9 : xC) (V : xV) (hst : l.stackTraces = false) (hx : xcx X A S) (hA8 : ∀ k, A.2.1 k < 256) (hn : tkN X K) (hnm : isNameF X K = true) (hg : gC C9) (hp : pR X D P C9 V) (hq : ¬ (P.2.1 ≠ 60 ∧ findF X K P.2.2.2.1 P.2.1 0 = 1000)) : jCp l G yX0_addLabel cX0_addLabel 4 none 7 103 1 6 [.ref 867, .int (nI K.2.1), .int (nI K.2.2)] (encX A S t (-1) B Z C9 Q V L T) ((fun o => o = .inr (eIA, jno (encX A S t (nI K.2.1) B Z C9 Q V L T)))) := by
  refine jCp.of (by decide) 1 rfl [some (.ref 867), some (.int (nI K.2.1)), some (.int (nI K.2.2)), none] rfl (fun p e s m args below meth c C hT9 hz9 => ?_)
  have hX1 := hx.1
  have hoc := hx.2.2.1
  have hg1 := hn.g.1
  have hg2 := hg1.1
  have hg3 := hg1.2.1
  have hl1 := hp.2.1.1
  have hl2 := hg.1.1
  have hs1 := hp.1
  have hln := (nm_len hn hnm).1
  have hfd := nR_find hp.2.1 hn hoc 0
  rw [if_pos hnm] at hfd
  have hfl := findF_lt (X := X) (K := K) (nm := P.2.2.2.1) (m := P.2.1) (j := 0)
  refine E_aload_n (pc := 0) C dX0_addLabel_0 rfl rfl ?_
  refine E_get (pc := 1) C dX0_addLabel_1 f_X0_39 rfl rfl ?_
  refine E_get (pc := 4) C dX0_addLabel_4 f_X0_48 rfl rfl ?_
  refine E_astore_n (pc := 7) C dX0_addLabel_7 rfl (by decide) rfl ?_
  dsimp only [List.set]
  refine E_aload_n (pc := 8) C dX0_addLabel_8 rfl rfl ?_
  refine E_get (pc := 9) C dX0_addLabel_9 f_X0_52 rfl rfl ?_
  try dsimp only [tt]
  refine E_bipush (pc := 12) (v := nI 60) C dX0_addLabel_12 (by decide) ?_
  refine E_icmp_geN (pc := 14) (tgt := 33) C dX0_addLabel_14 (by decide) (by omega) (by omega) (fun h14 => ?_) (fun h14 => ?_)
  · refine E_aload_n (pc := 33) C dX0_addLabel_33 rfl rfl ?_
    refine E_get (pc := 34) C dX0_addLabel_34 f_X0_31 rfl rfl ?_
    refine E_iload_n (pc := 37) C dX0_addLabel_37 rfl rfl ?_
    exact E_callVx (pc := 38) C hT9 dX0_addLabel_38 m_X0_73 (x_refuse l G A S _ _ _ _ _ _ _ L T _ hst) ⟨jle rfl, jle rfl⟩ rfl rfl rfl rfl rfl (jle rfl) ⟨jle rfl, jle rfl⟩ (jle rfl) (jle rfl) (rfl)
  · refine E_aload_n (pc := 17) C dX0_addLabel_17 rfl rfl ?_
    refine E_aload_n (pc := 18) C dX0_addLabel_18 rfl rfl ?_
    refine E_get (pc := 19) C dX0_addLabel_19 f_X0_31 rfl rfl ?_
    refine E_get (pc := 22) C dX0_addLabel_22 f_X0_100 rfl rfl ?_
    refine E_iload_n (pc := 25) C dX0_addLabel_25 rfl rfl ?_
    refine E_iload_n (pc := 26) C dX0_addLabel_26 rfl rfl ?_
    refine E_callV1 (pc := 27) C dX0_addLabel_27 m_X0_103 (x_find l G _ 859 60 720 C9.2.2.2.1 A.2.1 K.2.1 K.2.2 rfl rfl rfl rfl rfl hg.1 hA8 hg2 (by omega)) ⟨jle rfl, jle rfl⟩ rfl rfl rfl rfl rfl (jle rfl) ⟨Nat.zero_le _, Nat.zero_le _⟩ ?_
    try dsimp only [tt]
    rw [hfd]
    refine E_if_lt (pc := 30) (tgt := 41) C dX0_addLabel_30 (by decide) (fun h30 => ?_) (fun h30 => ?_)
    · exact absurd ⟨by omega, lI_lt0 (by omega) h30⟩ hq
    · refine E_aload_n (pc := 33) C dX0_addLabel_33 rfl rfl ?_
      refine E_get (pc := 34) C dX0_addLabel_34 f_X0_31 rfl rfl ?_
      refine E_iload_n (pc := 37) C dX0_addLabel_37 rfl rfl ?_
      exact E_callVx (pc := 38) C hT9 dX0_addLabel_38 m_X0_73 (x_refuse l G A S _ _ _ _ _ _ _ L T _ hst) ⟨jle rfl, jle rfl⟩ rfl rfl rfl rfl rfl (jle rfl) ⟨jle rfl, jle rfl⟩ (jle rfl) (jle rfl) (rfl)
set_option maxHeartbeats 4000000 in
set_option maxRecDepth 100000 in
theorem x_readPlainWord (l : Launch) (G : jG) {X : Nat × (Nat → Nat)} {ix : Nat} {K : Nat × Nat × Nat} {D : mD} {P : mP} {gv : Nat → Int64} {nz : Nat} (A : xA) (S : xS) (B : xB) (Z : xZ) (Q : xN) (L : xL) (T : jMem) (C9 : xC) (V : xV) (hst : l.stackTraces = false) (hT2 : T.2 = some nz) (hx : xcx X A S) (hA8 : ∀ k, A.2.1 k < 256) (hk : xtk X S ix K) (hg : gC C9) (hp : pR X D P C9 V) (hd : dR D B Z D.2.2.1) (hb : nB B.2.2.1 12 ∧ nB B.2.2.2.2 60) : jCp l G yX0_readPlainWord cX0_readPlainWord 1 none 8 133 1 6 [.ref 867] (encX A S (tt X ix K) (-1) B Z C9 Q V L T) (vP X A S B Z Q L T D (none) (ppF X D K P gv)) := by
  refine jCp.of (by decide) 0 rfl [some (.ref 867)] rfl (fun p e s m args below meth c C hT9 hz9 => ?_)
  have hz9 := hz9 _ hT2
  have hX1 := hx.1
  have hX2 := hx.2.1
  have hoc := hx.2.2.1
  have hS := hx.2.2.2.1
  have hok := hx.2.2.2.2
  have hn := hk.n
  have hg1 := hn.g.1
  have hg2 := hg1.1
  have hg3 := hg1.2.1
  have hkl := kcl_lt hX2 (K := K)
  have hs1 := hp.1
  have hB1 := hd.1.1
  have hB2 := hd.1.2.1
  have hokv : ∀ v, okP D.1 v = jin2 0 (pw D.1 - 1) v := fun v => rfl
  refine E_aload_n (pc := 0) C dX0_readPlainWord_0 rfl rfl ?_
  refine E_get (pc := 1) C dX0_readPlainWord_1 f_X0_39 rfl rfl ?_
  refine E_get (pc := 4) C dX0_readPlainWord_4 f_X0_43 rfl rfl ?_
  try dsimp only [tt]
  refine E_sipush (pc := 7) (v := nI 1000) C dX0_readPlainWord_7 (by decide) ?_
  refine E_icmp_ltN (pc := 10) (tgt := 27) C dX0_readPlainWord_10 (by decide) (by omega) (by omega) (fun h10 => ?_) (fun h10 => ?_)
  · have r0 : ppF X D K P gv = vB (nb1 X (nextF X K.2.2) (okP D.1) P gv 0) (pgE X vI (fun gv => (gv 0).toInt32)) := if_neg (by omega)
    have r0c : nb1 X (nextF X K.2.2) (okP D.1) P gv 0 = nb1 X (nextF X K.2.2) (okP D.1) P gv 0 := rfl
    have hk1 := hk.adv hS
    have hn1 := hk1.n
    have hg11 := hn1.g.1
    have hg21 := hg11.1
    have hg31 := hg11.2.1
    have hkl1 := kcl_lt hX2 (K := (nextF X K.2.2))
    refine E_aload_n (pc := 27) C dX0_readPlainWord_27 rfl rfl ?_
    refine E_get (pc := 28) C dX0_readPlainWord_28 f_X0_31 rfl rfl ?_
    refine E_callV0 (pc := 31) C dX0_readPlainWord_31 m_X0_76 (x_advance l G A S _ _ _ _ _ _ L T hx hk) ⟨jle rfl, jle rfl⟩ rfl rfl rfl rfl rfl (jle rfl) ⟨Nat.zero_le _, Nat.zero_le _⟩ ?_
    try dsimp only [tt]
    refine E_aload_n (pc := 34) C dX0_readPlainWord_34 rfl rfl ?_
    refine E_aload_n (pc := 35) C dX0_readPlainWord_35 rfl rfl ?_
    refine E_get (pc := 36) C dX0_readPlainWord_36 f_X0_31 rfl rfl ?_
    refine E_lconst (pc := 39) (v := 0) C dX0_readPlainWord_39 (by decide) ?_
    refine E_lconst (pc := 40) (v := 1) C dX0_readPlainWord_40 (by decide) ?_
    refine E_aload_n (pc := 41) C dX0_readPlainWord_41 rfl rfl ?_
    refine E_get (pc := 42) C dX0_readPlainWord_42 f_X0_35 rfl rfl ?_
    refine E_get (pc := 45) C dX0_readPlainWord_45 f_X0_79 rfl rfl ?_
    try dsimp only [tt]
    refine E_lshl (pc := 48) C dX0_readPlainWord_48 rfl ?_
    rw [hB1, shl1 (by omega)]
    refine E_lconst (pc := 49) (v := 1) C dX0_readPlainWord_49 (by decide) ?_
    refine E_lsub (pc := 50) C dX0_readPlainWord_50 ?_
    by_cases hsg : isSignF X (nextF X K.2.2) 45 = true
    · by_cases hq1 : (nextF X (nextF X K.2.2).2.2).1 = 3 ∨ ((nextF X (nextF X K.2.2).2.2).1 = 2 ∧ (nextF X (nextF X K.2.2).2.2).2.2 - (nextF X (nextF X K.2.2).2.2).2.1 ≤ 10)
      · by_cases hq2 : jin2 0 (pw D.1 - 1) (sgn true (lN (numN X (nextF X (nextF X K.2.2).2.2)))) = true
        · have r9 := r0c.trans (nb1_t1 hsg hq1 ((hokv _).trans hq2))
          refine E_callV1 (pc := 51) C dX0_readPlainWord_51 m_X0_84 (x_tvm l G A S _ _ _ _ _ _ L T _ _ hx hk1 hsg hq1 hq2) ⟨jle rfl, jle rfl⟩ rfl rfl rfl rfl rfl (jle rfl) ⟨Nat.zero_le _, Nat.zero_le _⟩ ?_
          try dsimp only [tt]
          have r8 : ppF X D K P gv = _ := r0.trans (congrArg (fun z => vB z (pgE X vI (fun gv => (gv 0).toInt32))) r9)
          have hk9 := ((hk1.adv hS).adv hS)
          have hn9 := hk9.n
          rw [vB_n (r := (none, _, _, _)) rfl] at r8
          refine E_l2i (pc := 54) C dX0_readPlainWord_54 rfl ?_
          refine E_callV0 (pc := 55) C dX0_readPlainWord_55 m_X0_88 (x_addWord l G A S _ _ B Z _ Q V L T _ (by omega)) ⟨jle rfl, jle rfl⟩ rfl rfl rfl rfl rfl (jle rfl) ⟨Nat.zero_le _, Nat.zero_le _⟩ ?_
          try dsimp only [tt]
          refine E_aload_n (pc := 58) C dX0_readPlainWord_58 rfl rfl ?_
          refine E_get (pc := 59) C dX0_readPlainWord_59 f_X0_31 rfl rfl ?_
          refine E_bipush (pc := 62) (v := nI 59) C dX0_readPlainWord_62 (by decide) ?_
          by_cases q64 : isSignF X (nextF X (nextF X (nextF X K.2.2).2.2).2.2) 59 = true
          · refine E_callV0 (pc := 64) C dX0_readPlainWord_64 m_X0_91 (x_take l G A S _ _ _ _ _ _ L T _ hx hk9 ((kcl_sg hn9 hok (by decide) (by decide)).mpr q64)) ⟨jle rfl, jle rfl⟩ rfl rfl rfl rfl rfl (jle rfl) ⟨Nat.zero_le _, Nat.zero_le _⟩ ?_
            exact E_vret (pc := 67) C dX0_readPlainWord_67 rfl (vP.t (r8.trans (by show pgE X vI _ _ P _ = _; unfold pgE; rw [if_pos q64]; show (none, _, _, _) = _; dsimp only; rw [va_up_self])) (hk9.adv hS) hg (hp.word (by omega) _)) (Nat.zero_le _) (Nat.zero_le _)
          · exact E_callVx (pc := 64) C hT9 dX0_readPlainWord_64 m_X0_91 (x_take_x l G A S _ _ _ _ _ _ L T _ hst hx hk9 (by decide) (fun z => q64 ((kcl_sg hn9 hok (by decide) (by decide)).mp z))) ⟨jle rfl, jle rfl⟩ rfl rfl rfl rfl rfl (jle rfl) ⟨jle rfl, jle rfl⟩ (jle rfl) (jle rfl) (vP.x (by rw [r8]; show (pgE X vI _ _ P _).1 = _; unfold pgE; rw [if_neg q64]) hg)
        · exact E_callVx (pc := 51) C hT9 dX0_readPlainWord_51 m_X0_84 (x_tvm_x l G A S _ _ _ _ _ _ L T _ _ _ hst hx hk1 hsg (Or.inr ⟨hq1, hq2, rfl⟩)) ⟨jle rfl, jle rfl⟩ rfl rfl rfl rfl rfl (jle rfl) ⟨jle rfl, jle rfl⟩ (jle rfl) (jle rfl) (vP.x (by rw [r0]; exact vB_x ((nb1_x2 hsg hq1 (fun z => hq2 ((hokv _).symm.trans z))))) hg)
      · exact E_callVx (pc := 51) C hT9 dX0_readPlainWord_51 m_X0_84 (x_tvm_x l G A S _ _ _ _ _ _ L T _ _ _ hst hx hk1 hsg (Or.inl ⟨hq1, rfl⟩)) ⟨jle rfl, jle rfl⟩ rfl rfl rfl rfl rfl (jle rfl) ⟨jle rfl, jle rfl⟩ (jle rfl) (jle rfl) (vP.x (by rw [r0]; exact vB_x ((nb1_x1 hsg hq1))) hg)
    · have hsg : isSignF X (nextF X K.2.2) 45 = false := by simpa using hsg
      by_cases hq1 : (nextF X K.2.2).1 = 3 ∨ ((nextF X K.2.2).1 = 2 ∧ (nextF X K.2.2).2.2 - (nextF X K.2.2).2.1 ≤ 10)
      · by_cases hq2 : jin2 0 (pw D.1 - 1) (sgn false (lN (numN X (nextF X K.2.2)))) = true
        · have r9 := r0c.trans (nb1_t0 hsg hq1 ((hokv _).trans hq2))
          refine E_callV1 (pc := 51) C dX0_readPlainWord_51 m_X0_84 (x_tv l G A S _ _ _ _ _ _ L T _ _ hx hk1 hsg hq1 hq2) ⟨jle rfl, jle rfl⟩ rfl rfl rfl rfl rfl (jle rfl) ⟨Nat.zero_le _, Nat.zero_le _⟩ ?_
          try dsimp only [tt]
          have r8 : ppF X D K P gv = _ := r0.trans (congrArg (fun z => vB z (pgE X vI (fun gv => (gv 0).toInt32))) r9)
          have hk9 := (hk1.adv hS)
          have hn9 := hk9.n
          rw [vB_n (r := (none, _, _, _)) rfl] at r8
          refine E_l2i (pc := 54) C dX0_readPlainWord_54 rfl ?_
          refine E_callV0 (pc := 55) C dX0_readPlainWord_55 m_X0_88 (x_addWord l G A S _ _ B Z _ Q V L T _ (by omega)) ⟨jle rfl, jle rfl⟩ rfl rfl rfl rfl rfl (jle rfl) ⟨Nat.zero_le _, Nat.zero_le _⟩ ?_
          try dsimp only [tt]
          refine E_aload_n (pc := 58) C dX0_readPlainWord_58 rfl rfl ?_
          refine E_get (pc := 59) C dX0_readPlainWord_59 f_X0_31 rfl rfl ?_
          refine E_bipush (pc := 62) (v := nI 59) C dX0_readPlainWord_62 (by decide) ?_
          by_cases q64 : isSignF X (nextF X (nextF X K.2.2).2.2) 59 = true
          · refine E_callV0 (pc := 64) C dX0_readPlainWord_64 m_X0_91 (x_take l G A S _ _ _ _ _ _ L T _ hx hk9 ((kcl_sg hn9 hok (by decide) (by decide)).mpr q64)) ⟨jle rfl, jle rfl⟩ rfl rfl rfl rfl rfl (jle rfl) ⟨Nat.zero_le _, Nat.zero_le _⟩ ?_
            exact E_vret (pc := 67) C dX0_readPlainWord_67 rfl (vP.t (r8.trans (by show pgE X vI _ _ P _ = _; unfold pgE; rw [if_pos q64]; show (none, _, _, _) = _; dsimp only; rw [va_up_self])) (hk9.adv hS) hg (hp.word (by omega) _)) (Nat.zero_le _) (Nat.zero_le _)
          · exact E_callVx (pc := 64) C hT9 dX0_readPlainWord_64 m_X0_91 (x_take_x l G A S _ _ _ _ _ _ L T _ hst hx hk9 (by decide) (fun z => q64 ((kcl_sg hn9 hok (by decide) (by decide)).mp z))) ⟨jle rfl, jle rfl⟩ rfl rfl rfl rfl rfl (jle rfl) ⟨jle rfl, jle rfl⟩ (jle rfl) (jle rfl) (vP.x (by rw [r8]; show (pgE X vI _ _ P _).1 = _; unfold pgE; rw [if_neg q64]) hg)
        · exact E_callVx (pc := 51) C hT9 dX0_readPlainWord_51 m_X0_84 (x_tv_x l G A S _ _ _ _ _ _ L T _ _ _ hst hx hk1 hsg (Or.inr ⟨hq1, hq2, rfl⟩)) ⟨jle rfl, jle rfl⟩ rfl rfl rfl rfl rfl (jle rfl) ⟨jle rfl, jle rfl⟩ (jle rfl) (jle rfl) (vP.x (by rw [r0]; exact vB_x ((nb1_x0 hsg (fun _ z => hq2 ((hokv _).symm.trans z))))) hg)
      · exact E_callVx (pc := 51) C hT9 dX0_readPlainWord_51 m_X0_84 (x_tv_x l G A S _ _ _ _ _ _ L T _ _ _ hst hx hk1 hsg (Or.inl ⟨hq1, rfl⟩)) ⟨jle rfl, jle rfl⟩ rfl rfl rfl rfl rfl (jle rfl) ⟨jle rfl, jle rfl⟩ (jle rfl) (jle rfl) (vP.x (by rw [r0]; exact vB_x ((nb1_x0 hsg (fun z _ => hq1 z)))) hg)
  · refine E_aload_n (pc := 13) C dX0_readPlainWord_13 rfl rfl ?_
    refine E_get (pc := 14) C dX0_readPlainWord_14 f_X0_31 rfl rfl ?_
    refine E_aload_n (pc := 17) C dX0_readPlainWord_17 rfl rfl ?_
    refine E_get (pc := 18) C dX0_readPlainWord_18 f_X0_31 rfl rfl ?_
    refine E_get (pc := 21) C dX0_readPlainWord_21 f_X0_70 rfl rfl ?_
    try dsimp only [tt]
    exact E_callVx (pc := 24) C hT9 dX0_readPlainWord_24 m_X0_73 (x_refuse l G A S _ _ _ _ _ _ _ L T _ hst) ⟨jle rfl, jle rfl⟩ rfl rfl rfl rfl rfl (jle rfl) ⟨jle rfl, jle rfl⟩ (jle rfl) (jle rfl) (vP.x (by rw [show ppF X D K P gv = _ from if_pos (show P.1 = 1000 by omega)]) hg)
