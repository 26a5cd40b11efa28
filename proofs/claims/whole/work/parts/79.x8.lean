set_option maxHeartbeats 4000000 in
set_option maxRecDepth 100000 in
theorem l_readOperands (l : Launch) (G : jG) {p : Program} {e : Env} {s : State} {m : MethodId} {args : Array Value} {below : List Frame} {meth : Method} {c : Code} {X : Nat × (Nat → Nat)} {ix : Nat} {K : Nat × Nat × Nat} {D : mD} {nz : Nat} (A : xA) (S : xS) (P : xC) (V : xV) (L : xL) (T : jMem) (B : xB) (Z : xZ) (Q : xN) (o tn f9 : Nat) (C : jX0 p l (jR 9 150 1 6) s m args meth c G cX1_readOperands 3 RX1 none) (hT9 : ∀ x ∈ c.exceptionTable.toList, False) (hst : l.stackTraces = false) (hT2 : T.2 = some nz) (hx : xcx X A S) (hA8 : ∀ k, A.2.1 k < 256) (hk : xtk X S ix K) (hg : gB B Q) (hz9 : s.heap.size = G.1 + nz) (ho : o < 60) (hoS : oS D B Z Q o 0) (hdG : dG D) (hf9 : X.1 + 1 ≤ K.2.1 + f9) (htn : tn ≤ K.2.1) : Jp p l e (jR 9 150 1 6) s m args below meth c G 3 1 6 (dP X A S P V L T (fun D B Z Q => oS D B Z Q o 0) (opsL X o f9 K D)) 28 [some (.ref 863), some (.ref (17 + 14 * o)), some (.int (nI tn))] [] (encX A S (tt X ix K) (-1) B Z P Q V L T) 0 0 := by
  have hX1 := hx.1
  have hX2 := hx.2.1
  have hoc := hx.2.2.1
  have hS := hx.2.2.2.1
  have hok := hx.2.2.2.2
  induction f9 generalizing tn K D ix B Z Q with
  | zero =>
    exfalso
    have := hk.n.g.1.1
    have := hk.n.g.1.2.1
    omega
  | succ f9 ih =>
    have hn := hk.n
    have hg1 := hn.g.1
    have hg2 := hg1.1
    have hg3 := hg1.2.1
    have hkl := kcl_lt hX2 (K := K)
    have hto := tk_one hn
    refine E_iload_n (pc := 28) C dX1_readOperands_28 rfl rfl ?_
    refine E_sipush (pc := 29) (v := nI 4000) C dX1_readOperands_29 (by decide) ?_
    refine E_icmp_geN (pc := 32) (tgt := 65) C dX1_readOperands_32 (by decide) (by omega) (by omega) (fun h32 => ?_) (fun h32 => ?_)
    · exact E_vret (pc := 65) C dX1_readOperands_65 rfl (dP.t (if_neg (by first | exact (fun z => h44 ((kcl_sg hn hok (by decide) (by decide)).mpr z)) | exact (fun z => by have h4 := sg_4 z; have := hto.2.2.2.2.2.2 (by omega); omega))) hk hg hoS) (Nat.zero_le _) (Nat.zero_le _)
    · refine E_aload_n (pc := 35) C dX1_readOperands_35 rfl rfl ?_
      refine E_get (pc := 36) C dX1_readOperands_36 f_X1_20 rfl rfl ?_
      refine E_get (pc := 39) C dX1_readOperands_39 f_X1_43 rfl rfl ?_
      try dsimp only [tt]
      refine E_bipush (pc := 42) (v := nI 44) C dX1_readOperands_42 (by decide) ?_
      refine E_icmp_neN (pc := 44) (tgt := 65) C dX1_readOperands_44 (by decide) (by omega) (by omega) (fun h44 => ?_) (fun h44 => ?_)
      · exact E_vret (pc := 65) C dX1_readOperands_65 rfl (dP.t (if_neg (by first | exact (fun z => h44 ((kcl_sg hn hok (by decide) (by decide)).mpr z)) | exact (fun z => by have h4 := sg_4 z; have := hto.2.2.2.2.2.2 (by omega); omega))) hk hg hoS) (Nat.zero_le _) (Nat.zero_le _)
      · have hsg := (kcl_sg hn hok (by decide) (by decide)).mp h44
        have hK4 : K.1 = 4 := by simp [isSignF] at hsg; exact hsg.1
        have r1 : opsL X o (f9 + 1) K D = mB (opdF X (nextF X K.2.2) D o) (opsL X o f9) := if_pos hsg
        have hk1 := hk.adv hS
        have hn1 := hk1.n
        have hg11 := hn1.g.1
        have hg21 := hg11.1
        have hg31 := hg11.2.1
        have hkl1 := kcl_lt hX2 (K := (nextF X K.2.2))
        have hlt := hn.g.lt (by omega)
        have hG := opdF_G hX2 hn1.g hdG hoS.2.1.g
        refine E_aload_n (pc := 47) C dX1_readOperands_47 rfl rfl ?_
        refine E_get (pc := 48) C dX1_readOperands_48 f_X1_20 rfl rfl ?_
        refine E_callV0 (pc := 51) C dX1_readOperands_51 m_X1_70 (x_advance l G A S _ _ _ P _ V L T hx hk) ⟨jle rfl, jle rfl⟩ rfl rfl rfl rfl rfl (jle rfl) ⟨Nat.zero_le _, Nat.zero_le _⟩ ?_
        try dsimp only [tt]
        refine E_aload_n (pc := 54) C dX1_readOperands_54 rfl rfl ?_
        refine E_aload_n (pc := 55) C dX1_readOperands_55 rfl rfl ?_
        refine E_callVp (pc := 56) C hT9 dX1_readOperands_56 m_X1_108 (x_readOperand l G A S P V L T _ _ _ o hst hT2 hx hA8 hk1 hg ho hoS) ⟨jle rfl, jle rfl⟩ rfl rfl rfl rfl rfl (jle rfl) ⟨jle rfl, jle rfl⟩ (jle rfl) (jle rfl) (fun E9 M9 h9 => dP.thr h9 (fun p hp => by rw [r1]; exact mB_x hp)) (fun v9 M9 h9 => ?_)
        obtain ⟨e0, ev, ix2, B2, Z2, Q2, hk2, hg2, hR2, eM⟩ := dP.ret h9
        subst ev eM
        have r2 := r1.trans (mB_t e0)
        rw [r2]
        refine E_low hz9 hT2 ?_
        try dsimp only [tt]
        refine E_iincN (pc := 59) C dX1_readOperands_59 rfl (by decide) rfl ?_
        dsimp only [List.set]
        refine E_goto (pc := 62) (tgt := 28) C dX1_readOperands_62 (by decide) ?_
        exact ih B2 Z2 Q2 (tn + 1) hk2 hg2 hR2 hG.1.2.2.1 (by have := hG.2 e0; omega) (by have := hG.2 e0; omega)
set_option maxHeartbeats 4000000 in
set_option maxRecDepth 100000 in
theorem x_readOperands (l : Launch) (G : jG) {X : Nat × (Nat → Nat)} {ix : Nat} {K : Nat × Nat × Nat} {D : mD} {nz : Nat} (A : xA) (S : xS) (P : xC) (V : xV) (L : xL) (T : jMem) (B : xB) (Z : xZ) (Q : xN) (o : Nat) (hst : l.stackTraces = false) (hT2 : T.2 = some nz) (hx : xcx X A S) (hA8 : ∀ k, A.2.1 k < 256) (hk : xtk X S ix K) (hg : gB B Q) (ho : o < 60) (hoS : oS D B Z (0, Q.2.1, Q.2.2) o 0) (hdG : dG D) : jCp l G yX1_readOperands cX1_readOperands 3 none 9 150 1 6 [.ref 863, .ref (17 + 14 * o)] (encX A S (tt X ix K) (-1) B Z P Q V L T) (dP X A S P V L T (fun D B Z Q => oS D B Z Q o 0) (orF X o K D)) := by
  refine jCp.of (by decide) 1 rfl [some (.ref 863), some (.ref (17 + 14 * o)), none] rfl (fun p e s m args below meth c C hT9 hz9 => ?_)
  have hz9 := hz9 _ hT2
  have hX1 := hx.1
  have hX2 := hx.2.1
  have hoc := hx.2.2.1
  have hS := hx.2.2.2.1
  have hok := hx.2.2.2.2
  have hn := hk.n
  have hg1 := hn.g.1
  have hg2 := hg1.1
  have hg3 := hg1.2.1
  have hkl := kcl_lt hX2 (K := K)
  have hg0 : gB B (0, Q.2.1, Q.2.2) := ⟨hg.1, hg.2.1, nB_0 hg.2.2.1, hg.2.2.2⟩
  refine E_aload_n (pc := 0) C dX1_readOperands_0 rfl rfl ?_
  refine E_get (pc := 1) C dX1_readOperands_1 f_X1_14 rfl rfl ?_
  refine E_iconst (pc := 4) (v := nI 0) C dX1_readOperands_4 (by decide) ?_
  refine E_putU (pc := 5) C dX1_readOperands_5 p_X1_33 rfl (jlt rfl) rfl rfl (uX_qnsize _) ?_
  try dsimp only [tt]
  refine E_aload_n (pc := 8) C dX1_readOperands_8 rfl rfl ?_
  refine E_get (pc := 9) C dX1_readOperands_9 f_X1_20 rfl rfl ?_
  refine E_get (pc := 12) C dX1_readOperands_12 f_X1_43 rfl rfl ?_
  try dsimp only [tt]
  refine E_bipush (pc := 15) (v := nI 61) C dX1_readOperands_15 (by decide) ?_
  refine E_icmp_neN (pc := 17) (tgt := 21) C dX1_readOperands_17 (by decide) (by omega) (by omega) (fun h17 => ?_) (fun h17 => ?_)
  · have r0 : orF X o K D = mB (opdF X K D o) (opsL X o (X.1 + 1)) := if_neg (fun z => h17 ((kcl_sg hn hok (by decide) (by decide)).mpr z))
    have hG := opdF_G hX2 hn.g hdG hoS.2.1.g
    refine E_aload_n (pc := 21) C dX1_readOperands_21 rfl rfl ?_
    refine E_aload_n (pc := 22) C dX1_readOperands_22 rfl rfl ?_
    refine E_callVp (pc := 23) C hT9 dX1_readOperands_23 m_X1_108 (x_readOperand l G A S P V L T _ _ _ o hst hT2 hx hA8 hk hg0 ho hoS) ⟨jle rfl, jle rfl⟩ rfl rfl rfl rfl rfl (jle rfl) ⟨jle rfl, jle rfl⟩ (jle rfl) (jle rfl) (fun E9 M9 h9 => dP.thr h9 (fun p hp => by rw [r0]; exact mB_x hp)) (fun v9 M9 h9 => ?_)
    obtain ⟨e0, ev, ix2, B2, Z2, Q2, hk2, hg2, hR2, eM⟩ := dP.ret h9
    subst ev eM
    have r2 := r0.trans (mB_t e0)
    rw [r2]
    refine E_low hz9 hT2 ?_
    try dsimp only [tt]
    refine E_iconst (pc := 26) (v := nI 0) C dX1_readOperands_26 (by decide) ?_
    refine E_istore_n (pc := 27) C dX1_readOperands_27 rfl (by decide) rfl ?_
    dsimp only [List.set]
    exact l_readOperands l G A S P V L T B2 Z2 Q2 o 0 (X.1 + 1) C hT9 hst hT2 hx hA8 hk2 hg2 hz9 ho hR2 hG.1.2.2.1 (by omega) (Nat.zero_le _)
  · exact E_vret (pc := 20) C dX1_readOperands_20 rfl (dP.t (if_pos ((kcl_sg hn hok (by decide) (by decide)).mp h17)) hk hg0 hoS) (Nat.zero_le _) (Nat.zero_le _)
set_option maxHeartbeats 4000000 in
set_option maxRecDepth 100000 in
theorem l_readFixedBits (l : Launch) (G : jG) {p : Program} {e : Env} {s : State} {m : MethodId} {args : Array Value} {below : List Frame} {meth : Method} {c : Code} {X : Nat × (Nat → Nat)} {ix : Nat} {K : Nat × Nat × Nat} {D : mD} {nz : Nat} (A : xA) (S : xS) (P : xC) (V : xV) (L : xL) (T : jMem) (B : xB) (Z : xZ) (Q : xN) (o a n n0 : Nat) (D0 : mD) (b9 p9 : Option Value) (C : jX0 p l (jR 7 103 1 6) s m args meth c G cX1_readFixedBits 5 RX1 none) (hT9 : ∀ x ∈ c.exceptionTable.toList, False) (hst : l.stackTraces = false) (hT2 : T.2 = some nz) (hx : xcx X A S) (hA8 : ∀ k, A.2.1 k < 256) (hk : xtk X S ix K) (hg : gB B Q) (hz9 : s.heap.size = G.1 + nz) (ho : o < 60) (hoS : oS D B Z Q o n) (h2 : K.1 = 2) (ha : K.2.1 ≤ a ∧ a ≤ K.2.2) (hW : n + (K.2.2 - a) ≤ D.1) : Jp p l e (jR 7 103 1 6) s m args below meth c G 5 1 6 (dP X A S P V L T (fun D9 B9 Z9 Q9 => oS D9 B9 Z9 Q9 o (fxF X K D0 n0 D o n a).2.2.2) (mFR (fxF X K D0 n0 D o n a))) 52 [some (.ref 863), some (.ref (17 + 14 * o)), some (.int (nI a)), b9, p9] [] (encX A S (tt X ix K) (-1) B Z P Q V L T) 0 0 := by
  have hX1 := hx.1
  have hX2 := hx.2.1
  have hoc := hx.2.2.1
  have hS := hx.2.2.2.1
  have hok := hx.2.2.2.2
  have hn := hk.n
  have hg1 := hn.g.1
  have hg2 := hg1.1
  have hg3 := hg1.2.1
  have hkl := kcl_lt hX2 (K := K)
  have hdig := hn.g.2 h2
  induction hm : K.2.2 - a generalizing a n D Z b9 p9 with
  | zero =>
    rw [fxF_e (by omega)]
    refine E_iload_n (pc := 52) C dX1_readFixedBits_52 rfl rfl ?_
    refine E_aload_n (pc := 53) C dX1_readFixedBits_53 rfl rfl ?_
    refine E_get (pc := 54) C dX1_readFixedBits_54 f_X1_20 rfl rfl ?_
    refine E_get (pc := 57) C dX1_readFixedBits_57 f_X1_124 rfl rfl ?_
    try dsimp only [tt]
    refine E_icmp_geN (pc := 60) (tgt := 153) C dX1_readFixedBits_60 (by decide) (by omega) (by omega) (fun h60 => ?_) (fun h60 => ?_)
    · refine E_aload_n (pc := 153) C dX1_readFixedBits_153 rfl rfl ?_
      refine E_get (pc := 154) C dX1_readFixedBits_154 f_X1_20 rfl rfl ?_
      refine E_callV0 (pc := 157) C dX1_readFixedBits_157 m_X1_70 (x_advance l G A S _ _ _ P _ V L T hx hk) ⟨jle rfl, jle rfl⟩ rfl rfl rfl rfl rfl (jle rfl) ⟨Nat.zero_le _, Nat.zero_le _⟩ ?_
      try dsimp only [tt]
      exact E_vret (pc := 160) C dX1_readFixedBits_160 rfl (dP.t rfl (hk.adv hS) hg hoS) (Nat.zero_le _) (Nat.zero_le _)
    · omega
  | succ d ih =>
    have hlt : a < K.2.2 := by omega
    have hd1 := hdig a ha.1 hlt
    have ho1 := hoc a (by omega)
    have hB1 : B.1 = D.1 := hoS.2.2.2.1.1
    have hB2 : D.1 ≤ 32 := hoS.2.2.2.1.2.1
    have hln : (Z.1 o).2.1 = n := hoS.2.1.1.2.2.1
    have hif : (if X.2 a - 48 = 0 then (-1 : Int32) else -2) = if X.2 a = 48 then -1 else -2 := by
      by_cases e9 : X.2 a = 48
      · rw [if_pos (by omega), if_pos e9]
      · rw [if_neg (by omega), if_neg e9]
    refine E_iload_n (pc := 52) C dX1_readFixedBits_52 rfl rfl ?_
    refine E_aload_n (pc := 53) C dX1_readFixedBits_53 rfl rfl ?_
    refine E_get (pc := 54) C dX1_readFixedBits_54 f_X1_20 rfl rfl ?_
    refine E_get (pc := 57) C dX1_readFixedBits_57 f_X1_124 rfl rfl ?_
    try dsimp only [tt]
    refine E_icmp_geN (pc := 60) (tgt := 153) C dX1_readFixedBits_60 (by decide) (by omega) (by omega) (fun h60 => ?_) (fun h60 => ?_)
    · omega
    · refine E_aload_n (pc := 63) C dX1_readFixedBits_63 rfl rfl ?_
      refine E_get (pc := 64) C dX1_readFixedBits_64 f_X1_20 rfl rfl ?_
      refine E_get (pc := 67) C dX1_readFixedBits_67 f_X1_121 rfl rfl ?_
      refine E_iload_n (pc := 70) C dX1_readFixedBits_70 rfl rfl ?_
      refine E_ialdN (pc := 71) C dX1_readFixedBits_71 rfl (by omega) (by decide) ?_
      try dsimp only [tt]
      rw [ho1]
      refine E_bipush (pc := 72) (v := nI 48) C dX1_readFixedBits_72 (by decide) ?_
      refine E_isubN (pc := 74) C dX1_readFixedBits_74 (by omega) ?_
      refine E_istore_n (pc := 75) C dX1_readFixedBits_75 rfl (by decide) rfl ?_
      dsimp only [List.set]
      refine E_iload_n (pc := 76) C dX1_readFixedBits_76 rfl rfl ?_
      refine E_iconst (pc := 77) (v := nI 1) C dX1_readFixedBits_77 (by decide) ?_
      refine E_icmp_leN (pc := 78) (tgt := 95) C dX1_readFixedBits_78 (by decide) (by omega) (by omega) (fun h78 => ?_) (fun h78 => ?_)
      · refine E_aload_n (pc := 95) C dX1_readFixedBits_95 rfl rfl ?_
        refine E_get (pc := 96) C dX1_readFixedBits_96 f_X1_24 rfl rfl ?_
        refine E_get (pc := 99) C dX1_readFixedBits_99 f_X1_67 rfl rfl ?_
        try dsimp only [tt]
        refine E_iconst (pc := 102) (v := nI 1) C dX1_readFixedBits_102 (by decide) ?_
        refine E_isubN (pc := 103) C dX1_readFixedBits_103 (by omega) ?_
        refine E_aload_n (pc := 104) C dX1_readFixedBits_104 rfl rfl ?_
        refine E_get (pc := 105) C dX1_readFixedBits_105 f_X1_137 (gX_op ho) rfl ?_
        try dsimp only [tt]
        refine E_isubN (pc := 108) C dX1_readFixedBits_108 (by omega) ?_
        refine E_istore (pc := 109) C dX1_readFixedBits_109 (by decide) rfl ?_
        dsimp only [List.set]
        refine E_aload_n (pc := 111) C dX1_readFixedBits_111 rfl rfl ?_
        refine E_dup (pc := 112) C dX1_readFixedBits_112 rfl ?_
        refine E_get (pc := 113) C dX1_readFixedBits_113 f_X1_140 (gX_op ho) rfl ?_
        try dsimp only [tt]
        refine E_iconst (pc := 116) (v := nI 1) C dX1_readFixedBits_116 (by decide) ?_
        refine E_iload (pc := 117) C dX1_readFixedBits_117 rfl ?_
        refine E_ishl (pc := 119) C dX1_readFixedBits_119 ?_
        refine E_ior (pc := 120) C dX1_readFixedBits_120 ?_
        refine E_putU (pc := 121) C dX1_readFixedBits_121 p_X1_140 (gX_op ho) (jlt rfl) rfl rfl (uX_omask ho _) ?_
        try dsimp only [tt]
        refine E_aload_n (pc := 124) C dX1_readFixedBits_124 rfl rfl ?_
        refine E_dup (pc := 125) C dX1_readFixedBits_125 rfl ?_
        refine E_get (pc := 126) C dX1_readFixedBits_126 f_X1_143 (gX_op ho) rfl ?_
        try dsimp only [tt]
        refine E_iload_n (pc := 129) C dX1_readFixedBits_129 rfl rfl ?_
        refine E_iload (pc := 130) C dX1_readFixedBits_130 rfl ?_
        refine E_ishl (pc := 132) C dX1_readFixedBits_132 ?_
        refine E_ior (pc := 133) C dX1_readFixedBits_133 ?_
        refine E_putU (pc := 134) C dX1_readFixedBits_134 p_X1_143 (gX_op ho) (jlt rfl) rfl rfl (uX_opat ho _) ?_
        try dsimp only [tt]
        refine E_aload_n (pc := 137) C dX1_readFixedBits_137 rfl rfl ?_
        refine E_dup (pc := 138) C dX1_readFixedBits_138 rfl ?_
        refine E_get (pc := 139) C dX1_readFixedBits_139 f_X1_137 (gX_op ho) rfl ?_
        try dsimp only [tt]
        refine E_iconst (pc := 142) (v := nI 1) C dX1_readFixedBits_142 (by decide) ?_
        refine E_iaddN (pc := 143) C dX1_readFixedBits_143 ?_
        refine E_putU (pc := 144) C dX1_readFixedBits_144 p_X1_137 (gX_op ho) (jlt rfl) rfl rfl (uX_olaid ho _) ?_
        try dsimp only [tt]
        refine E_iincN (pc := 147) C dX1_readFixedBits_147 rfl (by decide) rfl ?_
        dsimp only [List.set]
        refine E_goto (pc := 150) (tgt := 52) C dX1_readFixedBits_150 (by decide) ?_
        rw [fxF_st hlt (by omega)]
        have hfix := hoS.fix (x := X.2 a - 48) (by omega) (by omega)
        rw [hif] at hfix
        simp only [zO_self, zO_zO]
        rw [hB1, hln]
        exact ih _ _ _ _ _ hfix ⟨by omega, by omega⟩ (by show n + 1 + (K.2.2 - (a + 1)) ≤ D.1; omega) (by omega)
      · have e9 := fxF_x (X := X) (K := K) (D0 := D0) (D := D) (n0 := n0) (o := o) (n := n) hlt (by omega)
        rw [e9]
        refine E_aload_n (pc := 81) C dX1_readFixedBits_81 rfl rfl ?_
        refine E_get (pc := 82) C dX1_readFixedBits_82 f_X1_20 rfl rfl ?_
        refine E_aload_n (pc := 85) C dX1_readFixedBits_85 rfl rfl ?_
        refine E_get (pc := 86) C dX1_readFixedBits_86 f_X1_20 rfl rfl ?_
        refine E_get (pc := 89) C dX1_readFixedBits_89 f_X1_54 rfl rfl ?_
        try dsimp only [tt]
        exact E_callVx (pc := 92) C hT9 dX1_readFixedBits_92 m_X1_57 (x_refuse l G A S _ _ _ _ P _ V L T _ hst) ⟨jle rfl, jle rfl⟩ rfl rfl rfl rfl rfl (jle rfl) ⟨jle rfl, jle rfl⟩ (jle rfl) (jle rfl) (dP.x rfl hg)
set_option maxHeartbeats 4000000 in
set_option maxRecDepth 100000 in
theorem x_readFixedBits (l : Launch) (G : jG) {X : Nat × (Nat → Nat)} {ix : Nat} {K : Nat × Nat × Nat} {D : mD} {nz : Nat} (A : xA) (S : xS) (P : xC) (V : xV) (L : xL) (T : jMem) (B : xB) (Z : xZ) (Q : xN) (o n : Nat) (hst : l.stackTraces = false) (hT2 : T.2 = some nz) (hx : xcx X A S) (hA8 : ∀ k, A.2.1 k < 256) (hk : xtk X S ix K) (hg : gB B Q) (ho : o < 60) (hoS : oS D B Z Q o n) (h2 : K.1 = 2) : jCp l G yX1_readFixedBits cX1_readFixedBits 5 none 7 103 1 6 [.ref 863, .ref (17 + 14 * o)] (encX A S (tt X ix K) (-1) B Z P Q V L T) (dP X A S P V L T (fun D9 B9 Z9 Q9 => oS D9 B9 Z9 Q9 o (fldF X K D o n).2.2.2) (mFR (fldF X K D o n))) := by
  refine jCp.of (by decide) 3 rfl [some (.ref 863), some (.ref (17 + 14 * o)), none, none, none] rfl (fun p e s m args below meth c C hT9 hz9 => ?_)
  have hz9 := hz9 _ hT2
  have hX1 := hx.1
  have hX2 := hx.2.1
  have hoc := hx.2.2.1
  have hS := hx.2.2.2.1
  have hok := hx.2.2.2.2
  have hn := hk.n
  have hg1 := hn.g.1
  have hg2 := hg1.1
  have hg3 := hg1.2.1
  have hkl := kcl_lt hX2 (K := K)
  have hB1 : B.1 = D.1 := hoS.2.2.2.1.1
  have hB2 : D.1 ≤ 32 := hoS.2.2.2.1.2.1
  have hln : (Z.1 o).2.1 = n := hoS.2.1.1.2.2.1
  have hnW := hoS.2.1.1.2.2.2.1
  refine E_aload_n (pc := 0) C dX1_readFixedBits_0 rfl rfl ?_
  refine E_get (pc := 1) C dX1_readFixedBits_1 f_X1_137 (gX_op ho) rfl ?_
  try dsimp only [tt]
  refine E_aload_n (pc := 4) C dX1_readFixedBits_4 rfl rfl ?_
  refine E_get (pc := 5) C dX1_readFixedBits_5 f_X1_20 rfl rfl ?_
  refine E_get (pc := 8) C dX1_readFixedBits_8 f_X1_124 rfl rfl ?_
  try dsimp only [tt]
  refine E_aload_n (pc := 11) C dX1_readFixedBits_11 rfl rfl ?_
  refine E_get (pc := 12) C dX1_readFixedBits_12 f_X1_20 rfl rfl ?_
  refine E_get (pc := 15) C dX1_readFixedBits_15 f_X1_54 rfl rfl ?_
  try dsimp only [tt]
  refine E_isubN (pc := 18) C dX1_readFixedBits_18 (by omega) ?_
  refine E_iaddN (pc := 19) C dX1_readFixedBits_19 ?_
  refine E_aload_n (pc := 20) C dX1_readFixedBits_20 rfl rfl ?_
  refine E_get (pc := 21) C dX1_readFixedBits_21 f_X1_24 rfl rfl ?_
  refine E_get (pc := 24) C dX1_readFixedBits_24 f_X1_67 rfl rfl ?_
  try dsimp only [tt]
  refine E_icmp_leN (pc := 27) (tgt := 44) C dX1_readFixedBits_27 (by decide) (by omega) (by omega) (fun h27 => ?_) (fun h27 => ?_)
  · have e9 := fldF_2 (X := X) (K := K) (D := D) (o := o) (n := n) h2 hg2 (by omega)
    rw [e9]
    refine E_aload_n (pc := 44) C dX1_readFixedBits_44 rfl rfl ?_
    refine E_get (pc := 45) C dX1_readFixedBits_45 f_X1_20 rfl rfl ?_
    refine E_get (pc := 48) C dX1_readFixedBits_48 f_X1_54 rfl rfl ?_
    try dsimp only [tt]
    refine E_istore_n (pc := 51) C dX1_readFixedBits_51 rfl (by decide) rfl ?_
    dsimp only [List.set]
    exact l_readFixedBits l G A S P V L T B Z Q o K.2.1 n n D none none C hT9 hst hT2 hx hA8 hk hg hz9 ho hoS h2 ⟨Nat.le_refl _, hg2⟩ (by omega)
  · have e9 := fldF_2x (X := X) (K := K) (D := D) (o := o) (n := n) h2 hg2 (by omega)
    rw [e9]
    refine E_aload_n (pc := 30) C dX1_readFixedBits_30 rfl rfl ?_
    refine E_get (pc := 31) C dX1_readFixedBits_31 f_X1_20 rfl rfl ?_
    refine E_aload_n (pc := 34) C dX1_readFixedBits_34 rfl rfl ?_
    refine E_get (pc := 35) C dX1_readFixedBits_35 f_X1_20 rfl rfl ?_
    refine E_get (pc := 38) C dX1_readFixedBits_38 f_X1_54 rfl rfl ?_
    try dsimp only [tt]
    exact E_callVx (pc := 41) C hT9 dX1_readFixedBits_41 m_X1_57 (x_refuse l G A S _ _ _ _ P _ V L T _ hst) ⟨jle rfl, jle rfl⟩ rfl rfl rfl rfl rfl (jle rfl) ⟨jle rfl, jle rfl⟩ (jle rfl) (jle rfl) (dP.x rfl hg)
set_option maxHeartbeats 4000000 in
set_option maxRecDepth 100000 in
theorem l_readOperandBits (l : Launch) (G : jG) {p : Program} {e : Env} {s : State} {m : MethodId} {args : Array Value} {below : List Frame} {meth : Method} {c : Code} {X : Nat × (Nat → Nat)} {ix : Nat} {K : Nat × Nat × Nat} {D : mD} {nz : Nat} (A : xA) (S : xS) (P : xC) (V : xV) (L : xL) (T : jMem) (B : xB) (Z : xZ) (Q : xN) (o a n k h lo : Nat) (C : jX0 p l (jR 8 126 1 6) s m args meth c G cX1_readOperandBits 8 RX1 none) (hT9 : ∀ x ∈ c.exceptionTable.toList, False) (hst : l.stackTraces = false) (hT2 : T.2 = some nz) (hx : xcx X A S) (hA8 : ∀ k, A.2.1 k < 256) (hk : xtk X S ix K) (hg : gB B Q) (hz9 : s.heap.size = G.1 + nz) (ho : o < 60) (hoS : oS D B Z Q o n) (hk6 : k < mOpds D o) (hlo : lo ≤ h) (hh : h < (Z.2.1 (6 * o + k)).2.1) (ha : a ≤ 4000) : Jp p l e (jR 8 126 1 6) s m args below meth c G 8 1 6 (dP X A S P V L T (fun D9 B9 Z9 Q9 => oS D9 B9 Z9 Q9 o (fld9 a K D o n k h lo).2.2.2) (mFR (fld9 a K D o n k h lo))) 131 [some (.ref 863), some (.ref (17 + 14 * o)), some (.int (nI a)), some (.int (nI k)), some (.ref (19 + 14 * o + 2 * k)), some (.int (nI h)), some (.int (nI lo)), none] [] (encX A S (tt X ix K) (-1) B Z P Q V L T) 0 0 := by
  have hX1 := hx.1
  have hX2 := hx.2.1
  have hoc := hx.2.2.1
  have hS := hx.2.2.2.1
  have hok := hx.2.2.2.2
  have hn := hk.n
  have hg1 := hn.g.1
  have hg2 := hg1.1
  have hg3 := hg1.2.1
  have hkl := kcl_lt hX2 (K := K)
  have hB1 : B.1 = D.1 := hoS.2.2.2.1.1
  have hB2 : D.1 ≤ 32 := hoS.2.2.2.1.2.1
  have hln : (Z.1 o).2.1 = n := hoS.2.1.1.2.2.1
  have hnW := hoS.2.1.1.2.2.2.1
  have hk7 : k < 6 := Nat.lt_of_lt_of_le hk6 hoS.2.1.1.2.1
  have hpd := hoS.2.1.2.1 k hk6
  have hsz := hpd.2.2.1
  have hst9 : ∀ b, lo ≤ b → b ≤ h → (standsF (mWhat D) o n (32 * k + b) 0 = true ↔ Z.2.2 (6 * o + k) b ≠ -1) := fun b _ h2 => hoS.2.1.st hk6 (by omega)
  refine E_iload (pc := 131) C dX1_readOperandBits_131 rfl ?_
  refine E_iload (pc := 133) C dX1_readOperandBits_133 rfl ?_
  refine E_isubN (pc := 135) C dX1_readOperandBits_135 (by omega) ?_
  refine E_iconst (pc := 136) (v := nI 1) C dX1_readOperandBits_136 (by decide) ?_
  refine E_iaddN (pc := 137) C dX1_readOperandBits_137 ?_
  refine E_istore (pc := 138) C dX1_readOperandBits_138 (by decide) rfl ?_
  dsimp only [List.set]
  refine E_aload_n (pc := 140) C dX1_readOperandBits_140 rfl rfl ?_
  refine E_get (pc := 141) C dX1_readOperandBits_141 f_X1_137 (gX_op ho) rfl ?_
  try dsimp only [tt]
  refine E_iload (pc := 144) C dX1_readOperandBits_144 rfl ?_
  refine E_iaddN (pc := 146) C dX1_readOperandBits_146 ?_
  refine E_aload_n (pc := 147) C dX1_readOperandBits_147 rfl rfl ?_
  refine E_get (pc := 148) C dX1_readOperandBits_148 f_X1_24 rfl rfl ?_
  refine E_get (pc := 151) C dX1_readOperandBits_151 f_X1_67 rfl rfl ?_
  try dsimp only [tt]
  refine E_icmp_gtN (pc := 154) (tgt := 169) C dX1_readOperandBits_154 (by decide) (by omega) (by omega) (fun h154 => ?_) (fun h154 => ?_)
  · have e9 : (fld9 a K D o n k h lo).1 = some a := fld9_x hlo (by
      intro hW
      first
      | (exfalso; omega)
      | (have z := bI_f h166
         have z2 : ¬ ∀ q, lo ≤ q → q ≤ h → Z.2.2 (6 * o + k) q = -1 := fun y => by rw [snF_iff.mpr y] at z; cases z
         refine Classical.byContradiction (fun y => z2 (fun q q1 q2 => Classical.byContradiction (fun w => y ⟨q, q1, q2, (hst9 q q1 q2).mpr w⟩)))))
    refine E_aload_n (pc := 169) C dX1_readOperandBits_169 rfl rfl ?_
    refine E_get (pc := 170) C dX1_readOperandBits_170 f_X1_20 rfl rfl ?_
    refine E_iload_n (pc := 173) C dX1_readOperandBits_173 rfl rfl ?_
    exact E_callVx (pc := 174) C hT9 dX1_readOperandBits_174 m_X1_57 (x_refuse l G A S _ _ _ _ P _ V L T _ hst) ⟨jle rfl, jle rfl⟩ rfl rfl rfl rfl rfl (jle rfl) ⟨jle rfl, jle rfl⟩ (jle rfl) (jle rfl) (dP.x1 e9 hg)
  · refine E_aload (pc := 157) C dX1_readOperandBits_157 rfl ?_
    refine E_iload (pc := 159) C dX1_readOperandBits_159 rfl ?_
    refine E_iload (pc := 161) C dX1_readOperandBits_161 rfl ?_
    refine E_callV1 (pc := 163) C dX1_readOperandBits_163 m_X1_147 (x_sn l G _ _ _ _ _ _ _ h lo (gX_pd ho hk7 hpd.2.1) (gX_opl ho hk7) hpd.1 hpd.2.2.1 (by omega) hlo) ⟨jle rfl, jle rfl⟩ (gX_pd ho hk7 hpd.2.1) rfl rfl rfl rfl (jle rfl) ⟨Nat.zero_le _, Nat.zero_le _⟩ ?_
    try dsimp only [tt]
    refine E_if_ne (pc := 166) (tgt := 177) C dX1_readOperandBits_166 (by decide) (fun h166 => ?_) (fun h166 => ?_)
    · have hsn := snF_iff.mp (bI_t h166)
      have r9 := fld9_t (a := a) (K := K) (D := D) (o := o) (n := n) (k := k) (h := h) (lo := lo) hlo (by omega) (fun b b1 b2 => by
        cases z : standsF (mWhat D) o n (32 * k + b) 0 with
        | false => rfl
        | true => exact absurd (hsn b b1 b2) ((hst9 b b1 b2).mp z))
      rw [r9]
      have hlay := hoS.lay hk6 hlo hh (by omega) hsn
      refine E_aload (pc := 177) C dX1_readOperandBits_177 rfl ?_
      refine E_iload (pc := 179) C dX1_readOperandBits_179 rfl ?_
      refine E_iload (pc := 181) C dX1_readOperandBits_181 rfl ?_
      refine E_aload_n (pc := 183) C dX1_readOperandBits_183 rfl rfl ?_
      refine E_get (pc := 184) C dX1_readOperandBits_184 f_X1_24 rfl rfl ?_
      refine E_get (pc := 187) C dX1_readOperandBits_187 f_X1_67 rfl rfl ?_
      try dsimp only [tt]
      refine E_iconst (pc := 190) (v := nI 1) C dX1_readOperandBits_190 (by decide) ?_
      refine E_isubN (pc := 191) C dX1_readOperandBits_191 (by omega) ?_
      refine E_aload_n (pc := 192) C dX1_readOperandBits_192 rfl rfl ?_
      refine E_get (pc := 193) C dX1_readOperandBits_193 f_X1_137 (gX_op ho) rfl ?_
      try dsimp only [tt]
      refine E_isubN (pc := 196) C dX1_readOperandBits_196 (by omega) ?_
      refine E_callV0 (pc := 197) C dX1_readOperandBits_197 m_X1_151 (x_lay l G _ _ _ _ _ _ _ h lo (B.1 - 1 - (Z.1 o).2.1) (gX_pd ho hk7 hpd.2.1) (gX_opl ho hk7) hpd.1 hpd.2.2.1 (by omega) (by omega) hlo (by omega) (by omega)) ⟨jle rfl, jle rfl⟩ (gX_pd ho hk7 hpd.2.1) rfl rfl rfl rfl (jle rfl) ⟨Nat.zero_le _, Nat.zero_le _⟩ ?_
      refine Jp.to (uX_opl ho hk7 _) ?_
      try dsimp only [tt]
      refine E_aload_n (pc := 200) C dX1_readOperandBits_200 rfl rfl ?_
      refine E_dup (pc := 201) C dX1_readOperandBits_201 rfl ?_
      refine E_get (pc := 202) C dX1_readOperandBits_202 f_X1_137 (gX_op ho) rfl ?_
      try dsimp only [tt]
      refine E_iload (pc := 205) C dX1_readOperandBits_205 rfl ?_
      refine E_iaddN (pc := 207) C dX1_readOperandBits_207 ?_
      have e1 : B.1 - 1 - (Z.1 o).2.1 = D.1 - 1 - n := by omega
      have e2 : ∀ g, ((zL Z (6 * o + k) g).1 o).2.1 + (h - lo + 1) = n + (h + 1 - lo) := fun g => by show (Z.1 o).2.1 + _ = _; omega
      rw [e1, e2]
      refine E_putU (pc := 208) C dX1_readOperandBits_208 p_X1_137 (gX_op ho) (jlt rfl) rfl rfl (uX_olaid ho _) ?_
      try dsimp only [tt]
      exact E_vret (pc := 211) C dX1_readOperandBits_211 rfl (dP.t rfl hk hg hlay) (Nat.zero_le _) (Nat.zero_le _)
    · have e9 : (fld9 a K D o n k h lo).1 = some a := fld9_x hlo (by
        intro hW
        first
        | (exfalso; omega)
        | (have z := bI_f h166
           have z2 : ¬ ∀ q, lo ≤ q → q ≤ h → Z.2.2 (6 * o + k) q = -1 := fun y => by rw [snF_iff.mpr y] at z; cases z
           refine Classical.byContradiction (fun y => z2 (fun q q1 q2 => Classical.byContradiction (fun w => y ⟨q, q1, q2, (hst9 q q1 q2).mpr w⟩)))))
      refine E_aload_n (pc := 169) C dX1_readOperandBits_169 rfl rfl ?_
      refine E_get (pc := 170) C dX1_readOperandBits_170 f_X1_20 rfl rfl ?_
      refine E_iload_n (pc := 173) C dX1_readOperandBits_173 rfl rfl ?_
      exact E_callVx (pc := 174) C hT9 dX1_readOperandBits_174 m_X1_57 (x_refuse l G A S _ _ _ _ P _ V L T _ hst) ⟨jle rfl, jle rfl⟩ rfl rfl rfl rfl rfl (jle rfl) ⟨jle rfl, jle rfl⟩ (jle rfl) (jle rfl) (dP.x1 e9 hg)
