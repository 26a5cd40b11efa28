set_option maxHeartbeats 4000000 in
set_option maxRecDepth 100000 in
theorem x_addWord (l : Launch) (G : jG) (A : xA) (S : xS) (t : xT) (wr : Int32) (B : xB) (Z : xZ) (P : xC) (Q : xN) (V : xV) (L : xL) (T : jMem) (w : Int32) (h1 : P.1 < 1000) : jC l G yX0_addWord cX0_addWord 2 none 1 12 0 0 [.ref 867, .int w] (encX A S t wr B Z P Q V L T) (.inl (none, encX A S t wr B Z (P.1 + 1, P.2.1, va_up P.2.2.1 P.1 w, P.2.2.2.1, P.2.2.2.2) Q V L T)) := by
  refine jC.of (by decide) 0 rfl [some (.ref 867), some (.int w)] rfl (fun p e s m args below meth c C hT9 hNm9 => ?_)
  refine J_aload_n (pc := 0) C dX0_addWord_0 rfl rfl ?_
  refine J_get (pc := 1) C dX0_addWord_1 f_X0_39 rfl rfl ?_
  refine J_get (pc := 4) C dX0_addWord_4 f_X0_115 rfl rfl ?_
  refine J_aload_n (pc := 7) C dX0_addWord_7 rfl rfl ?_
  refine J_get (pc := 8) C dX0_addWord_8 f_X0_39 rfl rfl ?_
  refine J_get (pc := 11) C dX0_addWord_11 f_X0_43 rfl rfl ?_
  try dsimp only [tt]
  refine J_iload_n (pc := 14) C dX0_addWord_14 rfl rfl ?_
  refine J_iastR (pc := 15) C dX0_addWord_15 rfl (by omega) (by decide) (uX_words _) ?_
  refine J_aload_n (pc := 16) C dX0_addWord_16 rfl rfl ?_
  refine J_get (pc := 17) C dX0_addWord_17 f_X0_39 rfl rfl ?_
  refine J_dup (pc := 20) C dX0_addWord_20 rfl ?_
  refine J_get (pc := 21) C dX0_addWord_21 f_X0_43 rfl rfl ?_
  try dsimp only [tt]
  refine J_iconst (pc := 24) (v := nI 1) C dX0_addWord_24 (by decide) ?_
  refine J_iaddN (pc := 25) C dX0_addWord_25 ?_
  refine J_putU (pc := 26) C dX0_addWord_26 p_X0_43 rfl (jlt rfl) rfl rfl (uX_psize _) ?_
  try dsimp only [tt]
  exact J_vret (pc := 29) C dX0_addWord_29 rfl (rfl) (Nat.zero_le _) (Nat.zero_le _)
set_option maxHeartbeats 4000000 in
set_option maxRecDepth 100000 in
theorem x_wantLabel (l : Launch) (G : jG) {X : Nat × (Nat → Nat)} {ix : Nat} {K : Nat × Nat × Nat} (A : xA) (S : xS) (wr : Int32) (B : xB) (Z : xZ) (P : xC) (Q : xN) (V : xV) (L : xL) (T : jMem) (o k : Nat) (hx : xcx X A S) (hk : xtk X S ix K) (hV : V.1 < 2000) : jC l G yX0_wantLabel cX0_wantLabel 3 none 3 52 0 0 [.ref 867, .int (nI o), .int (nI k)] (encX A S (tt X ix K) wr B Z P Q V L T) (.inl (none, encX A S (tt X (axF ix K) (nextF X K.2.2)) wr B Z P Q (V.1 + 1, va_up V.2.1 V.1 K.2.1, va_up V.2.2.1 V.1 K.2.2, va_up V.2.2.2.1 V.1 P.1, va_up V.2.2.2.2.1 V.1 o, va_up V.2.2.2.2.2 V.1 k) L T)) := by
  refine jC.of (by decide) 0 rfl [some (.ref 867), some (.int (nI o)), some (.int (nI k))] rfl (fun p e s m args below meth c C hT9 hNm9 => ?_)
  have hX1 := hx.1
  have hX2 := hx.2.1
  have hoc := hx.2.2.1
  have hS := hx.2.2.2.1
  have hok := hx.2.2.2.2
  have hn := hk.n
  have hg := hn.g
  have hg1 := hg.1
  have hg2 := hg1.1
  have hg3 := hg1.2.1
  have hkl := kcl_lt hX2 (K := K)
  have hix := hk.lt hS
  have hat := hk.at hS
  refine J_aload_n (pc := 0) C dX0_wantLabel_0 rfl rfl ?_
  refine J_get (pc := 1) C dX0_wantLabel_1 f_X0_27 rfl rfl ?_
  try dsimp only [tt]
  refine J_sipush (pc := 4) (v := nI 2000) C dX0_wantLabel_4 (by decide) ?_
  refine J_icmp_geN (pc := 7) (tgt := 88) C dX0_wantLabel_7 (by decide) (by omega) (by omega) (fun h7 => ?_) (fun h7 => ?_)
  · omega
  · refine J_aload_n (pc := 10) C dX0_wantLabel_10 rfl rfl ?_
    refine J_get (pc := 11) C dX0_wantLabel_11 f_X0_11 rfl rfl ?_
    refine J_aload_n (pc := 14) C dX0_wantLabel_14 rfl rfl ?_
    refine J_get (pc := 15) C dX0_wantLabel_15 f_X0_27 rfl rfl ?_
    try dsimp only [tt]
    refine J_aload_n (pc := 18) C dX0_wantLabel_18 rfl rfl ?_
    refine J_get (pc := 19) C dX0_wantLabel_19 f_X0_31 rfl rfl ?_
    refine J_get (pc := 22) C dX0_wantLabel_22 f_X0_70 rfl rfl ?_
    try dsimp only [tt]
    refine J_iastN (pc := 25) C dX0_wantLabel_25 rfl (by omega) (by decide) (uX_wstarts _) ?_
    refine J_aload_n (pc := 26) C dX0_wantLabel_26 rfl rfl ?_
    refine J_get (pc := 27) C dX0_wantLabel_27 f_X0_15 rfl rfl ?_
    refine J_aload_n (pc := 30) C dX0_wantLabel_30 rfl rfl ?_
    refine J_get (pc := 31) C dX0_wantLabel_31 f_X0_27 rfl rfl ?_
    try dsimp only [tt]
    refine J_aload_n (pc := 34) C dX0_wantLabel_34 rfl rfl ?_
    refine J_get (pc := 35) C dX0_wantLabel_35 f_X0_31 rfl rfl ?_
    refine J_get (pc := 38) C dX0_wantLabel_38 f_X0_94 rfl rfl ?_
    try dsimp only [tt]
    refine J_iastN (pc := 41) C dX0_wantLabel_41 rfl (by omega) (by decide) (uX_wends _) ?_
    refine J_aload_n (pc := 42) C dX0_wantLabel_42 rfl rfl ?_
    refine J_get (pc := 43) C dX0_wantLabel_43 f_X0_18 rfl rfl ?_
    refine J_aload_n (pc := 46) C dX0_wantLabel_46 rfl rfl ?_
    refine J_get (pc := 47) C dX0_wantLabel_47 f_X0_27 rfl rfl ?_
    try dsimp only [tt]
    refine J_aload_n (pc := 50) C dX0_wantLabel_50 rfl rfl ?_
    refine J_get (pc := 51) C dX0_wantLabel_51 f_X0_39 rfl rfl ?_
    refine J_get (pc := 54) C dX0_wantLabel_54 f_X0_43 rfl rfl ?_
    try dsimp only [tt]
    refine J_iastN (pc := 57) C dX0_wantLabel_57 rfl (by omega) (by decide) (uX_wwords _) ?_
    refine J_aload_n (pc := 58) C dX0_wantLabel_58 rfl rfl ?_
    refine J_get (pc := 59) C dX0_wantLabel_59 f_X0_21 rfl rfl ?_
    refine J_aload_n (pc := 62) C dX0_wantLabel_62 rfl rfl ?_
    refine J_get (pc := 63) C dX0_wantLabel_63 f_X0_27 rfl rfl ?_
    try dsimp only [tt]
    refine J_iload_n (pc := 66) C dX0_wantLabel_66 rfl rfl ?_
    refine J_iastN (pc := 67) C dX0_wantLabel_67 rfl (by omega) (by decide) (uX_wops _) ?_
    refine J_aload_n (pc := 68) C dX0_wantLabel_68 rfl rfl ?_
    refine J_get (pc := 69) C dX0_wantLabel_69 f_X0_24 rfl rfl ?_
    refine J_aload_n (pc := 72) C dX0_wantLabel_72 rfl rfl ?_
    refine J_get (pc := 73) C dX0_wantLabel_73 f_X0_27 rfl rfl ?_
    try dsimp only [tt]
    refine J_iload_n (pc := 76) C dX0_wantLabel_76 rfl rfl ?_
    refine J_iastN (pc := 77) C dX0_wantLabel_77 rfl (by omega) (by decide) (uX_woperands _) ?_
    refine J_aload_n (pc := 78) C dX0_wantLabel_78 rfl rfl ?_
    refine J_dup (pc := 79) C dX0_wantLabel_79 rfl ?_
    refine J_get (pc := 80) C dX0_wantLabel_80 f_X0_27 rfl rfl ?_
    try dsimp only [tt]
    refine J_iconst (pc := 83) (v := nI 1) C dX0_wantLabel_83 (by decide) ?_
    refine J_iaddN (pc := 84) C dX0_wantLabel_84 ?_
    refine J_putU (pc := 85) C dX0_wantLabel_85 p_X0_27 rfl (jlt rfl) rfl rfl (uX_wanted _) ?_
    try dsimp only [tt]
    refine J_aload_n (pc := 88) C dX0_wantLabel_88 rfl rfl ?_
    refine J_get (pc := 89) C dX0_wantLabel_89 f_X0_31 rfl rfl ?_
    refine J_callV0 (pc := 92) C dX0_wantLabel_92 m_X0_76 (x_advance l G A S _ _ _ _ _ _ L T hx hk) ⟨jle rfl, jle rfl⟩ rfl rfl rfl rfl rfl (jle rfl) ⟨Nat.zero_le _, Nat.zero_le _⟩ ?_
    try dsimp only [tt]
    exact J_vret (pc := 95) C dX0_wantLabel_95 rfl (rfl) (Nat.zero_le _) (Nat.zero_le _)
theorem x_lb_t (l : Launch) (G : jG) (M : jMem) (a ml nl : Nat) (N : xN) (oc : Nat → Nat) (i f e9 : Nat) (hN : M.1 a = some (.inr (4, [.ref (a + 1), .ref (a + 2), .int (nI N.1)]))) (hA : M.1 (a + 1) = some (nA nl N.2.1)) (hB : M.1 (a + 2) = some (nA ml N.2.2)) (hL : M.1 1 = some (nA 4000 oc)) (hnl : nl = 12 * ml) (hnB : nB N ml) (hoc : ∀ k, oc k < 256) (hi : i < ml) (hfe : f ≤ e9) (he : e9 ≤ 4000) (h : N.2.2 i ≤ e9 - f ∧ bgF oc N i f 0 = true) : jC l G yX4_lettersBehind cX4_lettersBehind 6 (some .int) 2 36 0 0 [.ref a, .int (nI i), .ref 1, .int (nI f), .int (nI e9)] M (.inl (some (.int (nI (e9 - f - N.2.2 i))), M)) := by
  have := x_lb l G M a ml nl N oc i f e9 hN hA hB hL hnl hnB hoc hi hfe he h.1
  rw [if_pos h.2] at this
  exact this
theorem x_lb_f (l : Launch) (G : jG) (M : jMem) (a ml nl : Nat) (N : xN) (oc : Nat → Nat) (i f e9 : Nat) (hN : M.1 a = some (.inr (4, [.ref (a + 1), .ref (a + 2), .int (nI N.1)]))) (hA : M.1 (a + 1) = some (nA nl N.2.1)) (hB : M.1 (a + 2) = some (nA ml N.2.2)) (hL : M.1 1 = some (nA 4000 oc)) (hnl : nl = 12 * ml) (hnB : nB N ml) (hoc : ∀ k, oc k < 256) (hi : i < ml) (hfe : f ≤ e9) (he : e9 ≤ 4000) (h : ¬ (N.2.2 i ≤ e9 - f ∧ bgF oc N i f 0 = true)) : jC l G yX4_lettersBehind cX4_lettersBehind 6 (some .int) 2 36 0 0 [.ref a, .int (nI i), .ref 1, .int (nI f), .int (nI e9)] M (.inl (some (.int (-1)), M)) := by
  by_cases e : N.2.2 i ≤ e9 - f
  · have := x_lb l G M a ml nl N oc i f e9 hN hA hB hL hnl hnB hoc hi hfe he e
    rw [if_neg (fun z => h ⟨e, z⟩)] at this
    exact this
  · exact x_lb_n l G M a ml nl N oc i f e9 hN hA hB hL hnl hnB hoc hi hfe he (by omega)
set_option maxHeartbeats 4000000 in
set_option maxRecDepth 100000 in
theorem l_reg (l : Launch) (G : jG) {p : Program} {e : Env} {s : State} {m : MethodId} {args : Array Value} {below : List Frame} {meth : Method} {c : Code} {X : Nat × (Nat → Nat)} {ix : Nat} {K : Nat × Nat × Nat} {D : mD} (A : xA) (S : xS) (B : xB) (Z : xZ) (Q : xN) (L : xL) (T : jMem) (C9 : xC) (V : xV) (s9 f9 v a : Nat) (l2 : Option Value) (C : jX0 p l (jR 7 103 1 6) s m args meth c G cX0_registerNumber 6 RX0 (some .int)) (hT9 : ∀ x ∈ c.exceptionTable.toList, False) (hst : l.stackTraces = false) (hx : xcx X A S) (hA8 : ∀ k, A.2.1 k < 256) (hk : xtk X S ix K) (hd : dR D B Z D.2.2.1) (hb : nB B.2.2.1 12 ∧ nB B.2.2.2.2 60) (hs : s9 < D.2.1) (h1 : K.1 = 1) (ha : K.2.1 ≤ a ∧ a ≤ K.2.2) (hv : v < 2 ^ mSetB D s9) : Jp p l e (jR 7 103 1 6) s m args below meth c G 6 1 6 ((fun o => (∃ n, rgF X K.2.2 a v (mSetB D s9) = some n ∧ n < 64 ∧ o = .inl (some (.int (nI n)), encX A S (tt X ix K) (-1) B Z C9 Q V L T)) ∨ (rgF X K.2.2 a v (mSetB D s9) = none ∧ o = .inr (eIA, jno (encX A S (tt X ix K) (nI K.2.1) B Z C9 Q V L T))))) 87 [some (.ref 867), some (.int (nI s9)), l2, some (.int (nI f9)), some (.int (nI v)), some (.int (nI a))] [] (encX A S (tt X ix K) (-1) B Z C9 Q V L T) 0 0 := by
  have hX1 := hx.1
  have hX2 := hx.2.1
  have hoc := hx.2.2.1
  have hS := hx.2.2.2.1
  have hok := hx.2.2.2.2
  have hn := hk.n
  have hg1 := hn.g.1
  have hg2 := hg1.1
  have hg3 := hg1.2.1
  have hkl := kcl_lt hX2 (K := K)
  have hs1 := hd.2.2.1 s9 hs
  have hs2 := hd.2.1.1
  have hs3 := hb.1.1
  have h64 : 2 ^ mSetB D s9 ≤ 2 ^ 6 := Nat.pow_le_pow_right (by decide) hs1.2.2
  have hnm := (tk_one hn).2.2.2.2.2.1 h1
  induction hm : K.2.2 - a generalizing a v with
  | zero =>
    rw [rgF_e (by omega) hv]
    refine E_iload (pc := 87) C dX0_registerNumber_87 rfl ?_
    refine E_aload_n (pc := 89) C dX0_registerNumber_89 rfl rfl ?_
    refine E_get (pc := 90) C dX0_registerNumber_90 f_X0_31 rfl rfl ?_
    refine E_get (pc := 93) C dX0_registerNumber_93 f_X0_94 rfl rfl ?_
    try dsimp only [tt]
    refine E_icmp_geN (pc := 96) (tgt := 172) C dX0_registerNumber_96 (by decide) (by omega) (by omega) (fun h96 => ?_) (fun h96 => ?_)
    · refine E_iload (pc := 172) C dX0_registerNumber_172 rfl ?_
      exact E_iret (pc := 174) C dX0_registerNumber_174 rfl (Or.inl ⟨v, rfl, by omega, rfl⟩) (Nat.zero_le _) (Nat.zero_le _)
    · omega
  | succ d ih =>
    have hlt : a < K.2.2 := by omega
    have hx4 := hX2 a
    have ho := hoc a (by omega)
    have hn8 := hnm a ha.1 hlt
    have h48 : 48 ≤ X.2 a := by simp [nmF, isLet, isDig] at hn8; omega
    refine E_iload (pc := 87) C dX0_registerNumber_87 rfl ?_
    refine E_aload_n (pc := 89) C dX0_registerNumber_89 rfl rfl ?_
    refine E_get (pc := 90) C dX0_registerNumber_90 f_X0_31 rfl rfl ?_
    refine E_get (pc := 93) C dX0_registerNumber_93 f_X0_94 rfl rfl ?_
    try dsimp only [tt]
    refine E_icmp_geN (pc := 96) (tgt := 172) C dX0_registerNumber_96 (by decide) (by omega) (by omega) (fun h96 => ?_) (fun h96 => ?_)
    · omega
    · refine E_iload (pc := 99) C dX0_registerNumber_99 rfl ?_
      refine E_bipush (pc := 101) (v := nI 10) C dX0_registerNumber_101 (by decide) ?_
      refine E_imulN (pc := 103) C dX0_registerNumber_103 ?_
      refine E_aload_n (pc := 104) C dX0_registerNumber_104 rfl rfl ?_
      refine E_get (pc := 105) C dX0_registerNumber_105 f_X0_31 rfl rfl ?_
      refine E_get (pc := 108) C dX0_registerNumber_108 f_X0_100 rfl rfl ?_
      refine E_iload (pc := 111) C dX0_registerNumber_111 rfl ?_
      refine E_ialdN (pc := 113) C dX0_registerNumber_113 rfl (by omega) (by decide) ?_
      try dsimp only [tt]
      rw [ho]
      refine E_bipush (pc := 114) (v := nI 48) C dX0_registerNumber_114 (by decide) ?_
      refine E_isubN (pc := 116) C dX0_registerNumber_116 (by omega) ?_
      refine E_iaddN (pc := 117) C dX0_registerNumber_117 ?_
      rw [show v * 10 + (X.2 a - 48) = 10 * v + X.2 a - 48 by omega]
      refine E_istore (pc := 118) C dX0_registerNumber_118 (by decide) rfl ?_
      dsimp only [List.set]
      refine E_aload_n (pc := 120) C dX0_registerNumber_120 rfl rfl ?_
      refine E_get (pc := 121) C dX0_registerNumber_121 f_X0_31 rfl rfl ?_
      refine E_get (pc := 124) C dX0_registerNumber_124 f_X0_100 rfl rfl ?_
      refine E_iload (pc := 127) C dX0_registerNumber_127 rfl ?_
      refine E_ialdN (pc := 129) C dX0_registerNumber_129 rfl (by omega) (by decide) ?_
      try dsimp only [tt]
      rw [ho]
      refine E_callSN (pc := 130) C dX0_registerNumber_130 k_X10_isDigit n_X0_173 ns_X0_173 (x_isDigit l G _ _ (by omega)) ⟨jle rfl, jle rfl⟩ rfl rfl (jle rfl) ⟨Nat.zero_le _, Nat.zero_le _⟩ ?_
      try dsimp only [tt]
      refine E_if_eq (pc := 133) (tgt := 152) C dX0_registerNumber_133 (by decide) (fun h133 => ?_) (fun h133 => ?_)
      · have e9 : rgF X K.2.2 a v (mSetB D s9) = none := by first | exact rgF_n hlt (bI_f h133) | exact rgF_b hlt (bI_t h133) (by omega)
        rw [e9]
        refine E_aload_n (pc := 152) C dX0_registerNumber_152 rfl rfl ?_
        refine E_get (pc := 153) C dX0_registerNumber_153 f_X0_31 rfl rfl ?_
        refine E_aload_n (pc := 156) C dX0_registerNumber_156 rfl rfl ?_
        refine E_get (pc := 157) C dX0_registerNumber_157 f_X0_31 rfl rfl ?_
        refine E_get (pc := 160) C dX0_registerNumber_160 f_X0_70 rfl rfl ?_
        try dsimp only [tt]
        exact E_callVx (pc := 163) C hT9 dX0_registerNumber_163 m_X0_73 (x_refuse l G A S _ _ _ _ _ _ _ L T _ hst) ⟨jle rfl, jle rfl⟩ rfl rfl rfl rfl rfl (jle rfl) ⟨jle rfl, jle rfl⟩ (jle rfl) (jle rfl) (Or.inr ⟨rfl, rfl⟩)
      · refine E_iload (pc := 136) C dX0_registerNumber_136 rfl ?_
        refine E_iconst (pc := 138) (v := nI 1) C dX0_registerNumber_138 (by decide) ?_
        refine E_aload_n (pc := 139) C dX0_registerNumber_139 rfl rfl ?_
        refine E_get (pc := 140) C dX0_registerNumber_140 f_X0_35 rfl rfl ?_
        refine E_get (pc := 143) C dX0_registerNumber_143 f_X0_177 rfl rfl ?_
        refine E_iload_n (pc := 146) C dX0_registerNumber_146 rfl rfl ?_
        refine E_ialdN (pc := 147) C dX0_registerNumber_147 rfl (by omega) (by decide) ?_
        try dsimp only [tt]
        refine E_ishl (pc := 148) C dX0_registerNumber_148 ?_
        rw [hs1.1, shl_6 _ (by omega)]
        refine E_icmp_ltN (pc := 149) (tgt := 166) C dX0_registerNumber_149 (by decide) (by omega) (by omega) (fun h149 => ?_) (fun h149 => ?_)
        · refine E_iincN (pc := 166) C dX0_registerNumber_166 rfl (by decide) rfl ?_
          dsimp only [List.set]
          refine E_goto (pc := 169) (tgt := 87) C dX0_registerNumber_169 (by decide) ?_
          rw [rgF_st hlt (bI_t h133)]
          exact ih _ _ ⟨by omega, by omega⟩ h149 (by omega)
        · have e9 : rgF X K.2.2 a v (mSetB D s9) = none := by first | exact rgF_n hlt (bI_f h133) | exact rgF_b hlt (bI_t h133) (by omega)
          rw [e9]
          refine E_aload_n (pc := 152) C dX0_registerNumber_152 rfl rfl ?_
          refine E_get (pc := 153) C dX0_registerNumber_153 f_X0_31 rfl rfl ?_
          refine E_aload_n (pc := 156) C dX0_registerNumber_156 rfl rfl ?_
          refine E_get (pc := 157) C dX0_registerNumber_157 f_X0_31 rfl rfl ?_
          refine E_get (pc := 160) C dX0_registerNumber_160 f_X0_70 rfl rfl ?_
          try dsimp only [tt]
          exact E_callVx (pc := 163) C hT9 dX0_registerNumber_163 m_X0_73 (x_refuse l G A S _ _ _ _ _ _ _ L T _ hst) ⟨jle rfl, jle rfl⟩ rfl rfl rfl rfl rfl (jle rfl) ⟨jle rfl, jle rfl⟩ (jle rfl) (jle rfl) (Or.inr ⟨rfl, rfl⟩)
set_option maxHeartbeats 4000000 in
set_option maxRecDepth 100000 in
theorem x_regNum (l : Launch) (G : jG) {X : Nat × (Nat → Nat)} {ix : Nat} {K : Nat × Nat × Nat} {D : mD} (A : xA) (S : xS) (B : xB) (Z : xZ) (Q : xN) (L : xL) (T : jMem) (C9 : xC) (V : xV) (s9 : Nat) (hst : l.stackTraces = false) (hx : xcx X A S) (hA8 : ∀ k, A.2.1 k < 256) (hk : xtk X S ix K) (hd : dR D B Z D.2.2.1) (hb : nB B.2.2.1 12 ∧ nB B.2.2.2.2 60) (hs : s9 < D.2.1) : jCp l G yX0_registerNumber cX0_registerNumber 6 (some .int) 7 103 1 6 [.ref 867, .int (nI s9)] (encX A S (tt X ix K) (-1) B Z C9 Q V L T) ((fun o => (∃ n, regV X K (mSetN D) s9 (mSetB D s9) = some n ∧ n < 64 ∧ o = .inl (some (.int (nI n)), encX A S (tt X ix K) (-1) B Z C9 Q V L T)) ∨ (regV X K (mSetN D) s9 (mSetB D s9) = none ∧ o = .inr (eIA, jno (encX A S (tt X ix K) (nI K.2.1) B Z C9 Q V L T))))) := by
  refine jCp.of (by decide) 4 rfl [some (.ref 867), some (.int (nI s9)), none, none, none, none] rfl (fun p e s m args below meth c C hT9 hz9 => ?_)
  have hX1 := hx.1
  have hX2 := hx.2.1
  have hoc := hx.2.2.1
  have hS := hx.2.2.2.1
  have hok := hx.2.2.2.2
  have hn := hk.n
  have hg1 := hn.g.1
  have hg2 := hg1.1
  have hg3 := hg1.2.1
  have hkl := kcl_lt hX2 (K := K)
  have hs1 := hd.2.2.1 s9 hs
  have hs2 := hd.2.1.1
  have hs3 := hb.1.1
  have hrg := regV_rg (b := mSetB D s9) (hd.2.1.2 s9 hs) hn hoc
  have hln := (hd.2.1.2 s9 hs).1
  rw [hrg]
  refine E_aload_n (pc := 0) C dX0_registerNumber_0 rfl rfl ?_
  refine E_get (pc := 1) C dX0_registerNumber_1 f_X0_35 rfl rfl ?_
  refine E_get (pc := 4) C dX0_registerNumber_4 f_X0_166 rfl rfl ?_
  refine E_iload_n (pc := 7) C dX0_registerNumber_7 rfl rfl ?_
  refine E_aload_n (pc := 8) C dX0_registerNumber_8 rfl rfl ?_
  refine E_get (pc := 9) C dX0_registerNumber_9 f_X0_31 rfl rfl ?_
  refine E_get (pc := 12) C dX0_registerNumber_12 f_X0_100 rfl rfl ?_
  refine E_aload_n (pc := 15) C dX0_registerNumber_15 rfl rfl ?_
  refine E_get (pc := 16) C dX0_registerNumber_16 f_X0_31 rfl rfl ?_
  refine E_get (pc := 19) C dX0_registerNumber_19 f_X0_70 rfl rfl ?_
  try dsimp only [tt]
  refine E_aload_n (pc := 22) C dX0_registerNumber_22 rfl rfl ?_
  refine E_get (pc := 23) C dX0_registerNumber_23 f_X0_31 rfl rfl ?_
  refine E_get (pc := 26) C dX0_registerNumber_26 f_X0_94 rfl rfl ?_
  try dsimp only [tt]
  by_cases q29 : B.2.2.1.2.2 s9 ≤ K.2.2 - K.2.1 ∧ bgF A.2.1 B.2.2.1 s9 K.2.1 0 = true
  · refine E_callV1 (pc := 29) C dX0_registerNumber_29 m_X0_169 (x_lb_t l G _ 9 12 144 B.2.2.1 A.2.1 s9 K.2.1 K.2.2 rfl rfl rfl rfl rfl hb.1 hA8 (by omega) (by omega) (by omega) q29) ⟨jle rfl, jle rfl⟩ rfl rfl rfl rfl rfl (jle rfl) ⟨Nat.zero_le _, Nat.zero_le _⟩ ?_
    try dsimp only [tt]
    rw [if_pos q29]
    refine E_istore_n (pc := 32) C dX0_registerNumber_32 rfl (by decide) rfl ?_
    dsimp only [List.set]
    refine E_aload_n (pc := 33) C dX0_registerNumber_33 rfl rfl ?_
    refine E_get (pc := 34) C dX0_registerNumber_34 f_X0_31 rfl rfl ?_
    refine E_get (pc := 37) C dX0_registerNumber_37 f_X0_94 rfl rfl ?_
    try dsimp only [tt]
    refine E_iload_n (pc := 40) C dX0_registerNumber_40 rfl rfl ?_
    refine E_isubN (pc := 41) C dX0_registerNumber_41 (by omega) ?_
    rw [show K.2.2 - (K.2.2 - K.2.1 - B.2.2.1.2.2 s9) = K.2.1 + B.2.2.1.2.2 s9 by omega]
    refine E_istore_n (pc := 42) C dX0_registerNumber_42 rfl (by decide) rfl ?_
    dsimp only [List.set]
    refine E_iload_n (pc := 43) C dX0_registerNumber_43 rfl rfl ?_
    refine E_iconst (pc := 44) (v := nI 1) C dX0_registerNumber_44 (by decide) ?_
    refine E_icmp_ltN (pc := 45) (tgt := 67) C dX0_registerNumber_45 (by decide) (by omega) (by omega) (fun h45 => ?_) (fun h45 => ?_)
    · refine E_aload_n (pc := 67) C dX0_registerNumber_67 rfl rfl ?_
      refine E_get (pc := 68) C dX0_registerNumber_68 f_X0_31 rfl rfl ?_
      refine E_aload_n (pc := 71) C dX0_registerNumber_71 rfl rfl ?_
      refine E_get (pc := 72) C dX0_registerNumber_72 f_X0_31 rfl rfl ?_
      refine E_get (pc := 75) C dX0_registerNumber_75 f_X0_70 rfl rfl ?_
      try dsimp only [tt]
      exact E_callVx (pc := 78) C hT9 dX0_registerNumber_78 m_X0_73 (x_refuse l G A S _ _ _ _ _ _ _ L T _ hst) ⟨jle rfl, jle rfl⟩ rfl rfl rfl rfl rfl (jle rfl) ⟨jle rfl, jle rfl⟩ (jle rfl) (jle rfl) (Or.inr ⟨by first | rfl | (rw [if_neg (fun z => by omega)]) | (rw [if_neg (fun z => z.2 ⟨by omega, h64⟩)]), rfl⟩)
    · refine E_iload_n (pc := 48) C dX0_registerNumber_48 rfl rfl ?_
      refine E_iconst (pc := 49) (v := nI 1) C dX0_registerNumber_49 (by decide) ?_
      refine E_icmp_leN (pc := 50) (tgt := 81) C dX0_registerNumber_50 (by decide) (by omega) (by omega) (fun h50 => ?_) (fun h50 => ?_)
      · refine E_iconst (pc := 81) (v := nI 0) C dX0_registerNumber_81 (by decide) ?_
        refine E_istore (pc := 82) C dX0_registerNumber_82 (by decide) rfl ?_
        dsimp only [List.set]
        refine E_iload_n (pc := 84) C dX0_registerNumber_84 rfl rfl ?_
        refine E_istore (pc := 85) C dX0_registerNumber_85 (by decide) rfl ?_
        dsimp only [List.set]
        have h1 : K.1 = 1 := by
          have z := (nR1_one (hd.2.1.2 s9 hs) hn hoc q29)
          exact z
        have hc : B.2.2.1.2.2 s9 < K.2.2 - K.2.1 ∧ ¬ (B.2.2.1.2.2 s9 + 1 < K.2.2 - K.2.1 ∧ X.2 (K.2.1 + B.2.2.1.2.2 s9) = 48) := ⟨by omega, by first | (intro z; omega) | (intro z; exact h64 z.2)⟩
        rw [if_pos hc]
        exact l_reg l G A S B Z Q L T C9 V s9 _ 0 _ _ C hT9 hst hx hA8 hk hd hb hs h1 ⟨by omega, by omega⟩ (Nat.pow_pos (by decide))
      · refine E_aload_n (pc := 53) C dX0_registerNumber_53 rfl rfl ?_
        refine E_get (pc := 54) C dX0_registerNumber_54 f_X0_31 rfl rfl ?_
        refine E_get (pc := 57) C dX0_registerNumber_57 f_X0_100 rfl rfl ?_
        refine E_iload_n (pc := 60) C dX0_registerNumber_60 rfl rfl ?_
        refine E_ialdN (pc := 61) C dX0_registerNumber_61 rfl (by omega) (by decide) ?_
        try dsimp only [tt]
        rw [hoc (K.2.1 + B.2.2.1.2.2 s9) (by omega)]
        have hx4 := hX2 (K.2.1 + B.2.2.1.2.2 s9)
        refine E_bipush (pc := 62) (v := nI 48) C dX0_registerNumber_62 (by decide) ?_
        refine E_icmp_neN (pc := 64) (tgt := 81) C dX0_registerNumber_64 (by decide) (by omega) (by omega) (fun h64 => ?_) (fun h64 => ?_)
        · refine E_iconst (pc := 81) (v := nI 0) C dX0_registerNumber_81 (by decide) ?_
          refine E_istore (pc := 82) C dX0_registerNumber_82 (by decide) rfl ?_
          dsimp only [List.set]
          refine E_iload_n (pc := 84) C dX0_registerNumber_84 rfl rfl ?_
          refine E_istore (pc := 85) C dX0_registerNumber_85 (by decide) rfl ?_
          dsimp only [List.set]
          have h1 : K.1 = 1 := by
            have z := (nR1_one (hd.2.1.2 s9 hs) hn hoc q29)
            exact z
          have hc : B.2.2.1.2.2 s9 < K.2.2 - K.2.1 ∧ ¬ (B.2.2.1.2.2 s9 + 1 < K.2.2 - K.2.1 ∧ X.2 (K.2.1 + B.2.2.1.2.2 s9) = 48) := ⟨by omega, by first | (intro z; omega) | (intro z; exact h64 z.2)⟩
          rw [if_pos hc]
          exact l_reg l G A S B Z Q L T C9 V s9 _ 0 _ _ C hT9 hst hx hA8 hk hd hb hs h1 ⟨by omega, by omega⟩ (Nat.pow_pos (by decide))
        · refine E_aload_n (pc := 67) C dX0_registerNumber_67 rfl rfl ?_
          refine E_get (pc := 68) C dX0_registerNumber_68 f_X0_31 rfl rfl ?_
          refine E_aload_n (pc := 71) C dX0_registerNumber_71 rfl rfl ?_
          refine E_get (pc := 72) C dX0_registerNumber_72 f_X0_31 rfl rfl ?_
          refine E_get (pc := 75) C dX0_registerNumber_75 f_X0_70 rfl rfl ?_
          try dsimp only [tt]
          exact E_callVx (pc := 78) C hT9 dX0_registerNumber_78 m_X0_73 (x_refuse l G A S _ _ _ _ _ _ _ L T _ hst) ⟨jle rfl, jle rfl⟩ rfl rfl rfl rfl rfl (jle rfl) ⟨jle rfl, jle rfl⟩ (jle rfl) (jle rfl) (Or.inr ⟨by first | rfl | (rw [if_neg (fun z => by omega)]) | (rw [if_neg (fun z => z.2 ⟨by omega, h64⟩)]), rfl⟩)
  · refine E_callV1 (pc := 29) C dX0_registerNumber_29 m_X0_169 (x_lb_f l G _ 9 12 144 B.2.2.1 A.2.1 s9 K.2.1 K.2.2 rfl rfl rfl rfl rfl hb.1 hA8 (by omega) (by omega) (by omega) q29) ⟨jle rfl, jle rfl⟩ rfl rfl rfl rfl rfl (jle rfl) ⟨Nat.zero_le _, Nat.zero_le _⟩ ?_
    try dsimp only [tt]
    rw [if_neg q29]
    refine E_istore_n (pc := 32) C dX0_registerNumber_32 rfl (by decide) rfl ?_
    dsimp only [List.set]
    refine E_aload_n (pc := 33) C dX0_registerNumber_33 rfl rfl ?_
    refine E_get (pc := 34) C dX0_registerNumber_34 f_X0_31 rfl rfl ?_
    refine E_get (pc := 37) C dX0_registerNumber_37 f_X0_94 rfl rfl ?_
    try dsimp only [tt]
    refine E_iload_n (pc := 40) C dX0_registerNumber_40 rfl rfl ?_
    refine E_isub (pc := 41) C dX0_registerNumber_41 ?_
    refine E_istore_n (pc := 42) C dX0_registerNumber_42 rfl (by decide) rfl ?_
    dsimp only [List.set]
    refine E_iload_n (pc := 43) C dX0_registerNumber_43 rfl rfl ?_
    refine E_iconst (pc := 44) (v := nI 1) C dX0_registerNumber_44 (by decide) ?_
    refine E_icmp_lt (pc := 45) (tgt := 67) C dX0_registerNumber_45 (by decide) (fun h45 => ?_) (fun h45 => ?_)
    · refine E_aload_n (pc := 67) C dX0_registerNumber_67 rfl rfl ?_
      refine E_get (pc := 68) C dX0_registerNumber_68 f_X0_31 rfl rfl ?_
      refine E_aload_n (pc := 71) C dX0_registerNumber_71 rfl rfl ?_
      refine E_get (pc := 72) C dX0_registerNumber_72 f_X0_31 rfl rfl ?_
      refine E_get (pc := 75) C dX0_registerNumber_75 f_X0_70 rfl rfl ?_
      try dsimp only [tt]
      exact E_callVx (pc := 78) C hT9 dX0_registerNumber_78 m_X0_73 (x_refuse l G A S _ _ _ _ _ _ _ L T _ hst) ⟨jle rfl, jle rfl⟩ rfl rfl rfl rfl rfl (jle rfl) ⟨jle rfl, jle rfl⟩ (jle rfl) (jle rfl) (Or.inr ⟨by first | rfl | (rw [if_neg (fun z => by omega)]) | (rw [if_neg (fun z => z.2 ⟨by omega, h64⟩)]), rfl⟩)
    · exact absurd (by decide) h45
