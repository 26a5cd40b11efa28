set_option maxHeartbeats 4000000 in
set_option maxRecDepth 100000 in
theorem x_readOperandBits (l : Launch) (G : jG) {X : Nat × (Nat → Nat)} {ix : Nat} {K : Nat × Nat × Nat} {D : mD} {nz : Nat} (A : xA) (S : xS) (P : xC) (V : xV) (L : xL) (T : jMem) (B : xB) (Z : xZ) (Q : xN) (o n : Nat) (hst : l.stackTraces = false) (hT2 : T.2 = some nz) (hx : xcx X A S) (hA8 : ∀ k, A.2.1 k < 256) (hk : xtk X S ix K) (hg : gB B Q) (ho : o < 60) (hoS : oS D B Z Q o n) (h2 : K.1 ≠ 2) : jCp l G yX1_readOperandBits cX1_readOperandBits 8 none 8 126 1 6 [.ref 863, .ref (17 + 14 * o)] (encX A S (tt X ix K) (-1) B Z P Q V L T) (dP X A S P V L T (fun D9 B9 Z9 Q9 => oS D9 B9 Z9 Q9 o (fldF X K D o n).2.2.2) (mFR (fldF X K D o n))) := by
  refine jCp.of (by decide) 6 rfl [some (.ref 863), some (.ref (17 + 14 * o)), none, none, none, none, none, none] rfl (fun p e s m args below meth c C hT9 hz9 => ?_)
  have hz9 := hz9 _ hT2
  have hX1 := hx.1
  have hX2 := hx.2.1
  have hoc := hx.2.2.1
  have hS := hx.2.2.2.1
  have hok := hx.2.2.2.2
  have hn := hk.n
  have hg1 := hn.g.1
  have hg2 := hg1.1
  have hg3 := hg1.2.1
  have hkl := kcl_lt hX2 (K := K)
  have hfd := nR_find hoS.2.2.1 hn hoc 0
  refine E_aload_n (pc := 0) C dX1_readOperandBits_0 rfl rfl ?_
  refine E_get (pc := 1) C dX1_readOperandBits_1 f_X1_20 rfl rfl ?_
  refine E_get (pc := 4) C dX1_readOperandBits_4 f_X1_54 rfl rfl ?_
  try dsimp only [tt]
  refine E_istore_n (pc := 7) C dX1_readOperandBits_7 rfl (by decide) rfl ?_
  dsimp only [List.set]
  refine E_aload_n (pc := 8) C dX1_readOperandBits_8 rfl rfl ?_
  refine E_get (pc := 9) C dX1_readOperandBits_9 f_X1_14 rfl rfl ?_
  refine E_aload_n (pc := 12) C dX1_readOperandBits_12 rfl rfl ?_
  refine E_get (pc := 13) C dX1_readOperandBits_13 f_X1_20 rfl rfl ?_
  refine E_get (pc := 16) C dX1_readOperandBits_16 f_X1_121 rfl rfl ?_
  refine E_iload_n (pc := 19) C dX1_readOperandBits_19 rfl rfl ?_
  refine E_aload_n (pc := 20) C dX1_readOperandBits_20 rfl rfl ?_
  refine E_get (pc := 21) C dX1_readOperandBits_21 f_X1_20 rfl rfl ?_
  refine E_get (pc := 24) C dX1_readOperandBits_24 f_X1_124 rfl rfl ?_
  try dsimp only [tt]
  refine E_callV1 (pc := 27) C dX1_readOperandBits_27 m_X1_127 (x_find l G _ 864 6 72 Q A.2.1 K.2.1 K.2.2 rfl rfl rfl rfl rfl hg.2.2.1 hA8 (by omega) (by omega)) ⟨jle rfl, jle rfl⟩ rfl rfl rfl rfl rfl (jle rfl) ⟨Nat.zero_le _, Nat.zero_le _⟩ ?_
  try dsimp only [tt]
  obtain ⟨kx, hkx⟩ : ∃ kx, kx = xfF A.2.1 Q K.2.1 K.2.2 0 := ⟨_, rfl⟩
  rw [← hkx]
  have r0 : fldF X K D o n = fld1 X K D o n kx := by rw [hkx, hfd]; exact if_neg h2
  refine E_istore_n (pc := 30) C dX1_readOperandBits_30 rfl (by decide) rfl ?_
  dsimp only [List.set]
  refine E_iload_n (pc := 31) C dX1_readOperandBits_31 rfl rfl ?_
  refine E_if_ge (pc := 32) (tgt := 43) C dX1_readOperandBits_32 (by decide) (fun h32 => ?_) (fun h32 => ?_)
  · have hk9 : kx ≠ 1000 := by
      intro z; rw [z] at h32; exact absurd h32 (by decide)
    have hk8 : lI kx = nI kx := by unfold lI; rw [if_neg hk9]
    rw [hk8]
    have hk7 : kx < mOpds D o := by
      have z := hfd
      rw [← hkx] at z
      have z2 := findF_lt (X := X) (K := K) (nm := mOpdN D) (m := mOpds D o) (j := 0)
      split at z <;> omega
    have hk6 : kx < 6 := Nat.lt_of_lt_of_le hk7 hoS.2.1.1.2.1
    have hpd := hoS.2.1.2.1 kx hk7
    have hbits := hpd.bits
    have hsz := hpd.2.2.1
    have r1 : fldF X K D o n = fld2 X K.2.1 (nextF X K.2.2) D o n kx := r0.trans (if_neg hk9)
    have hk1 := hk.adv hS
    have hn1 := hk1.n
    have hg11 := hn1.g.1
    have hg21 := hg11.1
    have hg31 := hg11.2.1
    have hkl1 := kcl_lt hX2 (K := (nextF X K.2.2))
    refine E_aload_n (pc := 43) C dX1_readOperandBits_43 rfl rfl ?_
    refine E_get (pc := 44) C dX1_readOperandBits_44 f_X1_20 rfl rfl ?_
    refine E_callV0 (pc := 47) C dX1_readOperandBits_47 m_X1_70 (x_advance l G A S _ _ _ P _ V L T hx hk) ⟨jle rfl, jle rfl⟩ rfl rfl rfl rfl rfl (jle rfl) ⟨Nat.zero_le _, Nat.zero_le _⟩ ?_
    try dsimp only [tt]
    refine E_aload_n (pc := 50) C dX1_readOperandBits_50 rfl rfl ?_
    refine E_get (pc := 51) C dX1_readOperandBits_51 f_X1_112 (gX_op ho) rfl ?_
    refine E_iload_n (pc := 54) C dX1_readOperandBits_54 rfl rfl ?_
    refine E_aaldN (pc := 55) C dX1_readOperandBits_55 (gX_ops ho) (by decide) (by omega) (by decide) rfl ?_
    refine E_astore (pc := 56) C dX1_readOperandBits_56 (by decide) rfl ?_
    dsimp only [List.set]
    refine E_aload (pc := 58) C dX1_readOperandBits_58 rfl ?_
    refine E_get (pc := 60) C dX1_readOperandBits_60 f_X1_146 (gX_opd ho hk6) rfl ?_
    try dsimp only [tt]
    refine E_iconst (pc := 63) (v := nI 1) C dX1_readOperandBits_63 (by decide) ?_
    refine E_isubN (pc := 64) C dX1_readOperandBits_64 (by omega) ?_
    refine E_istore (pc := 65) C dX1_readOperandBits_65 (by decide) rfl ?_
    dsimp only [List.set]
    refine E_iconst (pc := 67) (v := nI 0) C dX1_readOperandBits_67 (by decide) ?_
    refine E_istore (pc := 68) C dX1_readOperandBits_68 (by decide) rfl ?_
    dsimp only [List.set]
    refine E_aload_n (pc := 70) C dX1_readOperandBits_70 rfl rfl ?_
    refine E_get (pc := 71) C dX1_readOperandBits_71 f_X1_20 rfl rfl ?_
    refine E_get (pc := 74) C dX1_readOperandBits_74 f_X1_43 rfl rfl ?_
    try dsimp only [tt]
    refine E_bipush (pc := 77) (v := nI 91) C dX1_readOperandBits_77 (by decide) ?_
    refine E_icmp_neN (pc := 79) (tgt := 131) C dX1_readOperandBits_79 (by decide) (by omega) (by omega) (fun h79 => ?_) (fun h79 => ?_)
    · have r2 := r1.trans (if_neg (fun z => h79 ((kcl_sg hn1 hok (by decide) (by decide)).mpr z)))
      rw [hbits] at r2
      rw [r2]
      exact l_readOperandBits l G A S P V L T B Z Q o K.2.1 n kx ((Z.2.1 (6 * o + kx)).2.1 - 1) 0 C hT9 hst hT2 hx hA8 hk1 hg hz9 ho hoS hk7 (Nat.zero_le _) (by omega) (by omega)
    · have r2 := r1.trans (if_pos ((kcl_sg hn1 hok (by decide) (by decide)).mp h79))
      have hk2 := hk1.adv hS
      have hn2 := hk2.n
      have hg12 := hn2.g.1
      have hg22 := hg12.1
      have hg32 := hg12.2.1
      have hkl2 := kcl_lt hX2 (K := (nextF X (nextF X K.2.2).2.2))
      refine E_aload_n (pc := 82) C dX1_readOperandBits_82 rfl rfl ?_
      refine E_get (pc := 83) C dX1_readOperandBits_83 f_X1_20 rfl rfl ?_
      refine E_callV0 (pc := 86) C dX1_readOperandBits_86 m_X1_70 (x_advance l G A S _ _ _ P _ V L T hx hk1) ⟨jle rfl, jle rfl⟩ rfl rfl rfl rfl rfl (jle rfl) ⟨Nat.zero_le _, Nat.zero_le _⟩ ?_
      try dsimp only [tt]
      refine E_aload_n (pc := 89) C dX1_readOperandBits_89 rfl rfl ?_
      refine E_get (pc := 90) C dX1_readOperandBits_90 f_X1_20 rfl rfl ?_
      refine E_iconst (pc := 93) (v := nI 0) C dX1_readOperandBits_93 (by decide) ?_
      refine E_iload (pc := 94) C dX1_readOperandBits_94 rfl ?_
      by_cases q96 : (nextF X (nextF X K.2.2).2.2).1 = 2 ∧ (nextF X (nextF X K.2.2).2.2).2.2 - (nextF X (nextF X K.2.2).2.2).2.1 ≤ 4 ∧ 0 ≤ decF X (nextF X (nextF X K.2.2).2.2).2.2 (nextF X (nextF X K.2.2).2.2).2.1 0 ∧ decF X (nextF X (nextF X K.2.2).2.2).2.2 (nextF X (nextF X K.2.2).2.2).2.1 0 ≤ (Z.2.1 (6 * o + kx)).2.1 - 1
      · refine E_callV1 (pc := 96) C dX1_readOperandBits_96 m_X1_63 (x_count l G A S _ _ _ P _ V L T _ _ hx hk2 (by omega) (by omega) q96) ⟨jle rfl, jle rfl⟩ rfl rfl rfl rfl rfl (jle rfl) ⟨Nat.zero_le _, Nat.zero_le _⟩ ?_
        try dsimp only [tt]
        have hk3 := hk2.adv hS
        have hn3 := hk3.n
        have hg13 := hn3.g.1
        have hg23 := hg13.1
        have hg33 := hg13.2.1
        have hkl3 := kcl_lt hX2 (K := (nextF X (nextF X (nextF X K.2.2).2.2).2.2))
        have r4 := r2.trans ((if_pos ⟨q96.1, q96.2.1⟩).trans (if_pos (by rw [hbits]; exact q96.2.2.2)))
        refine E_istore (pc := 99) C dX1_readOperandBits_99 (by decide) rfl ?_
        dsimp only [List.set]
        refine E_aload_n (pc := 101) C dX1_readOperandBits_101 rfl rfl ?_
        refine E_get (pc := 102) C dX1_readOperandBits_102 f_X1_20 rfl rfl ?_
        refine E_bipush (pc := 105) (v := nI 58) C dX1_readOperandBits_105 (by decide) ?_
        by_cases q107 : isSignF X (nextF X (nextF X (nextF X K.2.2).2.2).2.2) 58 = true
        · refine E_callV0 (pc := 107) C dX1_readOperandBits_107 m_X1_60 (x_take l G A S _ _ _ P _ V L T _ hx hk3 ((kcl_sg hn3 hok (by decide) (by decide)).mpr q107)) ⟨jle rfl, jle rfl⟩ rfl rfl rfl rfl rfl (jle rfl) ⟨Nat.zero_le _, Nat.zero_le _⟩ ?_
          try dsimp only [tt]
          have hk4 := hk3.adv hS
          have hn4 := hk4.n
          have hg14 := hn4.g.1
          have hg24 := hg14.1
          have hg34 := hg14.2.1
          have hkl4 := kcl_lt hX2 (K := (nextF X (nextF X (nextF X (nextF X K.2.2).2.2).2.2).2.2))
          have r5 := r4.trans (if_pos q107)
          refine E_aload_n (pc := 110) C dX1_readOperandBits_110 rfl rfl ?_
          refine E_get (pc := 111) C dX1_readOperandBits_111 f_X1_20 rfl rfl ?_
          refine E_iconst (pc := 114) (v := nI 0) C dX1_readOperandBits_114 (by decide) ?_
          refine E_iload (pc := 115) C dX1_readOperandBits_115 rfl ?_
          by_cases q117 : (nextF X (nextF X (nextF X (nextF X K.2.2).2.2).2.2).2.2).1 = 2 ∧ (nextF X (nextF X (nextF X (nextF X K.2.2).2.2).2.2).2.2).2.2 - (nextF X (nextF X (nextF X (nextF X K.2.2).2.2).2.2).2.2).2.1 ≤ 4 ∧ 0 ≤ decF X (nextF X (nextF X (nextF X (nextF X K.2.2).2.2).2.2).2.2).2.2 (nextF X (nextF X (nextF X (nextF X K.2.2).2.2).2.2).2.2).2.1 0 ∧ decF X (nextF X (nextF X (nextF X (nextF X K.2.2).2.2).2.2).2.2).2.2 (nextF X (nextF X (nextF X (nextF X K.2.2).2.2).2.2).2.2).2.1 0 ≤ decF X (nextF X (nextF X K.2.2).2.2).2.2 (nextF X (nextF X K.2.2).2.2).2.1 0
          · refine E_callV1 (pc := 117) C dX1_readOperandBits_117 m_X1_63 (x_count l G A S _ _ _ P _ V L T _ _ hx hk4 (by omega) (by omega) q117) ⟨jle rfl, jle rfl⟩ rfl rfl rfl rfl rfl (jle rfl) ⟨Nat.zero_le _, Nat.zero_le _⟩ ?_
            try dsimp only [tt]
            have hk5 := hk4.adv hS
            have hn5 := hk5.n
            have hg15 := hn5.g.1
            have hg25 := hg15.1
            have hg35 := hg15.2.1
            have hkl5 := kcl_lt hX2 (K := (nextF X (nextF X (nextF X (nextF X (nextF X K.2.2).2.2).2.2).2.2).2.2))
            have r6 := r5.trans ((if_pos ⟨q117.1, q117.2.1⟩).trans (if_pos q117.2.2.2))
            refine E_istore (pc := 120) C dX1_readOperandBits_120 (by decide) rfl ?_
            dsimp only [List.set]
            refine E_aload_n (pc := 122) C dX1_readOperandBits_122 rfl rfl ?_
            refine E_get (pc := 123) C dX1_readOperandBits_123 f_X1_20 rfl rfl ?_
            refine E_bipush (pc := 126) (v := nI 93) C dX1_readOperandBits_126 (by decide) ?_
            by_cases q128 : isSignF X (nextF X (nextF X (nextF X (nextF X (nextF X K.2.2).2.2).2.2).2.2).2.2) 93 = true
            · refine E_callV0 (pc := 128) C dX1_readOperandBits_128 m_X1_60 (x_take l G A S _ _ _ P _ V L T _ hx hk5 ((kcl_sg hn5 hok (by decide) (by decide)).mpr q128)) ⟨jle rfl, jle rfl⟩ rfl rfl rfl rfl rfl (jle rfl) ⟨Nat.zero_le _, Nat.zero_le _⟩ ?_
              try dsimp only [tt]
              have hk6 := hk5.adv hS
              have hn6 := hk6.n
              have hg16 := hn6.g.1
              have hg26 := hg16.1
              have hg36 := hg16.2.1
              have hkl6 := kcl_lt hX2 (K := (nextF X (nextF X (nextF X (nextF X (nextF X (nextF X K.2.2).2.2).2.2).2.2).2.2).2.2))
              have r7 := r6.trans (if_pos q128)
              rw [r7]
              exact l_readOperandBits l G A S P V L T B Z Q o K.2.1 n kx (decF X (nextF X (nextF X K.2.2).2.2).2.2 (nextF X (nextF X K.2.2).2.2).2.1 0) (decF X (nextF X (nextF X (nextF X (nextF X K.2.2).2.2).2.2).2.2).2.2 (nextF X (nextF X (nextF X (nextF X K.2.2).2.2).2.2).2.2).2.1 0) C hT9 hst hT2 hx hA8 hk6 hg hz9 ho hoS hk7 q117.2.2.2 (by have := q96.2.2.2; omega) (by omega)
            · exact E_callVx (pc := 128) C hT9 dX1_readOperandBits_128 m_X1_60 (x_take_x l G A S _ _ _ P _ V L T _ hst hx hk5 (by decide) (fun z => q128 ((kcl_sg hn5 hok (by decide) (by decide)).mp z))) ⟨jle rfl, jle rfl⟩ rfl rfl rfl rfl rfl (jle rfl) ⟨jle rfl, jle rfl⟩ (jle rfl) (jle rfl) (dP.x (congrArg mFR (r6.trans (if_neg q128))) hg)
          · exact E_callVx (pc := 117) C hT9 dX1_readOperandBits_117 m_X1_63 (x_count_x l G A S _ _ _ P _ V L T _ _ hst hx hk4 (by omega) (by omega) q117) ⟨jle rfl, jle rfl⟩ rfl rfl rfl rfl rfl (jle rfl) ⟨jle rfl, jle rfl⟩ (jle rfl) (jle rfl) (dP.x (congrArg mFR (r5.trans (fld5_x q117))) hg)
        · exact E_callVx (pc := 107) C hT9 dX1_readOperandBits_107 m_X1_60 (x_take_x l G A S _ _ _ P _ V L T _ hst hx hk3 (by decide) (fun z => q107 ((kcl_sg hn3 hok (by decide) (by decide)).mp z))) ⟨jle rfl, jle rfl⟩ rfl rfl rfl rfl rfl (jle rfl) ⟨jle rfl, jle rfl⟩ (jle rfl) (jle rfl) (dP.x (congrArg mFR (r4.trans (if_neg q107))) hg)
      · exact E_callVx (pc := 96) C hT9 dX1_readOperandBits_96 m_X1_63 (x_count_x l G A S _ _ _ P _ V L T _ _ hst hx hk2 (by omega) (by omega) q96) ⟨jle rfl, jle rfl⟩ rfl rfl rfl rfl rfl (jle rfl) ⟨jle rfl, jle rfl⟩ (jle rfl) (jle rfl) (dP.x (congrArg mFR (r2.trans (fld3_x (by rw [hbits]; exact q96)))) hg)
  · refine E_aload_n (pc := 35) C dX1_readOperandBits_35 rfl rfl ?_
    refine E_get (pc := 36) C dX1_readOperandBits_36 f_X1_20 rfl rfl ?_
    refine E_iload_n (pc := 39) C dX1_readOperandBits_39 rfl rfl ?_
    exact E_callVx (pc := 40) C hT9 dX1_readOperandBits_40 m_X1_57 (x_refuse l G A S _ _ _ _ P _ V L T _ hst) ⟨jle rfl, jle rfl⟩ rfl rfl rfl rfl rfl (jle rfl) ⟨jle rfl, jle rfl⟩ (jle rfl) (jle rfl) (dP.x (congrArg mFR (r0.trans (if_pos (lI_lt0 (by have := xfF_lt (oc := A.2.1) (N := Q) (f := K.2.1) (e := K.2.2) (j := 0); have := hg.2.2.1.1; omega) (Int32.not_le.mp h32))))) hg)
set_option maxHeartbeats 4000000 in
set_option maxRecDepth 100000 in
theorem l_readFields_e (l : Launch) (G : jG) {p : Program} {e : Env} {s : State} {m : MethodId} {args : Array Value} {below : List Frame} {meth : Method} {c : Code} {X : Nat × (Nat → Nat)} {ix : Nat} {K : Nat × Nat × Nat} {nz : Nat} (A : xA) (S : xS) (P : xC) (V : xV) (L : xL) (T : jMem) (B : xB) (Z : xZ) (Q : xN) (o tn : Nat) (Φ : jO → Prop) (C : jX0 p l (jR 9 153 1 6) s m args meth c G cX1_readFields 3 RX1 none) (hT9 : ∀ x ∈ c.exceptionTable.toList, False) (hst : l.stackTraces = false) (hT2 : T.2 = some nz) (hx : xcx X A S) (hA8 : ∀ k, A.2.1 k < 256) (hk : xtk X S ix K) (hg : gB B Q) (hz9 : s.heap.size = G.1 + nz) (hs : isSignF X K 59 = true) (htn : tn ≤ 4000) (hΦ : Φ (.inl (none, encX A S (tt X ix K) (-1) B Z P Q V L T))) : Jp p l e (jR 9 153 1 6) s m args below meth c G 3 1 6 (Φ) 2 [some (.ref 863), some (.ref (17 + 14 * o)), some (.int (nI tn))] [] (encX A S (tt X ix K) (-1) B Z P Q V L T) 0 0 := by
  have hX1 := hx.1
  have hX2 := hx.2.1
  have hoc := hx.2.2.1
  have hS := hx.2.2.2.1
  have hok := hx.2.2.2.2
  have hn := hk.n
  have hg1 := hn.g.1
  have hg2 := hg1.1
  have hg3 := hg1.2.1
  have hkl := kcl_lt hX2 (K := K)
  refine E_iload_n (pc := 2) C dX1_readFields_2 rfl rfl ?_
  refine E_sipush (pc := 3) (v := nI 4000) C dX1_readFields_3 (by decide) ?_
  refine E_icmp_geN (pc := 6) (tgt := 53) C dX1_readFields_6 (by decide) (by omega) (by omega) (fun h6 => ?_) (fun h6 => ?_)
  · exact E_vret (pc := 53) C dX1_readFields_53 rfl (hΦ) (Nat.zero_le _) (Nat.zero_le _)
  · refine E_aload_n (pc := 9) C dX1_readFields_9 rfl rfl ?_
    refine E_get (pc := 10) C dX1_readFields_10 f_X1_20 rfl rfl ?_
    refine E_get (pc := 13) C dX1_readFields_13 f_X1_43 rfl rfl ?_
    try dsimp only [tt]
    refine E_bipush (pc := 16) (v := nI 59) C dX1_readFields_16 (by decide) ?_
    refine E_icmp_eqN (pc := 18) (tgt := 53) C dX1_readFields_18 (by decide) (by omega) (by omega) (fun h18 => ?_) (fun h18 => ?_)
    · exact E_vret (pc := 53) C dX1_readFields_53 rfl (hΦ) (Nat.zero_le _) (Nat.zero_le _)
    · exact absurd ((kcl_sg hn hok (by decide) (by decide)).mpr hs) h18
set_option maxHeartbeats 4000000 in
set_option maxRecDepth 100000 in
theorem l_readFields (l : Launch) (G : jG) {p : Program} {e : Env} {s : State} {m : MethodId} {args : Array Value} {below : List Frame} {meth : Method} {c : Code} {X : Nat × (Nat → Nat)} {ix : Nat} {K : Nat × Nat × Nat} {D : mD} {nz : Nat} (A : xA) (S : xS) (P : xC) (V : xV) (L : xL) (T : jMem) (B : xB) (Z : xZ) (Q : xN) (o n tn f9 : Nat) (C : jX0 p l (jR 9 153 1 6) s m args meth c G cX1_readFields 3 RX1 none) (hT9 : ∀ x ∈ c.exceptionTable.toList, False) (hst : l.stackTraces = false) (hT2 : T.2 = some nz) (hx : xcx X A S) (hA8 : ∀ k, A.2.1 k < 256) (hk : xtk X S ix K) (hg : gB B Q) (hz9 : s.heap.size = G.1 + nz) (ho : o < 60) (hoS : oS D B Z Q o n) (hs : ¬ isSignF X K 59 = true) (hf9 : X.1 + 1 ≤ K.2.1 + f9) (htn : tn + 1 ≤ K.2.1) : Jp p l e (jR 9 153 1 6) s m args below meth c G 3 1 6 (dP X A S P V L T (fun D9 B9 Z9 Q9 => oS D9 B9 Z9 Q9 o (flsL X o f9 K D n).2.2.2) (mFR (flsL X o f9 K D n))) 2 [some (.ref 863), some (.ref (17 + 14 * o)), some (.int (nI tn))] [] (encX A S (tt X ix K) (-1) B Z P Q V L T) 0 0 := by
  have hX1 := hx.1
  have hX2 := hx.2.1
  have hoc := hx.2.2.1
  have hS := hx.2.2.2.1
  have hok := hx.2.2.2.2
  induction f9 generalizing tn K D ix B Z Q n with
  | zero =>
    exfalso
    have := hk.n.g.1.1
    have := hk.n.g.1.2.1
    omega
  | succ f9 ih =>
    have hn := hk.n
    have hg1 := hn.g.1
    have hg2 := hg1.1
    have hg3 := hg1.2.1
    have hkl := kcl_lt hX2 (K := K)
    have hG := fldF_G (D := D) (o := o) (n := n) hn.g
    refine E_iload_n (pc := 2) C dX1_readFields_2 rfl rfl ?_
    refine E_sipush (pc := 3) (v := nI 4000) C dX1_readFields_3 (by decide) ?_
    refine E_icmp_geN (pc := 6) (tgt := 53) C dX1_readFields_6 (by decide) (by omega) (by omega) (fun h6 => ?_) (fun h6 => ?_)
    · omega
    · refine E_aload_n (pc := 9) C dX1_readFields_9 rfl rfl ?_
      refine E_get (pc := 10) C dX1_readFields_10 f_X1_20 rfl rfl ?_
      refine E_get (pc := 13) C dX1_readFields_13 f_X1_43 rfl rfl ?_
      try dsimp only [tt]
      refine E_bipush (pc := 16) (v := nI 59) C dX1_readFields_16 (by decide) ?_
      refine E_icmp_eqN (pc := 18) (tgt := 53) C dX1_readFields_18 (by decide) (by omega) (by omega) (fun h18 => ?_) (fun h18 => ?_)
      · exact absurd ((kcl_sg hn hok (by decide) (by decide)).mp h18) hs
      · refine E_aload_n (pc := 21) C dX1_readFields_21 rfl rfl ?_
        refine E_get (pc := 22) C dX1_readFields_22 f_X1_20 rfl rfl ?_
        refine E_get (pc := 25) C dX1_readFields_25 f_X1_43 rfl rfl ?_
        try dsimp only [tt]
        refine E_sipush (pc := 28) (v := nI 130) C dX1_readFields_28 (by decide) ?_
        refine E_icmp_neN (pc := 31) (tgt := 42) C dX1_readFields_31 (by decide) (by omega) (by omega) (fun h31 => ?_) (fun h31 => ?_)
        · refine E_aload_n (pc := 42) C dX1_readFields_42 rfl rfl ?_
          refine E_aload_n (pc := 43) C dX1_readFields_43 rfl rfl ?_
          refine E_callVp (pc := 44) C hT9 dX1_readFields_44 m_X1_134 (x_readOperandBits l G A S P V L T _ _ _ o n hst hT2 hx hA8 hk hg ho hoS (fun z => h31 ((kcl_2 hn hok).mpr z))) ⟨jle rfl, jle rfl⟩ rfl rfl rfl rfl rfl (jle rfl) ⟨jle rfl, jle rfl⟩ (jle rfl) (jle rfl) (fun E9 M9 h9 => dP.thr h9 (fun p hp => flsL_x hp)) (fun v9 M9 h9 => ?_)
          obtain ⟨e0, ev, ix2, B2, Z2, Q2, hk2, hg2, hR2, eM⟩ := dP.ret h9
          subst ev eM
          have e0 : (fldF X K D o n).1 = none := e0
          have hk2 : xtk X S ix2 (fldF X K D o n).2.1 := hk2
          have hlt := hG.2 e0
          have hle2 := hk2.n.g.1.1
          have hle3 := hk2.n.g.1.2.1
          refine E_low hz9 hT2 ?_
          try dsimp only [tt]
          refine E_iincN (pc := 47) C dX1_readFields_47 rfl (by decide) rfl ?_
          dsimp only [List.set]
          refine E_goto (pc := 50) (tgt := 2) C dX1_readFields_50 (by decide) ?_
          by_cases hs2 : isSignF X (fldF X K D o n).2.1 59 = true
          · rw [flsL_e e0 hs2]
            exact l_readFields_e l G A S P V L T B2 Z2 Q2 o (tn + 1) _ C hT9 hst hT2 hx hA8 hk2 hg2 hz9 hs2 (by omega) (dP.t (by rw [← e0]; rfl) hk2 hg2 hR2)
          · rw [flsL_n e0 hs2]
            exact ih B2 Z2 Q2 _ (tn + 1) hk2 hg2 hR2 hs2 (by omega) (by omega)
        · refine E_aload_n (pc := 34) C dX1_readFields_34 rfl rfl ?_
          refine E_aload_n (pc := 35) C dX1_readFields_35 rfl rfl ?_
          refine E_callVp (pc := 36) C hT9 dX1_readFields_36 m_X1_131 (x_readFixedBits l G A S P V L T _ _ _ o n hst hT2 hx hA8 hk hg ho hoS ((kcl_2 hn hok).mp h31)) ⟨jle rfl, jle rfl⟩ rfl rfl rfl rfl rfl (jle rfl) ⟨jle rfl, jle rfl⟩ (jle rfl) (jle rfl) (fun E9 M9 h9 => dP.thr h9 (fun p hp => flsL_x hp)) (fun v9 M9 h9 => ?_)
          obtain ⟨e0, ev, ix2, B2, Z2, Q2, hk2, hg2, hR2, eM⟩ := dP.ret h9
          subst ev eM
          have e0 : (fldF X K D o n).1 = none := e0
          have hk2 : xtk X S ix2 (fldF X K D o n).2.1 := hk2
          have hlt := hG.2 e0
          have hle2 := hk2.n.g.1.1
          have hle3 := hk2.n.g.1.2.1
          refine E_low hz9 hT2 ?_
          try dsimp only [tt]
          refine E_goto (pc := 39) (tgt := 47) C dX1_readFields_39 (by decide) ?_
          refine E_iincN (pc := 47) C dX1_readFields_47 rfl (by decide) rfl ?_
          dsimp only [List.set]
          refine E_goto (pc := 50) (tgt := 2) C dX1_readFields_50 (by decide) ?_
          by_cases hs2 : isSignF X (fldF X K D o n).2.1 59 = true
          · rw [flsL_e e0 hs2]
            exact l_readFields_e l G A S P V L T B2 Z2 Q2 o (tn + 1) _ C hT9 hst hT2 hx hA8 hk2 hg2 hz9 hs2 (by omega) (dP.t (by rw [← e0]; rfl) hk2 hg2 hR2)
          · rw [flsL_n e0 hs2]
            exact ih B2 Z2 Q2 _ (tn + 1) hk2 hg2 hR2 hs2 (by omega) (by omega)
set_option maxHeartbeats 4000000 in
set_option maxRecDepth 100000 in
theorem x_readFields (l : Launch) (G : jG) {X : Nat × (Nat → Nat)} {ix : Nat} {K : Nat × Nat × Nat} {D : mD} {nz : Nat} (A : xA) (S : xS) (P : xC) (V : xV) (L : xL) (T : jMem) (B : xB) (Z : xZ) (Q : xN) (o n : Nat) (hst : l.stackTraces = false) (hT2 : T.2 = some nz) (hx : xcx X A S) (hA8 : ∀ k, A.2.1 k < 256) (hk : xtk X S ix K) (hg : gB B Q) (ho : o < 60) (hoS : oS D B Z Q o n) (hs : ¬ isSignF X K 59 = true) (h1 : 1 ≤ K.2.1) : jCp l G yX1_readFields cX1_readFields 3 none 9 153 1 6 [.ref 863, .ref (17 + 14 * o)] (encX A S (tt X ix K) (-1) B Z P Q V L T) (dP X A S P V L T (fun D9 B9 Z9 Q9 => oS D9 B9 Z9 Q9 o (flsL X o (X.1 + 1) K D n).2.2.2) (mFR (flsL X o (X.1 + 1) K D n))) := by
  refine jCp.of (by decide) 1 rfl [some (.ref 863), some (.ref (17 + 14 * o)), none] rfl (fun p e s m args below meth c C hT9 hz9 => ?_)
  have hz9 := hz9 _ hT2
  refine E_iconst (pc := 0) (v := nI 0) C dX1_readFields_0 (by decide) ?_
  refine E_istore_n (pc := 1) C dX1_readFields_1 rfl (by decide) rfl ?_
  dsimp only [List.set]
  exact l_readFields l G A S P V L T B Z Q o n 0 (X.1 + 1) C hT9 hst hT2 hx hA8 hk hg hz9 ho hoS hs (by omega) h1
set_option maxHeartbeats 4000000 in
set_option maxRecDepth 100000 in
theorem x_readFields_e (l : Launch) (G : jG) {X : Nat × (Nat → Nat)} {ix : Nat} {K : Nat × Nat × Nat} {nz : Nat} (A : xA) (S : xS) (P : xC) (V : xV) (L : xL) (T : jMem) (B : xB) (Z : xZ) (Q : xN) (o : Nat) (hst : l.stackTraces = false) (hT2 : T.2 = some nz) (hx : xcx X A S) (hA8 : ∀ k, A.2.1 k < 256) (hk : xtk X S ix K) (hg : gB B Q) (hs : isSignF X K 59 = true) : jCp l G yX1_readFields cX1_readFields 3 none 9 153 1 6 [.ref 863, .ref (17 + 14 * o)] (encX A S (tt X ix K) (-1) B Z P Q V L T) ((fun o9 => o9 = .inl (none, encX A S (tt X ix K) (-1) B Z P Q V L T))) := by
  refine jCp.of (by decide) 1 rfl [some (.ref 863), some (.ref (17 + 14 * o)), none] rfl (fun p e s m args below meth c C hT9 hz9 => ?_)
  have hz9 := hz9 _ hT2
  refine E_iconst (pc := 0) (v := nI 0) C dX1_readFields_0 (by decide) ?_
  refine E_istore_n (pc := 1) C dX1_readFields_1 rfl (by decide) rfl ?_
  dsimp only [List.set]
  exact l_readFields_e l G A S P V L T B Z Q o 0 _ C hT9 hst hT2 hx hA8 hk hg hz9 hs (Nat.zero_le _) rfl
