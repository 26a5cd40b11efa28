set_option maxHeartbeats 4000000 in
set_option maxRecDepth 100000 in
theorem x_readOp (l : Launch) (G : jG) {X : Nat × (Nat → Nat)} {ix : Nat} {K : Nat × Nat × Nat} {D : mD} {nz : Nat} (A : xA) (S : xS) (P : xC) (V : xV) (L : xL) (T : jMem) (B : xB) (Z : xZ) (Q : xN) (hst : l.stackTraces = false) (hT2 : T.2 = some nz) (hx : xcx X A S) (hA8 : ∀ k, A.2.1 k < 256) (hk : xtk X S ix K) (hg : gB B Q) (hdR : dR D B Z D.2.2.1) (hdG : dG D) : jCp l G yX1_readOp cX1_readOp 4 none 10 175 1 6 [.ref 863] (encX A S (tt X ix K) (-1) B Z P Q V L T) (dP X A S P V L T (fun D B Z _ => dR D B Z D.2.2.1) (opF X K D)) := by
  refine jCp.of (by decide) 3 rfl [some (.ref 863), none, none, none] rfl (fun p e s m args below meth c C hT9 hz9 => ?_)
  have hz9 := hz9 _ hT2
  have hX1 := hx.1
  have hX2 := hx.2.1
  have hoc := hx.2.2.1
  have hS := hx.2.2.2.1
  have hok := hx.2.2.2.2
  have hn := hk.n
  have hg1 := hn.g.1
  have hg2 := hg1.1
  have hg3 := hg1.2.1
  have hkl := kcl_lt hX2 (K := K)
  have hmo : B.2.2.2.2.1 = D.2.2.1 := hdR.2.2.2.1.1
  have hm6 := hg.2.1.1
  refine E_aload_n (pc := 0) C dX1_readOp_0 rfl rfl ?_
  refine E_get (pc := 1) C dX1_readOp_1 f_X1_24 rfl rfl ?_
  refine E_get (pc := 4) C dX1_readOp_4 f_X1_37 rfl rfl ?_
  refine E_get (pc := 7) C dX1_readOp_7 f_X1_33 rfl rfl ?_
  try dsimp only [tt]
  rw [hmo]
  refine E_istore_n (pc := 10) C dX1_readOp_10 rfl (by decide) rfl ?_
  dsimp only [List.set]
  refine E_iload_n (pc := 11) C dX1_readOp_11 rfl rfl ?_
  refine E_bipush (pc := 12) (v := nI 60) C dX1_readOp_12 (by decide) ?_
  refine E_icmp_ltN (pc := 14) (tgt := 31) C dX1_readOp_14 (by decide) (by omega) (by omega) (fun h14 => ?_) (fun h14 => ?_)
  · have ho : D.2.2.1 < 60 := h14
    have r1 : opF X K D = op1 X (nextF X K.2.2) D := if_neg (by omega)
    have hk1 := hk.adv hS
    have hn1 := hk1.n
    have hg11 := hn1.g.1
    have hg21 := hg11.1
    have hg31 := hg11.2.1
    have hkl1 := kcl_lt hX2 (K := (nextF X K.2.2))
    refine E_aload_n (pc := 31) C dX1_readOp_31 rfl rfl ?_
    refine E_get (pc := 32) C dX1_readOp_32 f_X1_20 rfl rfl ?_
    refine E_callV0 (pc := 35) C dX1_readOp_35 m_X1_70 (x_advance l G A S _ _ _ P _ V L T hx hk) ⟨jle rfl, jle rfl⟩ rfl rfl rfl rfl rfl (jle rfl) ⟨Nat.zero_le _, Nat.zero_le _⟩ ?_
    try dsimp only [tt]
    refine E_aload_n (pc := 38) C dX1_readOp_38 rfl rfl ?_
    refine E_get (pc := 39) C dX1_readOp_39 f_X1_20 rfl rfl ?_
    refine E_get (pc := 42) C dX1_readOp_42 f_X1_54 rfl rfl ?_
    try dsimp only [tt]
    refine E_istore_n (pc := 45) C dX1_readOp_45 rfl (by decide) rfl ?_
    dsimp only [List.set]
    refine E_aload_n (pc := 46) C dX1_readOp_46 rfl rfl ?_
    refine E_get (pc := 47) C dX1_readOp_47 f_X1_20 rfl rfl ?_
    refine E_aload_n (pc := 50) C dX1_readOp_50 rfl rfl ?_
    refine E_get (pc := 51) C dX1_readOp_51 f_X1_24 rfl rfl ?_
    refine E_get (pc := 54) C dX1_readOp_54 f_X1_37 rfl rfl ?_
    refine E_bipush (pc := 57) (v := nI 12) C dX1_readOp_57 (by decide) ?_
    by_cases q59 : isNameF X (nextF X K.2.2) = true ∧ (nextF X K.2.2).2.2 - (nextF X K.2.2).2.1 ≤ 12 ∧ findF X (nextF X K.2.2) (mOpN D) D.2.2.1 0 = 1000
    · refine E_callV0 (pc := 59) C dX1_readOp_59 m_X1_73 (x_tnn_o l G A S _ _ _ P _ V L T _ _ _ hx hk1 hA8 hg.2.1 hdR.2.2.2.1 (by decide) (by omega) q59) ⟨jle rfl, jle rfl⟩ rfl rfl rfl rfl rfl (jle rfl) ⟨Nat.zero_le _, Nat.zero_le _⟩ ?_
      try dsimp only [tt]
      have hk2 := hk1.adv hS
      have hn2 := hk2.n
      have hg12 := hn2.g.1
      have hg22 := hg12.1
      have hg32 := hg12.2.1
      have hkl2 := kcl_lt hX2 (K := (nextF X (nextF X K.2.2).2.2))
      have r2 : opF X K D = op4 X (nextF X K.2.2).2.1 D.2.2.1 (nextF X (nextF X K.2.2).2.2) (mdA (mdP D (keepF X (nextF X K.2.2) (mOpN D) D.2.2.1 12)) (va_up (mOpds D) D.2.2.1 0)) := r1.trans (if_pos ⟨q59.1, q59.2.2⟩)
      have r3 := r2.trans op4_or
      have hgo := hg.op (oc := A.2.1) (f := (nextF X K.2.2).2.1) (e := (nextF X K.2.2).2.2) (by omega) (by omega) hA8
      have hoS0 := oS.init (Q := Q) hdR hn1 hoc q59.1
      have hdG1 := hdG.op (K := (nextF X K.2.2)) hX2
      refine E_aload_n (pc := 62) C dX1_readOp_62 rfl rfl ?_
      refine E_get (pc := 63) C dX1_readOp_63 f_X1_24 rfl rfl ?_
      refine E_get (pc := 66) C dX1_readOp_66 f_X1_81 rfl rfl ?_
      refine E_iload_n (pc := 69) C dX1_readOp_69 rfl rfl ?_
      refine E_aaldN (pc := 70) C dX1_readOp_70 rfl (by decide) (by omega) (by decide) rfl ?_
      refine E_astore_n (pc := 71) C dX1_readOp_71 rfl (by decide) rfl ?_
      dsimp only [List.set]
      refine E_aload_n (pc := 72) C dX1_readOp_72 rfl rfl ?_
      refine E_callV0 (pc := 73) C dX1_readOp_73 m_X1_85 (x_obegin l G A S _ _ _ Z P Q V L T D.2.2.1 ho) ⟨jle rfl, jle rfl⟩ (gX_op ho) rfl rfl rfl rfl (jle rfl) ⟨Nat.zero_le _, Nat.zero_le _⟩ ?_
      try dsimp only [tt]
      refine E_aload_n (pc := 76) C dX1_readOp_76 rfl rfl ?_
      refine E_aload_n (pc := 77) C dX1_readOp_77 rfl rfl ?_
      refine E_callVp (pc := 78) C hT9 dX1_readOp_78 m_X1_90 (x_readOperands l G A S P V L T _ _ _ D.2.2.1 hst hT2 hx hA8 hk2 hgo ho hoS0 hdG1) ⟨jle rfl, jle rfl⟩ rfl rfl rfl rfl rfl (jle rfl) ⟨jle rfl, jle rfl⟩ (jle rfl) (jle rfl) (fun E9 M9 h9 => dP.thr h9 (fun p hp => by rw [r3]; exact mB_x hp)) (fun v9 M9 h9 => ?_)
      obtain ⟨e0, ev, ix3, B3, Z3, Q3, hk3, hg3, hoS3, eM⟩ := dP.ret h9
      subst ev eM
      have r4 := r3.trans (mB_t e0)
      have hn3 := hk3.n
      have hg13 := hn3.g.1
      have hg23 := hg13.1
      have hg33 := hg13.2.1
      have hkl3 := kcl_lt hX2 (K := (orF X D.2.2.1 (nextF X (nextF X K.2.2).2.2) (mdA (mdP D (keepF X (nextF X K.2.2) (mOpN D) D.2.2.1 12)) (va_up (mOpds D) D.2.2.1 0))).2.1)
      refine E_low hz9 hT2 ?_
      try dsimp only [tt]
      refine E_aload_n (pc := 81) C dX1_readOp_81 rfl rfl ?_
      refine E_get (pc := 82) C dX1_readOp_82 f_X1_20 rfl rfl ?_
      refine E_bipush (pc := 85) (v := nI 61) C dX1_readOp_85 (by decide) ?_
      by_cases q87 : isSignF X (orF X D.2.2.1 (nextF X (nextF X K.2.2).2.2) (mdA (mdP D (keepF X (nextF X K.2.2) (mOpN D) D.2.2.1 12)) (va_up (mOpds D) D.2.2.1 0))).2.1 61 = true
      · refine E_callV0 (pc := 87) C dX1_readOp_87 m_X1_60 (x_take l G A S _ _ _ P _ V L T _ hx hk3 ((kcl_sg hn3 hok (by decide) (by decide)).mpr q87)) ⟨jle rfl, jle rfl⟩ rfl rfl rfl rfl rfl (jle rfl) ⟨Nat.zero_le _, Nat.zero_le _⟩ ?_
        try dsimp only [tt]
        have hk4 := hk3.adv hS
        have hn4 := hk4.n
        have hg14 := hn4.g.1
        have hg24 := hg14.1
        have hg34 := hg14.2.1
        have hkl4 := kcl_lt hX2 (K := (nextF X (orF X D.2.2.1 (nextF X (nextF X K.2.2).2.2) (mdA (mdP D (keepF X (nextF X K.2.2) (mOpN D) D.2.2.1 12)) (va_up (mOpds D) D.2.2.1 0))).2.1.2.2))
        have r5 := r4.trans (if_pos q87)
        have h41 : 1 ≤ (nextF X (orF X D.2.2.1 (nextF X (nextF X K.2.2).2.2) (mdA (mdP D (keepF X (nextF X K.2.2) (mOpN D) D.2.2.1 12)) (va_up (mOpds D) D.2.2.1 0))).2.1.2.2).2.1 := by have := hn3.g.lt (by have := sg_4 q87; omega); omega
        refine E_aload_n (pc := 90) C dX1_readOp_90 rfl rfl ?_
        refine E_aload_n (pc := 91) C dX1_readOp_91 rfl rfl ?_
        by_cases q92 : isSignF X (nextF X (orF X D.2.2.1 (nextF X (nextF X K.2.2).2.2) (mdA (mdP D (keepF X (nextF X K.2.2) (mOpN D) D.2.2.1 12)) (va_up (mOpds D) D.2.2.1 0))).2.1.2.2) 59 = true
        · refine E_callVp (pc := 92) C hT9 dX1_readOp_92 m_X1_94 (x_readFields_e l G A S P V L T _ _ _ D.2.2.1 hst hT2 hx hA8 hk4 hg3 q92) ⟨jle rfl, jle rfl⟩ rfl rfl rfl rfl rfl (jle rfl) ⟨jle rfl, jle rfl⟩ (jle rfl) (jle rfl) (fun E9 M9 h9 => nomatch h9) (fun v9 M9 h9 => ?_)
          injection h9 with h9
          injection h9 with h8 h7
          subst h8 h7
          refine E_low hz9 hT2 ?_
          try dsimp only [tt]
          have e0 : (flsL X D.2.2.1 (X.1 + 1) (nextF X (orF X D.2.2.1 (nextF X (nextF X K.2.2).2.2) (mdA (mdP D (keepF X (nextF X K.2.2) (mOpN D) D.2.2.1 12)) (va_up (mOpds D) D.2.2.1 0))).2.1.2.2) (orF X D.2.2.1 (nextF X (nextF X K.2.2).2.2) (mdA (mdP D (keepF X (nextF X K.2.2) (mOpN D) D.2.2.1 12)) (va_up (mOpds D) D.2.2.1 0))).2.2 0).1 = some (nextF X (orF X D.2.2.1 (nextF X (nextF X K.2.2).2.2) (mdA (mdP D (keepF X (nextF X K.2.2) (mOpN D) D.2.2.1 12)) (va_up (mOpds D) D.2.2.1 0))).2.1.2.2).2.1 := flsL_x (by rw [fldF_sg q92])
          have hln : (Z3.1 D.2.2.1).2.1 = 0 := hoS3.2.1.1.2.2.1
          have hB3 := hoS3.2.2.2.1
          have hoU := hoS3.2.1.us
          refine E_aload_n (pc := 95) C dX1_readOp_95 rfl rfl ?_
          refine E_aload_n (pc := 96) C dX1_readOp_96 rfl rfl ?_
          refine E_get (pc := 97) C dX1_readOp_97 f_X1_24 rfl rfl ?_
          refine E_get (pc := 100) C dX1_readOp_100 f_X1_67 rfl rfl ?_
          try dsimp only [tt]
          refine E_callV1 (pc := 103) C dX1_readOp_103 m_X1_97 (x_isWhole l G _ _ _ _ _ _ _ _ _ _ _ D.2.2.1 _ ho hoU (by omega) (by omega)) ⟨jle rfl, jle rfl⟩ (gX_op ho) rfl rfl rfl rfl (jle rfl) ⟨Nat.zero_le _, Nat.zero_le _⟩ ?_
          try dsimp only [tt]
          refine E_if_ne (pc := 106) (tgt := 123) C dX1_readOp_106 (by decide) (fun h106 => ?_) (fun h106 => ?_)
          · (have z := bI_t h106; rw [Bool.and_eq_true, decide_eq_true_eq] at z; have := z.2; omega)
          · refine E_aload_n (pc := 109) C dX1_readOp_109 rfl rfl ?_
            refine E_get (pc := 110) C dX1_readOp_110 f_X1_20 rfl rfl ?_
            refine E_aload_n (pc := 113) C dX1_readOp_113 rfl rfl ?_
            refine E_get (pc := 114) C dX1_readOp_114 f_X1_20 rfl rfl ?_
            refine E_get (pc := 117) C dX1_readOp_117 f_X1_54 rfl rfl ?_
            try dsimp only [tt]
            exact E_callVx (pc := 120) C hT9 dX1_readOp_120 m_X1_57 (x_refuse l G A S _ _ _ _ P _ V L T _ hst) ⟨jle rfl, jle rfl⟩ rfl rfl rfl rfl rfl (jle rfl) ⟨jle rfl, jle rfl⟩ (jle rfl) (jle rfl) (dP.x1 (by rw [r5]; exact op8_x e0) hg3)
        · refine E_callVp (pc := 92) C hT9 dX1_readOp_92 m_X1_94 (x_readFields l G A S P V L T _ _ _ D.2.2.1 0 hst hT2 hx hA8 hk4 hg3 ho hoS3 q92 h41) ⟨jle rfl, jle rfl⟩ rfl rfl rfl rfl rfl (jle rfl) ⟨jle rfl, jle rfl⟩ (jle rfl) (jle rfl) (fun E9 M9 h9 => dP.thr h9 (fun p hp => by rw [r5]; exact op8_x hp)) (fun v9 M9 h9 => ?_)
          obtain ⟨e0, ev, ix5, B5, Z5, Q5, hk5, hg5, hoS5, eM⟩ := dP.ret h9
          subst ev eM
          refine E_low hz9 hT2 ?_
          try dsimp only [tt]
          have e0 : (flsL X D.2.2.1 (X.1 + 1) (nextF X (orF X D.2.2.1 (nextF X (nextF X K.2.2).2.2) (mdA (mdP D (keepF X (nextF X K.2.2) (mOpN D) D.2.2.1 12)) (va_up (mOpds D) D.2.2.1 0))).2.1.2.2) (orF X D.2.2.1 (nextF X (nextF X K.2.2).2.2) (mdA (mdP D (keepF X (nextF X K.2.2) (mOpN D) D.2.2.1 12)) (va_up (mOpds D) D.2.2.1 0))).2.2 0).1 = none := e0
          have hk5 : xtk X S ix5 (flsL X D.2.2.1 (X.1 + 1) (nextF X (orF X D.2.2.1 (nextF X (nextF X K.2.2).2.2) (mdA (mdP D (keepF X (nextF X K.2.2) (mOpN D) D.2.2.1 12)) (va_up (mOpds D) D.2.2.1 0))).2.1.2.2) (orF X D.2.2.1 (nextF X (nextF X K.2.2).2.2) (mdA (mdP D (keepF X (nextF X K.2.2) (mOpN D) D.2.2.1 12)) (va_up (mOpds D) D.2.2.1 0))).2.2 0).2.1 := hk5
          have hoS5 : oS (flsL X D.2.2.1 (X.1 + 1) (nextF X (orF X D.2.2.1 (nextF X (nextF X K.2.2).2.2) (mdA (mdP D (keepF X (nextF X K.2.2) (mOpN D) D.2.2.1 12)) (va_up (mOpds D) D.2.2.1 0))).2.1.2.2) (orF X D.2.2.1 (nextF X (nextF X K.2.2).2.2) (mdA (mdP D (keepF X (nextF X K.2.2) (mOpN D) D.2.2.1 12)) (va_up (mOpds D) D.2.2.1 0))).2.2 0).2.2.1 B5 Z5 Q5 D.2.2.1 (flsL X D.2.2.1 (X.1 + 1) (nextF X (orF X D.2.2.1 (nextF X (nextF X K.2.2).2.2) (mdA (mdP D (keepF X (nextF X K.2.2) (mOpN D) D.2.2.1 12)) (va_up (mOpds D) D.2.2.1 0))).2.1.2.2) (orF X D.2.2.1 (nextF X (nextF X K.2.2).2.2) (mdA (mdP D (keepF X (nextF X K.2.2) (mOpN D) D.2.2.1 12)) (va_up (mOpds D) D.2.2.1 0))).2.2 0).2.2.2 := hoS5
          have r6 := r5.trans (if_pos e0)
          have hsg5 := flsL_sg (o := D.2.2.1) (X.1 + 1) (nextF X (orF X D.2.2.1 (nextF X (nextF X K.2.2).2.2) (mdA (mdP D (keepF X (nextF X K.2.2) (mOpN D) D.2.2.1 12)) (va_up (mOpds D) D.2.2.1 0))).2.1.2.2) (orF X D.2.2.1 (nextF X (nextF X K.2.2).2.2) (mdA (mdP D (keepF X (nextF X K.2.2) (mOpN D) D.2.2.1 12)) (va_up (mOpds D) D.2.2.1 0))).2.2 0 hn4.g (by omega) e0
          have hn5 := hk5.n
          have hg15 := hn5.g.1
          have hg25 := hg15.1
          have hg35 := hg15.2.1
          have hkl5 := kcl_lt hX2 (K := (flsL X D.2.2.1 (X.1 + 1) (nextF X (orF X D.2.2.1 (nextF X (nextF X K.2.2).2.2) (mdA (mdP D (keepF X (nextF X K.2.2) (mOpN D) D.2.2.1 12)) (va_up (mOpds D) D.2.2.1 0))).2.1.2.2) (orF X D.2.2.1 (nextF X (nextF X K.2.2).2.2) (mdA (mdP D (keepF X (nextF X K.2.2) (mOpN D) D.2.2.1 12)) (va_up (mOpds D) D.2.2.1 0))).2.2 0).2.1)
          have hln : (Z5.1 D.2.2.1).2.1 = (flsL X D.2.2.1 (X.1 + 1) (nextF X (orF X D.2.2.1 (nextF X (nextF X K.2.2).2.2) (mdA (mdP D (keepF X (nextF X K.2.2) (mOpN D) D.2.2.1 12)) (va_up (mOpds D) D.2.2.1 0))).2.1.2.2) (orF X D.2.2.1 (nextF X (nextF X K.2.2).2.2) (mdA (mdP D (keepF X (nextF X K.2.2) (mOpN D) D.2.2.1 12)) (va_up (mOpds D) D.2.2.1 0))).2.2 0).2.2.2 := hoS5.2.1.1.2.2.1
          have hB5 := hoS5.2.2.2.1
          have hoU := hoS5.2.1.us
          have hn5W := hoS5.2.1.1.2.2.2.1
          have hwh := hoS5.2.1.whole
          refine E_aload_n (pc := 95) C dX1_readOp_95 rfl rfl ?_
          refine E_aload_n (pc := 96) C dX1_readOp_96 rfl rfl ?_
          refine E_get (pc := 97) C dX1_readOp_97 f_X1_24 rfl rfl ?_
          refine E_get (pc := 100) C dX1_readOp_100 f_X1_67 rfl rfl ?_
          try dsimp only [tt]
          refine E_callV1 (pc := 103) C dX1_readOp_103 m_X1_97 (x_isWhole l G _ _ _ _ _ _ _ _ _ _ _ D.2.2.1 _ ho hoU (by omega) (by omega)) ⟨jle rfl, jle rfl⟩ (gX_op ho) rfl rfl rfl rfl (jle rfl) ⟨Nat.zero_le _, Nat.zero_le _⟩ ?_
          try dsimp only [tt]
          refine E_if_ne (pc := 106) (tgt := 123) C dX1_readOp_106 (by decide) (fun h106 => ?_) (fun h106 => ?_)
          · have hnw : stAll (flsL X D.2.2.1 (X.1 + 1) (nextF X (orF X D.2.2.1 (nextF X (nextF X K.2.2).2.2) (mdA (mdP D (keepF X (nextF X K.2.2) (mOpN D) D.2.2.1 12)) (va_up (mOpds D) D.2.2.1 0))).2.1.2.2) (orF X D.2.2.1 (nextF X (nextF X K.2.2).2.2) (mdA (mdP D (keepF X (nextF X K.2.2) (mOpN D) D.2.2.1 12)) (va_up (mOpds D) D.2.2.1 0))).2.2 0).2.2.1 D.2.2.1 (flsL X D.2.2.1 (X.1 + 1) (nextF X (orF X D.2.2.1 (nextF X (nextF X K.2.2).2.2) (mdA (mdP D (keepF X (nextF X K.2.2) (mOpN D) D.2.2.1 12)) (va_up (mOpds D) D.2.2.1 0))).2.1.2.2) (orF X D.2.2.1 (nextF X (nextF X K.2.2).2.2) (mdA (mdP D (keepF X (nextF X K.2.2) (mOpN D) D.2.2.1 12)) (va_up (mOpds D) D.2.2.1 0))).2.2 0).2.2.2 = true ∧ (flsL X D.2.2.1 (X.1 + 1) (nextF X (orF X D.2.2.1 (nextF X (nextF X K.2.2).2.2) (mdA (mdP D (keepF X (nextF X K.2.2) (mOpN D) D.2.2.1 12)) (va_up (mOpds D) D.2.2.1 0))).2.1.2.2) (orF X D.2.2.1 (nextF X (nextF X K.2.2).2.2) (mdA (mdP D (keepF X (nextF X K.2.2) (mOpN D) D.2.2.1 12)) (va_up (mOpds D) D.2.2.1 0))).2.2 0).2.2.2 = (flsL X D.2.2.1 (X.1 + 1) (nextF X (orF X D.2.2.1 (nextF X (nextF X K.2.2).2.2) (mdA (mdP D (keepF X (nextF X K.2.2) (mOpN D) D.2.2.1 12)) (va_up (mOpds D) D.2.2.1 0))).2.1.2.2) (orF X D.2.2.1 (nextF X (nextF X K.2.2).2.2) (mdA (mdP D (keepF X (nextF X K.2.2) (mOpN D) D.2.2.1 12)) (va_up (mOpds D) D.2.2.1 0))).2.2 0).2.2.1.1 := by
              have z := bI_t h106
              rw [Bool.and_eq_true, decide_eq_true_eq] at z
              exact ⟨hwh.symm.trans z.1, by rw [← hln, z.2]; exact hB5.1⟩
            have hoS6 := hoS5
            rw [hnw.2] at hoS6
            have hshr : anyF (fun i => shZ Z5 i D.2.2.1) D.2.2.1 0 = !apAll (flsL X D.2.2.1 (X.1 + 1) (nextF X (orF X D.2.2.1 (nextF X (nextF X K.2.2).2.2) (mdA (mdP D (keepF X (nextF X K.2.2) (mOpN D) D.2.2.1 12)) (va_up (mOpds D) D.2.2.1 0))).2.1.2.2) (orF X D.2.2.1 (nextF X (nextF X K.2.2).2.2) (mdA (mdP D (keepF X (nextF X K.2.2) (mOpN D) D.2.2.1 12)) (va_up (mOpds D) D.2.2.1 0))).2.2 0).2.2.1 D.2.2.1 := shares_eq (fun i hi => by
              by_cases e9 : i = D.2.2.1
              · subst e9; exact hoS6.2.1
              · exact (hoS6.2.2.2.2.2.2.2 i (by rw [hoS6.1]; omega)).1)
            refine E_aload_n (pc := 123) C dX1_readOp_123 rfl rfl ?_
            refine E_iload_n (pc := 124) C dX1_readOp_124 rfl rfl ?_
            refine E_callV1 (pc := 125) C dX1_readOp_125 m_X1_101 (x_sharesE l G _ _ _ _ _ _ _ _ _ _ _ D.2.2.1 ho) ⟨jle rfl, jle rfl⟩ rfl rfl rfl rfl rfl (jle rfl) ⟨Nat.zero_le _, Nat.zero_le _⟩ ?_
            try dsimp only [tt]
            refine E_if_eq (pc := 128) (tgt := 139) C dX1_readOp_128 (by decide) (fun h128 => ?_) (fun h128 => ?_)
            · refine E_aload_n (pc := 139) C dX1_readOp_139 rfl rfl ?_
              refine E_get (pc := 140) C dX1_readOp_140 f_X1_20 rfl rfl ?_
              refine E_bipush (pc := 143) (v := nI 59) C dX1_readOp_143 (by decide) ?_
              by_cases q145 : isSignF X (flsL X D.2.2.1 (X.1 + 1) (nextF X (orF X D.2.2.1 (nextF X (nextF X K.2.2).2.2) (mdA (mdP D (keepF X (nextF X K.2.2) (mOpN D) D.2.2.1 12)) (va_up (mOpds D) D.2.2.1 0))).2.1.2.2) (orF X D.2.2.1 (nextF X (nextF X K.2.2).2.2) (mdA (mdP D (keepF X (nextF X K.2.2) (mOpN D) D.2.2.1 12)) (va_up (mOpds D) D.2.2.1 0))).2.2 0).2.1 59 = true
              · refine E_callV0 (pc := 145) C dX1_readOp_145 m_X1_60 (x_take l G A S _ _ _ P _ V L T _ hx hk5 ((kcl_sg hn5 hok (by decide) (by decide)).mpr hsg5)) ⟨jle rfl, jle rfl⟩ rfl rfl rfl rfl rfl (jle rfl) ⟨Nat.zero_le _, Nat.zero_le _⟩ ?_
                try dsimp only [tt]
                exact E_vret (pc := 148) C dX1_readOp_148 rfl (dP.t (r6.trans (op9_t hnw (by have z := bI_f h128; rw [hshr] at z; simpa using z))) (hk5.adv hS) hg5 (hoS6.done (by rw [← hnw.2]; exact hnw.1))) (Nat.zero_le _) (Nat.zero_le _)
              · exact E_callVx (pc := 145) C hT9 dX1_readOp_145 m_X1_60 (x_take_x l G A S _ _ _ P _ V L T _ hst hx hk5 (by decide) (fun z => q145 hsg5)) ⟨jle rfl, jle rfl⟩ rfl rfl rfl rfl rfl (jle rfl) ⟨jle rfl, jle rfl⟩ (jle rfl) (jle rfl) (absurd hsg5 q145)
            · refine E_aload_n (pc := 131) C dX1_readOp_131 rfl rfl ?_
              refine E_get (pc := 132) C dX1_readOp_132 f_X1_20 rfl rfl ?_
              refine E_iload_n (pc := 135) C dX1_readOp_135 rfl rfl ?_
              exact E_callVx (pc := 136) C hT9 dX1_readOp_136 m_X1_57 (x_refuse l G A S _ _ _ _ P _ V L T _ hst) ⟨jle rfl, jle rfl⟩ rfl rfl rfl rfl rfl (jle rfl) ⟨jle rfl, jle rfl⟩ (jle rfl) (jle rfl) (dP.x (r6.trans (op9_a hnw (by have z := bI_t h128; rw [hshr] at z; simpa using z))) hg5)
          · have hnw : ¬ (stAll (flsL X D.2.2.1 (X.1 + 1) (nextF X (orF X D.2.2.1 (nextF X (nextF X K.2.2).2.2) (mdA (mdP D (keepF X (nextF X K.2.2) (mOpN D) D.2.2.1 12)) (va_up (mOpds D) D.2.2.1 0))).2.1.2.2) (orF X D.2.2.1 (nextF X (nextF X K.2.2).2.2) (mdA (mdP D (keepF X (nextF X K.2.2) (mOpN D) D.2.2.1 12)) (va_up (mOpds D) D.2.2.1 0))).2.2 0).2.2.1 D.2.2.1 (flsL X D.2.2.1 (X.1 + 1) (nextF X (orF X D.2.2.1 (nextF X (nextF X K.2.2).2.2) (mdA (mdP D (keepF X (nextF X K.2.2) (mOpN D) D.2.2.1 12)) (va_up (mOpds D) D.2.2.1 0))).2.1.2.2) (orF X D.2.2.1 (nextF X (nextF X K.2.2).2.2) (mdA (mdP D (keepF X (nextF X K.2.2) (mOpN D) D.2.2.1 12)) (va_up (mOpds D) D.2.2.1 0))).2.2 0).2.2.2 = true ∧ (flsL X D.2.2.1 (X.1 + 1) (nextF X (orF X D.2.2.1 (nextF X (nextF X K.2.2).2.2) (mdA (mdP D (keepF X (nextF X K.2.2) (mOpN D) D.2.2.1 12)) (va_up (mOpds D) D.2.2.1 0))).2.1.2.2) (orF X D.2.2.1 (nextF X (nextF X K.2.2).2.2) (mdA (mdP D (keepF X (nextF X K.2.2) (mOpN D) D.2.2.1 12)) (va_up (mOpds D) D.2.2.1 0))).2.2 0).2.2.2 = (flsL X D.2.2.1 (X.1 + 1) (nextF X (orF X D.2.2.1 (nextF X (nextF X K.2.2).2.2) (mdA (mdP D (keepF X (nextF X K.2.2) (mOpN D) D.2.2.1 12)) (va_up (mOpds D) D.2.2.1 0))).2.1.2.2) (orF X D.2.2.1 (nextF X (nextF X K.2.2).2.2) (mdA (mdP D (keepF X (nextF X K.2.2) (mOpN D) D.2.2.1 12)) (va_up (mOpds D) D.2.2.1 0))).2.2 0).2.2.1.1) := by
              intro z
              have z2 := bI_f h106
              rw [show allF (iwF Z5 D.2.2.1) (Z5.1 D.2.2.1).1 0 = true from hwh.trans z.1, decide_eq_true (by rw [hln, z.2]; exact hB5.1.symm)] at z2
              cases z2
            refine E_aload_n (pc := 109) C dX1_readOp_109 rfl rfl ?_
            refine E_get (pc := 110) C dX1_readOp_110 f_X1_20 rfl rfl ?_
            refine E_aload_n (pc := 113) C dX1_readOp_113 rfl rfl ?_
            refine E_get (pc := 114) C dX1_readOp_114 f_X1_20 rfl rfl ?_
            refine E_get (pc := 117) C dX1_readOp_117 f_X1_54 rfl rfl ?_
            try dsimp only [tt]
            exact E_callVx (pc := 120) C hT9 dX1_readOp_120 m_X1_57 (x_refuse l G A S _ _ _ _ P _ V L T _ hst) ⟨jle rfl, jle rfl⟩ rfl rfl rfl rfl rfl (jle rfl) ⟨jle rfl, jle rfl⟩ (jle rfl) (jle rfl) (dP.x (r6.trans (op9_w hn5W hnw)) hg5)
      · exact E_callVx (pc := 87) C hT9 dX1_readOp_87 m_X1_60 (x_take_x l G A S _ _ _ P _ V L T _ hst hx hk3 (by decide) (fun z => q87 ((kcl_sg hn3 hok (by decide) (by decide)).mp z))) ⟨jle rfl, jle rfl⟩ rfl rfl rfl rfl rfl (jle rfl) ⟨jle rfl, jle rfl⟩ (jle rfl) (jle rfl) (dP.x (r4.trans (if_neg q87)) hg3)
    · exact E_callVx (pc := 59) C hT9 dX1_readOp_59 m_X1_73 (x_tnn_o_x l G A S _ _ _ P _ V L T _ _ _ hst hx hk1 hA8 hg.2.1 hdR.2.2.2.1 (by decide) q59) ⟨jle rfl, jle rfl⟩ rfl rfl rfl rfl rfl (jle rfl) ⟨jle rfl, jle rfl⟩ (jle rfl) (jle rfl) (dP.x (r1.trans (if_neg (fun z => q59 ⟨z.1, (nm_len hn1 z.1).1, z.2⟩))) hg)
  · refine E_aload_n (pc := 17) C dX1_readOp_17 rfl rfl ?_
    refine E_get (pc := 18) C dX1_readOp_18 f_X1_20 rfl rfl ?_
    refine E_aload_n (pc := 21) C dX1_readOp_21 rfl rfl ?_
    refine E_get (pc := 22) C dX1_readOp_22 f_X1_20 rfl rfl ?_
    refine E_get (pc := 25) C dX1_readOp_25 f_X1_54 rfl rfl ?_
    try dsimp only [tt]
    exact E_callVx (pc := 28) C hT9 dX1_readOp_28 m_X1_57 (x_refuse l G A S _ _ _ _ P _ V L T _ hst) ⟨jle rfl, jle rfl⟩ rfl rfl rfl rfl rfl (jle rfl) ⟨jle rfl, jle rfl⟩ (jle rfl) (jle rfl) (dP.x (if_pos (by omega)) hg)
set_option maxHeartbeats 4000000 in
set_option maxRecDepth 100000 in
theorem l_readDesc (l : Launch) (G : jG) {p : Program} {e : Env} {s : State} {m : MethodId} {args : Array Value} {below : List Frame} {meth : Method} {c : Code} {X : Nat × (Nat → Nat)} {ix : Nat} {K : Nat × Nat × Nat} {D : mD} {nz : Nat} (A : xA) (S : xS) (P : xC) (V : xV) (L : xL) (T : jMem) (B : xB) (Z : xZ) (Q : xN) (tn f9 : Nat) (C : jX0 p l (jR 11 198 1 6) s m args meth c G cX1_readDescription 2 RX1 none) (hT9 : ∀ x ∈ c.exceptionTable.toList, False) (hst : l.stackTraces = false) (hT2 : T.2 = some nz) (hx : xcx X A S) (hA8 : ∀ k, A.2.1 k < 256) (hk : xtk X S ix K) (hg : gB B Q) (hz9 : s.heap.size = G.1 + nz) (hdR : dR D B Z D.2.2.1) (hdG : dG D) (hf9 : X.1 + 1 ≤ K.2.1 + f9) (htn : tn ≤ K.2.1) : Jp p l e (jR 11 198 1 6) s m args below meth c G 2 1 6 (dP X A S P V L T (fun D B Z _ => dR D B Z D.2.2.1) (dsL X f9 K D)) 28 [some (.ref 863), some (.int (nI tn))] [] (encX A S (tt X ix K) (-1) B Z P Q V L T) 0 0 := by
  have hX1 := hx.1
  have hX2 := hx.2.1
  have hoc := hx.2.2.1
  have hS := hx.2.2.2.1
  have hok := hx.2.2.2.2
  induction f9 generalizing tn K D ix B Z Q with
  | zero =>
    exfalso
    have := hk.n.g.1.1
    have := hk.n.g.1.2.1
    omega
  | succ f9 ih =>
    have hn := hk.n
    have hg1 := hn.g.1
    have hg2 := hg1.1
    have hg3 := hg1.2.1
    have hkl := kcl_lt hX2 (K := K)
    have hto := tk_one hn
    refine E_iload_n (pc := 28) C dX1_readDescription_28 rfl rfl ?_
    refine E_sipush (pc := 29) (v := nI 4000) C dX1_readDescription_29 (by decide) ?_
    refine E_icmp_geN (pc := 32) (tgt := 108) C dX1_readDescription_32 (by decide) (by omega) (by omega) (fun h32 => ?_) (fun h32 => ?_)
    · exact E_vret (pc := 108) C dX1_readDescription_108 rfl (dP.t (if_pos (by first | exact (kcl_0 hn hok).mp h45 | (refine Classical.byContradiction (fun z => ?_); have := hto.2.2.2.2.2.2 z; omega))) hk hg hdR) (Nat.zero_le _) (Nat.zero_le _)
    · refine E_aload_n (pc := 35) C dX1_readDescription_35 rfl rfl ?_
      refine E_get (pc := 36) C dX1_readDescription_36 f_X1_20 rfl rfl ?_
      refine E_get (pc := 39) C dX1_readDescription_39 f_X1_43 rfl rfl ?_
      try dsimp only [tt]
      refine E_sipush (pc := 42) (v := nI 128) C dX1_readDescription_42 (by decide) ?_
      refine E_icmp_eqN (pc := 45) (tgt := 108) C dX1_readDescription_45 (by decide) (by omega) (by omega) (fun h45 => ?_) (fun h45 => ?_)
      · exact E_vret (pc := 108) C dX1_readDescription_108 rfl (dP.t (if_pos (by first | exact (kcl_0 hn hok).mp h45 | (refine Classical.byContradiction (fun z => ?_); have := hto.2.2.2.2.2.2 z; omega))) hk hg hdR) (Nat.zero_le _) (Nat.zero_le _)
      · have h0 : K.1 ≠ 0 := fun z => h45 ((kcl_0 hn hok).mpr z)
        have hlx := hto.2.2.2.2.2.2 h0
        refine E_aload_n (pc := 48) C dX1_readDescription_48 rfl rfl ?_
        refine E_get (pc := 49) C dX1_readDescription_49 f_X1_20 rfl rfl ?_
        refine E_get (pc := 52) C dX1_readDescription_52 f_X1_43 rfl rfl ?_
        try dsimp only [tt]
        refine E_sipush (pc := 55) (v := nI 133) C dX1_readDescription_55 (by decide) ?_
        refine E_icmp_neN (pc := 58) (tgt := 68) C dX1_readDescription_58 (by decide) (by omega) (by omega) (fun h58 => ?_) (fun h58 => ?_)
        · have hn3 : ¬ (K.1 = 1 ∧ isW X K [115, 101, 116] = true) := fun z => h58 ((kcl_w hn hok (by decide) (by decide)).mpr ⟨z.1, kw_133.mpr z.2⟩)
          refine E_aload_n (pc := 68) C dX1_readDescription_68 rfl rfl ?_
          refine E_get (pc := 69) C dX1_readDescription_69 f_X1_20 rfl rfl ?_
          refine E_get (pc := 72) C dX1_readDescription_72 f_X1_43 rfl rfl ?_
          try dsimp only [tt]
          refine E_sipush (pc := 75) (v := nI 134) C dX1_readDescription_75 (by decide) ?_
          refine E_icmp_neN (pc := 78) (tgt := 88) C dX1_readDescription_78 (by decide) (by omega) (by omega) (fun h78 => ?_) (fun h78 => ?_)
          · have hn4 : ¬ (K.1 = 1 ∧ isW X K [111, 112] = true) := fun z => h78 ((kcl_w hn hok (by decide) (by decide)).mpr ⟨z.1, kw_134.mpr z.2⟩)
            refine E_aload_n (pc := 88) C dX1_readDescription_88 rfl rfl ?_
            refine E_get (pc := 89) C dX1_readDescription_89 f_X1_20 rfl rfl ?_
            refine E_aload_n (pc := 92) C dX1_readDescription_92 rfl rfl ?_
            refine E_get (pc := 93) C dX1_readDescription_93 f_X1_20 rfl rfl ?_
            refine E_get (pc := 96) C dX1_readDescription_96 f_X1_54 rfl rfl ?_
            try dsimp only [tt]
            exact E_callVx (pc := 99) C hT9 dX1_readDescription_99 m_X1_57 (x_refuse l G A S _ _ _ _ P _ V L T _ hst) ⟨jle rfl, jle rfl⟩ rfl rfl rfl rfl rfl (jle rfl) ⟨jle rfl, jle rfl⟩ (jle rfl) (jle rfl) (dP.x (((if_neg h0).trans (if_neg hn3)).trans (if_neg hn4)) hg)
          · have hw := (kcl_w hn hok (by decide) (by decide)).mp h78
            have r1 : dsL X (f9 + 1) K D = mB (opF X K D) (dsL X f9) := ((if_neg h0).trans (if_neg hn3)).trans (if_pos ⟨hw.1, kw_134.mp hw.2⟩)
            have hG := opF_G hX2 hn.g hdG rfl
            refine E_aload_n (pc := 81) C dX1_readDescription_81 rfl rfl ?_
            refine E_callVp (pc := 82) C hT9 dX1_readDescription_82 m_X1_51 (x_readOp l G A S P V L T _ _ _ hst hT2 hx hA8 hk hg hdR hdG) ⟨jle rfl, jle rfl⟩ rfl rfl rfl rfl rfl (jle rfl) ⟨jle rfl, jle rfl⟩ (jle rfl) (jle rfl) (fun E9 M9 h9 => dP.thr h9 (fun p hp => by rw [r1]; exact mB_x hp)) (fun v9 M9 h9 => ?_)
            obtain ⟨e0, ev, ix2, B2, Z2, Q2, hk2, hg2, hR2, eM⟩ := dP.ret h9
            subst ev eM
            have r2 := r1.trans (mB_t e0)
            rw [r2]
            have hlt := hG.2 e0 h0
            have hle := hk2.n.g.1.1
            have hle2 := hk2.n.g.1.2.1
            refine E_low hz9 hT2 ?_
            try dsimp only [tt]
            refine E_goto (pc := 85) (tgt := 102) C dX1_readDescription_85 (by decide) ?_
            refine E_iincN (pc := 102) C dX1_readDescription_102 rfl (by decide) rfl ?_
            dsimp only [List.set]
            refine E_goto (pc := 105) (tgt := 28) C dX1_readDescription_105 (by decide) ?_
            exact ih B2 Z2 Q2 (tn + 1) hk2 hg2 hR2 hG.1.2.2.1 (by omega) (by omega)
        · have hw := (kcl_w hn hok (by decide) (by decide)).mp h58
          have r1 : dsL X (f9 + 1) K D = mB (setF X K D) (dsL X f9) := (if_neg h0).trans (if_pos ⟨hw.1, kw_133.mp hw.2⟩)
          have hG := setF_G hX2 hn.g hdG rfl
          refine E_aload_n (pc := 61) C dX1_readDescription_61 rfl rfl ?_
          refine E_callVp (pc := 62) C hT9 dX1_readDescription_62 m_X1_48 (x_readSet l G A S P V L T _ _ _ hst hT2 hx hA8 hk hg hdR) ⟨jle rfl, jle rfl⟩ rfl rfl rfl rfl rfl (jle rfl) ⟨jle rfl, jle rfl⟩ (jle rfl) (jle rfl) (fun E9 M9 h9 => dP.thr h9 (fun p hp => by rw [r1]; exact mB_x hp)) (fun v9 M9 h9 => ?_)
          obtain ⟨e0, ev, ix2, B2, Z2, Q2, hk2, hg2, hR2, eM⟩ := dP.ret h9
          subst ev eM
          have r2 := r1.trans (mB_t e0)
          rw [r2]
          have hlt := hG.2 e0 h0
          have hle := hk2.n.g.1.1
          have hle2 := hk2.n.g.1.2.1
          refine E_low hz9 hT2 ?_
          try dsimp only [tt]
          refine E_goto (pc := 65) (tgt := 102) C dX1_readDescription_65 (by decide) ?_
          refine E_iincN (pc := 102) C dX1_readDescription_102 rfl (by decide) rfl ?_
          dsimp only [List.set]
          refine E_goto (pc := 105) (tgt := 28) C dX1_readDescription_105 (by decide) ?_
          exact ih B2 Z2 Q2 (tn + 1) hk2 hg2 hR2 hG.1.2.2.1 (by omega) (by omega)
set_option maxHeartbeats 4000000 in
set_option maxRecDepth 100000 in
theorem x_readDescription (l : Launch) (G : jG) {X : Nat × (Nat → Nat)} {ix : Nat} {K : Nat × Nat × Nat} {D : mD} {nz : Nat} (A : xA) (S : xS) (P : xC) (V : xV) (L : xL) (T : jMem) (B : xB) (Z : xZ) (Q : xN) (hst : l.stackTraces = false) (hT2 : T.2 = some nz) (hx : xcx X A S) (hA8 : ∀ k, A.2.1 k < 256) (hk : xtk X S ix K) (hg : gB B Q) (h0 : D.2.1 = 0 ∧ D.2.2.1 = 0) (hdG : dG D) : jCp l G yX1_readDescription cX1_readDescription 2 none 11 198 1 6 [.ref 863] (encX A S (tt X ix K) (-1) B Z P Q V L T) (dP X A S P V L T (fun D B Z _ => dR D B Z D.2.2.1) (dsF X K D)) := by
  refine jCp.of (by decide) 1 rfl [some (.ref 863), none] rfl (fun p e s m args below meth c C hT9 hz9 => ?_)
  have hz9 := hz9 _ hT2
  have hX1 := hx.1
  have hX2 := hx.2.1
  have hoc := hx.2.2.1
  have hS := hx.2.2.2.1
  have hok := hx.2.2.2.2
  have hn := hk.n
  have hg1 := hn.g.1
  have hg2 := hg1.1
  have hg3 := hg1.2.1
  have hkl := kcl_lt hX2 (K := K)
  have hg0 : gB (B.1, B.2.1, (0, B.2.2.1.2.1, B.2.2.1.2.2), B.2.2.2.1, (0, B.2.2.2.2.2.1, B.2.2.2.2.2.2)) Q := ⟨nB_0 hg.1, nB_0 hg.2.1, hg.2.2⟩
  rw [dsF_rw]
  refine E_aload_n (pc := 0) C dX1_readDescription_0 rfl rfl ?_
  refine E_get (pc := 1) C dX1_readDescription_1 f_X1_24 rfl rfl ?_
  refine E_get (pc := 4) C dX1_readDescription_4 f_X1_28 rfl rfl ?_
  refine E_iconst (pc := 7) (v := nI 0) C dX1_readDescription_7 (by decide) ?_
  refine E_putU (pc := 8) C dX1_readDescription_8 p_X1_33 rfl (jlt rfl) rfl rfl (uX_snsize _) ?_
  try dsimp only [tt]
  refine E_aload_n (pc := 11) C dX1_readDescription_11 rfl rfl ?_
  refine E_get (pc := 12) C dX1_readDescription_12 f_X1_24 rfl rfl ?_
  refine E_get (pc := 15) C dX1_readDescription_15 f_X1_37 rfl rfl ?_
  refine E_iconst (pc := 18) (v := nI 0) C dX1_readDescription_18 (by decide) ?_
  refine E_putU (pc := 19) C dX1_readDescription_19 p_X1_33 rfl (jlt rfl) rfl rfl (uX_onsize _) ?_
  try dsimp only [tt]
  refine E_aload_n (pc := 22) C dX1_readDescription_22 rfl rfl ?_
  refine E_callVp (pc := 23) C hT9 dX1_readDescription_23 m_X1_40 (x_readWidth l G A S P V L T _ _ _ hst hT2 hx hA8 hk hg0 ⟨h0.1, h0.2, rfl, rfl⟩) ⟨jle rfl, jle rfl⟩ rfl rfl rfl rfl rfl (jle rfl) ⟨jle rfl, jle rfl⟩ (jle rfl) (jle rfl) (fun E9 M9 h9 => dP.thr h9 (fun p hp => mB_x hp)) (fun v9 M9 h9 => ?_)
  obtain ⟨e0, ev, ix2, B2, Z2, Q2, hk2, hg2, hR2, eM⟩ := dP.ret h9
  subst ev eM
  rw [mB_t e0]
  have hle := hk2.n.g.1.1
  have hle2 := hk2.n.g.1.2.1
  have hdG2 := rwF_G hX2 hdG e0
  refine E_low hz9 hT2 ?_
  try dsimp only [tt]
  refine E_iconst (pc := 26) (v := nI 0) C dX1_readDescription_26 (by decide) ?_
  refine E_istore_n (pc := 27) C dX1_readDescription_27 rfl (by decide) rfl ?_
  dsimp only [List.set]
  exact l_readDesc l G A S P V L T B2 Z2 Q2 0 (X.1 + 1) C hT9 hst hT2 hx hA8 hk2 hg2 hz9 (by rw [hR2.2.2]; exact hR2.1) hdG2 (by omega) (Nat.zero_le _)
