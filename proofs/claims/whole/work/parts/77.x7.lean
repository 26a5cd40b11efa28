set_option maxHeartbeats 4000000 in
set_option maxRecDepth 100000 in
theorem x_readSet (l : Launch) (G : jG) {X : Nat × (Nat → Nat)} {ix : Nat} {K : Nat × Nat × Nat} {D : mD} {nz : Nat} (A : xA) (S : xS) (P : xC) (V : xV) (L : xL) (T : jMem) (B : xB) (Z : xZ) (Q : xN) (hst : l.stackTraces = false) (hT2 : T.2 = some nz) (hx : xcx X A S) (hA8 : ∀ k, A.2.1 k < 256) (hk : xtk X S ix K) (hg : gB B Q) (hdR : dR D B Z D.2.2.1) : jCp l G yX1_readSet cX1_readSet 2 none 8 126 1 6 [.ref 863] (encX A S (tt X ix K) (-1) B Z P Q V L T) (dP X A S P V L T (fun D B Z _ => dR D B Z D.2.2.1) (setF X K D)) := by
  refine jCp.of (by decide) 1 rfl [some (.ref 863), none] rfl (fun p e s m args below meth c C hT9 hz9 => ?_)
  have hz9 := hz9 _ hT2
  have hX1 := hx.1
  have hX2 := hx.2.1
  have hoc := hx.2.2.1
  have hS := hx.2.2.2.1
  have hok := hx.2.2.2.2
  have hn := hk.n
  have hg1 := hn.g.1
  have hg2 := hg1.1
  have hg3 := hg1.2.1
  have hkl := kcl_lt hX2 (K := K)
  have hs0 : B.2.2.1.1 = D.2.1 := hdR.2.1.1
  have hs1 := hg.1.1
  refine E_aload_n (pc := 0) C dX1_readSet_0 rfl rfl ?_
  refine E_get (pc := 1) C dX1_readSet_1 f_X1_24 rfl rfl ?_
  refine E_get (pc := 4) C dX1_readSet_4 f_X1_28 rfl rfl ?_
  refine E_get (pc := 7) C dX1_readSet_7 f_X1_33 rfl rfl ?_
  try dsimp only [tt]
  refine E_istore_n (pc := 10) C dX1_readSet_10 rfl (by decide) rfl ?_
  dsimp only [List.set]
  refine E_iload_n (pc := 11) C dX1_readSet_11 rfl rfl ?_
  refine E_bipush (pc := 12) (v := nI 12) C dX1_readSet_12 (by decide) ?_
  refine E_icmp_ltN (pc := 14) (tgt := 31) C dX1_readSet_14 (by decide) (by omega) (by omega) (fun h14 => ?_) (fun h14 => ?_)
  · have hlt : B.2.2.1.1 < 12 := h14
    have r1 : setF X K D = set1 X (nextF X K.2.2) D := if_neg (by omega)
    have hk1 := hk.adv hS
    have hn1 := hk1.n
    have hg11 := hn1.g.1
    have hg21 := hg11.1
    have hg31 := hg11.2.1
    have hkl1 := kcl_lt hX2 (K := (nextF X K.2.2))
    refine E_aload_n (pc := 31) C dX1_readSet_31 rfl rfl ?_
    refine E_get (pc := 32) C dX1_readSet_32 f_X1_20 rfl rfl ?_
    refine E_callV0 (pc := 35) C dX1_readSet_35 m_X1_70 (x_advance l G A S _ _ _ P _ V L T hx hk) ⟨jle rfl, jle rfl⟩ rfl rfl rfl rfl rfl (jle rfl) ⟨Nat.zero_le _, Nat.zero_le _⟩ ?_
    try dsimp only [tt]
    refine E_aload_n (pc := 38) C dX1_readSet_38 rfl rfl ?_
    refine E_get (pc := 39) C dX1_readSet_39 f_X1_20 rfl rfl ?_
    refine E_aload_n (pc := 42) C dX1_readSet_42 rfl rfl ?_
    refine E_get (pc := 43) C dX1_readSet_43 f_X1_24 rfl rfl ?_
    refine E_get (pc := 46) C dX1_readSet_46 f_X1_28 rfl rfl ?_
    refine E_bipush (pc := 49) (v := nI 10) C dX1_readSet_49 (by decide) ?_
    by_cases q51 : isNameF X (nextF X K.2.2) = true ∧ (nextF X K.2.2).2.2 - (nextF X K.2.2).2.1 ≤ 10 ∧ findF X (nextF X K.2.2) (mSetN D) D.2.1 0 = 1000
    · refine E_callV0 (pc := 51) C dX1_readSet_51 m_X1_73 (x_tnn_s l G A S _ _ _ P _ V L T _ _ _ hx hk1 hA8 hg.1 hdR.2.1 (by decide) (by omega) q51) ⟨jle rfl, jle rfl⟩ rfl rfl rfl rfl rfl (jle rfl) ⟨Nat.zero_le _, Nat.zero_le _⟩ ?_
      try dsimp only [tt]
      have hk2 := hk1.adv hS
      have hn2 := hk2.n
      have hg12 := hn2.g.1
      have hg22 := hg12.1
      have hg32 := hg12.2.1
      have hkl2 := kcl_lt hX2 (K := (nextF X (nextF X K.2.2).2.2))
      have r2 := r1.trans (if_pos q51)
      have hgs := hg.set (oc := A.2.1) (f := (nextF X K.2.2).2.1) (e := (nextF X K.2.2).2.2) (g := B.2.2.2.1) (by omega) (by omega) hA8
      refine E_aload_n (pc := 54) C dX1_readSet_54 rfl rfl ?_
      refine E_get (pc := 55) C dX1_readSet_55 f_X1_24 rfl rfl ?_
      refine E_get (pc := 58) C dX1_readSet_58 f_X1_77 rfl rfl ?_
      refine E_iload_n (pc := 61) C dX1_readSet_61 rfl rfl ?_
      refine E_aload_n (pc := 62) C dX1_readSet_62 rfl rfl ?_
      refine E_get (pc := 63) C dX1_readSet_63 f_X1_20 rfl rfl ?_
      refine E_iconst (pc := 66) (v := nI 1) C dX1_readSet_66 (by decide) ?_
      refine E_bipush (pc := 67) (v := nI 6) C dX1_readSet_67 (by decide) ?_
      by_cases q69 : (nextF X (nextF X K.2.2).2.2).1 = 2 ∧ (nextF X (nextF X K.2.2).2.2).2.2 - (nextF X (nextF X K.2.2).2.2).2.1 ≤ 4 ∧ 1 ≤ decF X (nextF X (nextF X K.2.2).2.2).2.2 (nextF X (nextF X K.2.2).2.2).2.1 0 ∧ decF X (nextF X (nextF X K.2.2).2.2).2.2 (nextF X (nextF X K.2.2).2.2).2.1 0 ≤ 6
      · refine E_callV1 (pc := 69) C dX1_readSet_69 m_X1_63 (x_count l G A S _ _ _ P _ V L T _ _ hx hk2 (by omega) (by omega) q69) ⟨jle rfl, jle rfl⟩ rfl rfl rfl rfl rfl (jle rfl) ⟨Nat.zero_le _, Nat.zero_le _⟩ ?_
        try dsimp only [tt]
        have hk3 := hk2.adv hS
        have hn3 := hk3.n
        have hg13 := hn3.g.1
        have hg23 := hg13.1
        have hg33 := hg13.2.1
        have hkl3 := kcl_lt hX2 (K := (nextF X (nextF X (nextF X K.2.2).2.2).2.2))
        have r3 := r2.trans ((if_pos ⟨q69.1, q69.2.1⟩).trans (if_pos ⟨q69.2.2.1, q69.2.2.2⟩))
        refine E_iastN (pc := 72) C dX1_readSet_72 rfl (by omega) (by decide) (uX_setSizes _) ?_
        refine E_aload_n (pc := 73) C dX1_readSet_73 rfl rfl ?_
        refine E_get (pc := 74) C dX1_readSet_74 f_X1_20 rfl rfl ?_
        refine E_bipush (pc := 77) (v := nI 59) C dX1_readSet_77 (by decide) ?_
        by_cases q79 : isSignF X (nextF X (nextF X (nextF X K.2.2).2.2).2.2) 59 = true
        · refine E_callV0 (pc := 79) C dX1_readSet_79 m_X1_60 (x_take l G A S _ _ _ P _ V L T _ hx hk3 ((kcl_sg hn3 hok (by decide) (by decide)).mpr q79)) ⟨jle rfl, jle rfl⟩ rfl rfl rfl rfl rfl (jle rfl) ⟨Nat.zero_le _, Nat.zero_le _⟩ ?_
          try dsimp only [tt]
          have r4 := r3.trans (if_pos q79)
          exact E_vret (pc := 82) C dX1_readSet_82 rfl (dP.t r4 (hk3.adv hS) hgs (hdR.set hn1 hoc q51.1 q51.2.1 ⟨q69.2.2.1, q69.2.2.2⟩)) (Nat.zero_le _) (Nat.zero_le _)
        · exact E_callVx (pc := 79) C hT9 dX1_readSet_79 m_X1_60 (x_take_x l G A S _ _ _ P _ V L T _ hst hx hk3 (by decide) (fun z => q79 ((kcl_sg hn3 hok (by decide) (by decide)).mp z))) ⟨jle rfl, jle rfl⟩ rfl rfl rfl rfl rfl (jle rfl) ⟨jle rfl, jle rfl⟩ (jle rfl) (jle rfl) (dP.x (r3.trans (if_neg q79)) hgs)
      · exact E_callVx (pc := 69) C hT9 dX1_readSet_69 m_X1_63 (x_count_x l G A S _ _ _ P _ V L T _ _ hst hx hk2 (by omega) (by omega) q69) ⟨jle rfl, jle rfl⟩ rfl rfl rfl rfl rfl (jle rfl) ⟨jle rfl, jle rfl⟩ (jle rfl) (jle rfl) (dP.x (r2.trans (set2_x q69)) hgs)
    · exact E_callVx (pc := 51) C hT9 dX1_readSet_51 m_X1_73 (x_tnn_s_x l G A S _ _ _ P _ V L T _ _ _ hst hx hk1 hA8 hg.1 hdR.2.1 (by decide) q51) ⟨jle rfl, jle rfl⟩ rfl rfl rfl rfl rfl (jle rfl) ⟨jle rfl, jle rfl⟩ (jle rfl) (jle rfl) (dP.x (r1.trans (if_neg q51)) hg)
  · refine E_aload_n (pc := 17) C dX1_readSet_17 rfl rfl ?_
    refine E_get (pc := 18) C dX1_readSet_18 f_X1_20 rfl rfl ?_
    refine E_aload_n (pc := 21) C dX1_readSet_21 rfl rfl ?_
    refine E_get (pc := 22) C dX1_readSet_22 f_X1_20 rfl rfl ?_
    refine E_get (pc := 25) C dX1_readSet_25 f_X1_54 rfl rfl ?_
    try dsimp only [tt]
    exact E_callVx (pc := 28) C hT9 dX1_readSet_28 m_X1_57 (x_refuse l G A S _ _ _ _ P _ V L T _ hst) ⟨jle rfl, jle rfl⟩ rfl rfl rfl rfl rfl (jle rfl) ⟨jle rfl, jle rfl⟩ (jle rfl) (jle rfl) (dP.x (if_pos (by omega)) hg)
set_option maxHeartbeats 4000000 in
set_option maxRecDepth 100000 in
theorem x_readWidth (l : Launch) (G : jG) {X : Nat × (Nat → Nat)} {ix : Nat} {K : Nat × Nat × Nat} {D : mD} {nz : Nat} (A : xA) (S : xS) (P : xC) (V : xV) (L : xL) (T : jMem) (B : xB) (Z : xZ) (Q : xN) (hst : l.stackTraces = false) (hT2 : T.2 = some nz) (hx : xcx X A S) (hA8 : ∀ k, A.2.1 k < 256) (hk : xtk X S ix K) (hg : gB B Q) (h0 : D.2.1 = 0 ∧ D.2.2.1 = 0 ∧ B.2.2.1.1 = 0 ∧ B.2.2.2.2.1 = 0) : jCp l G yX1_readWidth cX1_readWidth 3 none 8 126 1 6 [.ref 863] (encX A S (tt X ix K) (-1) B Z P Q V L T) (dP X A S P V L T (fun D B Z _ => dR D B Z 0 ∧ D.2.1 = 0 ∧ D.2.2.1 = 0) (rwF X K D)) := by
  refine jCp.of (by decide) 2 rfl [some (.ref 863), none, none] rfl (fun p e s m args below meth c C hT9 hz9 => ?_)
  have hz9 := hz9 _ hT2
  have hX1 := hx.1
  have hX2 := hx.2.1
  have hoc := hx.2.2.1
  have hS := hx.2.2.2.1
  have hok := hx.2.2.2.2
  have hn := hk.n
  have hg1 := hn.g.1
  have hg2 := hg1.1
  have hg3 := hg1.2.1
  have hkl := kcl_lt hX2 (K := K)
  refine E_aload_n (pc := 0) C dX1_readWidth_0 rfl rfl ?_
  refine E_get (pc := 1) C dX1_readWidth_1 f_X1_20 rfl rfl ?_
  refine E_sipush (pc := 4) (v := nI 132) C dX1_readWidth_4 (by decide) ?_
  by_cases q7 : isW X K [119, 105, 100, 116, 104] = true ∧ K.1 = 1
  · refine E_callV0 (pc := 7) C dX1_readWidth_7 m_X1_60 (x_take l G A S _ _ _ P _ V L T _ hx hk ((kcl_w hn hok (by decide) (by decide)).mpr ⟨q7.2, kw_132.mpr q7.1⟩)) ⟨jle rfl, jle rfl⟩ rfl rfl rfl rfl rfl (jle rfl) ⟨Nat.zero_le _, Nat.zero_le _⟩ ?_
    try dsimp only [tt]
    have r1 : rwF X K D = rw2 X (nextF X K.2.2) D := if_pos q7
    have hk1 := hk.adv hS
    have hn1 := hk1.n
    have hg11 := hn1.g.1
    have hg21 := hg11.1
    have hg31 := hg11.2.1
    have hkl1 := kcl_lt hX2 (K := (nextF X K.2.2))
    refine E_aload_n (pc := 10) C dX1_readWidth_10 rfl rfl ?_
    refine E_get (pc := 11) C dX1_readWidth_11 f_X1_20 rfl rfl ?_
    refine E_get (pc := 14) C dX1_readWidth_14 f_X1_54 rfl rfl ?_
    try dsimp only [tt]
    refine E_istore_n (pc := 17) C dX1_readWidth_17 rfl (by decide) rfl ?_
    dsimp only [List.set]
    refine E_aload_n (pc := 18) C dX1_readWidth_18 rfl rfl ?_
    refine E_get (pc := 19) C dX1_readWidth_19 f_X1_20 rfl rfl ?_
    refine E_bipush (pc := 22) (v := nI 8) C dX1_readWidth_22 (by decide) ?_
    refine E_bipush (pc := 24) (v := nI 32) C dX1_readWidth_24 (by decide) ?_
    by_cases q26 : (nextF X K.2.2).1 = 2 ∧ (nextF X K.2.2).2.2 - (nextF X K.2.2).2.1 ≤ 4 ∧ 8 ≤ decF X (nextF X K.2.2).2.2 (nextF X K.2.2).2.1 0 ∧ decF X (nextF X K.2.2).2.2 (nextF X K.2.2).2.1 0 ≤ 32
    · refine E_callV1 (pc := 26) C dX1_readWidth_26 m_X1_63 (x_count l G A S _ _ _ P _ V L T _ _ hx hk1 (by omega) (by omega) q26) ⟨jle rfl, jle rfl⟩ rfl rfl rfl rfl rfl (jle rfl) ⟨Nat.zero_le _, Nat.zero_le _⟩ ?_
      try dsimp only [tt]
      have hk2 := hk1.adv hS
      have hn2 := hk2.n
      have hg12 := hn2.g.1
      have hg22 := hg12.1
      have hg32 := hg12.2.1
      have hkl2 := kcl_lt hX2 (K := (nextF X (nextF X K.2.2).2.2))
      have hd9 := q26.2.2.1
      have hd8 := q26.2.2.2
      refine E_istore_n (pc := 29) C dX1_readWidth_29 rfl (by decide) rfl ?_
      dsimp only [List.set]
      refine E_iload_n (pc := 30) C dX1_readWidth_30 rfl rfl ?_
      refine E_bipush (pc := 31) (v := nI 8) C dX1_readWidth_31 (by decide) ?_
      refine E_iremN (pc := 33) C dX1_readWidth_33 (by omega) (by omega) (by omega) ?_
      refine E_if_eqN (pc := 34) (tgt := 45) C dX1_readWidth_34 (by decide) (by omega) (fun h34 => ?_) (fun h34 => ?_)
      · have r2 := r1.trans (rw2_t q26 h34)
        have hgw : gB (decF X (nextF X K.2.2).2.2 (nextF X K.2.2).2.1 0, B.2.1, B.2.2.1, B.2.2.2.1, B.2.2.2.2) Q := hg
        refine E_aload_n (pc := 45) C dX1_readWidth_45 rfl rfl ?_
        refine E_get (pc := 46) C dX1_readWidth_46 f_X1_24 rfl rfl ?_
        refine E_iload_n (pc := 49) C dX1_readWidth_49 rfl rfl ?_
        refine E_putU (pc := 50) C dX1_readWidth_50 p_X1_67 rfl (jlt rfl) rfl rfl (uX_width _) ?_
        try dsimp only [tt]
        refine E_aload_n (pc := 53) C dX1_readWidth_53 rfl rfl ?_
        refine E_get (pc := 54) C dX1_readWidth_54 f_X1_20 rfl rfl ?_
        refine E_bipush (pc := 57) (v := nI 59) C dX1_readWidth_57 (by decide) ?_
        by_cases q59 : isSignF X (nextF X (nextF X K.2.2).2.2) 59 = true
        · refine E_callV0 (pc := 59) C dX1_readWidth_59 m_X1_60 (x_take l G A S _ _ _ P _ V L T _ hx hk2 ((kcl_sg hn2 hok (by decide) (by decide)).mpr q59)) ⟨jle rfl, jle rfl⟩ rfl rfl rfl rfl rfl (jle rfl) ⟨Nat.zero_le _, Nat.zero_le _⟩ ?_
          try dsimp only [tt]
          have r3 := r2.trans (if_pos q59)
          exact E_vret (pc := 62) C dX1_readWidth_62 rfl (dP.t r3 (hk2.adv hS) hgw ⟨⟨⟨rfl, hd8, hd9, h34, fun s hs => by have : s < D.2.1 := hs; omega⟩, ⟨h0.2.2.1.trans h0.1.symm, fun i hi => by have : i < D.2.1 := hi; omega⟩, fun s hs => by have : s < D.2.1 := hs; omega, ⟨h0.2.2.2, fun i hi => by omega⟩, fun o ho => by have : o < D.2.2.1 := ho; omega⟩, h0.1, h0.2.1⟩) (Nat.zero_le _) (Nat.zero_le _)
        · exact E_callVx (pc := 59) C hT9 dX1_readWidth_59 m_X1_60 (x_take_x l G A S _ _ _ P _ V L T _ hst hx hk2 (by decide) (fun z => q59 ((kcl_sg hn2 hok (by decide) (by decide)).mp z))) ⟨jle rfl, jle rfl⟩ rfl rfl rfl rfl rfl (jle rfl) ⟨jle rfl, jle rfl⟩ (jle rfl) (jle rfl) (dP.x (r2.trans (if_neg q59)) hgw)
      · refine E_aload_n (pc := 37) C dX1_readWidth_37 rfl rfl ?_
        refine E_get (pc := 38) C dX1_readWidth_38 f_X1_20 rfl rfl ?_
        refine E_iload_n (pc := 41) C dX1_readWidth_41 rfl rfl ?_
        exact E_callVx (pc := 42) C hT9 dX1_readWidth_42 m_X1_57 (x_refuse l G A S _ _ _ _ P _ V L T _ hst) ⟨jle rfl, jle rfl⟩ rfl rfl rfl rfl rfl (jle rfl) ⟨jle rfl, jle rfl⟩ (jle rfl) (jle rfl) (dP.x (r1.trans (rw2_x (Or.inr h34))) hg)
    · exact E_callVx (pc := 26) C hT9 dX1_readWidth_26 m_X1_63 (x_count_x l G A S _ _ _ P _ V L T _ _ hst hx hk1 (by omega) (by omega) q26) ⟨jle rfl, jle rfl⟩ rfl rfl rfl rfl rfl (jle rfl) ⟨jle rfl, jle rfl⟩ (jle rfl) (jle rfl) (dP.x (r1.trans (rw2_x (Or.inl q26))) hg)
  · exact E_callVx (pc := 7) C hT9 dX1_readWidth_7 m_X1_60 (x_take_x l G A S _ _ _ P _ V L T _ hst hx hk (by decide) (fun z => q7 ⟨kw_132.mp ((kcl_w hn hok (by decide) (by decide)).mp z).2, ((kcl_w hn hok (by decide) (by decide)).mp z).1⟩)) ⟨jle rfl, jle rfl⟩ rfl rfl rfl rfl rfl (jle rfl) ⟨jle rfl, jle rfl⟩ (jle rfl) (jle rfl) (dP.x (if_neg q7) hg)
set_option maxHeartbeats 4000000 in
set_option maxRecDepth 100000 in
theorem x_readOperand (l : Launch) (G : jG) {X : Nat × (Nat → Nat)} {ix : Nat} {K : Nat × Nat × Nat} {D : mD} {nz : Nat} (A : xA) (S : xS) (P : xC) (V : xV) (L : xL) (T : jMem) (B : xB) (Z : xZ) (Q : xN) (o : Nat) (hst : l.stackTraces = false) (hT2 : T.2 = some nz) (hx : xcx X A S) (hA8 : ∀ k, A.2.1 k < 256) (hk : xtk X S ix K) (hg : gB B Q) (ho : o < 60) (hoS : oS D B Z Q o 0) : jCp l G yX1_readOperand cX1_readOperand 5 none 8 126 1 6 [.ref 863, .ref (17 + 14 * o)] (encX A S (tt X ix K) (-1) B Z P Q V L T) (dP X A S P V L T (fun D B Z Q => oS D B Z Q o 0) (opdF X K D o)) := by
  refine jCp.of (by decide) 3 rfl [some (.ref 863), some (.ref (17 + 14 * o)), none, none, none] rfl (fun p e s m args below meth c C hT9 hz9 => ?_)
  have hz9 := hz9 _ hT2
  have hX1 := hx.1
  have hX2 := hx.2.1
  have hoc := hx.2.2.1
  have hS := hx.2.2.2.1
  have hok := hx.2.2.2.2
  have hn := hk.n
  have hg1 := hn.g.1
  have hg2 := hg1.1
  have hg3 := hg1.2.1
  have hkl := kcl_lt hX2 (K := K)
  have hdR := hoS.2.2.2
  have hB1 := hdR.1.1
  have hB2 := hdR.1.2.1
  have hsz : (Z.1 o).1 = mOpds D o := hoS.2.1.1.1
  have hs6 : mOpds D o ≤ 6 := hoS.2.1.1.2.1
  have hq1 := hoS.2.2.1.1
  have hq2 := hg.2.2.1.1
  refine E_aload_n (pc := 0) C dX1_readOperand_0 rfl rfl ?_
  refine E_get (pc := 1) C dX1_readOperand_1 f_X1_111 (gX_op ho) rfl ?_
  try dsimp only [tt]
  refine E_bipush (pc := 4) (v := nI 6) C dX1_readOperand_4 (by decide) ?_
  refine E_icmp_ltN (pc := 6) (tgt := 23) C dX1_readOperand_6 (by decide) (by omega) (by omega) (fun h6 => ?_) (fun h6 => ?_)
  · refine E_aload_n (pc := 23) C dX1_readOperand_23 rfl rfl ?_
    refine E_get (pc := 24) C dX1_readOperand_24 f_X1_20 rfl rfl ?_
    refine E_aload_n (pc := 27) C dX1_readOperand_27 rfl rfl ?_
    refine E_get (pc := 28) C dX1_readOperand_28 f_X1_14 rfl rfl ?_
    refine E_bipush (pc := 31) (v := nI 12) C dX1_readOperand_31 (by decide) ?_
    by_cases q33 : isNameF X K = true ∧ K.2.2 - K.2.1 ≤ 12 ∧ findF X K (mOpdN D) (mOpds D o) 0 = 1000
    · refine E_callV0 (pc := 33) C dX1_readOperand_33 m_X1_73 (x_tnn_q l G A S _ _ _ P _ V L T _ _ _ hx hk hA8 hg.2.2.1 hoS.2.2.1 (by decide) (by omega) q33) ⟨jle rfl, jle rfl⟩ rfl rfl rfl rfl rfl (jle rfl) ⟨Nat.zero_le _, Nat.zero_le _⟩ ?_
      try dsimp only [tt]
      have hk1 := hk.adv hS
      have hn1 := hk1.n
      have hg11 := hn1.g.1
      have hg21 := hg11.1
      have hg31 := hg11.2.1
      have hkl1 := kcl_lt hX2 (K := (nextF X K.2.2))
      have r1 : opdF X K D o = opd2 X (nextF X K.2.2) (mdO D (keepF X K (mOpdN D) (mOpds D o) 12)) o (6 * o + mOpds D o) := if_pos ⟨q33.1, by omega, q33.2.2⟩
      have hgq := hg.q (oc := A.2.1) (f := K.2.1) (e := K.2.2) (by omega) (by omega) hA8
      have hQ := nR_add hoS.2.2.1 hn hoc q33.1
      refine E_aload_n (pc := 36) C dX1_readOperand_36 rfl rfl ?_
      refine E_get (pc := 37) C dX1_readOperand_37 f_X1_20 rfl rfl ?_
      refine E_bipush (pc := 40) (v := nI 58) C dX1_readOperand_40 (by decide) ?_
      by_cases q42 : isSignF X (nextF X K.2.2) 58 = true
      · refine E_callV0 (pc := 42) C dX1_readOperand_42 m_X1_60 (x_take l G A S _ _ _ P _ V L T _ hx hk1 ((kcl_sg hn1 hok (by decide) (by decide)).mpr q42)) ⟨jle rfl, jle rfl⟩ rfl rfl rfl rfl rfl (jle rfl) ⟨Nat.zero_le _, Nat.zero_le _⟩ ?_
        try dsimp only [tt]
        have hk2 := hk1.adv hS
        have hn2 := hk2.n
        have hg12 := hn2.g.1
        have hg22 := hg12.1
        have hg32 := hg12.2.1
        have hkl2 := kcl_lt hX2 (K := (nextF X (nextF X K.2.2).2.2))
        have r2 := r1.trans (if_pos q42)
        have hso := so_eq (D := mdO D (keepF X K (mOpdN D) (mOpds D o) 12)) hdR.2.1 hn2 hoc
        refine E_aload_n (pc := 45) C dX1_readOperand_45 rfl rfl ?_
        refine E_get (pc := 46) C dX1_readOperand_46 f_X1_112 (gX_op ho) rfl ?_
        refine E_aload_n (pc := 49) C dX1_readOperand_49 rfl rfl ?_
        refine E_get (pc := 50) C dX1_readOperand_50 f_X1_111 (gX_op ho) rfl ?_
        try dsimp only [tt]
        refine E_aaldN (pc := 53) C dX1_readOperand_53 (gX_ops ho) (by decide) (by omega) (by decide) rfl ?_
        refine E_astore_n (pc := 54) C dX1_readOperand_54 rfl (by decide) rfl ?_
        dsimp only [List.set]
        refine E_aload_n (pc := 55) C dX1_readOperand_55 rfl rfl ?_
        refine E_get (pc := 56) C dX1_readOperand_56 f_X1_20 rfl rfl ?_
        refine E_get (pc := 59) C dX1_readOperand_59 f_X1_43 rfl rfl ?_
        try dsimp only [tt]
        refine E_istore_n (pc := 62) C dX1_readOperand_62 rfl (by decide) rfl ?_
        dsimp only [List.set]
        refine E_iload_n (pc := 63) C dX1_readOperand_63 rfl rfl ?_
        refine E_sipush (pc := 64) (v := nI 136) C dX1_readOperand_64 (by decide) ?_
        refine E_icmp_eqN (pc := 67) (tgt := 84) C dX1_readOperand_67 (by decide) (by omega) (by omega) (fun h67 => ?_) (fun h67 => ?_)
        · have hkd : ∃ j, j < 3 ∧ kcl X (nextF X (nextF X K.2.2).2.2) = 136 + j := by first | exact ⟨0, by omega, h67⟩ | exact ⟨1, by omega, h74⟩ | exact ⟨2, by omega, h81⟩
          obtain ⟨j, hj, hkj⟩ := hkd
          have hkd := kd_t hn2 hok hj hkj
          have r3 := r2.trans ((if_pos hkd.1).trans (if_neg (by rw [hkd.2]; omega)))
          have hk3 := hk2.adv hS
          have hn3 := hk3.n
          have hg13 := hn3.g.1
          have hg23 := hg13.1
          have hg33 := hg13.2.1
          have hkl3 := kcl_lt hX2 (K := (nextF X (nextF X (nextF X K.2.2).2.2).2.2))
          refine E_aload_n (pc := 84) C dX1_readOperand_84 rfl rfl ?_
          refine E_get (pc := 85) C dX1_readOperand_85 f_X1_20 rfl rfl ?_
          refine E_callV0 (pc := 88) C dX1_readOperand_88 m_X1_70 (x_advance l G A S _ _ _ P _ V L T hx hk2) ⟨jle rfl, jle rfl⟩ rfl rfl rfl rfl rfl (jle rfl) ⟨Nat.zero_le _, Nat.zero_le _⟩ ?_
          try dsimp only [tt]
          refine E_aload_n (pc := 91) C dX1_readOperand_91 rfl rfl ?_
          refine E_iload_n (pc := 92) C dX1_readOperand_92 rfl rfl ?_
          refine E_aload_n (pc := 93) C dX1_readOperand_93 rfl rfl ?_
          refine E_get (pc := 94) C dX1_readOperand_94 f_X1_20 rfl rfl ?_
          refine E_iconst (pc := 97) (v := nI 1) C dX1_readOperand_97 (by decide) ?_
          refine E_aload_n (pc := 98) C dX1_readOperand_98 rfl rfl ?_
          refine E_get (pc := 99) C dX1_readOperand_99 f_X1_24 rfl rfl ?_
          refine E_get (pc := 102) C dX1_readOperand_102 f_X1_67 rfl rfl ?_
          try dsimp only [tt]
          by_cases q105 : (nextF X (nextF X (nextF X K.2.2).2.2).2.2).1 = 2 ∧ (nextF X (nextF X (nextF X K.2.2).2.2).2.2).2.2 - (nextF X (nextF X (nextF X K.2.2).2.2).2.2).2.1 ≤ 4 ∧ 1 ≤ decF X (nextF X (nextF X (nextF X K.2.2).2.2).2.2).2.2 (nextF X (nextF X (nextF X K.2.2).2.2).2.2).2.1 0 ∧ decF X (nextF X (nextF X (nextF X K.2.2).2.2).2.2).2.2 (nextF X (nextF X (nextF X K.2.2).2.2).2.2).2.1 0 ≤ B.1
          · refine E_callV1 (pc := 105) C dX1_readOperand_105 m_X1_63 (x_count l G A S _ _ _ P _ V L T _ _ hx hk3 (by omega) (by omega) q105) ⟨jle rfl, jle rfl⟩ rfl rfl rfl rfl rfl (jle rfl) ⟨Nat.zero_le _, Nat.zero_le _⟩ ?_
            try dsimp only [tt]
            have hk4 := hk3.adv hS
            have hn4 := hk4.n
            have hg14 := hn4.g.1
            have hg24 := hg14.1
            have hg34 := hg14.2.1
            have hkl4 := kcl_lt hX2 (K := (nextF X (nextF X (nextF X (nextF X K.2.2).2.2).2.2).2.2))
            have r4 := r3.trans ((if_pos ⟨q105.1, q105.2.1⟩).trans (if_pos ⟨q105.2.2.1, Nat.le_trans q105.2.2.2 (Nat.le_of_eq hB1)⟩))
            refine E_iconst (pc := 108) (v := -1) C dX1_readOperand_108 (by decide) ?_
            refine E_callV0 (pc := 109) C dX1_readOperand_109 m_X1_116 (x_pbegin l G A S _ _ B _ P _ V L T o (Z.1 o).1 _ _ _ ho (by omega)) ⟨jle rfl, jle rfl⟩ (gX_opd ho (by omega)) rfl rfl rfl rfl (jle rfl) ⟨Nat.zero_le _, Nat.zero_le _⟩ ?_
            try dsimp only [tt]
            refine E_goto (pc := 112) (tgt := 193) C dX1_readOperand_112 (by decide) ?_
            refine E_aload_n (pc := 193) C dX1_readOperand_193 rfl rfl ?_
            refine E_dup (pc := 194) C dX1_readOperand_194 rfl ?_
            refine E_get (pc := 195) C dX1_readOperand_195 f_X1_111 (gX_op ho) rfl ?_
            try dsimp only [tt]
            refine E_iconst (pc := 198) (v := nI 1) C dX1_readOperand_198 (by decide) ?_
            refine E_iaddN (pc := 199) C dX1_readOperand_199 ?_
            refine E_putU (pc := 200) C dX1_readOperand_200 p_X1_111 (gX_op ho) (jlt rfl) rfl rfl (uX_osize ho _) ?_
            try dsimp only [tt]
            exact E_vret (pc := 203) C dX1_readOperand_203 rfl (dP.t r4 (hk3.adv hS) hgq (by rw [hkj, ← hkd.2]; exact hoS.opd (kd := kdF X (nextF X (nextF X K.2.2).2.2)) (by omega) hQ (by rw [hkd.2]; omega) ⟨q105.2.2.1, by omega⟩ (fun _ _ => rfl) (fun z => by rw [hkd.2] at z; omega))) (Nat.zero_le _) (Nat.zero_le _)
          · exact E_callVx (pc := 105) C hT9 dX1_readOperand_105 m_X1_63 (x_count_x l G A S _ _ _ P _ V L T _ _ hst hx hk3 (by omega) (by omega) q105) ⟨jle rfl, jle rfl⟩ rfl rfl rfl rfl rfl (jle rfl) ⟨jle rfl, jle rfl⟩ (jle rfl) (jle rfl) (by obtain ⟨D9, e9⟩ := opd5_x (D := mdK (mdO D (keepF X K (mOpdN D) (mOpds D o) 12)) (va_up (mKind D) (6 * o + mOpds D o) (kdF X (nextF X (nextF X K.2.2).2.2)))) (o := o) (p := 6 * o + mOpds D o) (fun z => q105 ⟨z.1, z.2.1, z.2.2.1, by rw [hB1]; exact z.2.2.2⟩); exact dP.x (r3.trans e9) hgq)
        · refine E_iload_n (pc := 70) C dX1_readOperand_70 rfl rfl ?_
          refine E_sipush (pc := 71) (v := nI 137) C dX1_readOperand_71 (by decide) ?_
          refine E_icmp_eqN (pc := 74) (tgt := 84) C dX1_readOperand_74 (by decide) (by omega) (by omega) (fun h74 => ?_) (fun h74 => ?_)
          · have hkd : ∃ j, j < 3 ∧ kcl X (nextF X (nextF X K.2.2).2.2) = 136 + j := by first | exact ⟨0, by omega, h67⟩ | exact ⟨1, by omega, h74⟩ | exact ⟨2, by omega, h81⟩
            obtain ⟨j, hj, hkj⟩ := hkd
            have hkd := kd_t hn2 hok hj hkj
            have r3 := r2.trans ((if_pos hkd.1).trans (if_neg (by rw [hkd.2]; omega)))
            have hk3 := hk2.adv hS
            have hn3 := hk3.n
            have hg13 := hn3.g.1
            have hg23 := hg13.1
            have hg33 := hg13.2.1
            have hkl3 := kcl_lt hX2 (K := (nextF X (nextF X (nextF X K.2.2).2.2).2.2))
            refine E_aload_n (pc := 84) C dX1_readOperand_84 rfl rfl ?_
            refine E_get (pc := 85) C dX1_readOperand_85 f_X1_20 rfl rfl ?_
            refine E_callV0 (pc := 88) C dX1_readOperand_88 m_X1_70 (x_advance l G A S _ _ _ P _ V L T hx hk2) ⟨jle rfl, jle rfl⟩ rfl rfl rfl rfl rfl (jle rfl) ⟨Nat.zero_le _, Nat.zero_le _⟩ ?_
            try dsimp only [tt]
            refine E_aload_n (pc := 91) C dX1_readOperand_91 rfl rfl ?_
            refine E_iload_n (pc := 92) C dX1_readOperand_92 rfl rfl ?_
            refine E_aload_n (pc := 93) C dX1_readOperand_93 rfl rfl ?_
            refine E_get (pc := 94) C dX1_readOperand_94 f_X1_20 rfl rfl ?_
            refine E_iconst (pc := 97) (v := nI 1) C dX1_readOperand_97 (by decide) ?_
            refine E_aload_n (pc := 98) C dX1_readOperand_98 rfl rfl ?_
            refine E_get (pc := 99) C dX1_readOperand_99 f_X1_24 rfl rfl ?_
            refine E_get (pc := 102) C dX1_readOperand_102 f_X1_67 rfl rfl ?_
            try dsimp only [tt]
            by_cases q105 : (nextF X (nextF X (nextF X K.2.2).2.2).2.2).1 = 2 ∧ (nextF X (nextF X (nextF X K.2.2).2.2).2.2).2.2 - (nextF X (nextF X (nextF X K.2.2).2.2).2.2).2.1 ≤ 4 ∧ 1 ≤ decF X (nextF X (nextF X (nextF X K.2.2).2.2).2.2).2.2 (nextF X (nextF X (nextF X K.2.2).2.2).2.2).2.1 0 ∧ decF X (nextF X (nextF X (nextF X K.2.2).2.2).2.2).2.2 (nextF X (nextF X (nextF X K.2.2).2.2).2.2).2.1 0 ≤ B.1
            · refine E_callV1 (pc := 105) C dX1_readOperand_105 m_X1_63 (x_count l G A S _ _ _ P _ V L T _ _ hx hk3 (by omega) (by omega) q105) ⟨jle rfl, jle rfl⟩ rfl rfl rfl rfl rfl (jle rfl) ⟨Nat.zero_le _, Nat.zero_le _⟩ ?_
              try dsimp only [tt]
              have hk4 := hk3.adv hS
              have hn4 := hk4.n
              have hg14 := hn4.g.1
              have hg24 := hg14.1
              have hg34 := hg14.2.1
              have hkl4 := kcl_lt hX2 (K := (nextF X (nextF X (nextF X (nextF X K.2.2).2.2).2.2).2.2))
              have r4 := r3.trans ((if_pos ⟨q105.1, q105.2.1⟩).trans (if_pos ⟨q105.2.2.1, Nat.le_trans q105.2.2.2 (Nat.le_of_eq hB1)⟩))
              refine E_iconst (pc := 108) (v := -1) C dX1_readOperand_108 (by decide) ?_
              refine E_callV0 (pc := 109) C dX1_readOperand_109 m_X1_116 (x_pbegin l G A S _ _ B _ P _ V L T o (Z.1 o).1 _ _ _ ho (by omega)) ⟨jle rfl, jle rfl⟩ (gX_opd ho (by omega)) rfl rfl rfl rfl (jle rfl) ⟨Nat.zero_le _, Nat.zero_le _⟩ ?_
              try dsimp only [tt]
              refine E_goto (pc := 112) (tgt := 193) C dX1_readOperand_112 (by decide) ?_
              refine E_aload_n (pc := 193) C dX1_readOperand_193 rfl rfl ?_
              refine E_dup (pc := 194) C dX1_readOperand_194 rfl ?_
              refine E_get (pc := 195) C dX1_readOperand_195 f_X1_111 (gX_op ho) rfl ?_
              try dsimp only [tt]
              refine E_iconst (pc := 198) (v := nI 1) C dX1_readOperand_198 (by decide) ?_
              refine E_iaddN (pc := 199) C dX1_readOperand_199 ?_
              refine E_putU (pc := 200) C dX1_readOperand_200 p_X1_111 (gX_op ho) (jlt rfl) rfl rfl (uX_osize ho _) ?_
              try dsimp only [tt]
              exact E_vret (pc := 203) C dX1_readOperand_203 rfl (dP.t r4 (hk3.adv hS) hgq (by rw [hkj, ← hkd.2]; exact hoS.opd (kd := kdF X (nextF X (nextF X K.2.2).2.2)) (by omega) hQ (by rw [hkd.2]; omega) ⟨q105.2.2.1, by omega⟩ (fun _ _ => rfl) (fun z => by rw [hkd.2] at z; omega))) (Nat.zero_le _) (Nat.zero_le _)
            · exact E_callVx (pc := 105) C hT9 dX1_readOperand_105 m_X1_63 (x_count_x l G A S _ _ _ P _ V L T _ _ hst hx hk3 (by omega) (by omega) q105) ⟨jle rfl, jle rfl⟩ rfl rfl rfl rfl rfl (jle rfl) ⟨jle rfl, jle rfl⟩ (jle rfl) (jle rfl) (by obtain ⟨D9, e9⟩ := opd5_x (D := mdK (mdO D (keepF X K (mOpdN D) (mOpds D o) 12)) (va_up (mKind D) (6 * o + mOpds D o) (kdF X (nextF X (nextF X K.2.2).2.2)))) (o := o) (p := 6 * o + mOpds D o) (fun z => q105 ⟨z.1, z.2.1, z.2.2.1, by rw [hB1]; exact z.2.2.2⟩); exact dP.x (r3.trans e9) hgq)
          · refine E_iload_n (pc := 77) C dX1_readOperand_77 rfl rfl ?_
            refine E_sipush (pc := 78) (v := nI 138) C dX1_readOperand_78 (by decide) ?_
            refine E_icmp_neN (pc := 81) (tgt := 115) C dX1_readOperand_81 (by decide) (by omega) (by omega) (fun h81 => ?_) (fun h81 => ?_)
            · have hkf := kd_f hn2 hok h67 h74 h81
              refine E_aload_n (pc := 115) C dX1_readOperand_115 rfl rfl ?_
              refine E_get (pc := 116) C dX1_readOperand_116 f_X1_24 rfl rfl ?_
              refine E_get (pc := 119) C dX1_readOperand_119 f_X1_28 rfl rfl ?_
              refine E_aload_n (pc := 122) C dX1_readOperand_122 rfl rfl ?_
              refine E_get (pc := 123) C dX1_readOperand_123 f_X1_20 rfl rfl ?_
              refine E_get (pc := 126) C dX1_readOperand_126 f_X1_121 rfl rfl ?_
              refine E_aload_n (pc := 129) C dX1_readOperand_129 rfl rfl ?_
              refine E_get (pc := 130) C dX1_readOperand_130 f_X1_20 rfl rfl ?_
              refine E_get (pc := 133) C dX1_readOperand_133 f_X1_54 rfl rfl ?_
              try dsimp only [tt]
              refine E_aload_n (pc := 136) C dX1_readOperand_136 rfl rfl ?_
              refine E_get (pc := 137) C dX1_readOperand_137 f_X1_20 rfl rfl ?_
              refine E_get (pc := 140) C dX1_readOperand_140 f_X1_124 rfl rfl ?_
              try dsimp only [tt]
              refine E_callV1 (pc := 143) C dX1_readOperand_143 m_X1_127 (x_find l G _ 9 12 144 B.2.2.1 A.2.1 (nextF X (nextF X K.2.2).2.2).2.1 (nextF X (nextF X K.2.2).2.2).2.2 rfl rfl rfl rfl rfl hg.1 hA8 (by omega) (by omega)) ⟨jle rfl, jle rfl⟩ rfl rfl rfl rfl rfl (jle rfl) ⟨Nat.zero_le _, Nat.zero_le _⟩ ?_
              try dsimp only [tt]
              obtain ⟨sx, hsx⟩ : ∃ sx, sx = xfF A.2.1 B.2.2.1 (nextF X (nextF X K.2.2).2.2).2.1 (nextF X (nextF X K.2.2).2.2).2.2 0 := ⟨_, rfl⟩
              rw [← hsx]
              refine E_istore (pc := 146) C dX1_readOperand_146 (by decide) rfl ?_
              dsimp only [List.set]
              refine E_iload (pc := 148) C dX1_readOperand_148 rfl ?_
              refine E_if_ge (pc := 150) (tgt := 167) C dX1_readOperand_150 (by decide) (fun h150 => ?_) (fun h150 => ?_)
              · have hs9 : sx ≠ 1000 := by
                  intro z; rw [z] at h150; exact absurd h150 (by decide)
                have hs8 : lI sx = nI sx := by unfold lI; rw [if_neg hs9]
                rw [hs8]
                have hs7 : sx < D.2.1 := by
                  have z := nR_find hdR.2.1 hn2 hoc 0
                  rw [← hsx] at z
                  have z2 := findF_lt (X := X) (K := (nextF X (nextF X K.2.2).2.2)) (nm := mSetN D) (m := D.2.1) (j := 0)
                  split at z <;> omega
                have hs6 := hdR.2.1.1
                have hs5 := hg.1.1
                have r3 := r2.trans (opd3_r hkf (hsx.trans hso).symm hs9)
                have hk3 := hk2.adv hS
                have hn3 := hk3.n
                have hg13 := hn3.g.1
                have hg23 := hg13.1
                have hg33 := hg13.2.1
                have hkl3 := kcl_lt hX2 (K := (nextF X (nextF X (nextF X K.2.2).2.2).2.2))
                refine E_aload_n (pc := 167) C dX1_readOperand_167 rfl rfl ?_
                refine E_get (pc := 168) C dX1_readOperand_168 f_X1_20 rfl rfl ?_
                refine E_callV0 (pc := 171) C dX1_readOperand_171 m_X1_70 (x_advance l G A S _ _ _ P _ V L T hx hk2) ⟨jle rfl, jle rfl⟩ rfl rfl rfl rfl rfl (jle rfl) ⟨Nat.zero_le _, Nat.zero_le _⟩ ?_
                try dsimp only [tt]
                refine E_aload_n (pc := 174) C dX1_readOperand_174 rfl rfl ?_
                refine E_sipush (pc := 175) (v := nI 139) C dX1_readOperand_175 (by decide) ?_
                refine E_aload_n (pc := 178) C dX1_readOperand_178 rfl rfl ?_
                refine E_get (pc := 179) C dX1_readOperand_179 f_X1_24 rfl rfl ?_
                refine E_get (pc := 182) C dX1_readOperand_182 f_X1_77 rfl rfl ?_
                refine E_iload (pc := 185) C dX1_readOperand_185 rfl ?_
                refine E_ialdN (pc := 187) C dX1_readOperand_187 rfl (by omega) (by decide) ?_
                try dsimp only [tt]
                refine E_iload (pc := 188) C dX1_readOperand_188 rfl ?_
                refine E_callV0 (pc := 190) C dX1_readOperand_190 m_X1_116 (x_pbegin l G A S _ _ B _ P _ V L T o (Z.1 o).1 _ _ _ ho (by omega)) ⟨jle rfl, jle rfl⟩ (gX_opd ho (by omega)) rfl rfl rfl rfl (jle rfl) ⟨Nat.zero_le _, Nat.zero_le _⟩ ?_
                try dsimp only [tt]
                refine E_aload_n (pc := 193) C dX1_readOperand_193 rfl rfl ?_
                refine E_dup (pc := 194) C dX1_readOperand_194 rfl ?_
                refine E_get (pc := 195) C dX1_readOperand_195 f_X1_111 (gX_op ho) rfl ?_
                try dsimp only [tt]
                refine E_iconst (pc := 198) (v := nI 1) C dX1_readOperand_198 (by decide) ?_
                refine E_iaddN (pc := 199) C dX1_readOperand_199 ?_
                refine E_putU (pc := 200) C dX1_readOperand_200 p_X1_111 (gX_op ho) (jlt rfl) rfl rfl (uX_osize ho _) ?_
                try dsimp only [tt]
                exact E_vret (pc := 203) C dX1_readOperand_203 rfl (dP.t r3 hk3 hgq (by rw [(hdR.2.2.1 sx hs7).1]; exact hoS.opd (kd := 3) (sz := mSetB D sx) (by omega) hQ (Nat.le_refl _) ⟨(hdR.2.2.1 sx hs7).2.1, by have := (hdR.2.2.1 sx hs7).2.2; omega⟩ (fun q hq => va_up_ne _ _ hq) (fun _ => ⟨sx, hs7, va_up_self _ _ _, rfl, rfl⟩))) (Nat.zero_le _) (Nat.zero_le _)
              · refine E_aload_n (pc := 153) C dX1_readOperand_153 rfl rfl ?_
                refine E_get (pc := 154) C dX1_readOperand_154 f_X1_20 rfl rfl ?_
                refine E_aload_n (pc := 157) C dX1_readOperand_157 rfl rfl ?_
                refine E_get (pc := 158) C dX1_readOperand_158 f_X1_20 rfl rfl ?_
                refine E_get (pc := 161) C dX1_readOperand_161 f_X1_54 rfl rfl ?_
                try dsimp only [tt]
                exact E_callVx (pc := 164) C hT9 dX1_readOperand_164 m_X1_57 (x_refuse l G A S _ _ _ _ P _ V L T _ hst) ⟨jle rfl, jle rfl⟩ rfl rfl rfl rfl rfl (jle rfl) ⟨jle rfl, jle rfl⟩ (jle rfl) (jle rfl) (by obtain ⟨D9, e9⟩ := opd3_x (o := o) (p := 6 * o + mOpds D o) hkf (by rw [← hso, ← hsx]; exact lI_lt0 (by first | exact Or.inl (by assumption) | (have hs5 := hg.1.1; have := xfF_lt (oc := A.2.1) (N := B.2.2.1) (f := (nextF X (nextF X K.2.2).2.2).2.1) (e := (nextF X (nextF X K.2.2).2.2).2.2) (j := 0); omega)) (Int32.not_le.mp h150)); exact dP.x (r2.trans e9) hgq)
            · have hkd : ∃ j, j < 3 ∧ kcl X (nextF X (nextF X K.2.2).2.2) = 136 + j := by first | exact ⟨0, by omega, h67⟩ | exact ⟨1, by omega, h74⟩ | exact ⟨2, by omega, h81⟩
              obtain ⟨j, hj, hkj⟩ := hkd
              have hkd := kd_t hn2 hok hj hkj
              have r3 := r2.trans ((if_pos hkd.1).trans (if_neg (by rw [hkd.2]; omega)))
              have hk3 := hk2.adv hS
              have hn3 := hk3.n
              have hg13 := hn3.g.1
              have hg23 := hg13.1
              have hg33 := hg13.2.1
              have hkl3 := kcl_lt hX2 (K := (nextF X (nextF X (nextF X K.2.2).2.2).2.2))
              refine E_aload_n (pc := 84) C dX1_readOperand_84 rfl rfl ?_
              refine E_get (pc := 85) C dX1_readOperand_85 f_X1_20 rfl rfl ?_
              refine E_callV0 (pc := 88) C dX1_readOperand_88 m_X1_70 (x_advance l G A S _ _ _ P _ V L T hx hk2) ⟨jle rfl, jle rfl⟩ rfl rfl rfl rfl rfl (jle rfl) ⟨Nat.zero_le _, Nat.zero_le _⟩ ?_
              try dsimp only [tt]
              refine E_aload_n (pc := 91) C dX1_readOperand_91 rfl rfl ?_
              refine E_iload_n (pc := 92) C dX1_readOperand_92 rfl rfl ?_
              refine E_aload_n (pc := 93) C dX1_readOperand_93 rfl rfl ?_
              refine E_get (pc := 94) C dX1_readOperand_94 f_X1_20 rfl rfl ?_
              refine E_iconst (pc := 97) (v := nI 1) C dX1_readOperand_97 (by decide) ?_
              refine E_aload_n (pc := 98) C dX1_readOperand_98 rfl rfl ?_
              refine E_get (pc := 99) C dX1_readOperand_99 f_X1_24 rfl rfl ?_
              refine E_get (pc := 102) C dX1_readOperand_102 f_X1_67 rfl rfl ?_
              try dsimp only [tt]
              by_cases q105 : (nextF X (nextF X (nextF X K.2.2).2.2).2.2).1 = 2 ∧ (nextF X (nextF X (nextF X K.2.2).2.2).2.2).2.2 - (nextF X (nextF X (nextF X K.2.2).2.2).2.2).2.1 ≤ 4 ∧ 1 ≤ decF X (nextF X (nextF X (nextF X K.2.2).2.2).2.2).2.2 (nextF X (nextF X (nextF X K.2.2).2.2).2.2).2.1 0 ∧ decF X (nextF X (nextF X (nextF X K.2.2).2.2).2.2).2.2 (nextF X (nextF X (nextF X K.2.2).2.2).2.2).2.1 0 ≤ B.1
              · refine E_callV1 (pc := 105) C dX1_readOperand_105 m_X1_63 (x_count l G A S _ _ _ P _ V L T _ _ hx hk3 (by omega) (by omega) q105) ⟨jle rfl, jle rfl⟩ rfl rfl rfl rfl rfl (jle rfl) ⟨Nat.zero_le _, Nat.zero_le _⟩ ?_
                try dsimp only [tt]
                have hk4 := hk3.adv hS
                have hn4 := hk4.n
                have hg14 := hn4.g.1
                have hg24 := hg14.1
                have hg34 := hg14.2.1
                have hkl4 := kcl_lt hX2 (K := (nextF X (nextF X (nextF X (nextF X K.2.2).2.2).2.2).2.2))
                have r4 := r3.trans ((if_pos ⟨q105.1, q105.2.1⟩).trans (if_pos ⟨q105.2.2.1, Nat.le_trans q105.2.2.2 (Nat.le_of_eq hB1)⟩))
                refine E_iconst (pc := 108) (v := -1) C dX1_readOperand_108 (by decide) ?_
                refine E_callV0 (pc := 109) C dX1_readOperand_109 m_X1_116 (x_pbegin l G A S _ _ B _ P _ V L T o (Z.1 o).1 _ _ _ ho (by omega)) ⟨jle rfl, jle rfl⟩ (gX_opd ho (by omega)) rfl rfl rfl rfl (jle rfl) ⟨Nat.zero_le _, Nat.zero_le _⟩ ?_
                try dsimp only [tt]
                refine E_goto (pc := 112) (tgt := 193) C dX1_readOperand_112 (by decide) ?_
                refine E_aload_n (pc := 193) C dX1_readOperand_193 rfl rfl ?_
                refine E_dup (pc := 194) C dX1_readOperand_194 rfl ?_
                refine E_get (pc := 195) C dX1_readOperand_195 f_X1_111 (gX_op ho) rfl ?_
                try dsimp only [tt]
                refine E_iconst (pc := 198) (v := nI 1) C dX1_readOperand_198 (by decide) ?_
                refine E_iaddN (pc := 199) C dX1_readOperand_199 ?_
                refine E_putU (pc := 200) C dX1_readOperand_200 p_X1_111 (gX_op ho) (jlt rfl) rfl rfl (uX_osize ho _) ?_
                try dsimp only [tt]
                exact E_vret (pc := 203) C dX1_readOperand_203 rfl (dP.t r4 (hk3.adv hS) hgq (by rw [hkj, ← hkd.2]; exact hoS.opd (kd := kdF X (nextF X (nextF X K.2.2).2.2)) (by omega) hQ (by rw [hkd.2]; omega) ⟨q105.2.2.1, by omega⟩ (fun _ _ => rfl) (fun z => by rw [hkd.2] at z; omega))) (Nat.zero_le _) (Nat.zero_le _)
              · exact E_callVx (pc := 105) C hT9 dX1_readOperand_105 m_X1_63 (x_count_x l G A S _ _ _ P _ V L T _ _ hst hx hk3 (by omega) (by omega) q105) ⟨jle rfl, jle rfl⟩ rfl rfl rfl rfl rfl (jle rfl) ⟨jle rfl, jle rfl⟩ (jle rfl) (jle rfl) (by obtain ⟨D9, e9⟩ := opd5_x (D := mdK (mdO D (keepF X K (mOpdN D) (mOpds D o) 12)) (va_up (mKind D) (6 * o + mOpds D o) (kdF X (nextF X (nextF X K.2.2).2.2)))) (o := o) (p := 6 * o + mOpds D o) (fun z => q105 ⟨z.1, z.2.1, z.2.2.1, by rw [hB1]; exact z.2.2.2⟩); exact dP.x (r3.trans e9) hgq)
      · exact E_callVx (pc := 42) C hT9 dX1_readOperand_42 m_X1_60 (x_take_x l G A S _ _ _ P _ V L T _ hst hx hk1 (by decide) (fun z => q42 ((kcl_sg hn1 hok (by decide) (by decide)).mp z))) ⟨jle rfl, jle rfl⟩ rfl rfl rfl rfl rfl (jle rfl) ⟨jle rfl, jle rfl⟩ (jle rfl) (jle rfl) (dP.x (r1.trans (if_neg q42)) hgq)
    · exact E_callVx (pc := 33) C hT9 dX1_readOperand_33 m_X1_73 (x_tnn_q_x l G A S _ _ _ P _ V L T _ _ _ hst hx hk hA8 hg.2.2.1 hoS.2.2.1 (by decide) q33) ⟨jle rfl, jle rfl⟩ rfl rfl rfl rfl rfl (jle rfl) ⟨jle rfl, jle rfl⟩ (jle rfl) (jle rfl) (dP.x (if_neg (fun z => q33 ⟨z.1, (nm_len hn z.1).1, z.2.2⟩)) hg)
  · refine E_aload_n (pc := 9) C dX1_readOperand_9 rfl rfl ?_
    refine E_get (pc := 10) C dX1_readOperand_10 f_X1_20 rfl rfl ?_
    refine E_aload_n (pc := 13) C dX1_readOperand_13 rfl rfl ?_
    refine E_get (pc := 14) C dX1_readOperand_14 f_X1_20 rfl rfl ?_
    refine E_get (pc := 17) C dX1_readOperand_17 f_X1_54 rfl rfl ?_
    try dsimp only [tt]
    exact E_callVx (pc := 20) C hT9 dX1_readOperand_20 m_X1_57 (x_refuse l G A S _ _ _ _ P _ V L T _ hst) ⟨jle rfl, jle rfl⟩ rfl rfl rfl rfl rfl (jle rfl) ⟨jle rfl, jle rfl⟩ (jle rfl) (jle rfl) (dP.x (if_neg (fun z => z.2.1 (by omega))) hg)
