set_option maxHeartbeats 4000000 in
set_option maxRecDepth 100000 in
theorem x_readSet (l : Launch) (G : jG) {X : Nat × (Nat → Nat)} {ix : Nat} {K : Nat × Nat × Nat} {D : mD} {nz : Nat} (A : xA) (S : xS) (P : xC) (V : xV) (L : xL) (T : jMem) (B : xB) (Z : xZ) (Q : xN) (hst : l.stackTraces = false) (hT2 : T.2 = some nz) (hx : xcx X A S) (hA8 : ∀ k, A.2.1 k < 256) (hk : xtk X S ix K) (hg : gB B Q) (hdR : dR D B Z D.2.2.1) : jCp l G yX1_readSet cX1_readSet 2 none 8 126 1 6 [.ref 863] (encX A S (tt X ix K) (-1) B Z P Q V L T) (dP X A S P V L T (fun D B Z _ => dR D B Z D.2.2.1) (setF X K D)) := by
  refine jCp.of (by decide) 1 rfl [some (.ref 863), none] rfl (fun p e s m args below meth c C hT9 hz9 => ?_)
  have hz9 := hz9 _ hT2
  have hX1 := hx.1
  have hX2 := hx.2.1
  have hoc := hx.2.2.1
  have hS := hx.2.2.2.1
  have hok := hx.2.2.2.2
  have hn := hk.n
  have hg1 := hn.g.1
  have hg2 := hg1.1
  have hg3 := hg1.2.1
  have hkl := kcl_lt hX2 (K := K)
  have hs0 : B.2.2.1.1 = D.2.1 := hdR.2.1.1
  have hs1 := hg.1.1
  refine E_aload_n (pc := 0) C dX1_readSet_0 rfl rfl ?_
  refine E_get (pc := 1) C dX1_readSet_1 f_X1_24 rfl rfl ?_
  refine E_get (pc := 4) C dX1_readSet_4 f_X1_28 rfl rfl ?_
  refine E_get (pc := 7) C dX1_readSet_7 f_X1_33 rfl rfl ?_
  try dsimp only [tt]
  refine E_istore_n (pc := 10) C dX1_readSet_10 rfl (by decide) rfl ?_
  dsimp only [List.set]
  refine E_iload_n (pc := 11) C dX1_readSet_11 rfl rfl ?_
  refine E_bipush (pc := 12) (v := nI 12) C dX1_readSet_12 (by decide) ?_
  refine E_icmp_ltN (pc := 14) (tgt := 31) C dX1_readSet_14 (by decide) (by omega) (by omega) (fun h14 => ?_) (fun h14 => ?_)
  · have hlt : B.2.2.1.1 < 12 := h14
    have r1 : setF X K D = set1 X (nextF X K.2.2) D := if_neg (by omega)
    have hk1 := hk.adv hS
    have hn1 := hk1.n
    have hg11 := hn1.g.1
    have hg21 := hg11.1
    have hg31 := hg11.2.1
    have hkl1 := kcl_lt hX2 (K := (nextF X K.2.2))
    refine E_aload_n (pc := 31) C dX1_readSet_31 rfl rfl ?_
    refine E_get (pc := 32) C dX1_readSet_32 f_X1_20 rfl rfl ?_
    refine E_callV0 (pc := 35) C dX1_readSet_35 m_X1_70 (x_advance l G A S _ _ _ P _ V L T hx hk) ⟨jle rfl, jle rfl⟩ rfl rfl rfl rfl rfl (jle rfl) ⟨Nat.zero_le _, Nat.zero_le _⟩ ?_
    try dsimp only [tt]
    refine E_aload_n (pc := 38) C dX1_readSet_38 rfl rfl ?_
    refine E_get (pc := 39) C dX1_readSet_39 f_X1_20 rfl rfl ?_
    refine E_aload_n (pc := 42) C dX1_readSet_42 rfl rfl ?_
    refine E_get (pc := 43) C dX1_readSet_43 f_X1_24 rfl rfl ?_
    refine E_get (pc := 46) C dX1_readSet_46 f_X1_28 rfl rfl ?_
    refine E_bipush (pc := 49) (v := nI 10) C dX1_readSet_49 (by decide) ?_
    by_cases q51 : isNameF X (nextF X K.2.2) = true ∧ (nextF X K.2.2).2.2 - (nextF X K.2.2).2.1 ≤ 10 ∧ findF X (nextF X K.2.2) (mSetN D) D.2.1 0 = 1000
    · refine E_callV0 (pc := 51) C dX1_readSet_51 m_X1_73 (x_tnn_s l G A S _ _ _ P _ V L T _ _ _ hx hk1 hA8 hg.1 hdR.2.1 (by decide) (by omega) q51) ⟨jle rfl, jle rfl⟩ rfl rfl rfl rfl rfl (jle rfl) ⟨Nat.zero_le _, Nat.zero_le _⟩ ?_
      try dsimp only [tt]
      have hk2 := hk1.adv hS
      have hn2 := hk2.n
      have hg12 := hn2.g.1
      have hg22 := hg12.1
      have hg32 := hg12.2.1
      have hkl2 := kcl_lt hX2 (K := (nextF X (nextF X K.2.2).2.2))
      have r2 := r1.trans (if_pos q51)
      have hgs := hg.set (oc := A.2.1) (f := (nextF X K.2.2).2.1) (e := (nextF X K.2.2).2.2) (g := B.2.2.2.1) (by omega) (by omega) hA8
      refine E_aload_n (pc := 54) C dX1_readSet_54 rfl rfl ?_
      refine E_get (pc := 55) C dX1_readSet_55 f_X1_24 rfl rfl ?_
      refine E_get (pc := 58) C dX1_readSet_58 f_X1_77 rfl rfl ?_
      refine E_iload_n (pc := 61) C dX1_readSet_61 rfl rfl ?_
      refine E_aload_n (pc := 62) C dX1_readSet_62 rfl rfl ?_
      refine E_get (pc := 63) C dX1_readSet_63 f_X1_20 rfl rfl ?_
      refine E_iconst (pc := 66) (v := nI 1) C dX1_readSet_66 (by decide) ?_
      refine E_bipush (pc := 67) (v := nI 6) C dX1_readSet_67 (by decide) ?_
      by_cases q69 : (nextF X (nextF X K.2.2).2.2).1 = 2 ∧ (nextF X (nextF X K.2.2).2.2).2.2 - (nextF X (nextF X K.2.2).2.2).2.1 ≤ 4 ∧ 1 ≤ decF X (nextF X (nextF X K.2.2).2.2).2.2 (nextF X (nextF X K.2.2).2.2).2.1 0 ∧ decF X (nextF X (nextF X K.2.2).2.2).2.2 (nextF X (nextF X K.2.2).2.2).2.1 0 ≤ 6
      · refine E_callV1 (pc := 69) C dX1_readSet_69 m_X1_63 (x_count l G A S _ _ _ P _ V L T _ _ hx hk2 (by omega) (by omega) q69) ⟨jle rfl, jle rfl⟩ rfl rfl rfl rfl rfl (jle rfl) ⟨Nat.zero_le _, Nat.zero_le _⟩ ?_
        try dsimp only [tt]
        have hk3 := hk2.adv hS
        have hn3 := hk3.n
        have hg13 := hn3.g.1
        have hg23 := hg13.1
        have hg33 := hg13.2.1
        have hkl3 := kcl_lt hX2 (K := (nextF X (nextF X (nextF X K.2.2).2.2).2.2))
        have r3 := r2.trans ((if_pos ⟨q69.1, q69.2.1⟩).trans (if_pos ⟨q69.2.2.1, q69.2.2.2⟩))
        refine E_iastN (pc := 72) C dX1_readSet_72 rfl (by omega) (by decide) (uX_setSizes _) ?_
        refine E_aload_n (pc := 73) C dX1_readSet_73 rfl rfl ?_
        refine E_get (pc := 74) C dX1_readSet_74 f_X1_20 rfl rfl ?_
        refine E_bipush (pc := 77) (v := nI 59) C dX1_readSet_77 (by decide) ?_
        by_cases q79 : isSignF X (nextF X (nextF X (nextF X K.2.2).2.2).2.2) 59 = true
        · refine E_callV0 (pc := 79) C dX1_readSet_79 m_X1_60 (x_take l G A S _ _ _ P _ V L T _ hx hk3 ((kcl_sg hn3 hok (by decide) (by decide)).mpr q79)) ⟨jle rfl, jle rfl⟩ rfl rfl rfl rfl rfl (jle rfl) ⟨Nat.zero_le _, Nat.zero_le _⟩ ?_
          try dsimp only [tt]
          have r4 := r3.trans (if_pos q79)
          exact E_vret (pc := 82) C dX1_readSet_82 rfl (dP.t r4 (hk3.adv hS) hgs (hdR.set hn1 hoc q51.1 ⟨q69.2.2.1, q69.2.2.2⟩)) (Nat.zero_le _) (Nat.zero_le _)
        · exact E_callVx (pc := 79) C hT9 dX1_readSet_79 m_X1_60 (x_take_x l G A S _ _ _ P _ V L T _ hst hx hk3 (by decide) (fun z => q79 ((kcl_sg hn3 hok (by decide) (by decide)).mp z))) ⟨jle rfl, jle rfl⟩ rfl rfl rfl rfl rfl (jle rfl) ⟨jle rfl, jle rfl⟩ (jle rfl) (jle rfl) (dP.x (r3.trans (if_neg q79)) hgs)
      · exact E_callVx (pc := 69) C hT9 dX1_readSet_69 m_X1_63 (x_count_x l G A S _ _ _ P _ V L T _ _ hst hx hk2 (by omega) (by omega) q69) ⟨jle rfl, jle rfl⟩ rfl rfl rfl rfl rfl (jle rfl) ⟨jle rfl, jle rfl⟩ (jle rfl) (jle rfl) (dP.x (r2.trans (set2_x q69)) hgs)
    · exact E_callVx (pc := 51) C hT9 dX1_readSet_51 m_X1_73 (x_tnn_s_x l G A S _ _ _ P _ V L T _ _ _ hst hx hk1 hA8 hg.1 hdR.2.1 (by decide) q51) ⟨jle rfl, jle rfl⟩ rfl rfl rfl rfl rfl (jle rfl) ⟨jle rfl, jle rfl⟩ (jle rfl) (jle rfl) (dP.x (r1.trans (if_neg q51)) hg)
  · refine E_aload_n (pc := 17) C dX1_readSet_17 rfl rfl ?_
    refine E_get (pc := 18) C dX1_readSet_18 f_X1_20 rfl rfl ?_
    refine E_aload_n (pc := 21) C dX1_readSet_21 rfl rfl ?_
    refine E_get (pc := 22) C dX1_readSet_22 f_X1_20 rfl rfl ?_
    refine E_get (pc := 25) C dX1_readSet_25 f_X1_54 rfl rfl ?_
    try dsimp only [tt]
    exact E_callVx (pc := 28) C hT9 dX1_readSet_28 m_X1_57 (x_refuse l G A S _ _ _ _ P _ V L T _ hst) ⟨jle rfl, jle rfl⟩ rfl rfl rfl rfl rfl (jle rfl) ⟨jle rfl, jle rfl⟩ (jle rfl) (jle rfl) (dP.x (if_pos (by omega)) hg)
