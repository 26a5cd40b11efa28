set_option maxHeartbeats 4000000 in
set_option maxRecDepth 100000 in
theorem x_readNamed (l : Launch) (G : jG) {X : Nat × (Nat → Nat)} {ix : Nat} {K : Nat × Nat × Nat} {D : mD} {P : mP} {gv : Nat → Int64} {nz : Nat} (A : xA) (S : xS) (B : xB) (Z : xZ) (Q : xN) (L : xL) (T : jMem) (C9 : xC) (V : xV) (hst : l.stackTraces = false) (hT2 : T.2 = some nz) (hx : xcx X A S) (hA8 : ∀ k, A.2.1 k < 256) (hk : xtk X S ix K) (hg : gC C9) (hp : pR X D P C9 V) (hd : dR D B Z D.2.2.1) (hb : nB B.2.2.1 12 ∧ nB B.2.2.2.2 60) (hu : 2 * P.2.2.1 ≤ K.2.1) (hpI : pI X D K.2.1 P) : jCp l G yX0_readNamed cX0_readNamed 4 none 10 180 1 6 [.ref 867] (encX A S (tt X ix K) (-1) B Z C9 Q V L T) (vP X A S B Z Q L T D (none) (pnF X D K P gv)) := by
  refine jCp.of (by decide) 3 rfl [some (.ref 867), none, none, none] rfl (fun p e s m args below meth c C hT9 hz9 => ?_)
  have hz9 := hz9 _ hT2
  have hX1 := hx.1
  have hX2 := hx.2.1
  have hoc := hx.2.2.1
  have hS := hx.2.2.2.1
  have hok := hx.2.2.2.2
  have hn := hk.n
  have hg1 := hn.g.1
  have hg2 := hg1.1
  have hg3 := hg1.2.1
  have hkl := kcl_lt hX2 (K := K)
  have hs1 := hp.1
  have hm1 := hd.2.2.2.1.1
  have hm2 := hb.2.1
  have hl1 := hp.2.1.1
  have hl2 := hg.1.1
  refine E_aload_n (pc := 0) C dX0_readNamed_0 rfl rfl ?_
  refine E_get (pc := 1) C dX0_readNamed_1 f_X0_31 rfl rfl ?_
  refine E_get (pc := 4) C dX0_readNamed_4 f_X0_55 rfl rfl ?_
  try dsimp only [tt]
  refine E_sipush (pc := 7) (v := nI 129) C dX0_readNamed_7 (by decide) ?_
  refine E_icmp_eqN (pc := 10) (tgt := 27) C dX0_readNamed_10 (by decide) (by omega) (by omega) (fun h10 => ?_) (fun h10 => ?_)
  · have hnm := (kcl_n hn hok).mp h10
    have hln := (nm_len hn hnm).1
    have hfd := nR_find hd.2.2.2.1 hn hoc 0
    rw [if_pos hnm] at hfd
    refine E_aload_n (pc := 27) C dX0_readNamed_27 rfl rfl ?_
    refine E_get (pc := 28) C dX0_readNamed_28 f_X0_31 rfl rfl ?_
    refine E_get (pc := 31) C dX0_readNamed_31 f_X0_70 rfl rfl ?_
    try dsimp only [tt]
    refine E_istore_n (pc := 34) C dX0_readNamed_34 rfl (by decide) rfl ?_
    dsimp only [List.set]
    refine E_aload_n (pc := 35) C dX0_readNamed_35 rfl rfl ?_
    refine E_get (pc := 36) C dX0_readNamed_36 f_X0_31 rfl rfl ?_
    refine E_get (pc := 39) C dX0_readNamed_39 f_X0_94 rfl rfl ?_
    try dsimp only [tt]
    refine E_istore_n (pc := 42) C dX0_readNamed_42 rfl (by decide) rfl ?_
    dsimp only [List.set]
    refine E_aload_n (pc := 43) C dX0_readNamed_43 rfl rfl ?_
    refine E_get (pc := 44) C dX0_readNamed_44 f_X0_35 rfl rfl ?_
    refine E_get (pc := 47) C dX0_readNamed_47 f_X0_97 rfl rfl ?_
    refine E_aload_n (pc := 50) C dX0_readNamed_50 rfl rfl ?_
    refine E_get (pc := 51) C dX0_readNamed_51 f_X0_31 rfl rfl ?_
    refine E_get (pc := 54) C dX0_readNamed_54 f_X0_100 rfl rfl ?_
    refine E_iload_n (pc := 57) C dX0_readNamed_57 rfl rfl ?_
    refine E_iload_n (pc := 58) C dX0_readNamed_58 rfl rfl ?_
    refine E_callV1 (pc := 59) C dX0_readNamed_59 m_X0_103 (x_find l G _ 13 60 720 B.2.2.2.2 A.2.1 K.2.1 K.2.2 rfl rfl rfl rfl rfl hb.2 hA8 hg2 (by omega)) ⟨jle rfl, jle rfl⟩ rfl rfl rfl rfl rfl (jle rfl) ⟨Nat.zero_le _, Nat.zero_le _⟩ ?_
    try dsimp only [tt]
    rw [hfd]
    obtain ⟨fx, hfx⟩ : ∃ fx, fx = findF X K (mOpN D) D.2.2.1 0 := ⟨_, rfl⟩
    rw [← hfx]
    have hfl := findF_lt (X := X) (K := K) (nm := mOpN D) (m := D.2.2.1) (j := 0)
    rw [← hfx] at hfl
    have hk1 := hk.adv hS
    have hn1 := hk1.n
    have hg11 := hn1.g.1
    have hg21 := hg11.1
    have hg31 := hg11.2.1
    have hkl1 := kcl_lt hX2 (K := (nextF X K.2.2))
    refine E_istore_n (pc := 62) C dX0_readNamed_62 rfl (by decide) rfl ?_
    dsimp only [List.set]
    refine E_aload_n (pc := 63) C dX0_readNamed_63 rfl rfl ?_
    refine E_get (pc := 64) C dX0_readNamed_64 f_X0_31 rfl rfl ?_
    refine E_callV0 (pc := 67) C dX0_readNamed_67 m_X0_76 (x_advance l G A S _ _ _ _ _ _ L T hx hk) ⟨jle rfl, jle rfl⟩ rfl rfl rfl rfl rfl (jle rfl) ⟨Nat.zero_le _, Nat.zero_le _⟩ ?_
    try dsimp only [tt]
    refine E_aload_n (pc := 70) C dX0_readNamed_70 rfl rfl ?_
    refine E_get (pc := 71) C dX0_readNamed_71 f_X0_31 rfl rfl ?_
    refine E_get (pc := 74) C dX0_readNamed_74 f_X0_55 rfl rfl ?_
    try dsimp only [tt]
    refine E_bipush (pc := 77) (v := nI 58) C dX0_readNamed_77 (by decide) ?_
    refine E_icmp_neN (pc := 79) (tgt := 96) C dX0_readNamed_79 (by decide) (by omega) (by omega) (fun h79 => ?_) (fun h79 => ?_)
    · have hsn : ¬ isSignF X (nextF X K.2.2) 58 = true := fun z => h79 ((kcl_sg hn1 hok (by decide) (by decide)).mpr z)
      refine E_iload_n (pc := 96) C dX0_readNamed_96 rfl rfl ?_
      refine E_if_lt (pc := 97) (tgt := 113) C dX0_readNamed_97 (by decide) (fun h97 => ?_) (fun h97 => ?_)
      · have hnq : ¬ (fx ≠ 1000 ∧ P.1 ≠ 1000) := by first | (intro z; exact z.1 (lI_lt0 (by omega) h97)) | (intro z; omega)
        refine E_aload_n (pc := 113) C dX0_readNamed_113 rfl rfl ?_
        refine E_get (pc := 114) C dX0_readNamed_114 f_X0_31 rfl rfl ?_
        refine E_iload_n (pc := 117) C dX0_readNamed_117 rfl rfl ?_
        exact E_callVx (pc := 118) C hT9 dX0_readNamed_118 m_X0_73 (x_refuse l G A S _ _ _ _ _ _ _ L T _ hst) ⟨jle rfl, jle rfl⟩ rfl rfl rfl rfl rfl (jle rfl) ⟨jle rfl, jle rfl⟩ (jle rfl) (jle rfl) (vP.x (by rw [show pnF X D K P gv = (some K.2.1, K, P, gv) from (if_pos hnm).trans ((if_neg hsn).trans (if_neg (by rw [← hfx]; exact hnq)))]) hg)
      · refine E_aload_n (pc := 100) C dX0_readNamed_100 rfl rfl ?_
        refine E_get (pc := 101) C dX0_readNamed_101 f_X0_39 rfl rfl ?_
        refine E_get (pc := 104) C dX0_readNamed_104 f_X0_43 rfl rfl ?_
        try dsimp only [tt]
        refine E_sipush (pc := 107) (v := nI 1000) C dX0_readNamed_107 (by decide) ?_
        refine E_icmp_ltN (pc := 110) (tgt := 121) C dX0_readNamed_110 (by decide) (by omega) (by omega) (fun h110 => ?_) (fun h110 => ?_)
        · have hf9 : fx ≠ 1000 := by
            intro z; rw [z] at h97; exact absurd (by decide) h97
          have hf8 : lI fx = nI fx := by unfold lI; rw [if_neg hf9]
          rw [hf8]
          have ho : fx < D.2.2.1 := by omega
          obtain ⟨hR, hW⟩ := hd.2.2.2.2 fx ho
          have hw : P.1 < 1000 := by omega
          have r2 : pnF X D K P gv = vB (vlL X D fx (mOpds D fx) 0 (nextF X K.2.2) P gv) (pgE X vI (fun gv => madeF D gv fx)) := by
            rw [hfx]; exact (if_pos hnm).trans ((if_neg hsn).trans (if_pos ⟨by rw [← hfx]; exact hf9, by omega⟩))
          have g9 := vlL_G ho (mOpds D fx) 0 (nextF X K.2.2) P gv (by omega) hn1 (hpI.up hn.g.fr) hw
          refine E_aload_n (pc := 121) C dX0_readNamed_121 rfl rfl ?_
          refine E_aload_n (pc := 122) C dX0_readNamed_122 rfl rfl ?_
          refine E_iload_n (pc := 123) C dX0_readNamed_123 rfl rfl ?_
          refine E_callVp (pc := 124) C hT9 dX0_readNamed_124 m_X0_111 (x_aOperands l G A S B Z Q L T _ _ fx hst hT2 hx hA8 hk1 hg hp hd hb ho (by have := hn.g.fr; omega) (hpI.up hn.g.fr) hw) ⟨jle rfl, jle rfl⟩ rfl rfl rfl rfl rfl (jle rfl) ⟨jle rfl, jle rfl⟩ (jle rfl) (jle rfl) (fun E9 M9 h9 => vP.thr h9 (fun p hp => by rw [r2]; exact vB_x hp)) (fun v9 M9 h9 => ?_)
          obtain ⟨e0, ev, ix3, C3, V3, hk3, hg3, hR3, eM⟩ := vP.ret h9
          subst ev eM
          have r3 := r2.trans (vB_n e0)
          have hmade := hR.made hW (vlL X D fx (mOpds D fx) 0 (nextF X K.2.2) P gv).2.2.2
          rw [hmade]
          have hC3 : C3.1 < 1000 := by have z1 := hR3.1.1; have z2 := g9.2.2.2.1; omega
          have hn3 := hk3.n
          have hg13 := hn3.g.1
          have hg23 := hg13.1
          have hg33 := hg13.2.1
          have hkl3 := kcl_lt hX2 (K := (vlL X D fx (mOpds D fx) 0 (nextF X K.2.2) P gv).2.1)
          refine E_low hz9 hT2 ?_
          try dsimp only [tt]
          refine E_callV0 (pc := 127) C dX0_readNamed_127 m_X0_88 (x_addWord l G A S _ _ B Z C3 Q V3 L T _ hC3) ⟨jle rfl, jle rfl⟩ rfl rfl rfl rfl rfl (jle rfl) ⟨Nat.zero_le _, Nat.zero_le _⟩ ?_
          try dsimp only [tt]
          refine E_aload_n (pc := 130) C dX0_readNamed_130 rfl rfl ?_
          refine E_get (pc := 131) C dX0_readNamed_131 f_X0_31 rfl rfl ?_
          refine E_bipush (pc := 134) (v := nI 59) C dX0_readNamed_134 (by decide) ?_
          by_cases q136 : isSignF X (vlL X D fx (mOpds D fx) 0 (nextF X K.2.2) P gv).2.1 59 = true
          · refine E_callV0 (pc := 136) C dX0_readNamed_136 m_X0_91 (x_take l G A S _ _ _ _ _ _ L T _ hx hk3 ((kcl_sg hn3 hok (by decide) (by decide)).mpr q136)) ⟨jle rfl, jle rfl⟩ rfl rfl rfl rfl rfl (jle rfl) ⟨Nat.zero_le _, Nat.zero_le _⟩ ?_
            try dsimp only [tt]
            exact E_vret (pc := 139) C dX0_readNamed_139 rfl (vP.t (r3.trans (if_pos q136)) (hk3.adv hS) hg3 (hR3.word (by have z2 := g9.2.2.2.1; omega) _)) (Nat.zero_le _) (Nat.zero_le _)
          · exact E_callVx (pc := 136) C hT9 dX0_readNamed_136 m_X0_91 (x_take_x l G A S _ _ _ _ _ _ L T _ hst hx hk3 (by decide) (fun z => q136 ((kcl_sg hn3 hok (by decide) (by decide)).mp z))) ⟨jle rfl, jle rfl⟩ rfl rfl rfl rfl rfl (jle rfl) ⟨jle rfl, jle rfl⟩ (jle rfl) (jle rfl) (vP.x (by rw [r3.trans (if_neg q136)]) hg3)
        · have hnq : ¬ (fx ≠ 1000 ∧ P.1 ≠ 1000) := by first | (intro z; exact z.1 (lI_lt0 (by omega) h97)) | (intro z; omega)
          refine E_aload_n (pc := 113) C dX0_readNamed_113 rfl rfl ?_
          refine E_get (pc := 114) C dX0_readNamed_114 f_X0_31 rfl rfl ?_
          refine E_iload_n (pc := 117) C dX0_readNamed_117 rfl rfl ?_
          exact E_callVx (pc := 118) C hT9 dX0_readNamed_118 m_X0_73 (x_refuse l G A S _ _ _ _ _ _ _ L T _ hst) ⟨jle rfl, jle rfl⟩ rfl rfl rfl rfl rfl (jle rfl) ⟨jle rfl, jle rfl⟩ (jle rfl) (jle rfl) (vP.x (by rw [show pnF X D K P gv = (some K.2.1, K, P, gv) from (if_pos hnm).trans ((if_neg hsn).trans (if_neg (by rw [← hfx]; exact hnq)))]) hg)
    · have hsy := (kcl_sg hn1 hok (by decide) (by decide)).mp h79
      refine E_aload_n (pc := 82) C dX0_readNamed_82 rfl rfl ?_
      refine E_iload_n (pc := 83) C dX0_readNamed_83 rfl rfl ?_
      refine E_iload_n (pc := 84) C dX0_readNamed_84 rfl rfl ?_
      by_cases q85 : P.2.1 ≠ 60 ∧ findF X K P.2.2.2.1 P.2.1 0 = 1000
      · refine E_callV0 (pc := 85) C dX0_readNamed_85 m_X0_107 (x_addLabel l G A S B Z Q L T _ C9 V hx hA8 hn hnm hg hp q85) ⟨jle rfl, jle rfl⟩ rfl rfl rfl rfl rfl (jle rfl) ⟨Nat.zero_le _, Nat.zero_le _⟩ ?_
        try dsimp only [tt]
        refine E_aload_n (pc := 88) C dX0_readNamed_88 rfl rfl ?_
        refine E_get (pc := 89) C dX0_readNamed_89 f_X0_31 rfl rfl ?_
        refine E_callV0 (pc := 92) C dX0_readNamed_92 m_X0_76 (x_advance l G A S _ _ _ _ _ _ L T hx hk1) ⟨jle rfl, jle rfl⟩ rfl rfl rfl rfl rfl (jle rfl) ⟨Nat.zero_le _, Nat.zero_le _⟩ ?_
        try dsimp only [tt]
        exact E_vret (pc := 95) C dX0_readNamed_95 rfl (vP.t ((if_pos hnm).trans ((if_pos hsy).trans (if_pos q85))) (hk1.adv hS) (hg.lab (by omega) hln hA8) (hp.lab hn hoc hnm)) (Nat.zero_le _) (Nat.zero_le _)
      · exact E_callVx (pc := 85) C hT9 dX0_readNamed_85 m_X0_107 (x_addLabel_x l G A S B Z Q L T _ C9 V hst hx hA8 hn hnm hg hp q85) ⟨jle rfl, jle rfl⟩ rfl rfl rfl rfl rfl (jle rfl) ⟨jle rfl, jle rfl⟩ (jle rfl) (jle rfl) (vP.x (by rw [show pnF X D K P gv = _ from (if_pos hnm).trans ((if_pos hsy).trans (if_neg q85))]) hg)
  · refine E_aload_n (pc := 13) C dX0_readNamed_13 rfl rfl ?_
    refine E_get (pc := 14) C dX0_readNamed_14 f_X0_31 rfl rfl ?_
    refine E_aload_n (pc := 17) C dX0_readNamed_17 rfl rfl ?_
    refine E_get (pc := 18) C dX0_readNamed_18 f_X0_31 rfl rfl ?_
    refine E_get (pc := 21) C dX0_readNamed_21 f_X0_70 rfl rfl ?_
    try dsimp only [tt]
    exact E_callVx (pc := 24) C hT9 dX0_readNamed_24 m_X0_73 (x_refuse l G A S _ _ _ _ _ _ _ L T _ hst) ⟨jle rfl, jle rfl⟩ rfl rfl rfl rfl rfl (jle rfl) ⟨jle rfl, jle rfl⟩ (jle rfl) (jle rfl) (vP.x (by rw [show pnF X D K P gv = _ from if_neg (fun z => h10 ((kcl_n hn hok).mpr z))]) hg)
set_option maxHeartbeats 4000000 in
set_option maxRecDepth 100000 in
theorem x_fillWanted (l : Launch) (G : jG) {X : Nat × (Nat → Nat)} {D : mD} {P : mP} {gv : Nat → Int64} (A : xA) (S : xS) (B : xB) (Z : xZ) (Q : xN) (L : xL) (T : jMem) (t : xT) (C9 : xC) (V : xV) (u : Nat) (hst : l.stackTraces = false) (hx : xcx X A S) (hA8 : ∀ k, A.2.1 k < 256) (hg : gC C9) (hp : pR X D P C9 V) (hd : dR D B Z D.2.2.1) (hb : nB B.2.2.1 12 ∧ nB B.2.2.2.2 60) (hu : u < P.2.2.1) (hV : P.2.2.1 ≤ 2000) (hK : uK D P u) : jCp l G yX0_fillWanted cX0_fillWanted 5 none 7 103 1 6 [.ref 867, .int (nI u)] (encX A S t (-1) B Z C9 Q V L T) (vQ X A S B Z Q L T D (lkF X D u P gv)) := by
  refine jCp.of (by decide) 3 rfl [some (.ref 867), some (.int (nI u)), none, none, none] rfl (fun p e s m args below meth c C hT9 hz9 => ?_)
  have hX1 := hx.1
  have hX2 := hx.2.1
  have hoc := hx.2.2.1
  obtain ⟨⟨u1, u2, u3, u4, u5⟩, ⟨u6, u7, u8⟩, u9, ua, ub⟩ := hp.2.2.2.2.2 u hu
  obtain ⟨w1, g0, w2, w3⟩ := hK.1 u (Nat.le_refl _) hu
  have hn : tkN X (nextF X (P.2.2.2.2.2.2.1 u)) := ⟨_, u8, rfl⟩
  have hg1 := hn.g.1
  have hg2 := hg1.1
  have hg3 := hg1.2.1
  have hfd := nR_find hp.2.1 hn hoc 0
  rw [if_pos u6] at hfd
  have hfd2 : xfF A.2.1 C9.2.2.2.1 (V.2.1 u) (V.2.2.1 u) 0 = findF X (nextF X (P.2.2.2.2.2.2.1 u)) P.2.2.2.1 P.2.1 0 := by rw [u1, u2, ← hfd, u7]
  have hl2 := hg.1.1
  have hl1 := hp.2.1.1
  have hm1 := hd.2.2.2.1.1
  have hm2 := hb.2.1
  have ho6 : (P.2.2.2.2.2.2.2.2.2 u) < 60 := by omega
  obtain ⟨hR, hW⟩ := hd.2.2.2.2 (P.2.2.2.2.2.2.2.2.2 u) ua
  have hk7 : (P.2.2.2.2.2.2.2.2.1 u) < 6 := Nat.lt_of_lt_of_le ub hR.1.2.1
  have hpd := hR.2.1 (P.2.2.2.2.2.2.2.2.1 u) ub
  have hbits := hpd.bits
  have hs1 := hp.1
  have hlw := fun j => lk_word (gv := gv) (j := j) hR hW ub w2 w3
  refine E_aload_n (pc := 0) C dX0_fillWanted_0 rfl rfl ?_
  refine E_get (pc := 1) C dX0_fillWanted_1 f_X0_39 rfl rfl ?_
  refine E_get (pc := 4) C dX0_fillWanted_4 f_X0_48 rfl rfl ?_
  refine E_aload_n (pc := 7) C dX0_fillWanted_7 rfl rfl ?_
  refine E_get (pc := 8) C dX0_fillWanted_8 f_X0_31 rfl rfl ?_
  refine E_get (pc := 11) C dX0_fillWanted_11 f_X0_100 rfl rfl ?_
  refine E_aload_n (pc := 14) C dX0_fillWanted_14 rfl rfl ?_
  refine E_get (pc := 15) C dX0_fillWanted_15 f_X0_11 rfl rfl ?_
  refine E_iload_n (pc := 18) C dX0_fillWanted_18 rfl rfl ?_
  refine E_ialdN (pc := 19) C dX0_fillWanted_19 rfl (by omega) (by decide) ?_
  try dsimp only [tt]
  refine E_aload_n (pc := 20) C dX0_fillWanted_20 rfl rfl ?_
  refine E_get (pc := 21) C dX0_fillWanted_21 f_X0_15 rfl rfl ?_
  refine E_iload_n (pc := 24) C dX0_fillWanted_24 rfl rfl ?_
  refine E_ialdN (pc := 25) C dX0_fillWanted_25 rfl (by omega) (by decide) ?_
  try dsimp only [tt]
  refine E_callV1 (pc := 26) C dX0_fillWanted_26 m_X0_103 (x_find l G _ 859 60 720 C9.2.2.2.1 A.2.1 (V.2.1 u) (V.2.2.1 u) rfl rfl rfl rfl rfl hg.1 hA8 (by omega) (by omega)) ⟨jle rfl, jle rfl⟩ rfl rfl rfl rfl rfl (jle rfl) ⟨Nat.zero_le _, Nat.zero_le _⟩ ?_
  try dsimp only [tt]
  rw [hfd2]
  obtain ⟨j9, hj⟩ : ∃ j9, j9 = findF X (nextF X (P.2.2.2.2.2.2.1 u)) P.2.2.2.1 P.2.1 0 := ⟨_, rfl⟩
  rw [← hj]
  have hfl := findF_lt (X := X) (K := (nextF X (P.2.2.2.2.2.2.1 u))) (nm := P.2.2.2.1) (m := P.2.1) (j := 0)
  rw [← hj] at hfl
  have r0 : lkF X D u P gv = lk2 D (nextF X (P.2.2.2.2.2.2.1 u)) P gv j9 u := by rw [hj]; rfl
  refine E_istore_n (pc := 29) C dX0_fillWanted_29 rfl (by decide) rfl ?_
  dsimp only [List.set]
  refine E_iload_n (pc := 30) C dX0_fillWanted_30 rfl rfl ?_
  refine E_if_ge (pc := 31) (tgt := 47) C dX0_fillWanted_31 (by decide) (fun h31 => ?_) (fun h31 => ?_)
  · have hj9 : j9 ≠ 1000 := by
      intro z; rw [z] at h31; exact absurd h31 (by decide)
    have hj8 : lI j9 = nI j9 := by unfold lI; rw [if_neg hj9]
    rw [hj8]
    have hj7 : j9 < P.2.1 := by omega
    have hpl := hp.2.2.1 j9 hj7
    refine E_aload_n (pc := 47) C dX0_fillWanted_47 rfl rfl ?_
    refine E_get (pc := 48) C dX0_fillWanted_48 f_X0_35 rfl rfl ?_
    refine E_get (pc := 51) C dX0_fillWanted_51 f_X0_125 rfl rfl ?_
    refine E_aload_n (pc := 54) C dX0_fillWanted_54 rfl rfl ?_
    refine E_get (pc := 55) C dX0_fillWanted_55 f_X0_21 rfl rfl ?_
    refine E_iload_n (pc := 58) C dX0_fillWanted_58 rfl rfl ?_
    refine E_ialdN (pc := 59) C dX0_fillWanted_59 rfl (by omega) (by decide) ?_
    try dsimp only [tt]
    rw [u4]
    refine E_aaldN (pc := 60) C dX0_fillWanted_60 rfl (by decide) (by omega) (by decide) rfl ?_
    refine E_get (pc := 61) C dX0_fillWanted_61 f_X0_139 (gX_op ho6) rfl ?_
    refine E_aload_n (pc := 64) C dX0_fillWanted_64 rfl rfl ?_
    refine E_get (pc := 65) C dX0_fillWanted_65 f_X0_24 rfl rfl ?_
    refine E_iload_n (pc := 68) C dX0_fillWanted_68 rfl rfl ?_
    refine E_ialdN (pc := 69) C dX0_fillWanted_69 rfl (by omega) (by decide) ?_
    try dsimp only [tt]
    rw [u5]
    refine E_aaldN (pc := 70) C dX0_fillWanted_70 (gX_ops ho6) (by decide) (by omega) (by decide) rfl ?_
    refine E_astore_n (pc := 71) C dX0_fillWanted_71 rfl (by decide) rfl ?_
    dsimp only [List.set]
    refine E_aload_n (pc := 72) C dX0_fillWanted_72 rfl rfl ?_
    refine E_get (pc := 73) C dX0_fillWanted_73 f_X0_39 rfl rfl ?_
    refine E_get (pc := 76) C dX0_fillWanted_76 f_X0_118 rfl rfl ?_
    refine E_iload_n (pc := 79) C dX0_fillWanted_79 rfl rfl ?_
    refine E_ialdN (pc := 80) C dX0_fillWanted_80 rfl (by omega) (by decide) ?_
    try dsimp only [tt]
    refine E_aload_n (pc := 81) C dX0_fillWanted_81 rfl rfl ?_
    refine E_get (pc := 82) C dX0_fillWanted_82 f_X0_18 rfl rfl ?_
    refine E_iload_n (pc := 85) C dX0_fillWanted_85 rfl rfl ?_
    refine E_ialdN (pc := 86) C dX0_fillWanted_86 rfl (by omega) (by decide) ?_
    try dsimp only [tt]
    rw [hpl.1, u3]
    refine E_isub (pc := 87) C dX0_fillWanted_87 ?_
    refine E_istore (pc := 88) C dX0_fillWanted_88 (by decide) rfl ?_
    dsimp only [List.set]
    refine E_aload_n (pc := 90) C dX0_fillWanted_90 rfl rfl ?_
    refine E_iload (pc := 91) C dX0_fillWanted_91 rfl ?_
    refine E_i2l (pc := 93) C dX0_fillWanted_93 rfl ?_
    refine E_callV1 (pc := 94) C dX0_fillWanted_94 m_X0_180 (x_canBe l G _ _ _ _ _ _ _ (lkV P j9 u) (gX_pd ho6 hk7 hpd.2.1) (gX_opl ho6 hk7) hpd.1 hpd.2.2.1) ⟨jle rfl, jle rfl⟩ (gX_pd ho6 hk7 hpd.2.1) rfl rfl rfl rfl (jle rfl) ⟨Nat.zero_le _, Nat.zero_le _⟩ ?_
    try dsimp only [tt]
    refine E_if_ne (pc := 97) (tgt := 113) C dX0_fillWanted_97 (by decide) (fun h97 => ?_) (fun h97 => ?_)
    · refine E_aload_n (pc := 113) C dX0_fillWanted_113 rfl rfl ?_
      refine E_get (pc := 114) C dX0_fillWanted_114 f_X0_39 rfl rfl ?_
      refine E_get (pc := 117) C dX0_fillWanted_117 f_X0_115 rfl rfl ?_
      refine E_aload_n (pc := 120) C dX0_fillWanted_120 rfl rfl ?_
      refine E_get (pc := 121) C dX0_fillWanted_121 f_X0_18 rfl rfl ?_
      refine E_iload_n (pc := 124) C dX0_fillWanted_124 rfl rfl ?_
      refine E_ialdN (pc := 125) C dX0_fillWanted_125 rfl (by omega) (by decide) ?_
      try dsimp only [tt]
      rw [u3]
      refine E_dup2_11 (pc := 126) C dX0_fillWanted_126 rfl rfl ?_
      refine E_ialdR (pc := 127) C dX0_fillWanted_127 rfl (by omega) (by decide) ?_
      try dsimp only [tt]
      rw [hp.2.2.2.1 _ w1]
      refine E_aload_n (pc := 128) C dX0_fillWanted_128 rfl rfl ?_
      refine E_iload (pc := 129) C dX0_fillWanted_129 rfl ?_
      refine E_i2l (pc := 131) C dX0_fillWanted_131 rfl ?_
      refine E_callV1 (pc := 132) C dX0_fillWanted_132 m_X0_152 (x_spread l G _ _ _ _ _ _ _ (lkV P j9 u) (gX_pd ho6 hk7 hpd.2.1) (gX_opl ho6 hk7) hpd.1 hpd.2.2.1) ⟨jle rfl, jle rfl⟩ (gX_pd ho6 hk7 hpd.2.1) rfl rfl rfl rfl (jle rfl) ⟨Nat.zero_le _, Nat.zero_le _⟩ ?_
      try dsimp only [tt]
      refine E_ior (pc := 135) C dX0_fillWanted_135 ?_
      rw [(hlw j9).1]
      refine E_iastR (pc := 136) C dX0_fillWanted_136 rfl (by omega) (by decide) (uX_words _) ?_
      exact E_vret (pc := 137) C dX0_fillWanted_137 rfl (by
    have e9 : lkF X D u P gv = _ := r0.trans ((if_neg hj9).trans (if_pos (by rw [hbits]; exact bI_t h97)))
    rw [e9]
    exact vQ.t rfl hg hp.lnk) (Nat.zero_le _) (Nat.zero_le _)
    · refine E_aload_n (pc := 100) C dX0_fillWanted_100 rfl rfl ?_
      refine E_get (pc := 101) C dX0_fillWanted_101 f_X0_31 rfl rfl ?_
      refine E_aload_n (pc := 104) C dX0_fillWanted_104 rfl rfl ?_
      refine E_get (pc := 105) C dX0_fillWanted_105 f_X0_11 rfl rfl ?_
      refine E_iload_n (pc := 108) C dX0_fillWanted_108 rfl rfl ?_
      refine E_ialdN (pc := 109) C dX0_fillWanted_109 rfl (by omega) (by decide) ?_
      try dsimp only [tt]
      rw [u1]
      exact E_callVx (pc := 110) C hT9 dX0_fillWanted_110 m_X0_73 (x_refuse l G A S _ _ _ _ _ _ _ L T _ hst) ⟨jle rfl, jle rfl⟩ rfl rfl rfl rfl rfl (jle rfl) ⟨jle rfl, jle rfl⟩ (jle rfl) (jle rfl) (vQ.x (by rw [r0]; show (lk2 D _ P gv j9 u).1 = _; unfold lk2; rw [if_neg hj9, if_neg (by rw [hbits, bI_f h97]; decide)]) hg)
  · refine E_aload_n (pc := 34) C dX0_fillWanted_34 rfl rfl ?_
    refine E_get (pc := 35) C dX0_fillWanted_35 f_X0_31 rfl rfl ?_
    refine E_aload_n (pc := 38) C dX0_fillWanted_38 rfl rfl ?_
    refine E_get (pc := 39) C dX0_fillWanted_39 f_X0_11 rfl rfl ?_
    refine E_iload_n (pc := 42) C dX0_fillWanted_42 rfl rfl ?_
    refine E_ialdN (pc := 43) C dX0_fillWanted_43 rfl (by omega) (by decide) ?_
    try dsimp only [tt]
    rw [u1]
    exact E_callVx (pc := 44) C hT9 dX0_fillWanted_44 m_X0_73 (x_refuse l G A S _ _ _ _ _ _ _ L T _ hst) ⟨jle rfl, jle rfl⟩ rfl rfl rfl rfl rfl (jle rfl) ⟨jle rfl, jle rfl⟩ (jle rfl) (jle rfl) (vQ.x (by rw [r0]; show (lk2 D _ P gv j9 u).1 = _; unfold lk2; rw [if_pos (lI_lt0 (by omega) (Int32.not_le.mp h31))]) hg)
