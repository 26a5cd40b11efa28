set_option maxHeartbeats 4000000 in
set_option maxRecDepth 100000 in
theorem x_aOperand (l : Launch) (G : jG) {X : Nat × (Nat → Nat)} {ix : Nat} {K : Nat × Nat × Nat} {D : mD} {P : mP} {gv : Nat → Int64} {nz : Nat} (A : xA) (S : xS) (B : xB) (Z : xZ) (Q : xN) (L : xL) (T : jMem) (C9 : xC) (V : xV) (o k : Nat) (hst : l.stackTraces = false) (hT2 : T.2 = some nz) (hx : xcx X A S) (hA8 : ∀ k, A.2.1 k < 256) (hk : xtk X S ix K) (hg : gC C9) (hp : pR X D P C9 V) (hd : dR D B Z D.2.2.1) (hb : nB B.2.2.1 12 ∧ nB B.2.2.2.2 60) (ho : o < D.2.2.1) (hk6 : k < mOpds D o) (hu : 2 * P.2.2.1 ≤ K.2.1) : jCp l G yX0_readOperand cX0_readOperand 5 (some .int) 8 133 1 6 [.ref 867, .int (nI o), .int (nI k)] (encX A S (tt X ix K) (-1) B Z C9 Q V L T) (vP X A S B Z Q L T D (some (.int (spF (Z.2.2 (6 * o + k)) ((valF X D o k K P gv).2.2.2 k) (Z.2.1 (6 * o + k)).2.1 0 (nI 0)))) (valF X D o k K P gv)) := by
  refine jCp.of (by decide) 2 rfl [some (.ref 867), some (.int (nI o)), some (.int (nI k)), none, none] rfl (fun p e s m args below meth c C hT9 hz9 => ?_)
  have hz9 := hz9 _ hT2
  have hX1 := hx.1
  have hX2 := hx.2.1
  have hoc := hx.2.2.1
  have hS := hx.2.2.2.1
  have hok := hx.2.2.2.2
  have hn := hk.n
  have hg1 := hn.g.1
  have hg2 := hg1.1
  have hg3 := hg1.2.1
  have hkl := kcl_lt hX2 (K := K)
  have hm1 := hd.2.2.2.1.1
  have hm2 := hb.2.1
  have ho6 : o < 60 := by omega
  obtain ⟨hR, hW⟩ := hd.2.2.2.2 o ho
  have hk7 : k < 6 := Nat.lt_of_lt_of_le hk6 hR.1.2.1
  have hpd := hR.2.1 k hk6
  have hbits := hpd.bits
  have hsz := hpd.2.2.1
  have hkd := hpd.1
  have hV1 : V.1 = P.2.2.1 := hp.2.2.2.2.1
  refine E_aload_n (pc := 0) C dX0_readOperand_0 rfl rfl ?_
  refine E_get (pc := 1) C dX0_readOperand_1 f_X0_35 rfl rfl ?_
  refine E_get (pc := 4) C dX0_readOperand_4 f_X0_125 rfl rfl ?_
  refine E_iload_n (pc := 7) C dX0_readOperand_7 rfl rfl ?_
  refine E_aaldN (pc := 8) C dX0_readOperand_8 rfl (by decide) (by omega) (by decide) rfl ?_
  refine E_get (pc := 9) C dX0_readOperand_9 f_X0_139 (gX_op ho6) rfl ?_
  refine E_iload_n (pc := 12) C dX0_readOperand_12 rfl rfl ?_
  refine E_aaldN (pc := 13) C dX0_readOperand_13 (gX_ops ho6) (by decide) (by omega) (by decide) rfl ?_
  refine E_astore_n (pc := 14) C dX0_readOperand_14 rfl (by decide) rfl ?_
  dsimp only [List.set]
  refine E_aload_n (pc := 15) C dX0_readOperand_15 rfl rfl ?_
  refine E_get (pc := 16) C dX0_readOperand_16 f_X0_143 (gX_pd ho6 hk7 hpd.2.1) rfl ?_
  try dsimp only [tt]
  refine E_sipush (pc := 19) (v := nI 139) C dX0_readOperand_19 (by decide) ?_
  refine E_icmp_neN (pc := 22) (tgt := 50) C dX0_readOperand_22 (by decide) (by omega) (by omega) (fun h22 => ?_) (fun h22 => ?_)
  · have h3 : ¬ mKind D (6 * o + k) = 3 := by omega
    refine E_aload_n (pc := 50) C dX0_readOperand_50 rfl rfl ?_
    refine E_get (pc := 51) C dX0_readOperand_51 f_X0_143 (gX_pd ho6 hk7 hpd.2.1) rfl ?_
    try dsimp only [tt]
    refine E_sipush (pc := 54) (v := nI 138) C dX0_readOperand_54 (by decide) ?_
    refine E_icmp_neN (pc := 57) (tgt := 81) C dX0_readOperand_57 (by decide) (by omega) (by omega) (fun h57 => ?_) (fun h57 => ?_)
    · have r0 : valF X D o k K P gv = nb1 X K (fitF (mKind D (6 * o + k)) (bitsN D (6 * o + k))) P gv k := (if_neg h3).trans (if_neg (by first | (intro z; omega) | (intro z; exact h70 ((kcl_n hn hok).mpr z.2))))
      have hokv : ∀ v, fitF (mKind D (6 * o + k)) (bitsN D (6 * o + k)) v = jin2 (leF (mKind D (6 * o + k)) (Z.2.1 (6 * o + k)).2.1) (moF (mKind D (6 * o + k)) (Z.2.1 (6 * o + k)).2.1) v := fun v => by rw [hbits, fitF_lm]
      refine E_aload_n (pc := 81) C dX0_readOperand_81 rfl rfl ?_
      refine E_aload_n (pc := 82) C dX0_readOperand_82 rfl rfl ?_
      refine E_get (pc := 83) C dX0_readOperand_83 f_X0_31 rfl rfl ?_
      refine E_aload_n (pc := 86) C dX0_readOperand_86 rfl rfl ?_
      refine E_callV1 (pc := 87) C dX0_readOperand_87 m_X0_159 (x_least l G _ _ _ _ _ _ _ (gX_pd ho6 hk7 hpd.2.1) (gX_opl ho6 hk7) hpd.1 hpd.2.2.1) ⟨jle rfl, jle rfl⟩ (gX_pd ho6 hk7 hpd.2.1) rfl rfl rfl rfl (jle rfl) ⟨Nat.zero_le _, Nat.zero_le _⟩ ?_
      try dsimp only [tt]
      refine E_aload_n (pc := 90) C dX0_readOperand_90 rfl rfl ?_
      refine E_callV1 (pc := 91) C dX0_readOperand_91 m_X0_163 (x_most l G _ _ _ _ _ _ _ (gX_pd ho6 hk7 hpd.2.1) (gX_opl ho6 hk7) hpd.1 hpd.2.2.1) ⟨jle rfl, jle rfl⟩ (gX_pd ho6 hk7 hpd.2.1) rfl rfl rfl rfl (jle rfl) ⟨Nat.zero_le _, Nat.zero_le _⟩ ?_
      try dsimp only [tt]
      by_cases hsg : isSignF X K 45 = true
      · by_cases hq1 : (nextF X K.2.2).1 = 3 ∨ ((nextF X K.2.2).1 = 2 ∧ (nextF X K.2.2).2.2 - (nextF X K.2.2).2.1 ≤ 10)
        · by_cases hq2 : jin2 (leF (mKind D (6 * o + k)) (Z.2.1 (6 * o + k)).2.1) (moF (mKind D (6 * o + k)) (Z.2.1 (6 * o + k)).2.1) (sgn true (lN (numN X (nextF X K.2.2)))) = true
          · have r9 := r0.trans (nb1_t1 hsg hq1 ((hokv _).trans hq2))
            refine E_callV1 (pc := 94) C dX0_readOperand_94 m_X0_84 (x_tvm l G A S _ _ _ _ _ _ L T _ _ hx hk hsg hq1 hq2) ⟨jle rfl, jle rfl⟩ rfl rfl rfl rfl rfl (jle rfl) ⟨Nat.zero_le _, Nat.zero_le _⟩ ?_
            try dsimp only [tt]
            refine E_callV1 (pc := 97) C dX0_readOperand_97 m_X0_152 (x_spread l G _ _ _ _ _ _ _ _ (gX_pd ho6 hk7 hpd.2.1) (gX_opl ho6 hk7) hpd.1 hpd.2.2.1) ⟨jle rfl, jle rfl⟩ (gX_pd ho6 hk7 hpd.2.1) rfl rfl rfl rfl (jle rfl) ⟨Nat.zero_le _, Nat.zero_le _⟩ ?_
            try dsimp only [tt]
            exact E_iret (pc := 100) C dX0_readOperand_100 rfl (vP.ta r9 (by rw [r9]; show some (Value.int (spF _ (va_up gv k _ k) _ _ _)) = _; rw [va_up_self]) ((hk.adv hS).adv hS) hg hp) (Nat.zero_le _) (Nat.zero_le _)
          · exact E_callVx (pc := 94) C hT9 dX0_readOperand_94 m_X0_84 (x_tvm_x l G A S _ _ _ _ _ _ L T _ _ _ hst hx hk hsg (Or.inr ⟨hq1, hq2, rfl⟩)) ⟨jle rfl, jle rfl⟩ rfl rfl rfl rfl rfl (jle rfl) ⟨jle rfl, jle rfl⟩ (jle rfl) (jle rfl) (vP.x (by rw [r0]; exact (nb1_x2 hsg hq1 (fun z => hq2 ((hokv _).symm.trans z)))) hg)
        · exact E_callVx (pc := 94) C hT9 dX0_readOperand_94 m_X0_84 (x_tvm_x l G A S _ _ _ _ _ _ L T _ _ _ hst hx hk hsg (Or.inl ⟨hq1, rfl⟩)) ⟨jle rfl, jle rfl⟩ rfl rfl rfl rfl rfl (jle rfl) ⟨jle rfl, jle rfl⟩ (jle rfl) (jle rfl) (vP.x (by rw [r0]; exact (nb1_x1 hsg hq1)) hg)
      · have hsg : isSignF X K 45 = false := by simpa using hsg
        by_cases hq1 : K.1 = 3 ∨ (K.1 = 2 ∧ K.2.2 - K.2.1 ≤ 10)
        · by_cases hq2 : jin2 (leF (mKind D (6 * o + k)) (Z.2.1 (6 * o + k)).2.1) (moF (mKind D (6 * o + k)) (Z.2.1 (6 * o + k)).2.1) (sgn false (lN (numN X K))) = true
          · have r9 := r0.trans (nb1_t0 hsg hq1 ((hokv _).trans hq2))
            refine E_callV1 (pc := 94) C dX0_readOperand_94 m_X0_84 (x_tv l G A S _ _ _ _ _ _ L T _ _ hx hk hsg hq1 hq2) ⟨jle rfl, jle rfl⟩ rfl rfl rfl rfl rfl (jle rfl) ⟨Nat.zero_le _, Nat.zero_le _⟩ ?_
            try dsimp only [tt]
            refine E_callV1 (pc := 97) C dX0_readOperand_97 m_X0_152 (x_spread l G _ _ _ _ _ _ _ _ (gX_pd ho6 hk7 hpd.2.1) (gX_opl ho6 hk7) hpd.1 hpd.2.2.1) ⟨jle rfl, jle rfl⟩ (gX_pd ho6 hk7 hpd.2.1) rfl rfl rfl rfl (jle rfl) ⟨Nat.zero_le _, Nat.zero_le _⟩ ?_
            try dsimp only [tt]
            exact E_iret (pc := 100) C dX0_readOperand_100 rfl (vP.ta r9 (by rw [r9]; show some (Value.int (spF _ (va_up gv k _ k) _ _ _)) = _; rw [va_up_self]) (hk.adv hS) hg hp) (Nat.zero_le _) (Nat.zero_le _)
          · exact E_callVx (pc := 94) C hT9 dX0_readOperand_94 m_X0_84 (x_tv_x l G A S _ _ _ _ _ _ L T _ _ _ hst hx hk hsg (Or.inr ⟨hq1, hq2, rfl⟩)) ⟨jle rfl, jle rfl⟩ rfl rfl rfl rfl rfl (jle rfl) ⟨jle rfl, jle rfl⟩ (jle rfl) (jle rfl) (vP.x (by rw [r0]; exact (nb1_x0 hsg (fun _ z => hq2 ((hokv _).symm.trans z)))) hg)
        · exact E_callVx (pc := 94) C hT9 dX0_readOperand_94 m_X0_84 (x_tv_x l G A S _ _ _ _ _ _ L T _ _ _ hst hx hk hsg (Or.inl ⟨hq1, rfl⟩)) ⟨jle rfl, jle rfl⟩ rfl rfl rfl rfl rfl (jle rfl) ⟨jle rfl, jle rfl⟩ (jle rfl) (jle rfl) (vP.x (by rw [r0]; exact (nb1_x0 hsg (fun z _ => hq1 z))) hg)
    · refine E_aload_n (pc := 60) C dX0_readOperand_60 rfl rfl ?_
      refine E_get (pc := 61) C dX0_readOperand_61 f_X0_31 rfl rfl ?_
      refine E_get (pc := 64) C dX0_readOperand_64 f_X0_55 rfl rfl ?_
      try dsimp only [tt]
      refine E_sipush (pc := 67) (v := nI 129) C dX0_readOperand_67 (by decide) ?_
      refine E_icmp_neN (pc := 70) (tgt := 81) C dX0_readOperand_70 (by decide) (by omega) (by omega) (fun h70 => ?_) (fun h70 => ?_)
      · have r0 : valF X D o k K P gv = nb1 X K (fitF (mKind D (6 * o + k)) (bitsN D (6 * o + k))) P gv k := (if_neg h3).trans (if_neg (by first | (intro z; omega) | (intro z; exact h70 ((kcl_n hn hok).mpr z.2))))
        have hokv : ∀ v, fitF (mKind D (6 * o + k)) (bitsN D (6 * o + k)) v = jin2 (leF (mKind D (6 * o + k)) (Z.2.1 (6 * o + k)).2.1) (moF (mKind D (6 * o + k)) (Z.2.1 (6 * o + k)).2.1) v := fun v => by rw [hbits, fitF_lm]
        refine E_aload_n (pc := 81) C dX0_readOperand_81 rfl rfl ?_
        refine E_aload_n (pc := 82) C dX0_readOperand_82 rfl rfl ?_
        refine E_get (pc := 83) C dX0_readOperand_83 f_X0_31 rfl rfl ?_
        refine E_aload_n (pc := 86) C dX0_readOperand_86 rfl rfl ?_
        refine E_callV1 (pc := 87) C dX0_readOperand_87 m_X0_159 (x_least l G _ _ _ _ _ _ _ (gX_pd ho6 hk7 hpd.2.1) (gX_opl ho6 hk7) hpd.1 hpd.2.2.1) ⟨jle rfl, jle rfl⟩ (gX_pd ho6 hk7 hpd.2.1) rfl rfl rfl rfl (jle rfl) ⟨Nat.zero_le _, Nat.zero_le _⟩ ?_
        try dsimp only [tt]
        refine E_aload_n (pc := 90) C dX0_readOperand_90 rfl rfl ?_
        refine E_callV1 (pc := 91) C dX0_readOperand_91 m_X0_163 (x_most l G _ _ _ _ _ _ _ (gX_pd ho6 hk7 hpd.2.1) (gX_opl ho6 hk7) hpd.1 hpd.2.2.1) ⟨jle rfl, jle rfl⟩ (gX_pd ho6 hk7 hpd.2.1) rfl rfl rfl rfl (jle rfl) ⟨Nat.zero_le _, Nat.zero_le _⟩ ?_
        try dsimp only [tt]
        by_cases hsg : isSignF X K 45 = true
        · by_cases hq1 : (nextF X K.2.2).1 = 3 ∨ ((nextF X K.2.2).1 = 2 ∧ (nextF X K.2.2).2.2 - (nextF X K.2.2).2.1 ≤ 10)
          · by_cases hq2 : jin2 (leF (mKind D (6 * o + k)) (Z.2.1 (6 * o + k)).2.1) (moF (mKind D (6 * o + k)) (Z.2.1 (6 * o + k)).2.1) (sgn true (lN (numN X (nextF X K.2.2)))) = true
            · have r9 := r0.trans (nb1_t1 hsg hq1 ((hokv _).trans hq2))
              refine E_callV1 (pc := 94) C dX0_readOperand_94 m_X0_84 (x_tvm l G A S _ _ _ _ _ _ L T _ _ hx hk hsg hq1 hq2) ⟨jle rfl, jle rfl⟩ rfl rfl rfl rfl rfl (jle rfl) ⟨Nat.zero_le _, Nat.zero_le _⟩ ?_
              try dsimp only [tt]
              refine E_callV1 (pc := 97) C dX0_readOperand_97 m_X0_152 (x_spread l G _ _ _ _ _ _ _ _ (gX_pd ho6 hk7 hpd.2.1) (gX_opl ho6 hk7) hpd.1 hpd.2.2.1) ⟨jle rfl, jle rfl⟩ (gX_pd ho6 hk7 hpd.2.1) rfl rfl rfl rfl (jle rfl) ⟨Nat.zero_le _, Nat.zero_le _⟩ ?_
              try dsimp only [tt]
              exact E_iret (pc := 100) C dX0_readOperand_100 rfl (vP.ta r9 (by rw [r9]; show some (Value.int (spF _ (va_up gv k _ k) _ _ _)) = _; rw [va_up_self]) ((hk.adv hS).adv hS) hg hp) (Nat.zero_le _) (Nat.zero_le _)
            · exact E_callVx (pc := 94) C hT9 dX0_readOperand_94 m_X0_84 (x_tvm_x l G A S _ _ _ _ _ _ L T _ _ _ hst hx hk hsg (Or.inr ⟨hq1, hq2, rfl⟩)) ⟨jle rfl, jle rfl⟩ rfl rfl rfl rfl rfl (jle rfl) ⟨jle rfl, jle rfl⟩ (jle rfl) (jle rfl) (vP.x (by rw [r0]; exact (nb1_x2 hsg hq1 (fun z => hq2 ((hokv _).symm.trans z)))) hg)
          · exact E_callVx (pc := 94) C hT9 dX0_readOperand_94 m_X0_84 (x_tvm_x l G A S _ _ _ _ _ _ L T _ _ _ hst hx hk hsg (Or.inl ⟨hq1, rfl⟩)) ⟨jle rfl, jle rfl⟩ rfl rfl rfl rfl rfl (jle rfl) ⟨jle rfl, jle rfl⟩ (jle rfl) (jle rfl) (vP.x (by rw [r0]; exact (nb1_x1 hsg hq1)) hg)
        · have hsg : isSignF X K 45 = false := by simpa using hsg
          by_cases hq1 : K.1 = 3 ∨ (K.1 = 2 ∧ K.2.2 - K.2.1 ≤ 10)
          · by_cases hq2 : jin2 (leF (mKind D (6 * o + k)) (Z.2.1 (6 * o + k)).2.1) (moF (mKind D (6 * o + k)) (Z.2.1 (6 * o + k)).2.1) (sgn false (lN (numN X K))) = true
            · have r9 := r0.trans (nb1_t0 hsg hq1 ((hokv _).trans hq2))
              refine E_callV1 (pc := 94) C dX0_readOperand_94 m_X0_84 (x_tv l G A S _ _ _ _ _ _ L T _ _ hx hk hsg hq1 hq2) ⟨jle rfl, jle rfl⟩ rfl rfl rfl rfl rfl (jle rfl) ⟨Nat.zero_le _, Nat.zero_le _⟩ ?_
              try dsimp only [tt]
              refine E_callV1 (pc := 97) C dX0_readOperand_97 m_X0_152 (x_spread l G _ _ _ _ _ _ _ _ (gX_pd ho6 hk7 hpd.2.1) (gX_opl ho6 hk7) hpd.1 hpd.2.2.1) ⟨jle rfl, jle rfl⟩ (gX_pd ho6 hk7 hpd.2.1) rfl rfl rfl rfl (jle rfl) ⟨Nat.zero_le _, Nat.zero_le _⟩ ?_
              try dsimp only [tt]
              exact E_iret (pc := 100) C dX0_readOperand_100 rfl (vP.ta r9 (by rw [r9]; show some (Value.int (spF _ (va_up gv k _ k) _ _ _)) = _; rw [va_up_self]) (hk.adv hS) hg hp) (Nat.zero_le _) (Nat.zero_le _)
            · exact E_callVx (pc := 94) C hT9 dX0_readOperand_94 m_X0_84 (x_tv_x l G A S _ _ _ _ _ _ L T _ _ _ hst hx hk hsg (Or.inr ⟨hq1, hq2, rfl⟩)) ⟨jle rfl, jle rfl⟩ rfl rfl rfl rfl rfl (jle rfl) ⟨jle rfl, jle rfl⟩ (jle rfl) (jle rfl) (vP.x (by rw [r0]; exact (nb1_x0 hsg (fun _ z => hq2 ((hokv _).symm.trans z)))) hg)
          · exact E_callVx (pc := 94) C hT9 dX0_readOperand_94 m_X0_84 (x_tv_x l G A S _ _ _ _ _ _ L T _ _ _ hst hx hk hsg (Or.inl ⟨hq1, rfl⟩)) ⟨jle rfl, jle rfl⟩ rfl rfl rfl rfl rfl (jle rfl) ⟨jle rfl, jle rfl⟩ (jle rfl) (jle rfl) (vP.x (by rw [r0]; exact (nb1_x0 hsg (fun z _ => hq1 z))) hg)
      · have h2 : mKind D (6 * o + k) = 2 := by omega
        have hnm := (kcl_n hn hok).mp h70
        have r1 : valF X D o k K P gv = (none, nextF X K.2.2, useP P K.2.1 k o, va_up gv k 0) := (if_neg h3).trans (if_pos ⟨h2, hnm⟩)
        have hlx := (tk_one hn).2.2.2.2.2.2 (by have := (nm_len hn hnm).2; omega)
        refine E_aload_n (pc := 73) C dX0_readOperand_73 rfl rfl ?_
        refine E_iload_n (pc := 74) C dX0_readOperand_74 rfl rfl ?_
        refine E_iload_n (pc := 75) C dX0_readOperand_75 rfl rfl ?_
        refine E_callV0 (pc := 76) C dX0_readOperand_76 m_X0_156 (x_wantLabel l G A S _ _ _ _ _ _ L T o k hx hk (by omega)) ⟨jle rfl, jle rfl⟩ rfl rfl rfl rfl rfl (jle rfl) ⟨Nat.zero_le _, Nat.zero_le _⟩ ?_
        try dsimp only [tt]
        refine E_iconst (pc := 79) (v := nI 0) C dX0_readOperand_79 (by decide) ?_
        exact E_iret (pc := 80) C dX0_readOperand_80 rfl (vP.ta r1 (by rw [r1]; show some (Value.int (spF _ (va_up gv k 0 k) _ _ _)) = _; rw [va_up_self, spF_0 hsz.2 (hR.pp hW hk6)]) (hk.adv hS) hg (hp.use hn hnm ho hk6)) (Nat.zero_le _) (Nat.zero_le _)
  · have h3 : mKind D (6 * o + k) = 3 := by omega
    obtain ⟨s9, hs1, hs2, hs3, hs4⟩ := hpd.2.2.2.2 h3
    have r0 : valF X D o k K P gv = val1 X K P gv k (regV X K (mSetN D) s9 (mSetB D s9)) := by
      unfold valF
      rw [if_pos h3, hbits, hs4]
      unfold setN
      rw [hs2, nI_clamp (by have := hd.2.1.1; have := hb.1.1; omega)]
    refine E_aload_n (pc := 25) C dX0_readOperand_25 rfl rfl ?_
    refine E_aload_n (pc := 26) C dX0_readOperand_26 rfl rfl ?_
    refine E_get (pc := 27) C dX0_readOperand_27 f_X0_146 (gX_pd ho6 hk7 hpd.2.1) rfl ?_
    try dsimp only [tt]
    rw [hs3]
    refine E_callVp (pc := 30) C hT9 dX0_readOperand_30 m_X0_149 (x_regNum l G A S B Z Q L T C9 V s9 hst hx hA8 hk hd hb hs1) ⟨jle rfl, jle rfl⟩ rfl rfl rfl rfl rfl (jle rfl) ⟨jle rfl, jle rfl⟩ (jle rfl) (jle rfl) (fun E9 M9 h9 => by
      rcases h9 with ⟨n, -, -, z⟩ | ⟨z1, z2⟩
      · cases z
      · injection z2 with z2
        injection z2 with a b
        subst a b
        exact vP.x (by rw [r0, z1]; rfl) hg) (fun v9 M9 h9 => ?_)
    obtain ⟨n9, z1, z2, z3⟩ := h9.resolve_right (fun z => nomatch z.2)
    injection z3 with z3
    injection z3 with a b
    subst a b
    have r1 : valF X D o k K P gv = (none, nextF X K.2.2, P, va_up gv k (lN n9)) := by rw [r0, z1]; rfl
    refine E_low hz9 hT2 ?_
    try dsimp only [tt]
    refine E_istore (pc := 33) C dX0_readOperand_33 (by decide) rfl ?_
    dsimp only [List.set]
    refine E_aload_n (pc := 35) C dX0_readOperand_35 rfl rfl ?_
    refine E_get (pc := 36) C dX0_readOperand_36 f_X0_31 rfl rfl ?_
    refine E_callV0 (pc := 39) C dX0_readOperand_39 m_X0_76 (x_advance l G A S _ _ _ _ _ _ L T hx hk) ⟨jle rfl, jle rfl⟩ rfl rfl rfl rfl rfl (jle rfl) ⟨Nat.zero_le _, Nat.zero_le _⟩ ?_
    try dsimp only [tt]
    refine E_aload_n (pc := 42) C dX0_readOperand_42 rfl rfl ?_
    refine E_iload (pc := 43) C dX0_readOperand_43 rfl ?_
    refine E_i2l (pc := 45) C dX0_readOperand_45 (nI_l (by omega)) ?_
    refine E_callV1 (pc := 46) C dX0_readOperand_46 m_X0_152 (x_spread l G _ _ _ _ _ _ _ _ (gX_pd ho6 hk7 hpd.2.1) (gX_opl ho6 hk7) hpd.1 hpd.2.2.1) ⟨jle rfl, jle rfl⟩ (gX_pd ho6 hk7 hpd.2.1) rfl rfl rfl rfl (jle rfl) ⟨Nat.zero_le _, Nat.zero_le _⟩ ?_
    try dsimp only [tt]
    exact E_iret (pc := 49) C dX0_readOperand_49 rfl (vP.ta r1 (by rw [r1]; show some (Value.int (spF _ (va_up gv k (lN n9) k) _ _ _)) = _; rw [va_up_self]) (hk.adv hS) hg hp) (Nat.zero_le _) (Nat.zero_le _)
