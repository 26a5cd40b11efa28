set_option maxHeartbeats 4000000 in
set_option maxRecDepth 100000 in
theorem l_xops (l : Launch) (G : jG) {p : Program} {e : Env} {s : State} {m : MethodId} {args : Array Value} {below : List Frame} {meth : Method} {c : Code} (A : xA) (S : xS) (t : xT) (wr : Int32) (B : xB) (Z : xZ) (P : xC) (Q : xN) (V : xV) (L : xL) (T : jMem) {D : mD} (w : Int32) (o cn k : Nat) (v5 : Option Value) (C : jX0 p l (jR 7 140 0 0) s m args meth c G cX3_putOperands 6 RX3 none) (hd : dR D B Z D.2.2.1) (hb : nB B.2.2.1 12 ∧ nB B.2.2.2.2 60) (ho : o < D.2.2.1) (hc : k + cn = mOpds D o) (h4 : L.1 + 14 * cn ≤ 95 + (if k = 0 ∧ 0 < cn then 1 else 0)) : J p l e (jR 7 140 0 0) s m args below meth c G 6 0 0 (.inl (none, encX A S t wr B Z P Q V (apO L (opsT D o w cn k)) T)) 3 [some (.ref 873), some (.ref 8), some (.int (nI o)), some (.int w), some (.int (nI k)), v5] [] (encX A S t wr B Z P Q V L T) 0 0 := by
  have hm1 := hd.2.2.2.1.1
  have hm2 := hb.2.1
  have ho6 : o < 60 := by omega
  obtain ⟨hR, hW⟩ := hd.2.2.2.2 o ho
  have hsz : (Z.1 o).1 = mOpds D o := hR.1.1
  have hs6 := hR.1.2.1
  induction cn generalizing k L v5 with
  | zero =>
    refine J_iload (pc := 3) C dX3_putOperands_3 rfl ?_
    refine J_aload_n (pc := 5) C dX3_putOperands_5 rfl rfl ?_
    refine J_get (pc := 6) C dX3_putOperands_6 f_X3_70 rfl rfl ?_
    refine J_iload_n (pc := 9) C dX3_putOperands_9 rfl rfl ?_
    refine J_aaldN (pc := 10) C dX3_putOperands_10 rfl (by decide) (by omega) (by decide) rfl ?_
    refine J_get (pc := 11) C dX3_putOperands_11 f_X3_74 (gX_op ho6) rfl ?_
    try dsimp only
    refine J_icmp_geN (pc := 14) (tgt := 87) C dX3_putOperands_14 (by decide) (by omega) (by omega) (fun h14 => ?_) (fun h14 => ?_)
    · exact J_vret (pc := 87) C dX3_putOperands_87 rfl (rfl) (Nat.zero_le _) (Nat.zero_le _)
    · omega
  | succ cn ih =>
    have hk6 : k < mOpds D o := by omega
    have hk7 : k < 6 := by omega
    have hpd := hR.2.1 k hk6
    have hkd := hpd.1
    have hga := gth_abs (kd := mKind D (6 * o + k)) (w := w) hpd.2.2.1 (hR.pp hW hk6)
    rw [← hR.tak hW w hk6] at hga
    have h32 : 2 ^ (Z.2.1 (6 * o + k)).2.1 ≤ 2 ^ 32 := Nat.pow_le_pow_right (by decide) hpd.2.2.1.2
    have h10 : (2 : Nat) ^ 32 < 10 ^ 10 := by decide
    have hnl := nuL_le (v := takenF D o w k) (by omega)
    refine J_iload (pc := 3) C dX3_putOperands_3 rfl ?_
    refine J_aload_n (pc := 5) C dX3_putOperands_5 rfl rfl ?_
    refine J_get (pc := 6) C dX3_putOperands_6 f_X3_70 rfl rfl ?_
    refine J_iload_n (pc := 9) C dX3_putOperands_9 rfl rfl ?_
    refine J_aaldN (pc := 10) C dX3_putOperands_10 rfl (by decide) (by omega) (by decide) rfl ?_
    refine J_get (pc := 11) C dX3_putOperands_11 f_X3_74 (gX_op ho6) rfl ?_
    try dsimp only
    refine J_icmp_geN (pc := 14) (tgt := 87) C dX3_putOperands_14 (by decide) (by omega) (by omega) (fun h14 => ?_) (fun h14 => ?_)
    · omega
    · refine J_aload_n (pc := 17) C dX3_putOperands_17 rfl rfl ?_
      refine J_get (pc := 18) C dX3_putOperands_18 f_X3_70 rfl rfl ?_
      refine J_iload_n (pc := 21) C dX3_putOperands_21 rfl rfl ?_
      refine J_aaldN (pc := 22) C dX3_putOperands_22 rfl (by decide) (by omega) (by decide) rfl ?_
      refine J_get (pc := 23) C dX3_putOperands_23 f_X3_77 (gX_op ho6) rfl ?_
      refine J_iload (pc := 26) C dX3_putOperands_26 rfl ?_
      refine J_aaldN (pc := 28) C dX3_putOperands_28 (gX_ops ho6) (by decide) (by omega) (by decide) rfl ?_
      refine J_astore (pc := 29) C dX3_putOperands_29 (by decide) rfl ?_
      dsimp only [List.set]
      refine J_aload_n (pc := 31) C dX3_putOperands_31 rfl rfl ?_
      refine J_iload (pc := 32) C dX3_putOperands_32 rfl ?_
      refine J_if_neN (pc := 34) (tgt := 42) C dX3_putOperands_34 (by decide) (by omega) (fun h34 => ?_) (fun h34 => ?_)
      · have h4z : L.1 + 14 * (cn + 1) ≤ 95 := by rw [if_neg (fun z => h34 z.1)] at h4; omega
        refine J_ldcS (pc := 42) (i := 17) C dX3_putOperands_42 rfl ?_
        refine J_callV0 (pc := 44) C dX3_putOperands_44 m_X3_66 (x_putAll l G _ _ _ _ _ _ _ _ _ _ _ (i := 17) rfl (by show L.1 + 2 ≤ 96; omega)) ⟨jle rfl, jle rfl⟩ rfl rfl rfl rfl rfl (jle rfl) ⟨Nat.zero_le _, Nat.zero_le _⟩ ?_
        try dsimp only
        refine J_aload (pc := 47) C dX3_putOperands_47 rfl ?_
        refine J_get (pc := 49) C dX3_putOperands_49 f_X3_85 (gX_pd ho6 hk7 hpd.2.1) rfl ?_
        try dsimp only
        refine J_sipush (pc := 52) (v := nI 139) C dX3_putOperands_52 (by decide) ?_
        refine J_icmp_neN (pc := 55) (tgt := 71) C dX3_putOperands_55 (by decide) (by omega) (by omega) (fun h55 => ?_) (fun h55 => ?_)
        · have h3 : ¬ mKind D (6 * o + k) = 3 := by omega
          refine J_aload_n (pc := 71) C dX3_putOperands_71 rfl rfl ?_
          refine J_aload (pc := 72) C dX3_putOperands_72 rfl ?_
          refine J_iload_n (pc := 74) C dX3_putOperands_74 rfl rfl ?_
          refine J_callV1 (pc := 75) C dX3_putOperands_75 m_X3_96 (x_gather l G _ _ _ _ _ _ _ w (gX_pd ho6 hk7 hpd.2.1) (gX_opl ho6 hk7) hpd.1 hpd.2.2.1) ⟨jle rfl, jle rfl⟩ (gX_pd ho6 hk7 hpd.2.1) rfl rfl rfl rfl (jle rfl) ⟨Nat.zero_le _, Nat.zero_le _⟩ ?_
          try dsimp only
          rw [← hR.tak hW w hk6]
          refine J_callV0 (pc := 78) C dX3_putOperands_78 m_X3_100 (x_putNumber l G _ _ _ _ _ _ _ _ _ _ _ (takenF D o w k) (by omega) (by simp only [apO_1, List.length_cons, List.length_nil]; omega)) ⟨jle rfl, jle rfl⟩ rfl rfl rfl rfl rfl (jle rfl) ⟨Nat.zero_le _, Nat.zero_le _⟩ ?_
          try dsimp only
          refine J_iincN (pc := 81) C dX3_putOperands_81 rfl (by decide) rfl ?_
          dsimp only [List.set]
          refine J_goto (pc := 84) (tgt := 3) C dX3_putOperands_84 (by decide) ?_
          have hT : opT D o w k = [44, 32] ++ ([] ++ nuL (takenF D o w k)) := by rw [opT, if_neg h34, if_neg h3]
          rw [show opsT D o w (cn + 1) k = opT D o w k ++ opsT D o w cn (k + 1) from rfl, apO_app, hT]
          have hl : (apO L ([44, 32] ++ ([] ++ nuL (takenF D o w k)))).1 ≤ L.1 + 14 := by
            rw [apO_1]; simp only [List.length_append, List.length_cons, List.length_nil]; omega
          exact J.to (by first | (rw [apO_app, apO_app]; done) | (rw [apO_app, apO_app]; rfl)) (ih (L := apO L ([44, 32] ++ ([] ++ nuL (takenF D o w k)))) (k := k + 1) _ (by omega) (by rw [if_neg (by omega)]; rw [if_neg (by omega)] at h4; omega))
        · have h3 : mKind D (6 * o + k) = 3 := by omega
          obtain ⟨s9, hs1, hs2, hs3, hs4⟩ := hpd.2.2.2.2 h3
          have hs5 := hd.2.1.1
          have hs6' := hb.1.1
          have hsn : setN D (6 * o + k) = s9 := by unfold setN; rw [hs2, nI_clamp (by omega)]
          have hnx : xnL B.2.2.1 s9 0 = nmR (mSetN D) (setN D (6 * o + k)) 0 := by rw [hsn]; exact (nmR_xn (hd.2.1.2 s9 hs1) 0 (Nat.zero_le _)).symm
          have hx10 := hd.1.2.2.2.2 s9 hs1
          have hxl := xnL_len (N := B.2.2.1) (i := s9) (k := 0)
          have hxl2 : (nmR (mSetN D) (setN D (6 * o + k)) 0).length ≤ 10 := by rw [← hnx]; omega
          have hb6 := (hd.2.2.1 s9 hs1).2.2
          have h64 : 2 ^ (Z.2.1 (6 * o + k)).2.1 ≤ 2 ^ 6 := Nat.pow_le_pow_right (by decide) (by omega)
          have hnr := nuL_r (v := takenF D o w k) (by omega) (hga.2 h3)
          refine J_aload_n (pc := 58) C dX3_putOperands_58 rfl rfl ?_
          refine J_aload_n (pc := 59) C dX3_putOperands_59 rfl rfl ?_
          refine J_get (pc := 60) C dX3_putOperands_60 f_X3_90 rfl rfl ?_
          refine J_aload (pc := 63) C dX3_putOperands_63 rfl ?_
          refine J_get (pc := 65) C dX3_putOperands_65 f_X3_93 (gX_pd ho6 hk7 hpd.2.1) rfl ?_
          try dsimp only
          rw [hs3]
          refine J_callV0 (pc := 68) C dX3_putOperands_68 m_X3_36 (x_putName l G _ _ _ _ _ _ _ _ _ _ _ (a := 9) (ml := 12) (nl := 144) (N := B.2.2.1) s9 (fun _ => rfl) (fun _ => rfl) (fun _ => rfl) rfl hb.1 (by omega) (by simp only [apO_1, List.length_cons, List.length_nil]; omega)) ⟨jle rfl, jle rfl⟩ rfl rfl rfl rfl rfl (jle rfl) ⟨Nat.zero_le _, Nat.zero_le _⟩ ?_
          try dsimp only
          refine J_aload_n (pc := 71) C dX3_putOperands_71 rfl rfl ?_
          refine J_aload (pc := 72) C dX3_putOperands_72 rfl ?_
          refine J_iload_n (pc := 74) C dX3_putOperands_74 rfl rfl ?_
          refine J_callV1 (pc := 75) C dX3_putOperands_75 m_X3_96 (x_gather l G _ _ _ _ _ _ _ w (gX_pd ho6 hk7 hpd.2.1) (gX_opl ho6 hk7) hpd.1 hpd.2.2.1) ⟨jle rfl, jle rfl⟩ (gX_pd ho6 hk7 hpd.2.1) rfl rfl rfl rfl (jle rfl) ⟨Nat.zero_le _, Nat.zero_le _⟩ ?_
          try dsimp only
          rw [← hR.tak hW w hk6]
          refine J_callV0 (pc := 78) C dX3_putOperands_78 m_X3_100 (x_putNumber l G _ _ _ _ _ _ _ _ _ _ _ (takenF D o w k) (by omega) (by simp only [apO_1, List.length_cons, List.length_nil, xnL_len]; omega)) ⟨jle rfl, jle rfl⟩ rfl rfl rfl rfl rfl (jle rfl) ⟨Nat.zero_le _, Nat.zero_le _⟩ ?_
          try dsimp only
          refine J_iincN (pc := 81) C dX3_putOperands_81 rfl (by decide) rfl ?_
          dsimp only [List.set]
          refine J_goto (pc := 84) (tgt := 3) C dX3_putOperands_84 (by decide) ?_
          rw [hnx]
          have hT : opT D o w k = [44, 32] ++ (nmR (mSetN D) (setN D (6 * o + k)) 0 ++ nuL (takenF D o w k)) := by rw [opT, if_neg h34, if_pos h3]
          rw [show opsT D o w (cn + 1) k = opT D o w k ++ opsT D o w cn (k + 1) from rfl, apO_app, hT]
          have hl : (apO L ([44, 32] ++ (nmR (mSetN D) (setN D (6 * o + k)) 0 ++ nuL (takenF D o w k)))).1 ≤ L.1 + 14 := by
            rw [apO_1]; simp only [List.length_append, List.length_cons, List.length_nil]; omega
          exact J.to (by first | (rw [apO_app, apO_app]; done) | (rw [apO_app, apO_app]; rfl)) (ih (L := apO L ([44, 32] ++ (nmR (mSetN D) (setN D (6 * o + k)) 0 ++ nuL (takenF D o w k)))) (k := k + 1) _ (by omega) (by rw [if_neg (by omega)]; rw [if_neg (by omega)] at h4; omega))
      · have h4z : L.1 + 14 * (cn + 1) ≤ 96 := by rw [if_pos ⟨h34, by omega⟩] at h4; omega
        refine J_ldcS (pc := 37) (i := 16) C dX3_putOperands_37 rfl ?_
        refine J_goto (pc := 39) (tgt := 44) C dX3_putOperands_39 (by decide) ?_
        refine J_callV0 (pc := 44) C dX3_putOperands_44 m_X3_66 (x_putAll l G _ _ _ _ _ _ _ _ _ _ _ (i := 16) rfl (by show L.1 + 1 ≤ 96; omega)) ⟨jle rfl, jle rfl⟩ rfl rfl rfl rfl rfl (jle rfl) ⟨Nat.zero_le _, Nat.zero_le _⟩ ?_
        try dsimp only
        refine J_aload (pc := 47) C dX3_putOperands_47 rfl ?_
        refine J_get (pc := 49) C dX3_putOperands_49 f_X3_85 (gX_pd ho6 hk7 hpd.2.1) rfl ?_
        try dsimp only
        refine J_sipush (pc := 52) (v := nI 139) C dX3_putOperands_52 (by decide) ?_
        refine J_icmp_neN (pc := 55) (tgt := 71) C dX3_putOperands_55 (by decide) (by omega) (by omega) (fun h55 => ?_) (fun h55 => ?_)
        · have h3 : ¬ mKind D (6 * o + k) = 3 := by omega
          refine J_aload_n (pc := 71) C dX3_putOperands_71 rfl rfl ?_
          refine J_aload (pc := 72) C dX3_putOperands_72 rfl ?_
          refine J_iload_n (pc := 74) C dX3_putOperands_74 rfl rfl ?_
          refine J_callV1 (pc := 75) C dX3_putOperands_75 m_X3_96 (x_gather l G _ _ _ _ _ _ _ w (gX_pd ho6 hk7 hpd.2.1) (gX_opl ho6 hk7) hpd.1 hpd.2.2.1) ⟨jle rfl, jle rfl⟩ (gX_pd ho6 hk7 hpd.2.1) rfl rfl rfl rfl (jle rfl) ⟨Nat.zero_le _, Nat.zero_le _⟩ ?_
          try dsimp only
          rw [← hR.tak hW w hk6]
          refine J_callV0 (pc := 78) C dX3_putOperands_78 m_X3_100 (x_putNumber l G _ _ _ _ _ _ _ _ _ _ _ (takenF D o w k) (by omega) (by simp only [apO_1, List.length_cons, List.length_nil]; omega)) ⟨jle rfl, jle rfl⟩ rfl rfl rfl rfl rfl (jle rfl) ⟨Nat.zero_le _, Nat.zero_le _⟩ ?_
          try dsimp only
          refine J_iincN (pc := 81) C dX3_putOperands_81 rfl (by decide) rfl ?_
          dsimp only [List.set]
          refine J_goto (pc := 84) (tgt := 3) C dX3_putOperands_84 (by decide) ?_
          have hT : opT D o w k = [32] ++ ([] ++ nuL (takenF D o w k)) := by rw [opT, if_pos h34, if_neg h3]
          rw [show opsT D o w (cn + 1) k = opT D o w k ++ opsT D o w cn (k + 1) from rfl, apO_app, hT]
          have hl : (apO L ([32] ++ ([] ++ nuL (takenF D o w k)))).1 ≤ L.1 + 13 := by
            rw [apO_1]; simp only [List.length_append, List.length_cons, List.length_nil]; omega
          exact J.to (by first | (rw [apO_app, apO_app]; done) | (rw [apO_app, apO_app]; rfl)) (ih (L := apO L ([32] ++ ([] ++ nuL (takenF D o w k)))) (k := k + 1) _ (by omega) (by rw [if_neg (by omega)]; rw [if_pos ⟨h34, by omega⟩] at h4; omega))
        · have h3 : mKind D (6 * o + k) = 3 := by omega
          obtain ⟨s9, hs1, hs2, hs3, hs4⟩ := hpd.2.2.2.2 h3
          have hs5 := hd.2.1.1
          have hs6' := hb.1.1
          have hsn : setN D (6 * o + k) = s9 := by unfold setN; rw [hs2, nI_clamp (by omega)]
          have hnx : xnL B.2.2.1 s9 0 = nmR (mSetN D) (setN D (6 * o + k)) 0 := by rw [hsn]; exact (nmR_xn (hd.2.1.2 s9 hs1) 0 (Nat.zero_le _)).symm
          have hx10 := hd.1.2.2.2.2 s9 hs1
          have hxl := xnL_len (N := B.2.2.1) (i := s9) (k := 0)
          have hxl2 : (nmR (mSetN D) (setN D (6 * o + k)) 0).length ≤ 10 := by rw [← hnx]; omega
          have hb6 := (hd.2.2.1 s9 hs1).2.2
          have h64 : 2 ^ (Z.2.1 (6 * o + k)).2.1 ≤ 2 ^ 6 := Nat.pow_le_pow_right (by decide) (by omega)
          have hnr := nuL_r (v := takenF D o w k) (by omega) (hga.2 h3)
          refine J_aload_n (pc := 58) C dX3_putOperands_58 rfl rfl ?_
          refine J_aload_n (pc := 59) C dX3_putOperands_59 rfl rfl ?_
          refine J_get (pc := 60) C dX3_putOperands_60 f_X3_90 rfl rfl ?_
          refine J_aload (pc := 63) C dX3_putOperands_63 rfl ?_
          refine J_get (pc := 65) C dX3_putOperands_65 f_X3_93 (gX_pd ho6 hk7 hpd.2.1) rfl ?_
          try dsimp only
          rw [hs3]
          refine J_callV0 (pc := 68) C dX3_putOperands_68 m_X3_36 (x_putName l G _ _ _ _ _ _ _ _ _ _ _ (a := 9) (ml := 12) (nl := 144) (N := B.2.2.1) s9 (fun _ => rfl) (fun _ => rfl) (fun _ => rfl) rfl hb.1 (by omega) (by simp only [apO_1, List.length_cons, List.length_nil]; omega)) ⟨jle rfl, jle rfl⟩ rfl rfl rfl rfl rfl (jle rfl) ⟨Nat.zero_le _, Nat.zero_le _⟩ ?_
          try dsimp only
          refine J_aload_n (pc := 71) C dX3_putOperands_71 rfl rfl ?_
          refine J_aload (pc := 72) C dX3_putOperands_72 rfl ?_
          refine J_iload_n (pc := 74) C dX3_putOperands_74 rfl rfl ?_
          refine J_callV1 (pc := 75) C dX3_putOperands_75 m_X3_96 (x_gather l G _ _ _ _ _ _ _ w (gX_pd ho6 hk7 hpd.2.1) (gX_opl ho6 hk7) hpd.1 hpd.2.2.1) ⟨jle rfl, jle rfl⟩ (gX_pd ho6 hk7 hpd.2.1) rfl rfl rfl rfl (jle rfl) ⟨Nat.zero_le _, Nat.zero_le _⟩ ?_
          try dsimp only
          rw [← hR.tak hW w hk6]
          refine J_callV0 (pc := 78) C dX3_putOperands_78 m_X3_100 (x_putNumber l G _ _ _ _ _ _ _ _ _ _ _ (takenF D o w k) (by omega) (by simp only [apO_1, List.length_cons, List.length_nil, xnL_len]; omega)) ⟨jle rfl, jle rfl⟩ rfl rfl rfl rfl rfl (jle rfl) ⟨Nat.zero_le _, Nat.zero_le _⟩ ?_
          try dsimp only
          refine J_iincN (pc := 81) C dX3_putOperands_81 rfl (by decide) rfl ?_
          dsimp only [List.set]
          refine J_goto (pc := 84) (tgt := 3) C dX3_putOperands_84 (by decide) ?_
          rw [hnx]
          have hT : opT D o w k = [32] ++ (nmR (mSetN D) (setN D (6 * o + k)) 0 ++ nuL (takenF D o w k)) := by rw [opT, if_pos h34, if_pos h3]
          rw [show opsT D o w (cn + 1) k = opT D o w k ++ opsT D o w cn (k + 1) from rfl, apO_app, hT]
          have hl : (apO L ([32] ++ (nmR (mSetN D) (setN D (6 * o + k)) 0 ++ nuL (takenF D o w k)))).1 ≤ L.1 + 13 := by
            rw [apO_1]; simp only [List.length_append, List.length_cons, List.length_nil]; omega
          exact J.to (by first | (rw [apO_app, apO_app]; done) | (rw [apO_app, apO_app]; rfl)) (ih (L := apO L ([32] ++ (nmR (mSetN D) (setN D (6 * o + k)) 0 ++ nuL (takenF D o w k)))) (k := k + 1) _ (by omega) (by rw [if_neg (by omega)]; rw [if_pos ⟨h34, by omega⟩] at h4; omega))
set_option maxHeartbeats 4000000 in
set_option maxRecDepth 100000 in
theorem x_putOperands (l : Launch) (G : jG) (A : xA) (S : xS) (t : xT) (wr : Int32) (B : xB) (Z : xZ) (P : xC) (Q : xN) (V : xV) (L : xL) (T : jMem) {D : mD} (w : Int32) (o : Nat) (hd : dR D B Z D.2.2.1) (hb : nB B.2.2.1 12 ∧ nB B.2.2.2.2 60) (ho : o < D.2.2.1) (h4 : L.1 ≤ 12) : jC l G yX3_putOperands cX3_putOperands 6 none 7 140 0 0 [.ref 873, .ref 8, .int (nI o), .int w] (encX A S t wr B Z P Q V L T) (.inl (none, encX A S t wr B Z P Q V (apO L (opsT D o w (mOpds D o) 0)) T)) := by
  refine jC.of (by decide) 2 rfl [some (.ref 873), some (.ref 8), some (.int (nI o)), some (.int w), none, none] rfl (fun p e s m args below meth c C hT9 hNm9 => ?_)
  have hs6 := (hd.2.2.2.2 o ho).1.1.2.1
  refine J_iconst (pc := 0) (v := nI 0) C dX3_putOperands_0 (by decide) ?_
  refine J_istore (pc := 1) C dX3_putOperands_1 (by decide) rfl ?_
  dsimp only [List.set]
  exact l_xops l G A S t wr B Z P Q V L T w o (mOpds D o) 0 none C hd hb ho (Nat.zero_add _) (by split <;> omega)
set_option maxHeartbeats 4000000 in
set_option maxRecDepth 100000 in
theorem x_write (l : Launch) (G : jG) (A : xA) (S : xS) (t : xT) (wr : Int32) (B : xB) (Z : xZ) (P : xC) (Q : xN) (V : xV) (L : xL) (T : jMem) {D : mD} (w : Int32) (hd : dR D B Z D.2.2.1) (hb : nB B.2.2.1 12 ∧ nB B.2.2.2.2 60) : jC l G yX3_write cX3_write 4 none 8 165 0 0 [.ref 873, .ref 8, .int w] (encX A S t wr B Z P Q V L T) (.inl (none, encX A S t wr B Z P Q V (apO (0, L.2) (textL D w)) T)) := by
  refine jC.of (by decide) 1 rfl [some (.ref 873), some (.ref 8), some (.int w), none] rfl (fun p e s m args below meth c C hT9 hNm9 => ?_)
  have hm1 := hd.2.2.2.1.1
  have hm2 := hb.2.1
  have hB1 := hd.1.1
  have hW8 := hd.1.2.2.2.1
  have hW9 := hd.1.2.1
  have hoo := ooF_lt (wt := mWhat D) (W := D.1) (w := w) (m := D.2.2.1) (o := 0)
  obtain ⟨o, eo⟩ : ∃ z, z = opOfF D w := ⟨_, rfl⟩
  rw [show ooF (mWhat D) D.1 w D.2.2.1 0 = o from eo.symm] at hoo
  have hxo : xoF Z w B.2.2.2.2.1 0 = o := by rw [hm1, xoF_eq (fun i hi => (hd.2.2.2.2 i hi).1)]; exact eo.symm
  obtain ⟨cn, ecn⟩ : ∃ z, z = D.1 / 4 := ⟨_, rfl⟩
  have e4 : D.1 = 4 * cn := by omega
  refine J_aload_n (pc := 0) C dX3_write_0 rfl rfl ?_
  refine J_iconst (pc := 1) (v := nI 0) C dX3_write_1 (by decide) ?_
  refine J_putU (pc := 2) C dX3_write_2 p_X3_15 rfl (jlt rfl) rfl rfl (uX_lsize _) ?_
  try dsimp only
  refine J_aload_n (pc := 5) C dX3_write_5 rfl rfl ?_
  refine J_iload_n (pc := 6) C dX3_write_6 rfl rfl ?_
  refine J_callV1 (pc := 7) C dX3_write_7 m_X3_19 (x_opOf l G _ _ _ _ _ _ _ _ _ _ _ w (by omega)) ⟨jle rfl, jle rfl⟩ rfl rfl rfl rfl rfl (jle rfl) ⟨Nat.zero_le _, Nat.zero_le _⟩ ?_
  try dsimp only
  rw [hxo]
  refine J_istore_n (pc := 10) C dX3_write_10 rfl (by decide) rfl ?_
  dsimp only [List.set]
  refine J_iload_n (pc := 11) C dX3_write_11 rfl rfl ?_
  refine J_if_ge (pc := 12) (tgt := 27) C dX3_write_12 (by decide) (fun h12 => ?_) (fun h12 => ?_)
  · have ho := (lI_pos (by omega)).mp h12
    rw [lI_n ho]
    have hol : o < D.2.2.1 := by omega
    have hnx := nmR_xn (hd.2.2.2.1.2 o hol) 0 (Nat.zero_le _)
    have hxl := xnL_len (N := B.2.2.2.2) (i := o) (k := 0)
    have hx12 := (hd.2.2.2.1.2 o hol).1.2
    have hT : textL D w = (nmR (mOpN D) o 0 ++ opsT D o w (mOpds D o) 0) ++ [59] := by rw [textL, ← eo, if_neg ho]
    have hlen := opsT_len (w := w) hd hb.1 hol
    rw [hT, apO_app, apO_app, hnx]
    refine J_aload_n (pc := 27) C dX3_write_27 rfl rfl ?_
    refine J_aload_n (pc := 28) C dX3_write_28 rfl rfl ?_
    refine J_get (pc := 29) C dX3_write_29 f_X3_32 rfl rfl ?_
    refine J_iload_n (pc := 32) C dX3_write_32 rfl rfl ?_
    refine J_callV0 (pc := 33) C dX3_write_33 m_X3_36 (x_putName l G _ _ _ _ _ _ _ _ _ _ _ (a := 13) (ml := 60) (nl := 720) (N := B.2.2.2.2) o (fun _ => rfl) (fun _ => rfl) (fun _ => rfl) rfl hb.2 (by omega) (by show 0 + B.2.2.2.2.2.2 o ≤ 96; omega)) ⟨jle rfl, jle rfl⟩ rfl rfl rfl rfl rfl (jle rfl) ⟨Nat.zero_le _, Nat.zero_le _⟩ ?_
    try dsimp only
    refine J_aload_n (pc := 36) C dX3_write_36 rfl rfl ?_
    refine J_aload_n (pc := 37) C dX3_write_37 rfl rfl ?_
    refine J_iload_n (pc := 38) C dX3_write_38 rfl rfl ?_
    refine J_iload_n (pc := 39) C dX3_write_39 rfl rfl ?_
    refine J_callV0 (pc := 40) C dX3_write_40 m_X3_40 (x_putOperands l G _ _ _ _ _ _ _ _ _ _ _ w o hd hb hol (by rw [apO_1, hxl]; show 0 + _ ≤ 12; omega)) ⟨jle rfl, jle rfl⟩ rfl rfl rfl rfl rfl (jle rfl) ⟨Nat.zero_le _, Nat.zero_le _⟩ ?_
    try dsimp only
    refine J_aload_n (pc := 43) C dX3_write_43 rfl rfl ?_
    refine J_bipush (pc := 44) (v := nI 59) C dX3_write_44 (by decide) ?_
    refine J_callV0 (pc := 46) C dX3_write_46 m_X3_44 (x_put l G _ _ _ _ _ _ _ _ _ _ _ _ (by rw [apO_1, apO_1, hxl]; show 0 + _ + _ < 96; omega)) ⟨jle rfl, jle rfl⟩ rfl rfl rfl rfl rfl (jle rfl) ⟨Nat.zero_le _, Nat.zero_le _⟩ ?_
    try dsimp only
    exact J_vret (pc := 49) C dX3_write_49 rfl (rfl) (Nat.zero_le _) (Nat.zero_le _)
  · have ho : o = 1000 := by rcases hoo with z | z; exact z; exact absurd ((lI_pos (by omega)).mpr (by omega)) h12
    have hT : textL D w = ([119, 111, 114, 100, 32, 48, 120] ++ hxL w cn) ++ [59] := by rw [textL, if_pos (eo.symm.trans ho), ← ecn]
    rw [hT, apO_app]
    refine J_aload_n (pc := 15) C dX3_write_15 rfl rfl ?_
    refine J_iload_n (pc := 16) C dX3_write_16 rfl rfl ?_
    refine J_aload_n (pc := 17) C dX3_write_17 rfl rfl ?_
    refine J_get (pc := 18) C dX3_write_18 f_X3_25 rfl rfl ?_
    try dsimp only
    rw [hB1, show nI D.1 = nI (4 * cn) by rw [e4]]
    refine J_callV0 (pc := 21) C dX3_write_21 m_X3_28 (x_putPlainWord l G _ _ _ _ _ _ _ _ _ _ _ w cn (by omega) (by show 0 + 7 + cn < 96; omega)) ⟨jle rfl, jle rfl⟩ rfl rfl rfl rfl rfl (jle rfl) ⟨Nat.zero_le _, Nat.zero_le _⟩ ?_
    try dsimp only
    refine J_goto (pc := 24) (tgt := 43) C dX3_write_24 (by decide) ?_
    refine J_aload_n (pc := 43) C dX3_write_43 rfl rfl ?_
    refine J_bipush (pc := 44) (v := nI 59) C dX3_write_44 (by decide) ?_
    refine J_callV0 (pc := 46) C dX3_write_46 m_X3_44 (x_put l G _ _ _ _ _ _ _ _ _ _ _ _ (by rw [apO_1]; simp only [List.length_append, List.length_cons, List.length_nil, hxL_len]; show 0 + _ < 96; omega)) ⟨jle rfl, jle rfl⟩ rfl rfl rfl rfl rfl (jle rfl) ⟨Nat.zero_le _, Nat.zero_le _⟩ ?_
    try dsimp only
    exact J_vret (pc := 49) C dX3_write_49 rfl (rfl) (Nat.zero_le _) (Nat.zero_le _)
set_option maxHeartbeats 4000000 in
set_option maxRecDepth 100000 in
theorem l_x8 (l : Launch) (G : jG) {p : Program} {e : Env} {s : State} {m : MethodId} {args : Array Value} {below : List Frame} {meth : Method} {c : Code} (A : xA) (S : xS) (t : xT) (wr : Int32) (B : xB) (Z : xZ) (P : xC) (Q : xN) (V : xV) (L : xL) (T : jMem) (k j : Nat) (v : Int64) (C : jX0 p l (jR 1 12 0 0) s m args meth c G cX3_eightFrom 5 RX3 (some .long)) (hk : k < 50) (hj : j ≤ 8) (ho : L.1 ≤ 96) (hL : ∀ q, q < L.1 → L.2 q < 256) : J p l e (jR 1 12 0 0) s m args below meth c G 5 0 0 (.inl (some (.long (l8F L k j v)), encX A S t wr B Z P Q V L T)) 5 [some (.ref 873), some (.int (nI (8 * k))), some (.long v), none, some (.int (nI (8 * k + j)))] [] (encX A S t wr B Z P Q V L T) 0 0 := by
  induction hm : 8 - j generalizing j v with
  | zero =>
    rw [show l8F L k j v = v by rw [l8F, if_neg (by omega)]]
    refine J_iload (pc := 5) C dX3_eightFrom_5 rfl ?_
    refine J_iload_n (pc := 7) C dX3_eightFrom_7 rfl rfl ?_
    refine J_bipush (pc := 8) (v := nI 8) C dX3_eightFrom_8 (by decide) ?_
    refine J_iaddN (pc := 10) C dX3_eightFrom_10 ?_
    refine J_icmp_geN (pc := 11) (tgt := 47) C dX3_eightFrom_11 (by decide) (by omega) (by omega) (fun h11 => ?_) (fun h11 => ?_)
    · refine J_lload_n (pc := 47) C dX3_eightFrom_47 rfl rfl ?_
      exact J_lret (pc := 48) C dX3_eightFrom_48 rfl (rfl) (Nat.zero_le _) (Nat.zero_le _)
    · omega
  | succ d ih =>
    have h1 : l8F L k j v = l8F L k (j + 1) (v <<< ((nI 8).toInt64 &&& 63) ||| lN (if 8 * k + j < L.1 then L.2 (8 * k + j) else 0)) := by
      conv => lhs; rw [l8F]
      rw [if_pos (by omega)]
    rw [h1]
    refine J_iload (pc := 5) C dX3_eightFrom_5 rfl ?_
    refine J_iload_n (pc := 7) C dX3_eightFrom_7 rfl rfl ?_
    refine J_bipush (pc := 8) (v := nI 8) C dX3_eightFrom_8 (by decide) ?_
    refine J_iaddN (pc := 10) C dX3_eightFrom_10 ?_
    refine J_icmp_geN (pc := 11) (tgt := 47) C dX3_eightFrom_11 (by decide) (by omega) (by omega) (fun h11 => ?_) (fun h11 => ?_)
    · omega
    · refine J_lload_n (pc := 14) C dX3_eightFrom_14 rfl rfl ?_
      refine J_bipush (pc := 15) (v := nI 8) C dX3_eightFrom_15 (by decide) ?_
      refine J_lshl (pc := 17) C dX3_eightFrom_17 rfl ?_
      refine J_iload (pc := 18) C dX3_eightFrom_18 rfl ?_
      refine J_aload_n (pc := 20) C dX3_eightFrom_20 rfl rfl ?_
      refine J_get (pc := 21) C dX3_eightFrom_21 f_X3_15 rfl rfl ?_
      try dsimp only
      refine J_icmp_geN (pc := 24) (tgt := 37) C dX3_eightFrom_24 (by decide) (by omega) (by omega) (fun h24 => ?_) (fun h24 => ?_)
      · rw [if_neg (by omega)]
        refine J_iconst (pc := 37) (v := nI 0) C dX3_eightFrom_37 (by decide) ?_
        refine J_i2l (pc := 38) C dX3_eightFrom_38 (nI_l (by omega)) ?_
        refine J_lor (pc := 39) C dX3_eightFrom_39 ?_
        refine J_lstore_n (pc := 40) C dX3_eightFrom_40 rfl (by decide) rfl ?_
        dsimp only [List.set]
        refine J_iincN (pc := 41) C dX3_eightFrom_41 rfl (by decide) rfl ?_
        dsimp only [List.set]
        refine J_goto (pc := 44) (tgt := 5) C dX3_eightFrom_44 (by decide) ?_
        exact ih (j + 1) _ (by omega) (by omega)
      · rw [if_pos (by omega)]
        have hx4 := hL (8 * k + j) (by omega)
        refine J_aload_n (pc := 27) C dX3_eightFrom_27 rfl rfl ?_
        refine J_get (pc := 28) C dX3_eightFrom_28 f_X3_9 rfl rfl ?_
        refine J_iload (pc := 31) C dX3_eightFrom_31 rfl ?_
        refine J_ialdN (pc := 33) C dX3_eightFrom_33 rfl (by omega) (by decide) ?_
        try dsimp only
        refine J_goto (pc := 34) (tgt := 38) C dX3_eightFrom_34 (by decide) ?_
        refine J_i2l (pc := 38) C dX3_eightFrom_38 (nI_l (by omega)) ?_
        refine J_lor (pc := 39) C dX3_eightFrom_39 ?_
        refine J_lstore_n (pc := 40) C dX3_eightFrom_40 rfl (by decide) rfl ?_
        dsimp only [List.set]
        refine J_iincN (pc := 41) C dX3_eightFrom_41 rfl (by decide) rfl ?_
        dsimp only [List.set]
        refine J_goto (pc := 44) (tgt := 5) C dX3_eightFrom_44 (by decide) ?_
        exact ih (j + 1) _ (by omega) (by omega)
set_option maxHeartbeats 4000000 in
set_option maxRecDepth 100000 in
theorem x_eightFrom (l : Launch) (G : jG) (A : xA) (S : xS) (t : xT) (wr : Int32) (B : xB) (Z : xZ) (P : xC) (Q : xN) (V : xV) (L : xL) (T : jMem) (k : Nat) (hk : k < 50) (ho : L.1 ≤ 96) (hL : ∀ q, q < L.1 → L.2 q < 256) : jC l G yX3_eightFrom cX3_eightFrom 5 (some .long) 1 12 0 0 [.ref 873, .int (nI (8 * k))] (encX A S t wr B Z P Q V L T) (.inl (some (.long (l8F L k 0 0)), encX A S t wr B Z P Q V L T)) := by
  refine jC.of (by decide) 3 rfl [some (.ref 873), some (.int (nI (8 * k))), none, none, none] rfl (fun p e s m args below meth c C hT9 hNm9 => ?_)
  refine J_lconst (pc := 0) (v := 0) C dX3_eightFrom_0 (by decide) ?_
  refine J_lstore_n (pc := 1) C dX3_eightFrom_1 rfl (by decide) rfl ?_
  dsimp only [List.set]
  refine J_iload_n (pc := 2) C dX3_eightFrom_2 rfl rfl ?_
  refine J_istore (pc := 3) C dX3_eightFrom_3 (by decide) rfl ?_
  dsimp only [List.set]
  exact l_x8 l G A S t wr B Z P Q V L T k 0 0 C hk (Nat.zero_le _) ho hL
