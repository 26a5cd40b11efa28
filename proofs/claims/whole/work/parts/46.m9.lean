set_option maxHeartbeats 4000000 in
set_option maxRecDepth 100000 in
theorem l_dsE (l : Launch) (G : jG) {p : Program} {e : Env} {s : State} {m : MethodId} {args : Array Value} {below : List Frame} {meth : Method} {c : Code} (F X : Nat × (Nat → Nat)) (P : mP) (gv : Nat → Int64) (O : Nat × (Nat → Nat)) (T : jMem) (r : mR) (v1 : Option Value) (C : jX0 p l (jR 12 255 0 0) s m args meth c G cX11_describe 2 RX11 (some .int)) (hn : X.1 ≤ 4000) (hp : pLe X r.1) : J p l e (jR 12 255 0 0) s m args below meth c G 2 0 0 (.inl (some (.int (if (r).1 = none then nI (r).2.2.2.2.1 else nI 0)), encM (if (r).1 = none then 0 else 2) (0, F.2) X (r).2.1 (wrI (r).1) (dsE (r)) P gv O T)) 74 [some (.ref 1000), v1] [] (encM 0 (0, F.2) X r.2.1 (wrI r.1) r.2.2 P gv O T) 0 0 := by
  refine J_aload_n (pc := 74) C dX11_describe_74 rfl rfl ?_
  refine J_aload_n (pc := 75) C dX11_describe_75 rfl rfl ?_
  refine J_get (pc := 76) C dX11_describe_76 f_X11_7 rfl rfl ?_
  try dsimp only
  refine J_if_lt (pc := 79) (tgt := 86) C dX11_describe_79 (by decide) (fun h79 => ?_) (fun h79 => ?_)
  · have z1 : r.1 = none := wrI_neg h79 (fun p h => by have := hp p h; omega)
    refine J_iconst (pc := 86) (v := nI 0) C dX11_describe_86 (by decide) ?_
    refine J_iconst (pc := 87) (v := nI 2) C dX11_describe_87 (by decide) ?_
    refine J_callV1 (pc := 88) C dX11_describe_88 m_X11_81 (c_fails_f l G _ _ _ _ _ _ _ _ _ _) ⟨jle rfl, jle rfl⟩ rfl rfl rfl rfl rfl (jle rfl) ⟨Nat.zero_le _, Nat.zero_le _⟩ ?_
    try dsimp only
    refine J_if_eqN (pc := 91) (tgt := 111) C dX11_describe_91 (by decide) (by omega) (fun _ => ?_) (fun h91 => absurd h91 (by decide))
    refine J_aload_n (pc := 111) C dX11_describe_111 rfl rfl ?_
    refine J_iconst (pc := 112) (v := nI 1) C dX11_describe_112 (by decide) ?_
    refine J_putU (pc := 113) C dX11_describe_113 p_X11_177 rfl (jlt rfl) rfl rfl (uM_described _) ?_
    try dsimp only
    refine J_aload_n (pc := 116) C dX11_describe_116 rfl rfl ?_
    refine J_get (pc := 117) C dX11_describe_117 f_X11_190 rfl rfl ?_
    try dsimp only
    exact J_iret (pc := 120) C dX11_describe_120 rfl (by rw [if_pos z1, if_pos z1, dsE_n z1]) (Nat.zero_le _) (Nat.zero_le _)
  · have z1 : r.1 ≠ none := wrI_pos (Int32.not_lt.mp h79)
    refine J_iconst (pc := 82) (v := nI 1) C dX11_describe_82 (by decide) ?_
    refine J_goto (pc := 83) (tgt := 87) C dX11_describe_83 (by decide) ?_
    refine J_iconst (pc := 87) (v := nI 2) C dX11_describe_87 (by decide) ?_
    refine J_callV1 (pc := 88) C dX11_describe_88 m_X11_81 (c_fails_t l G _ _ _ _ _ _ _ _ _ _ (by omega) (by decide)) ⟨jle rfl, jle rfl⟩ rfl rfl rfl rfl rfl (jle rfl) ⟨Nat.zero_le _, Nat.zero_le _⟩ ?_
    try dsimp only
    refine J_if_eqN (pc := 91) (tgt := 111) C dX11_describe_91 (by decide) (by omega) (fun h91 => absurd h91 (by decide)) (fun _ => ?_)
    refine J_aload_n (pc := 94) C dX11_describe_94 rfl rfl ?_
    refine J_iconst (pc := 95) (v := nI 0) C dX11_describe_95 (by decide) ?_
    refine J_putU (pc := 96) C dX11_describe_96 p_X11_187 rfl (jlt rfl) rfl rfl (uM_sets _) ?_
    try dsimp only
    refine J_aload_n (pc := 99) C dX11_describe_99 rfl rfl ?_
    refine J_iconst (pc := 100) (v := nI 0) C dX11_describe_100 (by decide) ?_
    refine J_putU (pc := 101) C dX11_describe_101 p_X11_190 rfl (jlt rfl) rfl rfl (uM_ops _) ?_
    try dsimp only
    refine J_aload_n (pc := 104) C dX11_describe_104 rfl rfl ?_
    refine J_iconst (pc := 105) (v := nI 0) C dX11_describe_105 (by decide) ?_
    refine J_putU (pc := 106) C dX11_describe_106 p_X11_196 rfl (jlt rfl) rfl rfl (uM_width _) ?_
    try dsimp only
    refine J_iconst (pc := 109) (v := nI 0) C dX11_describe_109 (by decide) ?_
    exact J_iret (pc := 110) C dX11_describe_110 rfl (by rw [if_neg z1, if_neg z1, dsE_s z1]) (Nat.zero_le _) (Nat.zero_le _)
set_option maxHeartbeats 4000000 in
set_option maxRecDepth 100000 in
theorem c_describe (l : Launch) (G : jG) (er : Nat) (F X : Nat × (Nat → Nat)) (K : Nat × Nat × Nat) (wr : Int32) (D : mD) (P : mP) (gv : Nat → Int64) (O : Nat × (Nat → Nat)) (T : jMem) (n : Nat) (hnf : n ≤ F.1) (hn : n ≤ 4000) (hfd : F.1 ≤ 4000) (hF : ∀ k, F.2 k < 256) (hX : ∀ k, X.2 k < 256) (hD : dG D) : jC l G yX11_describe cX11_describe 2 (some .int) 12 255 0 0 [.ref 1000, .int (nI n)] (encM er F X K wr D P gv O T) (.inl (some (.int (if (dsR (n, cpF F.2 X.2 n) (d0 D)).1 = none then nI (dsR (n, cpF F.2 X.2 n) (d0 D)).2.2.2.2.1 else nI 0)), encM (if (dsR (n, cpF F.2 X.2 n) (d0 D)).1 = none then 0 else 2) (0, F.2) (n, cpF F.2 X.2 n) (dsR (n, cpF F.2 X.2 n) (d0 D)).2.1 (wrI (dsR (n, cpF F.2 X.2 n) (d0 D)).1) (dsE (dsR (n, cpF F.2 X.2 n) (d0 D))) (0, 0, P.2.2) gv O T)) := by
  refine jC.of (by decide) 0 rfl [some (.ref 1000), some (.int (nI n))] rfl (fun p e s m args below meth c C hT9 hNm9 => ?_)
  have hX1 : ∀ k, ((n, cpF F.2 X.2 n) : Nat × (Nat → Nat)).2 k < 256 := cpF_lt hF hX
  refine J_aload_n (pc := 0) C dX11_describe_0 rfl rfl ?_
  refine J_iconst (pc := 1) (v := nI 0) C dX11_describe_1 (by decide) ?_
  refine J_putU (pc := 2) C dX11_describe_2 p_X11_75 rfl (jlt rfl) rfl rfl (uM_err _) ?_
  try dsimp only
  refine J_aload_n (pc := 5) C dX11_describe_5 rfl rfl ?_
  refine J_iload_n (pc := 6) C dX11_describe_6 rfl rfl ?_
  refine J_if_ltN (pc := 7) (tgt := 18) C dX11_describe_7 (by decide) (by omega) ?_
  refine J_iload_n (pc := 10) C dX11_describe_10 rfl rfl ?_
  refine J_aload_n (pc := 11) C dX11_describe_11 rfl rfl ?_
  refine J_get (pc := 12) C dX11_describe_12 f_X11_78 rfl rfl ?_
  try dsimp only
  refine J_icmp_leN (pc := 15) (tgt := 22) C dX11_describe_15 (by decide) (by omega) (by omega) (fun h15 => ?_) (fun h15 => ?_)
  · refine J_iconst (pc := 22) (v := nI 0) C dX11_describe_22 (by decide) ?_
    refine J_iconst (pc := 23) (v := nI 1) C dX11_describe_23 (by decide) ?_
    refine J_callV1 (pc := 24) C dX11_describe_24 m_X11_81 (c_fails_f l G _ _ _ _ _ _ _ _ _ _) ⟨jle rfl, jle rfl⟩ rfl rfl rfl rfl rfl (jle rfl) ⟨Nat.zero_le _, Nat.zero_le _⟩ ?_
    try dsimp only
    refine J_if_eqN (pc := 27) (tgt := 32) C dX11_describe_27 (by decide) (by omega) (fun _ => ?_) (fun h27 => absurd h27 (by decide))
    refine J_aload_n (pc := 32) C dX11_describe_32 rfl rfl ?_
    refine J_iload_n (pc := 33) C dX11_describe_33 rfl rfl ?_
    refine J_callV0 (pc := 34) C dX11_describe_34 m_X11_173 (c_begin l G _ _ _ _ _ _ _ _ _ _ n hn hF hX) ⟨jle rfl, jle rfl⟩ rfl rfl rfl rfl rfl (jle rfl) ⟨Nat.zero_le _, Nat.zero_le _⟩ ?_
    try dsimp only
    rw [wrF_fb hn]
    obtain ⟨X1, e1⟩ : ∃ z, z = (n, cpF F.2 X.2 n) := ⟨_, rfl⟩
    have hn1 : X1.1 ≤ 4000 := by rw [e1]; exact hn
    rw [← e1] at hX1 ⊢
    have g0 := nextF_g (X := X1) (Nat.zero_le _)
    have gr := dsR_G (D := d0 D) hX1 (dG_0 hD)
    refine J_aload_n (pc := 37) C dX11_describe_37 rfl rfl ?_
    refine J_iconst (pc := 38) (v := nI 0) C dX11_describe_38 (by decide) ?_
    refine J_putU (pc := 39) C dX11_describe_39 p_X11_177 rfl (jlt rfl) rfl rfl (uM_described _) ?_
    try dsimp only
    refine J_aload_n (pc := 42) C dX11_describe_42 rfl rfl ?_
    refine J_iconst (pc := 43) (v := nI 0) C dX11_describe_43 (by decide) ?_
    refine J_putU (pc := 44) C dX11_describe_44 p_X11_181 rfl (jlt rfl) rfl rfl (uM_words _) ?_
    try dsimp only
    refine J_aload_n (pc := 47) C dX11_describe_47 rfl rfl ?_
    refine J_iconst (pc := 48) (v := nI 0) C dX11_describe_48 (by decide) ?_
    refine J_putU (pc := 49) C dX11_describe_49 p_X11_184 rfl (jlt rfl) rfl rfl (uM_labels _) ?_
    try dsimp only
    refine J_aload_n (pc := 52) C dX11_describe_52 rfl rfl ?_
    refine J_iconst (pc := 53) (v := nI 0) C dX11_describe_53 (by decide) ?_
    refine J_putU (pc := 54) C dX11_describe_54 p_X11_187 rfl (jlt rfl) rfl rfl (uM_sets _) ?_
    try dsimp only
    refine J_aload_n (pc := 57) C dX11_describe_57 rfl rfl ?_
    refine J_iconst (pc := 58) (v := nI 0) C dX11_describe_58 (by decide) ?_
    refine J_putU (pc := 59) C dX11_describe_59 p_X11_190 rfl (jlt rfl) rfl rfl (uM_ops _) ?_
    try dsimp only
    refine J_aload_n (pc := 62) C dX11_describe_62 rfl rfl ?_
    refine J_get (pc := 63) C dX11_describe_63 f_X11_7 rfl rfl ?_
    try dsimp only
    refine J_if_ge (pc := 66) (tgt := 74) C dX11_describe_66 (by decide) (fun h66 => ?_) (fun h66 => ?_)
    · have zr : dsR X1 (d0 D) = (fbF X1 0, nextF X1 0, d0 D) := by rw [dsR, if_neg (wrI_pos h66)]
      rw [zr] at gr ⊢
      exact l_dsE l G F X1 (0, 0, P.2.2) gv O T (fbF X1 0, nextF X1 0, d0 D) _ C hn1 gr.2.2.2
    · have z0 : fbF X1 0 = none := wrI_neg (Int32.not_le.mp h66) (fun p hp => by have := fbF_lt hp; omega)
      have zr : dsR X1 (d0 D) = dsF X1 (nextF X1 0) (d0 D) := by rw [dsR, if_pos z0]
      refine J.to (show _ = encM 0 (0, F.2) X1 (nextF X1 0) (-1) (d0 D) (0, 0, P.2.2) gv O T by rw [z0]; rfl) ?_
      have c9 := c_description l G 0 (0, F.2) X1 (nextF X1 0) (d0 D) (0, 0, P.2.2) gv O T hn1 hX1 g0 (dG_0 hD)
      rw [← zr] at c9
      obtain ⟨r, er9⟩ : ∃ r, r = dsR X1 (d0 D) := ⟨_, rfl⟩
      rw [← er9] at c9 gr ⊢
      refine J_aload_n (pc := 69) C dX11_describe_69 rfl rfl ?_
      refine J_callV1 (pc := 70) C dX11_describe_70 m_X11_193 (c9) ⟨jle rfl, jle rfl⟩ rfl rfl rfl rfl rfl (jle rfl) ⟨Nat.zero_le _, Nat.zero_le _⟩ ?_
      try dsimp only
      refine J_pop (pc := 73) C dX11_describe_73 rfl ?_
      exact l_dsE l G F X1 (0, 0, P.2.2) gv O T r _ C hn1 gr.2.2.2
  · omega
set_option maxHeartbeats 4000000 in
set_option maxRecDepth 100000 in
theorem c_describe_x (l : Launch) (G : jG) (er : Nat) (F X : Nat × (Nat → Nat)) (K : Nat × Nat × Nat) (wr : Int32) (D : mD) (P : mP) (gv : Nat → Int64) (O : Nat × (Nat → Nat)) (T : jMem) (v : Int32) (hv : v < 0 ∨ nI F.1 < v) : jC l G yX11_describe cX11_describe 2 (some .int) 12 255 0 0 [.ref 1000, .int v] (encM er F X K wr D P gv O T) (.inl (some (.int (nI 0)), encM 1 F X K wr D P gv O T)) := by
  refine jC.of (by decide) 0 rfl [some (.ref 1000), some (.int v)] rfl (fun p e s m args below meth c C hT9 hNm9 => ?_)
  refine J_aload_n (pc := 0) C dX11_describe_0 rfl rfl ?_
  refine J_iconst (pc := 1) (v := nI 0) C dX11_describe_1 (by decide) ?_
  refine J_putU (pc := 2) C dX11_describe_2 p_X11_75 rfl (jlt rfl) rfl rfl (uM_err _) ?_
  try dsimp only
  refine J_aload_n (pc := 5) C dX11_describe_5 rfl rfl ?_
  refine J_iload_n (pc := 6) C dX11_describe_6 rfl rfl ?_
  refine J_if_lt (pc := 7) (tgt := 18) C dX11_describe_7 (by decide) (fun h7 => ?_) (fun h7 => ?_)
  · refine J_iconst (pc := 18) (v := nI 1) C dX11_describe_18 (by decide) ?_
    refine J_goto (pc := 19) (tgt := 23) C dX11_describe_19 (by decide) ?_
    refine J_iconst (pc := 23) (v := nI 1) C dX11_describe_23 (by decide) ?_
    refine J_callV1 (pc := 24) C dX11_describe_24 m_X11_81 (c_fails_t l G _ _ _ _ _ _ _ _ _ _ (by omega) (by decide)) ⟨jle rfl, jle rfl⟩ rfl rfl rfl rfl rfl (jle rfl) ⟨Nat.zero_le _, Nat.zero_le _⟩ ?_
    try dsimp only
    refine J_if_eqN (pc := 27) (tgt := 32) C dX11_describe_27 (by decide) (by omega) (fun h27 => absurd h27 (by decide)) (fun _ => ?_)
    refine J_iconst (pc := 30) (v := nI 0) C dX11_describe_30 (by decide) ?_
    exact J_iret (pc := 31) C dX11_describe_31 rfl (rfl) (Nat.zero_le _) (Nat.zero_le _)
  · refine J_iload_n (pc := 10) C dX11_describe_10 rfl rfl ?_
    refine J_aload_n (pc := 11) C dX11_describe_11 rfl rfl ?_
    refine J_get (pc := 12) C dX11_describe_12 f_X11_78 rfl rfl ?_
    try dsimp only
    refine J_icmp_le (pc := 15) (tgt := 22) C dX11_describe_15 (by decide) (fun h15 => ?_) (fun h15 => ?_)
    · (rcases hv with z | z; exact absurd z h7; exact absurd z (Int32.not_lt.mpr h15))
    · refine J_iconst (pc := 18) (v := nI 1) C dX11_describe_18 (by decide) ?_
      refine J_goto (pc := 19) (tgt := 23) C dX11_describe_19 (by decide) ?_
      refine J_iconst (pc := 23) (v := nI 1) C dX11_describe_23 (by decide) ?_
      refine J_callV1 (pc := 24) C dX11_describe_24 m_X11_81 (c_fails_t l G _ _ _ _ _ _ _ _ _ _ (by omega) (by decide)) ⟨jle rfl, jle rfl⟩ rfl rfl rfl rfl rfl (jle rfl) ⟨Nat.zero_le _, Nat.zero_le _⟩ ?_
      try dsimp only
      refine J_if_eqN (pc := 27) (tgt := 32) C dX11_describe_27 (by decide) (by omega) (fun h27 => absurd h27 (by decide)) (fun _ => ?_)
      refine J_iconst (pc := 30) (v := nI 0) C dX11_describe_30 (by decide) ?_
      exact J_iret (pc := 31) C dX11_describe_31 rfl (rfl) (Nat.zero_le _) (Nat.zero_le _)
