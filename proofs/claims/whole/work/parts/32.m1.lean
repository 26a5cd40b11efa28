set_option maxHeartbeats 4000000 in
set_option maxRecDepth 100000 in
theorem c_thrown (l : Launch) (G : jG) (er : Nat) (F X : Nat × (Nat → Nat)) (K : Nat × Nat × Nat) (wr : Int32) (D : mD) (P : mP) (gv : Nat → Int64) (O : Nat × (Nat → Nat)) (T : jMem)  : jC l G yX11_thrown cX11_thrown 1 (some .int) 1 12 0 0 [.ref 1000] (encM er F X K wr D P gv O T) (.inl (some (.int (nI er)), encM er F X K wr D P gv O T)) := by
  refine jC.of (by decide) 0 rfl [some (.ref 1000)] rfl (fun p e s m args below meth c C hT9 hNm9 => ?_)
  refine J_aload_n (pc := 0) C dX11_thrown_0 rfl rfl ?_
  refine J_get (pc := 1) C dX11_thrown_1 f_X11_75 rfl rfl ?_
  try dsimp only
  exact J_iret (pc := 4) C dX11_thrown_4 rfl (rfl) (Nat.zero_le _) (Nat.zero_le _)
set_option maxHeartbeats 4000000 in
set_option maxRecDepth 100000 in
theorem c_in (l : Launch) (G : jG) (M : jMem) (v a b : Int64)  : jC l G yX11_in cX11_in 6 (some .boolean) 1 12 0 0 [.long v, .long a, .long b] (M) (.inl (some (.int (bI (jin2 a b v))), M)) := by
  refine jC.of (by decide) 0 rfl [some (.long v), none, some (.long a), none, some (.long b), none] rfl (fun p e s m args below meth c C hT9 hNm9 => ?_)
  refine J_lload_n (pc := 0) C dX11_in_0 rfl rfl ?_
  refine J_lload_n (pc := 1) C dX11_in_1 rfl rfl ?_
  refine J_lcmp (pc := 2) C dX11_in_2 ?_
  refine J_if_lt (pc := 3) (tgt := 17) C dX11_in_3 (by decide) (fun h3 => ?_) (fun h3 => ?_)
  · refine J_iconst (pc := 17) (v := nI 0) C dX11_in_17 (by decide) ?_
    exact J_zret (pc := 18) C dX11_in_18 rfl (by first | rfl | decide) (jo (by first | exact bI_1 (by rw [lg_cmp_lt] at h3; rw [lg_cmp_gt] at h10; simp [jin2]; exact ⟨Int64.not_lt.mp h3, Int64.not_lt.mp h10⟩) | exact bI_0 (by rw [lg_cmp_gt] at h10; simp [jin2]; intro _; exact h10) | exact bI_0 (by rw [lg_cmp_lt] at h3; simp [jin2]; intro q; exact absurd q (Int64.not_le.mpr h3)))) (Nat.zero_le _) (Nat.zero_le _)
  · refine J_lload_n (pc := 6) C dX11_in_6 rfl rfl ?_
    refine J_lload (pc := 7) C dX11_in_7 rfl ?_
    refine J_lcmp (pc := 9) C dX11_in_9 ?_
    refine J_if_gt (pc := 10) (tgt := 17) C dX11_in_10 (by decide) (fun h10 => ?_) (fun h10 => ?_)
    · refine J_iconst (pc := 17) (v := nI 0) C dX11_in_17 (by decide) ?_
      exact J_zret (pc := 18) C dX11_in_18 rfl (by first | rfl | decide) (jo (by first | exact bI_1 (by rw [lg_cmp_lt] at h3; rw [lg_cmp_gt] at h10; simp [jin2]; exact ⟨Int64.not_lt.mp h3, Int64.not_lt.mp h10⟩) | exact bI_0 (by rw [lg_cmp_gt] at h10; simp [jin2]; intro _; exact h10) | exact bI_0 (by rw [lg_cmp_lt] at h3; simp [jin2]; intro q; exact absurd q (Int64.not_le.mpr h3)))) (Nat.zero_le _) (Nat.zero_le _)
    · refine J_iconst (pc := 13) (v := nI 1) C dX11_in_13 (by decide) ?_
      refine J_goto (pc := 14) (tgt := 18) C dX11_in_14 (by decide) ?_
      exact J_zret (pc := 18) C dX11_in_18 rfl (by first | rfl | decide) (jo (by first | exact bI_1 (by rw [lg_cmp_lt] at h3; rw [lg_cmp_gt] at h10; simp [jin2]; exact ⟨Int64.not_lt.mp h3, Int64.not_lt.mp h10⟩) | exact bI_0 (by rw [lg_cmp_gt] at h10; simp [jin2]; intro _; exact h10) | exact bI_0 (by rw [lg_cmp_lt] at h3; simp [jin2]; intro q; exact absurd q (Int64.not_le.mpr h3)))) (Nat.zero_le _) (Nat.zero_le _)
set_option maxHeartbeats 4000000 in
set_option maxRecDepth 100000 in
theorem c_isDigit (l : Launch) (G : jG) (M : jMem) (x : Nat) (hx : x < 2 ^ 31) : jC l G yX11_isDigit cX11_isDigit 1 (some .boolean) 2 37 0 0 [.int (lI x)] (M) (.inl (some (.int (bI (isDig x))), M)) := by
  refine jC.of (by decide) 0 rfl [some (.int (lI x))] rfl (fun p e s m args below meth c C hT9 hNm9 => ?_)
  refine J_iload_n (pc := 0) C dX11_isDigit_0 rfl rfl ?_
  refine J_i2l (pc := 1) C dX11_isDigit_1 rfl ?_
  refine J_ldc2 (pc := 2) C dX11_isDigit_2 l_X11_97 ?_
  refine J_ldc2 (pc := 5) C dX11_isDigit_5 l_X11_99 ?_
  refine J_callS1 (pc := 8) C dX11_isDigit_8 m_X11_89 (c_in l G _ _ _ _) ⟨jle rfl, jle rfl⟩ rfl rfl (jle rfl) ⟨Nat.zero_le _, Nat.zero_le _⟩ ?_
  exact J_zret (pc := 11) C dX11_isDigit_11 rfl (bI_nar _) (jo (by rw [i64_48, i64_57, jin2_L hx (by decide) (by decide) (by decide)]; rfl)) (Nat.zero_le _) (Nat.zero_le _)
set_option maxHeartbeats 4000000 in
set_option maxRecDepth 100000 in
theorem c_isLetter (l : Launch) (G : jG) (M : jMem) (x : Nat) (hx : x < 2 ^ 31) : jC l G yX11_isLetter cX11_isLetter 1 (some .boolean) 2 37 0 0 [.int (lI x)] (M) (.inl (some (.int (bI (isLet x))), M)) := by
  refine jC.of (by decide) 0 rfl [some (.int (lI x))] rfl (fun p e s m args below meth c C hT9 hNm9 => ?_)
  refine J_iload_n (pc := 0) C dX11_isLetter_0 rfl rfl ?_
  refine J_i2l (pc := 1) C dX11_isLetter_1 rfl ?_
  refine J_ldc2 (pc := 2) C dX11_isLetter_2 l_X11_85 ?_
  refine J_ldc2 (pc := 5) C dX11_isLetter_5 l_X11_87 ?_
  refine J_callS1 (pc := 8) C dX11_isLetter_8 m_X11_89 (c_in l G _ _ _ _) ⟨jle rfl, jle rfl⟩ rfl rfl (jle rfl) ⟨Nat.zero_le _, Nat.zero_le _⟩ ?_
  rw [i64_97, i64_122, jin2_L hx (by decide) (by decide) (by decide)]
  refine J_if_ne (pc := 11) (tgt := 34) C dX11_isLetter_11 (by decide) (fun h11 => ?_) (fun h11 => ?_)
  · refine J_iconst (pc := 34) (v := nI 1) C dX11_isLetter_34 (by decide) ?_
    refine J_goto (pc := 35) (tgt := 39) C dX11_isLetter_35 (by decide) ?_
    exact J_zret (pc := 39) C dX11_isLetter_39 rfl (by first | rfl | decide) (jo (by first | exact bI_1 (by have h9 := bI_t h11; simp at h9; simp [isLet]; omega) | exact bI_1 (by have h9 := bI_t h25; simp at h9; simp [isLet]; omega) | exact bI_1 (by rw [lI_eq hx (by decide) (by decide)] at h31; simp [isLet]; omega) | exact bI_0 (by rw [lI_eq hx (by decide) (by decide)] at h31; have h8 := bI_f h11; have h9 := bI_f h25; simp at h8 h9; simp [isLet]; omega))) (Nat.zero_le _) (Nat.zero_le _)
  · refine J_iload_n (pc := 14) C dX11_isLetter_14 rfl rfl ?_
    refine J_i2l (pc := 15) C dX11_isLetter_15 rfl ?_
    refine J_ldc2 (pc := 16) C dX11_isLetter_16 l_X11_93 ?_
    refine J_ldc2 (pc := 19) C dX11_isLetter_19 l_X11_95 ?_
    refine J_callS1 (pc := 22) C dX11_isLetter_22 m_X11_89 (c_in l G _ _ _ _) ⟨jle rfl, jle rfl⟩ rfl rfl (jle rfl) ⟨Nat.zero_le _, Nat.zero_le _⟩ ?_
    rw [i64_65, i64_90, jin2_L hx (by decide) (by decide) (by decide)]
    refine J_if_ne (pc := 25) (tgt := 34) C dX11_isLetter_25 (by decide) (fun h25 => ?_) (fun h25 => ?_)
    · refine J_iconst (pc := 34) (v := nI 1) C dX11_isLetter_34 (by decide) ?_
      refine J_goto (pc := 35) (tgt := 39) C dX11_isLetter_35 (by decide) ?_
      exact J_zret (pc := 39) C dX11_isLetter_39 rfl (by first | rfl | decide) (jo (by first | exact bI_1 (by have h9 := bI_t h11; simp at h9; simp [isLet]; omega) | exact bI_1 (by have h9 := bI_t h25; simp at h9; simp [isLet]; omega) | exact bI_1 (by rw [lI_eq hx (by decide) (by decide)] at h31; simp [isLet]; omega) | exact bI_0 (by rw [lI_eq hx (by decide) (by decide)] at h31; have h8 := bI_f h11; have h9 := bI_f h25; simp at h8 h9; simp [isLet]; omega))) (Nat.zero_le _) (Nat.zero_le _)
    · refine J_iload_n (pc := 28) C dX11_isLetter_28 rfl rfl ?_
      refine J_bipush (pc := 29) (v := nI 95) C dX11_isLetter_29 (by decide) ?_
      refine J_icmp_ne (pc := 31) (tgt := 38) C dX11_isLetter_31 (by decide) (fun h31 => ?_) (fun h31 => ?_)
      · refine J_iconst (pc := 38) (v := nI 0) C dX11_isLetter_38 (by decide) ?_
        exact J_zret (pc := 39) C dX11_isLetter_39 rfl (by first | rfl | decide) (jo (by first | exact bI_1 (by have h9 := bI_t h11; simp at h9; simp [isLet]; omega) | exact bI_1 (by have h9 := bI_t h25; simp at h9; simp [isLet]; omega) | exact bI_1 (by rw [lI_eq hx (by decide) (by decide)] at h31; simp [isLet]; omega) | exact bI_0 (by rw [lI_eq hx (by decide) (by decide)] at h31; have h8 := bI_f h11; have h9 := bI_f h25; simp at h8 h9; simp [isLet]; omega))) (Nat.zero_le _) (Nat.zero_le _)
      · refine J_iconst (pc := 34) (v := nI 1) C dX11_isLetter_34 (by decide) ?_
        refine J_goto (pc := 35) (tgt := 39) C dX11_isLetter_35 (by decide) ?_
        exact J_zret (pc := 39) C dX11_isLetter_39 rfl (by first | rfl | decide) (jo (by first | exact bI_1 (by have h9 := bI_t h11; simp at h9; simp [isLet]; omega) | exact bI_1 (by have h9 := bI_t h25; simp at h9; simp [isLet]; omega) | exact bI_1 (by rw [lI_eq hx (by decide) (by decide)] at h31; simp [isLet]; omega) | exact bI_0 (by rw [lI_eq hx (by decide) (by decide)] at h31; have h8 := bI_f h11; have h9 := bI_f h25; simp at h8 h9; simp [isLet]; omega))) (Nat.zero_le _) (Nat.zero_le _)
set_option maxHeartbeats 4000000 in
set_option maxRecDepth 100000 in
theorem c_c (l : Launch) (G : jG) (er : Nat) (F X : Nat × (Nat → Nat)) (K : Nat × Nat × Nat) (wr : Int32) (D : mD) (P : mP) (gv : Nat → Int64) (O : Nat × (Nat → Nat)) (T : jMem) (k : Nat) (hn : X.1 ≤ 4000) (hX : ∀ k, X.2 k < 256) (hk : k < 2 ^ 31) : jC l G yX11_c cX11_c 2 (some .int) 1 12 0 0 [.ref 1000, .int (nI k)] (encM er F X K wr D P gv O T) (.inl (some (.int (lI (ch X k))), encM er F X K wr D P gv O T)) := by
  refine jC.of (by decide) 0 rfl [some (.ref 1000), some (.int (nI k))] rfl (fun p e s m args below meth c C hT9 hNm9 => ?_)
  refine J_iload_n (pc := 0) C dX11_c_0 rfl rfl ?_
  refine J_aload_n (pc := 1) C dX11_c_1 rfl rfl ?_
  refine J_get (pc := 2) C dX11_c_2 f_X11_101 rfl rfl ?_
  try dsimp only
  refine J_icmp_geN (pc := 5) (tgt := 17) C dX11_c_5 (by decide) (by omega) (by omega) (fun h5 => ?_) (fun h5 => ?_)
  · refine J_iconst (pc := 17) (v := -1) C dX11_c_17 (by decide) ?_
    exact J_iret (pc := 18) C dX11_c_18 rfl (jo (by first | (rw [ch, if_pos h5, lI_n (by have := hX k; omega)]) | (rw [ch, if_neg (by omega)]; rfl))) (Nat.zero_le _) (Nat.zero_le _)
  · refine J_aload_n (pc := 8) C dX11_c_8 rfl rfl ?_
    refine J_get (pc := 9) C dX11_c_9 f_X11_17 rfl rfl ?_
    refine J_iload_n (pc := 12) C dX11_c_12 rfl rfl ?_
    refine J_ialdN (pc := 13) C dX11_c_13 rfl (by omega) (by decide) ?_
    try dsimp only
    refine J_goto (pc := 14) (tgt := 18) C dX11_c_14 (by decide) ?_
    exact J_iret (pc := 18) C dX11_c_18 rfl (jo (by first | (rw [ch, if_pos h5, lI_n (by have := hX k; omega)]) | (rw [ch, if_neg (by omega)]; rfl))) (Nat.zero_le _) (Nat.zero_le _)
set_option maxHeartbeats 4000000 in
set_option maxRecDepth 100000 in
theorem c_hex (l : Launch) (G : jG) (M : jMem) (x : Nat) (hx9 : x < 2 ^ 31) : jC l G yX11_hex cX11_hex 1 (some .int) 3 57 0 0 [.int (lI x)] (M) (.inl (some (.int (lI (hx x))), M)) := by
  refine jC.of (by decide) 0 rfl [some (.int (lI x))] rfl (fun p e s m args below meth c C hT9 hNm9 => ?_)
  refine J_iload_n (pc := 0) C dX11_hex_0 rfl rfl ?_
  refine J_callS1 (pc := 1) C dX11_hex_1 m_X11_104 (c_isDigit l G _ _ (by omega)) ⟨jle rfl, jle rfl⟩ rfl rfl (jle rfl) ⟨Nat.zero_le _, Nat.zero_le _⟩ ?_
  refine J_if_eq (pc := 4) (tgt := 14) C dX11_hex_4 (by decide) (fun h4 => ?_) (fun h4 => ?_)
  · refine J_iload_n (pc := 14) C dX11_hex_14 rfl rfl ?_
    refine J_i2l (pc := 15) C dX11_hex_15 rfl ?_
    refine J_ldc2 (pc := 16) C dX11_hex_16 l_X11_85 ?_
    refine J_ldc2 (pc := 19) C dX11_hex_19 l_X11_108 ?_
    refine J_callS1 (pc := 22) C dX11_hex_22 m_X11_89 (c_in l G _ _ _ _) ⟨jle rfl, jle rfl⟩ rfl rfl (jle rfl) ⟨Nat.zero_le _, Nat.zero_le _⟩ ?_
    rw [i64_97, i64_102, jin2_L hx9 (by decide) (by decide) (by decide)]
    refine J_if_eq (pc := 25) (tgt := 38) C dX11_hex_25 (by decide) (fun h25 => ?_) (fun h25 => ?_)
    · refine J_iconst (pc := 38) (v := -1) C dX11_hex_38 (by decide) ?_
      exact J_iret (pc := 39) C dX11_hex_39 rfl (jo (by first | (have h7 := bI_t h4; rw [hx, if_pos h7, lI_n (by have h8 := h7; simp [isDig] at h8; omega)]) | (have h7 := bI_f h4; have h8 := bI_t h25; simp at h8; rw [hx, if_neg (by rw [h7]; decide), if_pos h8, lI_n (by omega)]) | (have h7 := bI_f h4; have h8 := bI_f h25; simp at h8; rw [hx, if_neg (by rw [h7]; decide), if_neg (by omega)]; rfl))) (Nat.zero_le _) (Nat.zero_le _)
    · refine J_iload_n (pc := 28) C dX11_hex_28 rfl rfl ?_
      have h9 := bI_t h25
      simp at h9
      rw [lI_n (x := x) (by omega)]
      refine J_bipush (pc := 29) (v := nI 97) C dX11_hex_29 (by decide) ?_
      refine J_isubN (pc := 31) C dX11_hex_31 (by omega) ?_
      refine J_bipush (pc := 32) (v := nI 10) C dX11_hex_32 (by decide) ?_
      refine J_iaddN (pc := 34) C dX11_hex_34 ?_
      refine J_goto (pc := 35) (tgt := 39) C dX11_hex_35 (by decide) ?_
      exact J_iret (pc := 39) C dX11_hex_39 rfl (jo (by first | (have h7 := bI_t h4; rw [hx, if_pos h7, lI_n (by have h8 := h7; simp [isDig] at h8; omega)]) | (have h7 := bI_f h4; have h8 := bI_t h25; simp at h8; rw [hx, if_neg (by rw [h7]; decide), if_pos h8, lI_n (by omega)]) | (have h7 := bI_f h4; have h8 := bI_f h25; simp at h8; rw [hx, if_neg (by rw [h7]; decide), if_neg (by omega)]; rfl))) (Nat.zero_le _) (Nat.zero_le _)
  · refine J_iload_n (pc := 7) C dX11_hex_7 rfl rfl ?_
    have h9 := bI_t h4
    simp [isDig] at h9
    rw [lI_n (x := x) (by omega)]
    refine J_bipush (pc := 8) (v := nI 48) C dX11_hex_8 (by decide) ?_
    refine J_isubN (pc := 10) C dX11_hex_10 (by omega) ?_
    refine J_goto (pc := 11) (tgt := 39) C dX11_hex_11 (by decide) ?_
    exact J_iret (pc := 39) C dX11_hex_39 rfl (jo (by first | (have h7 := bI_t h4; rw [hx, if_pos h7, lI_n (by have h8 := h7; simp [isDig] at h8; omega)]) | (have h7 := bI_f h4; have h8 := bI_t h25; simp at h8; rw [hx, if_neg (by rw [h7]; decide), if_pos h8, lI_n (by omega)]) | (have h7 := bI_f h4; have h8 := bI_f h25; simp at h8; rw [hx, if_neg (by rw [h7]; decide), if_neg (by omega)]; rfl))) (Nat.zero_le _) (Nat.zero_le _)
set_option maxHeartbeats 4000000 in
set_option maxRecDepth 100000 in
theorem c_bad (l : Launch) (G : jG) (er : Nat) (F X : Nat × (Nat → Nat)) (K : Nat × Nat × Nat) (wr : Int32) (D : mD) (P : mP) (gv : Nat → Int64) (O : Nat × (Nat → Nat)) (T : jMem) (a : Nat)  : jC l G yX11_bad cX11_bad 2 (some .boolean) 1 12 0 0 [.ref 1000, .int (nI a)] (encM er F X K wr D P gv O T) (.inl (some (.int (nI 0)), encM er F X K (if wr < 0 then nI a else wr) D P gv O T)) := by
  refine jC.of (by decide) 0 rfl [some (.ref 1000), some (.int (nI a))] rfl (fun p e s m args below meth c C hT9 hNm9 => ?_)
  refine J_aload_n (pc := 0) C dX11_bad_0 rfl rfl ?_
  refine J_get (pc := 1) C dX11_bad_1 f_X11_7 rfl rfl ?_
  try dsimp only
  refine J_if_ge (pc := 4) (tgt := 12) C dX11_bad_4 (by decide) (fun h4 => ?_) (fun h4 => ?_)
  · refine J_iconst (pc := 12) (v := nI 0) C dX11_bad_12 (by decide) ?_
    exact J_zret (pc := 13) C dX11_bad_13 rfl (by first | rfl | decide) (by first | rw [if_pos (Int32.not_le.mp h4)] | rw [if_neg (Int32.not_lt.mpr h4)]) (Nat.zero_le _) (Nat.zero_le _)
  · refine J_aload_n (pc := 7) C dX11_bad_7 rfl rfl ?_
    refine J_iload_n (pc := 8) C dX11_bad_8 rfl rfl ?_
    refine J_putU (pc := 9) C dX11_bad_9 p_X11_7 rfl (jlt rfl) rfl rfl (uM_wrong _) ?_
    try dsimp only
    refine J_iconst (pc := 12) (v := nI 0) C dX11_bad_12 (by decide) ?_
    exact J_zret (pc := 13) C dX11_bad_13 rfl (by first | rfl | decide) (by first | rw [if_pos (Int32.not_le.mp h4)] | rw [if_neg (Int32.not_lt.mpr h4)]) (Nat.zero_le _) (Nat.zero_le _)
theorem c_isLetterN (l : Launch) (G : jG) (M : jMem) (x : Nat) (hx : x < 1000) : jC l G yX11_isLetter cX11_isLetter 1 (some .boolean) 2 37 0 0 [.int (nI x)] M (.inl (some (.int (bI (isLet x))), M)) := by
  have h := c_isLetter l G M x (by omega)
  rw [lI_n (by omega)] at h
  exact h
theorem c_isDigitN (l : Launch) (G : jG) (M : jMem) (x : Nat) (hx : x < 1000) : jC l G yX11_isDigit cX11_isDigit 1 (some .boolean) 2 37 0 0 [.int (nI x)] M (.inl (some (.int (bI (isDig x))), M)) := by
  have h := c_isDigit l G M x (by omega)
  rw [lI_n (by omega)] at h
  exact h
theorem c_hexN (l : Launch) (G : jG) (M : jMem) (x : Nat) (hx9 : x < 1000) : jC l G yX11_hex cX11_hex 1 (some .int) 3 57 0 0 [.int (nI x)] M (.inl (some (.int (lI (hx x))), M)) := by
  have h := c_hex l G M x (by omega)
  rw [lI_n (x := x) (by omega)] at h
  exact h
set_option maxHeartbeats 4000000 in
set_option maxRecDepth 100000 in
theorem l_skip (l : Launch) (G : jG) {p : Program} {e : Env} {s : State} {m : MethodId} {args : Array Value} {below : List Frame} {meth : Method} {c : Code} (er : Nat) (F X : Nat × (Nat → Nat)) (K : Nat × Nat × Nat) (wr : Int32) (D : mD) (P : mP) (gv : Nat → Int64) (O : Nat × (Nat → Nat)) (T : jMem) {o : jO} (a b q : Nat) (C : jX0 p l (jR 4 77 0 0) s m args meth c G cX11_next 2 RX11 none) (hn : X.1 ≤ 4000) (hX : ∀ k, X.2 k < 256) (hq : q ≤ X.1) (k : J p l e (jR 4 77 0 0) s m args below meth c G 2 0 0 (o) 47 [some (.ref 1000), none] [] (encM er F X ((a, skip X q, b)) wr D P gv O T) 0 0) : J p l e (jR 4 77 0 0) s m args below meth c G 2 0 0 (o) 8 [some (.ref 1000), none] [] (encM er F X ((a, q, b)) wr D P gv O T) 0 0 := by
  induction hm : X.1 - q generalizing q with
  | zero =>
    have hq2 : q = X.1 := by omega
    have h0 : ch X q = 1000 := by rw [ch, if_neg (by omega)]
    have h1 : skip X q = q := by rw [skip, if_neg (by omega)]
    rw [h1] at k
    refine J_aload_n (pc := 8) C dX11_next_8 rfl rfl ?_
    refine J_aload_n (pc := 9) C dX11_next_9 rfl rfl ?_
    refine J_get (pc := 10) C dX11_next_10 f_X11_113 rfl rfl ?_
    try dsimp only
    refine J_callV1 (pc := 13) C dX11_next_13 m_X11_116 (c_c l G _ _ _ _ _ _ _ _ _ _ _ hn hX (by omega)) ⟨jle rfl, jle rfl⟩ rfl rfl rfl rfl rfl (jle rfl) ⟨Nat.zero_le _, Nat.zero_le _⟩ ?_
    refine J_bipush (pc := 16) (v := nI 32) C dX11_next_16 (by decide) ?_
    rw [h0]
    refine J_icmp_eq (pc := 18) (tgt := 34) C dX11_next_18 (by decide) (fun h18 => ?_) (fun h18 => ?_)
    · exact absurd h18 (by decide)
    · refine J_aload_n (pc := 21) C dX11_next_21 rfl rfl ?_
      refine J_aload_n (pc := 22) C dX11_next_22 rfl rfl ?_
      refine J_get (pc := 23) C dX11_next_23 f_X11_113 rfl rfl ?_
      try dsimp only
      refine J_callV1 (pc := 26) C dX11_next_26 m_X11_116 (c_c l G _ _ _ _ _ _ _ _ _ _ _ hn hX (by omega)) ⟨jle rfl, jle rfl⟩ rfl rfl rfl rfl rfl (jle rfl) ⟨Nat.zero_le _, Nat.zero_le _⟩ ?_
      refine J_bipush (pc := 29) (v := nI 10) C dX11_next_29 (by decide) ?_
      rw [h0]
      refine J_icmp_ne (pc := 31) (tgt := 47) C dX11_next_31 (by decide) (fun h31 => ?_) (fun h31 => ?_)
      · exact k
      · exact absurd h31 (by decide)
  | succ d ih =>
    have hc : ch X q = X.2 q := by rw [ch, if_pos (by omega)]
    have hv := hX q
    refine J_aload_n (pc := 8) C dX11_next_8 rfl rfl ?_
    refine J_aload_n (pc := 9) C dX11_next_9 rfl rfl ?_
    refine J_get (pc := 10) C dX11_next_10 f_X11_113 rfl rfl ?_
    try dsimp only
    refine J_callV1 (pc := 13) C dX11_next_13 m_X11_116 (c_c l G _ _ _ _ _ _ _ _ _ _ _ hn hX (by omega)) ⟨jle rfl, jle rfl⟩ rfl rfl rfl rfl rfl (jle rfl) ⟨Nat.zero_le _, Nat.zero_le _⟩ ?_
    refine J_bipush (pc := 16) (v := nI 32) C dX11_next_16 (by decide) ?_
    rw [hc, lI_n (x := X.2 q) (by omega)]
    refine J_icmp_eqN (pc := 18) (tgt := 34) C dX11_next_18 (by decide) (by omega) (by omega) (fun h18 => ?_) (fun h18 => ?_)
    · refine J_aload_n (pc := 34) C dX11_next_34 rfl rfl ?_
      refine J_dup (pc := 35) C dX11_next_35 rfl ?_
      refine J_get (pc := 36) C dX11_next_36 f_X11_113 rfl rfl ?_
      try dsimp only
      refine J_iconst (pc := 39) (v := nI 1) C dX11_next_39 (by decide) ?_
      refine J_iaddN (pc := 40) C dX11_next_40 ?_
      refine J_putU (pc := 41) C dX11_next_41 p_X11_113 rfl (jlt rfl) rfl rfl (uM_from _) ?_
      try dsimp only
      refine J_goto (pc := 44) (tgt := 8) C dX11_next_44 (by decide) ?_
      refine ih (q + 1) (by omega) ?_ (by omega)
      have h1 : skip X q = skip X (q + 1) := by
        conv => lhs; rw [skip]
        rw [if_pos ⟨by omega, by simp [isBl]; omega⟩]
      rw [h1] at k
      exact k
    · refine J_aload_n (pc := 21) C dX11_next_21 rfl rfl ?_
      refine J_aload_n (pc := 22) C dX11_next_22 rfl rfl ?_
      refine J_get (pc := 23) C dX11_next_23 f_X11_113 rfl rfl ?_
      try dsimp only
      refine J_callV1 (pc := 26) C dX11_next_26 m_X11_116 (c_c l G _ _ _ _ _ _ _ _ _ _ _ hn hX (by omega)) ⟨jle rfl, jle rfl⟩ rfl rfl rfl rfl rfl (jle rfl) ⟨Nat.zero_le _, Nat.zero_le _⟩ ?_
      refine J_bipush (pc := 29) (v := nI 10) C dX11_next_29 (by decide) ?_
      rw [hc, lI_n (x := X.2 q) (by omega)]
      refine J_icmp_neN (pc := 31) (tgt := 47) C dX11_next_31 (by decide) (by omega) (by omega) (fun h31 => ?_) (fun h31 => ?_)
      · have h1 : skip X q = q := by
          rw [skip, if_neg (by simp [isBl]; intro _; omega)]
        rw [h1] at k
        exact k
      · refine J_aload_n (pc := 34) C dX11_next_34 rfl rfl ?_
        refine J_dup (pc := 35) C dX11_next_35 rfl ?_
        refine J_get (pc := 36) C dX11_next_36 f_X11_113 rfl rfl ?_
        try dsimp only
        refine J_iconst (pc := 39) (v := nI 1) C dX11_next_39 (by decide) ?_
        refine J_iaddN (pc := 40) C dX11_next_40 ?_
        refine J_putU (pc := 41) C dX11_next_41 p_X11_113 rfl (jlt rfl) rfl rfl (uM_from _) ?_
        try dsimp only
        refine J_goto (pc := 44) (tgt := 8) C dX11_next_44 (by decide) ?_
        refine ih (q + 1) (by omega) ?_ (by omega)
        have h1 : skip X q = skip X (q + 1) := by
          conv => lhs; rw [skip]
          rw [if_pos ⟨by omega, by simp [isBl]; omega⟩]
        rw [h1] at k
        exact k
set_option maxHeartbeats 4000000 in
set_option maxRecDepth 100000 in
theorem l_scanN (l : Launch) (G : jG) {p : Program} {e : Env} {s : State} {m : MethodId} {args : Array Value} {below : List Frame} {meth : Method} {c : Code} (er : Nat) (F X : Nat × (Nat → Nat)) (K : Nat × Nat × Nat) (wr : Int32) (D : mD) (P : mP) (gv : Nat → Int64) (O : Nat × (Nat → Nat)) (T : jMem) {o : jO} (f q : Nat) (v1 : Option Value) (C : jX0 p l (jR 4 77 0 0) s m args meth c G cX11_next 2 RX11 none) (hn : X.1 ≤ 4000) (hX : ∀ k, X.2 k < 256) (hf : f ≤ 4000) (hq : q ≤ f + 12) (k : J p l e (jR 4 77 0 0) s m args below meth c G 2 0 0 (o) 346 [some (.ref 1000), v1] [] (encM er F X ((1, f, scan nmF X (f + 12) q)) wr D P gv O T) 0 0) : J p l e (jR 4 77 0 0) s m args below meth c G 2 0 0 (o) 96 [some (.ref 1000), v1] [] (encM er F X ((1, f, q)) wr D P gv O T) 0 0 := by
  have hc := ch_lt hX q
  induction hm : (f + 12) - q generalizing q with
  | zero =>
    have h1 : scan nmF X (f + 12) q = q := by rw [scan, if_neg (by omega)]
    rw [h1] at k
    refine J_aload_n (pc := 96) C dX11_next_96 rfl rfl ?_
    refine J_get (pc := 97) C dX11_next_97 f_X11_110 rfl rfl ?_
    try dsimp only
    refine J_aload_n (pc := 100) C dX11_next_100 rfl rfl ?_
    refine J_get (pc := 101) C dX11_next_101 f_X11_113 rfl rfl ?_
    try dsimp only
    refine J_bipush (pc := 104) (v := nI 12) C dX11_next_104 (by decide) ?_
    refine J_iaddN (pc := 106) C dX11_next_106 ?_
    refine J_icmp_geN (pc := 107) (tgt := 346) C dX11_next_107 (by decide) (by omega) (by omega) (fun h107 => ?_) (fun h107 => ?_)
    · exact k
    · omega
  | succ d ih =>
    have hc := ch_lt hX q
    refine J_aload_n (pc := 96) C dX11_next_96 rfl rfl ?_
    refine J_get (pc := 97) C dX11_next_97 f_X11_110 rfl rfl ?_
    try dsimp only
    refine J_aload_n (pc := 100) C dX11_next_100 rfl rfl ?_
    refine J_get (pc := 101) C dX11_next_101 f_X11_113 rfl rfl ?_
    try dsimp only
    refine J_bipush (pc := 104) (v := nI 12) C dX11_next_104 (by decide) ?_
    refine J_iaddN (pc := 106) C dX11_next_106 ?_
    refine J_icmp_geN (pc := 107) (tgt := 346) C dX11_next_107 (by decide) (by omega) (by omega) (fun h107 => ?_) (fun h107 => ?_)
    · omega
    · refine J_aload_n (pc := 110) C dX11_next_110 rfl rfl ?_
      refine J_aload_n (pc := 111) C dX11_next_111 rfl rfl ?_
      refine J_get (pc := 112) C dX11_next_112 f_X11_110 rfl rfl ?_
      try dsimp only
      refine J_callV1 (pc := 115) C dX11_next_115 m_X11_116 (c_c l G _ _ _ _ _ _ _ _ _ _ _ hn hX (by omega)) ⟨jle rfl, jle rfl⟩ rfl rfl rfl rfl rfl (jle rfl) ⟨Nat.zero_le _, Nat.zero_le _⟩ ?_
      refine J_callS1 (pc := 118) C dX11_next_118 m_X11_123 (c_isLetter l G _ _ (by omega)) ⟨jle rfl, jle rfl⟩ rfl rfl (jle rfl) ⟨Nat.zero_le _, Nat.zero_le _⟩ ?_
      refine J_if_ne (pc := 121) (tgt := 138) C dX11_next_121 (by decide) (fun h121 => ?_) (fun h121 => ?_)
      · refine J_aload_n (pc := 138) C dX11_next_138 rfl rfl ?_
        refine J_dup (pc := 139) C dX11_next_139 rfl ?_
        refine J_get (pc := 140) C dX11_next_140 f_X11_110 rfl rfl ?_
        try dsimp only
        refine J_iconst (pc := 143) (v := nI 1) C dX11_next_143 (by decide) ?_
        refine J_iaddN (pc := 144) C dX11_next_144 ?_
        refine J_putU (pc := 145) C dX11_next_145 p_X11_110 rfl (jlt rfl) rfl rfl (uM_to _) ?_
        try dsimp only
        refine J_goto (pc := 148) (tgt := 96) C dX11_next_148 (by decide) ?_
        refine ih (q + 1) (by omega) ?_ (ch_lt hX _) (by omega)
        have h1 : scan nmF X (f + 12) q = scan nmF X (f + 12) (q + 1) := by
          conv => lhs; rw [scan]
          rw [if_pos ⟨by omega, by first | (simp [nmF, bI_t h121]; done) | (simp [nmF, bI_t h135]; done)⟩]
        rw [h1] at k
        exact k
      · refine J_aload_n (pc := 124) C dX11_next_124 rfl rfl ?_
        refine J_aload_n (pc := 125) C dX11_next_125 rfl rfl ?_
        refine J_get (pc := 126) C dX11_next_126 f_X11_110 rfl rfl ?_
        try dsimp only
        refine J_callV1 (pc := 129) C dX11_next_129 m_X11_116 (c_c l G _ _ _ _ _ _ _ _ _ _ _ hn hX (by omega)) ⟨jle rfl, jle rfl⟩ rfl rfl rfl rfl rfl (jle rfl) ⟨Nat.zero_le _, Nat.zero_le _⟩ ?_
        refine J_callS1 (pc := 132) C dX11_next_132 m_X11_104 (c_isDigit l G _ _ (by omega)) ⟨jle rfl, jle rfl⟩ rfl rfl (jle rfl) ⟨Nat.zero_le _, Nat.zero_le _⟩ ?_
        refine J_if_eq (pc := 135) (tgt := 346) C dX11_next_135 (by decide) (fun h135 => ?_) (fun h135 => ?_)
        · have h1 : scan nmF X (f + 12) q = q := by
            rw [scan, if_neg (by
              intro h9
              have h8 := bI_f h121; have h7 := bI_f h135; simp [nmF, h8, h7] at h9)]
          rw [h1] at k
          exact k
        · refine J_aload_n (pc := 138) C dX11_next_138 rfl rfl ?_
          refine J_dup (pc := 139) C dX11_next_139 rfl ?_
          refine J_get (pc := 140) C dX11_next_140 f_X11_110 rfl rfl ?_
          try dsimp only
          refine J_iconst (pc := 143) (v := nI 1) C dX11_next_143 (by decide) ?_
          refine J_iaddN (pc := 144) C dX11_next_144 ?_
          refine J_putU (pc := 145) C dX11_next_145 p_X11_110 rfl (jlt rfl) rfl rfl (uM_to _) ?_
          try dsimp only
          refine J_goto (pc := 148) (tgt := 96) C dX11_next_148 (by decide) ?_
          refine ih (q + 1) (by omega) ?_ (ch_lt hX _) (by omega)
          have h1 : scan nmF X (f + 12) q = scan nmF X (f + 12) (q + 1) := by
            conv => lhs; rw [scan]
            rw [if_pos ⟨by omega, by first | (simp [nmF, bI_t h121]; done) | (simp [nmF, bI_t h135]; done)⟩]
          rw [h1] at k
          exact k
set_option maxHeartbeats 4000000 in
set_option maxRecDepth 100000 in
theorem l_scanH (l : Launch) (G : jG) {p : Program} {e : Env} {s : State} {m : MethodId} {args : Array Value} {below : List Frame} {meth : Method} {c : Code} (er : Nat) (F X : Nat × (Nat → Nat)) (K : Nat × Nat × Nat) (wr : Int32) (D : mD) (P : mP) (gv : Nat → Int64) (O : Nat × (Nat → Nat)) (T : jMem) {o : jO} (f q : Nat) (v1 : Option Value) (C : jX0 p l (jR 4 77 0 0) s m args meth c G cX11_next 2 RX11 none) (hn : X.1 ≤ 4000) (hX : ∀ k, X.2 k < 256) (hf : f ≤ 4000) (hq : q ≤ f + 10) (k : J p l e (jR 4 77 0 0) s m args below meth c G 2 0 0 (o) 346 [some (.ref 1000), v1] [] (encM er F X ((3, f, scan hxF X (f + 10) q)) wr D P gv O T) 0 0) : J p l e (jR 4 77 0 0) s m args below meth c G 2 0 0 (o) 201 [some (.ref 1000), v1] [] (encM er F X ((3, f, q)) wr D P gv O T) 0 0 := by
  have hc := ch_lt hX q
  induction hm : (f + 10) - q generalizing q with
  | zero =>
    have h1 : scan hxF X (f + 10) q = q := by rw [scan, if_neg (by omega)]
    rw [h1] at k
    refine J_aload_n (pc := 201) C dX11_next_201 rfl rfl ?_
    refine J_get (pc := 202) C dX11_next_202 f_X11_110 rfl rfl ?_
    try dsimp only
    refine J_aload_n (pc := 205) C dX11_next_205 rfl rfl ?_
    refine J_get (pc := 206) C dX11_next_206 f_X11_113 rfl rfl ?_
    try dsimp only
    refine J_bipush (pc := 209) (v := nI 10) C dX11_next_209 (by decide) ?_
    refine J_iaddN (pc := 211) C dX11_next_211 ?_
    refine J_icmp_geN (pc := 212) (tgt := 346) C dX11_next_212 (by decide) (by omega) (by omega) (fun h212 => ?_) (fun h212 => ?_)
    · exact k
    · omega
  | succ d ih =>
    have hc := ch_lt hX q
    refine J_aload_n (pc := 201) C dX11_next_201 rfl rfl ?_
    refine J_get (pc := 202) C dX11_next_202 f_X11_110 rfl rfl ?_
    try dsimp only
    refine J_aload_n (pc := 205) C dX11_next_205 rfl rfl ?_
    refine J_get (pc := 206) C dX11_next_206 f_X11_113 rfl rfl ?_
    try dsimp only
    refine J_bipush (pc := 209) (v := nI 10) C dX11_next_209 (by decide) ?_
    refine J_iaddN (pc := 211) C dX11_next_211 ?_
    refine J_icmp_geN (pc := 212) (tgt := 346) C dX11_next_212 (by decide) (by omega) (by omega) (fun h212 => ?_) (fun h212 => ?_)
    · omega
    · refine J_aload_n (pc := 215) C dX11_next_215 rfl rfl ?_
      refine J_aload_n (pc := 216) C dX11_next_216 rfl rfl ?_
      refine J_get (pc := 217) C dX11_next_217 f_X11_110 rfl rfl ?_
      try dsimp only
      refine J_callV1 (pc := 220) C dX11_next_220 m_X11_116 (c_c l G _ _ _ _ _ _ _ _ _ _ _ hn hX (by omega)) ⟨jle rfl, jle rfl⟩ rfl rfl rfl rfl rfl (jle rfl) ⟨Nat.zero_le _, Nat.zero_le _⟩ ?_
      have h5 := hx_lt (ch X q)
      refine J_callS1 (pc := 223) C dX11_next_223 m_X11_126 (c_hex l G _ _ (by omega)) ⟨jle rfl, jle rfl⟩ rfl rfl (jle rfl) ⟨Nat.zero_le _, Nat.zero_le _⟩ ?_
      refine J_if_lt (pc := 226) (tgt := 346) C dX11_next_226 (by decide) (fun h226 => ?_) (fun h226 => ?_)
      · have h1 : scan hxF X (f + 10) q = q := by
          rw [scan, if_neg (by
            intro h9
            rw [lI_neg (by omega)] at h226; simp [hxF, h226] at h9)]
        rw [h1] at k
        exact k
      · refine J_aload_n (pc := 229) C dX11_next_229 rfl rfl ?_
        refine J_dup (pc := 230) C dX11_next_230 rfl ?_
        refine J_get (pc := 231) C dX11_next_231 f_X11_110 rfl rfl ?_
        try dsimp only
        refine J_iconst (pc := 234) (v := nI 1) C dX11_next_234 (by decide) ?_
        refine J_iaddN (pc := 235) C dX11_next_235 ?_
        refine J_putU (pc := 236) C dX11_next_236 p_X11_110 rfl (jlt rfl) rfl rfl (uM_to _) ?_
        try dsimp only
        refine J_goto (pc := 239) (tgt := 201) C dX11_next_239 (by decide) ?_
        refine ih (q + 1) (by omega) ?_ (ch_lt hX _) (by omega)
        have h1 : scan hxF X (f + 10) q = scan hxF X (f + 10) (q + 1) := by
          conv => lhs; rw [scan]
          rw [if_pos ⟨by omega, by rw [lI_neg (by omega)] at h226; simp [hxF]; exact h226⟩]
        rw [h1] at k
        exact k
set_option maxHeartbeats 4000000 in
set_option maxRecDepth 100000 in
theorem l_scanD (l : Launch) (G : jG) {p : Program} {e : Env} {s : State} {m : MethodId} {args : Array Value} {below : List Frame} {meth : Method} {c : Code} (er : Nat) (F X : Nat × (Nat → Nat)) (K : Nat × Nat × Nat) (wr : Int32) (D : mD) (P : mP) (gv : Nat → Int64) (O : Nat × (Nat → Nat)) (T : jMem) {o : jO} (f q : Nat) (v1 : Option Value) (C : jX0 p l (jR 4 77 0 0) s m args meth c G cX11_next 2 RX11 none) (hn : X.1 ≤ 4000) (hX : ∀ k, X.2 k < 256) (hf : f ≤ 4000) (hq : q ≤ f + 32) (k : J p l e (jR 4 77 0 0) s m args below meth c G 2 0 0 (o) 346 [some (.ref 1000), v1] [] (encM er F X ((2, f, scan isDig X (f + 32) q)) wr D P gv O T) 0 0) : J p l e (jR 4 77 0 0) s m args below meth c G 2 0 0 (o) 254 [some (.ref 1000), v1] [] (encM er F X ((2, f, q)) wr D P gv O T) 0 0 := by
  have hc := ch_lt hX q
  induction hm : (f + 32) - q generalizing q with
  | zero =>
    have h1 : scan isDig X (f + 32) q = q := by rw [scan, if_neg (by omega)]
    rw [h1] at k
    refine J_aload_n (pc := 254) C dX11_next_254 rfl rfl ?_
    refine J_get (pc := 255) C dX11_next_255 f_X11_110 rfl rfl ?_
    try dsimp only
    refine J_aload_n (pc := 258) C dX11_next_258 rfl rfl ?_
    refine J_get (pc := 259) C dX11_next_259 f_X11_113 rfl rfl ?_
    try dsimp only
    refine J_bipush (pc := 262) (v := nI 32) C dX11_next_262 (by decide) ?_
    refine J_iaddN (pc := 264) C dX11_next_264 ?_
    refine J_icmp_geN (pc := 265) (tgt := 346) C dX11_next_265 (by decide) (by omega) (by omega) (fun h265 => ?_) (fun h265 => ?_)
    · exact k
    · omega
  | succ d ih =>
    have hc := ch_lt hX q
    refine J_aload_n (pc := 254) C dX11_next_254 rfl rfl ?_
    refine J_get (pc := 255) C dX11_next_255 f_X11_110 rfl rfl ?_
    try dsimp only
    refine J_aload_n (pc := 258) C dX11_next_258 rfl rfl ?_
    refine J_get (pc := 259) C dX11_next_259 f_X11_113 rfl rfl ?_
    try dsimp only
    refine J_bipush (pc := 262) (v := nI 32) C dX11_next_262 (by decide) ?_
    refine J_iaddN (pc := 264) C dX11_next_264 ?_
    refine J_icmp_geN (pc := 265) (tgt := 346) C dX11_next_265 (by decide) (by omega) (by omega) (fun h265 => ?_) (fun h265 => ?_)
    · omega
    · refine J_aload_n (pc := 268) C dX11_next_268 rfl rfl ?_
      refine J_aload_n (pc := 269) C dX11_next_269 rfl rfl ?_
      refine J_get (pc := 270) C dX11_next_270 f_X11_110 rfl rfl ?_
      try dsimp only
      refine J_callV1 (pc := 273) C dX11_next_273 m_X11_116 (c_c l G _ _ _ _ _ _ _ _ _ _ _ hn hX (by omega)) ⟨jle rfl, jle rfl⟩ rfl rfl rfl rfl rfl (jle rfl) ⟨Nat.zero_le _, Nat.zero_le _⟩ ?_
      refine J_callS1 (pc := 276) C dX11_next_276 m_X11_104 (c_isDigit l G _ _ (by omega)) ⟨jle rfl, jle rfl⟩ rfl rfl (jle rfl) ⟨Nat.zero_le _, Nat.zero_le _⟩ ?_
      refine J_if_eq (pc := 279) (tgt := 346) C dX11_next_279 (by decide) (fun h279 => ?_) (fun h279 => ?_)
      · have h1 : scan isDig X (f + 32) q = q := by
          rw [scan, if_neg (by
            intro h9
            have h8 := bI_f h279; simp [h8] at h9)]
        rw [h1] at k
        exact k
      · refine J_aload_n (pc := 282) C dX11_next_282 rfl rfl ?_
        refine J_dup (pc := 283) C dX11_next_283 rfl ?_
        refine J_get (pc := 284) C dX11_next_284 f_X11_110 rfl rfl ?_
        try dsimp only
        refine J_iconst (pc := 287) (v := nI 1) C dX11_next_287 (by decide) ?_
        refine J_iaddN (pc := 288) C dX11_next_288 ?_
        refine J_putU (pc := 289) C dX11_next_289 p_X11_110 rfl (jlt rfl) rfl rfl (uM_to _) ?_
        try dsimp only
        refine J_goto (pc := 292) (tgt := 254) C dX11_next_292 (by decide) ?_
        refine ih (q + 1) (by omega) ?_ (ch_lt hX _) (by omega)
        have h1 : scan isDig X (f + 32) q = scan isDig X (f + 32) (q + 1) := by
          conv => lhs; rw [scan]
          rw [if_pos ⟨by omega, bI_t h279⟩]
        rw [h1] at k
        exact k
set_option maxHeartbeats 4000000 in
set_option maxRecDepth 100000 in
theorem l_tok (l : Launch) (G : jG) {p : Program} {e : Env} {s : State} {m : MethodId} {args : Array Value} {below : List Frame} {meth : Method} {c : Code} (er : Nat) (F X : Nat × (Nat → Nat)) (K : Nat × Nat × Nat) (wr : Int32) (D : mD) (P : mP) (gv : Nat → Int64) (O : Nat × (Nat → Nat)) (T : jMem) (a b q : Nat) (C : jX0 p l (jR 4 77 0 0) s m args meth c G cX11_next 2 RX11 none) (hn : X.1 ≤ 4000) (hX : ∀ k, X.2 k < 256) (hq : q ≤ X.1) : J p l e (jR 4 77 0 0) s m args below meth c G 2 0 0 (.inl (none, encM er F X (nextK X q) wr D P gv O T)) 47 [some (.ref 1000), none] [] (encM er F X ((a, q, b)) wr D P gv O T) 0 0 := by
  by_cases h0 : q < X.1
  · have hc : ch X q = X.2 q := by rw [ch, if_pos h0]
    have hv := hX q
    have hc1 := ch_lt hX (q + 1)
    have hc2 := ch_lt hX (q + 2)
    have hh := hx_lt (ch X (q + 2))
    have hA := hX
    refine J_aload_n (pc := 47) C dX11_next_47 rfl rfl ?_
    refine J_aload_n (pc := 48) C dX11_next_48 rfl rfl ?_
    refine J_get (pc := 49) C dX11_next_49 f_X11_113 rfl rfl ?_
    try dsimp only
    refine J_putU (pc := 52) C dX11_next_52 p_X11_110 rfl (jlt rfl) rfl rfl (uM_to _) ?_
    try dsimp only
    refine J_aload_n (pc := 55) C dX11_next_55 rfl rfl ?_
    refine J_aload_n (pc := 56) C dX11_next_56 rfl rfl ?_
    refine J_get (pc := 57) C dX11_next_57 f_X11_113 rfl rfl ?_
    try dsimp only
    refine J_callV1 (pc := 60) C dX11_next_60 m_X11_116 (c_c l G _ _ _ _ _ _ _ _ _ _ _ hn hX (by omega)) ⟨jle rfl, jle rfl⟩ rfl rfl rfl rfl rfl (jle rfl) ⟨Nat.zero_le _, Nat.zero_le _⟩ ?_
    rw [hc, lI_n (x := X.2 q) (by omega)]
    refine J_istore_n (pc := 63) C dX11_next_63 rfl (by decide) rfl ?_
    dsimp only [List.set]
    refine J_iload_n (pc := 64) C dX11_next_64 rfl rfl ?_
    refine J_if_geN (pc := 65) (tgt := 74) C dX11_next_65 (by decide) (by omega) ?_
    refine J_aload_n (pc := 74) C dX11_next_74 rfl rfl ?_
    refine J_dup (pc := 75) C dX11_next_75 rfl ?_
    refine J_get (pc := 76) C dX11_next_76 f_X11_110 rfl rfl ?_
    try dsimp only
    refine J_iconst (pc := 79) (v := nI 1) C dX11_next_79 (by decide) ?_
    refine J_iaddN (pc := 80) C dX11_next_80 ?_
    refine J_putU (pc := 81) C dX11_next_81 p_X11_110 rfl (jlt rfl) rfl rfl (uM_to _) ?_
    try dsimp only
    refine J_iload_n (pc := 84) C dX11_next_84 rfl rfl ?_
    refine J_callS1 (pc := 85) C dX11_next_85 m_X11_123 (c_isLetterN l G _ _ (by omega)) ⟨jle rfl, jle rfl⟩ rfl rfl (jle rfl) ⟨Nat.zero_le _, Nat.zero_le _⟩ ?_
    refine J_if_eq (pc := 88) (tgt := 151) C dX11_next_88 (by decide) (fun h88 => ?_) (fun h88 => ?_)
    · refine J_iload_n (pc := 151) C dX11_next_151 rfl rfl ?_
      refine J_bipush (pc := 152) (v := nI 48) C dX11_next_152 (by decide) ?_
      refine J_icmp_neN (pc := 154) (tgt := 242) C dX11_next_154 (by decide) (by omega) (by omega) (fun h154 => ?_) (fun h154 => ?_)
      · refine J_iload_n (pc := 242) C dX11_next_242 rfl rfl ?_
        refine J_callS1 (pc := 243) C dX11_next_243 m_X11_104 (c_isDigitN l G _ _ (by omega)) ⟨jle rfl, jle rfl⟩ rfl rfl (jle rfl) ⟨Nat.zero_le _, Nat.zero_le _⟩ ?_
        refine J_if_eq (pc := 246) (tgt := 295) C dX11_next_246 (by decide) (fun h246 => ?_) (fun h246 => ?_)
        · refine J_aload_n (pc := 295) C dX11_next_295 rfl rfl ?_
          refine J_iload_n (pc := 296) C dX11_next_296 rfl rfl ?_
          refine J_bipush (pc := 297) (v := nI 61) C dX11_next_297 (by decide) ?_
          refine J_icmp_eqN (pc := 299) (tgt := 338) C dX11_next_299 (by decide) (by omega) (by omega) (fun h299 => ?_) (fun h299 => ?_)
          · refine J_iconst (pc := 338) (v := nI 4) C dX11_next_338 (by decide) ?_
            refine J_goto (pc := 339) (tgt := 343) C dX11_next_339 (by decide) ?_
            refine J_putU (pc := 343) C dX11_next_343 p_X11_120 rfl (jlt rfl) rfl rfl (uM_token _) ?_
            try dsimp only
            exact J_vret (pc := 346) C dX11_next_346 rfl (by rw [nextK, if_pos h0, if_neg (by rw [bI_f h88]; decide), if_neg (by first | omega | (rw [lI_eq (by omega) (by decide) (by decide)] at h167; omega) | (rw [lI_neg (by omega)] at h183; omega)), if_neg (by rw [bI_f h246]; decide)]; first | (rw [if_pos (isSg_t (by omega))]) | (rw [isSg_f (by omega)]; rfl)) (Nat.zero_le _) (Nat.zero_le _)
          · refine J_iload_n (pc := 302) C dX11_next_302 rfl rfl ?_
            refine J_bipush (pc := 303) (v := nI 59) C dX11_next_303 (by decide) ?_
            refine J_icmp_eqN (pc := 305) (tgt := 338) C dX11_next_305 (by decide) (by omega) (by omega) (fun h305 => ?_) (fun h305 => ?_)
            · refine J_iconst (pc := 338) (v := nI 4) C dX11_next_338 (by decide) ?_
              refine J_goto (pc := 339) (tgt := 343) C dX11_next_339 (by decide) ?_
              refine J_putU (pc := 343) C dX11_next_343 p_X11_120 rfl (jlt rfl) rfl rfl (uM_token _) ?_
              try dsimp only
              exact J_vret (pc := 346) C dX11_next_346 rfl (by rw [nextK, if_pos h0, if_neg (by rw [bI_f h88]; decide), if_neg (by first | omega | (rw [lI_eq (by omega) (by decide) (by decide)] at h167; omega) | (rw [lI_neg (by omega)] at h183; omega)), if_neg (by rw [bI_f h246]; decide)]; first | (rw [if_pos (isSg_t (by omega))]) | (rw [isSg_f (by omega)]; rfl)) (Nat.zero_le _) (Nat.zero_le _)
            · refine J_iload_n (pc := 308) C dX11_next_308 rfl rfl ?_
              refine J_bipush (pc := 309) (v := nI 44) C dX11_next_309 (by decide) ?_
              refine J_icmp_eqN (pc := 311) (tgt := 338) C dX11_next_311 (by decide) (by omega) (by omega) (fun h311 => ?_) (fun h311 => ?_)
              · refine J_iconst (pc := 338) (v := nI 4) C dX11_next_338 (by decide) ?_
                refine J_goto (pc := 339) (tgt := 343) C dX11_next_339 (by decide) ?_
                refine J_putU (pc := 343) C dX11_next_343 p_X11_120 rfl (jlt rfl) rfl rfl (uM_token _) ?_
                try dsimp only
                exact J_vret (pc := 346) C dX11_next_346 rfl (by rw [nextK, if_pos h0, if_neg (by rw [bI_f h88]; decide), if_neg (by first | omega | (rw [lI_eq (by omega) (by decide) (by decide)] at h167; omega) | (rw [lI_neg (by omega)] at h183; omega)), if_neg (by rw [bI_f h246]; decide)]; first | (rw [if_pos (isSg_t (by omega))]) | (rw [isSg_f (by omega)]; rfl)) (Nat.zero_le _) (Nat.zero_le _)
              · refine J_iload_n (pc := 314) C dX11_next_314 rfl rfl ?_
                refine J_bipush (pc := 315) (v := nI 58) C dX11_next_315 (by decide) ?_
                refine J_icmp_eqN (pc := 317) (tgt := 338) C dX11_next_317 (by decide) (by omega) (by omega) (fun h317 => ?_) (fun h317 => ?_)
                · refine J_iconst (pc := 338) (v := nI 4) C dX11_next_338 (by decide) ?_
                  refine J_goto (pc := 339) (tgt := 343) C dX11_next_339 (by decide) ?_
                  refine J_putU (pc := 343) C dX11_next_343 p_X11_120 rfl (jlt rfl) rfl rfl (uM_token _) ?_
                  try dsimp only
                  exact J_vret (pc := 346) C dX11_next_346 rfl (by rw [nextK, if_pos h0, if_neg (by rw [bI_f h88]; decide), if_neg (by first | omega | (rw [lI_eq (by omega) (by decide) (by decide)] at h167; omega) | (rw [lI_neg (by omega)] at h183; omega)), if_neg (by rw [bI_f h246]; decide)]; first | (rw [if_pos (isSg_t (by omega))]) | (rw [isSg_f (by omega)]; rfl)) (Nat.zero_le _) (Nat.zero_le _)
                · refine J_iload_n (pc := 320) C dX11_next_320 rfl rfl ?_
                  refine J_bipush (pc := 321) (v := nI 91) C dX11_next_321 (by decide) ?_
                  refine J_icmp_eqN (pc := 323) (tgt := 338) C dX11_next_323 (by decide) (by omega) (by omega) (fun h323 => ?_) (fun h323 => ?_)
                  · refine J_iconst (pc := 338) (v := nI 4) C dX11_next_338 (by decide) ?_
                    refine J_goto (pc := 339) (tgt := 343) C dX11_next_339 (by decide) ?_
                    refine J_putU (pc := 343) C dX11_next_343 p_X11_120 rfl (jlt rfl) rfl rfl (uM_token _) ?_
                    try dsimp only
                    exact J_vret (pc := 346) C dX11_next_346 rfl (by rw [nextK, if_pos h0, if_neg (by rw [bI_f h88]; decide), if_neg (by first | omega | (rw [lI_eq (by omega) (by decide) (by decide)] at h167; omega) | (rw [lI_neg (by omega)] at h183; omega)), if_neg (by rw [bI_f h246]; decide)]; first | (rw [if_pos (isSg_t (by omega))]) | (rw [isSg_f (by omega)]; rfl)) (Nat.zero_le _) (Nat.zero_le _)
                  · refine J_iload_n (pc := 326) C dX11_next_326 rfl rfl ?_
                    refine J_bipush (pc := 327) (v := nI 93) C dX11_next_327 (by decide) ?_
                    refine J_icmp_eqN (pc := 329) (tgt := 338) C dX11_next_329 (by decide) (by omega) (by omega) (fun h329 => ?_) (fun h329 => ?_)
                    · refine J_iconst (pc := 338) (v := nI 4) C dX11_next_338 (by decide) ?_
                      refine J_goto (pc := 339) (tgt := 343) C dX11_next_339 (by decide) ?_
                      refine J_putU (pc := 343) C dX11_next_343 p_X11_120 rfl (jlt rfl) rfl rfl (uM_token _) ?_
                      try dsimp only
                      exact J_vret (pc := 346) C dX11_next_346 rfl (by rw [nextK, if_pos h0, if_neg (by rw [bI_f h88]; decide), if_neg (by first | omega | (rw [lI_eq (by omega) (by decide) (by decide)] at h167; omega) | (rw [lI_neg (by omega)] at h183; omega)), if_neg (by rw [bI_f h246]; decide)]; first | (rw [if_pos (isSg_t (by omega))]) | (rw [isSg_f (by omega)]; rfl)) (Nat.zero_le _) (Nat.zero_le _)
                    · refine J_iload_n (pc := 332) C dX11_next_332 rfl rfl ?_
                      refine J_bipush (pc := 333) (v := nI 45) C dX11_next_333 (by decide) ?_
                      refine J_icmp_neN (pc := 335) (tgt := 342) C dX11_next_335 (by decide) (by omega) (by omega) (fun h335 => ?_) (fun h335 => ?_)
                      · refine J_iconst (pc := 342) (v := nI 5) C dX11_next_342 (by decide) ?_
                        refine J_putU (pc := 343) C dX11_next_343 p_X11_120 rfl (jlt rfl) rfl rfl (uM_token _) ?_
                        try dsimp only
                        exact J_vret (pc := 346) C dX11_next_346 rfl (by rw [nextK, if_pos h0, if_neg (by rw [bI_f h88]; decide), if_neg (by first | omega | (rw [lI_eq (by omega) (by decide) (by decide)] at h167; omega) | (rw [lI_neg (by omega)] at h183; omega)), if_neg (by rw [bI_f h246]; decide)]; first | (rw [if_pos (isSg_t (by omega))]) | (rw [isSg_f (by omega)]; rfl)) (Nat.zero_le _) (Nat.zero_le _)
                      · refine J_iconst (pc := 338) (v := nI 4) C dX11_next_338 (by decide) ?_
                        refine J_goto (pc := 339) (tgt := 343) C dX11_next_339 (by decide) ?_
                        refine J_putU (pc := 343) C dX11_next_343 p_X11_120 rfl (jlt rfl) rfl rfl (uM_token _) ?_
                        try dsimp only
                        exact J_vret (pc := 346) C dX11_next_346 rfl (by rw [nextK, if_pos h0, if_neg (by rw [bI_f h88]; decide), if_neg (by first | omega | (rw [lI_eq (by omega) (by decide) (by decide)] at h167; omega) | (rw [lI_neg (by omega)] at h183; omega)), if_neg (by rw [bI_f h246]; decide)]; first | (rw [if_pos (isSg_t (by omega))]) | (rw [isSg_f (by omega)]; rfl)) (Nat.zero_le _) (Nat.zero_le _)
        · refine J_aload_n (pc := 249) C dX11_next_249 rfl rfl ?_
          refine J_iconst (pc := 250) (v := nI 2) C dX11_next_250 (by decide) ?_
          refine J_putU (pc := 251) C dX11_next_251 p_X11_120 rfl (jlt rfl) rfl rfl (uM_token _) ?_
          try dsimp only
          refine l_scanD l G er F X K wr D P gv O T q (q + 1) _ C hn hX (by omega) (by omega) ?_
          rw [show (2, q, scan isDig X (q + 32) (q + 1)) = nextK X q by rw [nextK, if_pos h0, if_neg (by rw [bI_f h88]; decide), if_neg (by first | omega | (rw [lI_eq (by omega) (by decide) (by decide)] at h167; omega) | (rw [lI_neg (by omega)] at h183; omega)), if_pos (bI_t h246)]]
          exact J_vret (pc := 346) C dX11_next_346 rfl rfl (Nat.zero_le _) (Nat.zero_le _)
      · refine J_aload_n (pc := 157) C dX11_next_157 rfl rfl ?_
        refine J_aload_n (pc := 158) C dX11_next_158 rfl rfl ?_
        refine J_get (pc := 159) C dX11_next_159 f_X11_110 rfl rfl ?_
        try dsimp only
        refine J_callV1 (pc := 162) C dX11_next_162 m_X11_116 (c_c l G _ _ _ _ _ _ _ _ _ _ _ hn hX (by omega)) ⟨jle rfl, jle rfl⟩ rfl rfl rfl rfl rfl (jle rfl) ⟨Nat.zero_le _, Nat.zero_le _⟩ ?_
        refine J_bipush (pc := 165) (v := nI 120) C dX11_next_165 (by decide) ?_
        refine J_icmp_ne (pc := 167) (tgt := 242) C dX11_next_167 (by decide) (fun h167 => ?_) (fun h167 => ?_)
        · refine J_iload_n (pc := 242) C dX11_next_242 rfl rfl ?_
          refine J_callS1 (pc := 243) C dX11_next_243 m_X11_104 (c_isDigitN l G _ _ (by omega)) ⟨jle rfl, jle rfl⟩ rfl rfl (jle rfl) ⟨Nat.zero_le _, Nat.zero_le _⟩ ?_
          refine J_if_eq (pc := 246) (tgt := 295) C dX11_next_246 (by decide) (fun h246 => ?_) (fun h246 => ?_)
          · refine J_aload_n (pc := 295) C dX11_next_295 rfl rfl ?_
            refine J_iload_n (pc := 296) C dX11_next_296 rfl rfl ?_
            refine J_bipush (pc := 297) (v := nI 61) C dX11_next_297 (by decide) ?_
            refine J_icmp_eqN (pc := 299) (tgt := 338) C dX11_next_299 (by decide) (by omega) (by omega) (fun h299 => ?_) (fun h299 => ?_)
            · refine J_iconst (pc := 338) (v := nI 4) C dX11_next_338 (by decide) ?_
              refine J_goto (pc := 339) (tgt := 343) C dX11_next_339 (by decide) ?_
              refine J_putU (pc := 343) C dX11_next_343 p_X11_120 rfl (jlt rfl) rfl rfl (uM_token _) ?_
              try dsimp only
              exact J_vret (pc := 346) C dX11_next_346 rfl (by rw [nextK, if_pos h0, if_neg (by rw [bI_f h88]; decide), if_neg (by first | omega | (rw [lI_eq (by omega) (by decide) (by decide)] at h167; omega) | (rw [lI_neg (by omega)] at h183; omega)), if_neg (by rw [bI_f h246]; decide)]; first | (rw [if_pos (isSg_t (by omega))]) | (rw [isSg_f (by omega)]; rfl)) (Nat.zero_le _) (Nat.zero_le _)
            · refine J_iload_n (pc := 302) C dX11_next_302 rfl rfl ?_
              refine J_bipush (pc := 303) (v := nI 59) C dX11_next_303 (by decide) ?_
              refine J_icmp_eqN (pc := 305) (tgt := 338) C dX11_next_305 (by decide) (by omega) (by omega) (fun h305 => ?_) (fun h305 => ?_)
              · refine J_iconst (pc := 338) (v := nI 4) C dX11_next_338 (by decide) ?_
                refine J_goto (pc := 339) (tgt := 343) C dX11_next_339 (by decide) ?_
                refine J_putU (pc := 343) C dX11_next_343 p_X11_120 rfl (jlt rfl) rfl rfl (uM_token _) ?_
                try dsimp only
                exact J_vret (pc := 346) C dX11_next_346 rfl (by rw [nextK, if_pos h0, if_neg (by rw [bI_f h88]; decide), if_neg (by first | omega | (rw [lI_eq (by omega) (by decide) (by decide)] at h167; omega) | (rw [lI_neg (by omega)] at h183; omega)), if_neg (by rw [bI_f h246]; decide)]; first | (rw [if_pos (isSg_t (by omega))]) | (rw [isSg_f (by omega)]; rfl)) (Nat.zero_le _) (Nat.zero_le _)
              · refine J_iload_n (pc := 308) C dX11_next_308 rfl rfl ?_
                refine J_bipush (pc := 309) (v := nI 44) C dX11_next_309 (by decide) ?_
                refine J_icmp_eqN (pc := 311) (tgt := 338) C dX11_next_311 (by decide) (by omega) (by omega) (fun h311 => ?_) (fun h311 => ?_)
                · refine J_iconst (pc := 338) (v := nI 4) C dX11_next_338 (by decide) ?_
                  refine J_goto (pc := 339) (tgt := 343) C dX11_next_339 (by decide) ?_
                  refine J_putU (pc := 343) C dX11_next_343 p_X11_120 rfl (jlt rfl) rfl rfl (uM_token _) ?_
                  try dsimp only
                  exact J_vret (pc := 346) C dX11_next_346 rfl (by rw [nextK, if_pos h0, if_neg (by rw [bI_f h88]; decide), if_neg (by first | omega | (rw [lI_eq (by omega) (by decide) (by decide)] at h167; omega) | (rw [lI_neg (by omega)] at h183; omega)), if_neg (by rw [bI_f h246]; decide)]; first | (rw [if_pos (isSg_t (by omega))]) | (rw [isSg_f (by omega)]; rfl)) (Nat.zero_le _) (Nat.zero_le _)
                · refine J_iload_n (pc := 314) C dX11_next_314 rfl rfl ?_
                  refine J_bipush (pc := 315) (v := nI 58) C dX11_next_315 (by decide) ?_
                  refine J_icmp_eqN (pc := 317) (tgt := 338) C dX11_next_317 (by decide) (by omega) (by omega) (fun h317 => ?_) (fun h317 => ?_)
                  · refine J_iconst (pc := 338) (v := nI 4) C dX11_next_338 (by decide) ?_
                    refine J_goto (pc := 339) (tgt := 343) C dX11_next_339 (by decide) ?_
                    refine J_putU (pc := 343) C dX11_next_343 p_X11_120 rfl (jlt rfl) rfl rfl (uM_token _) ?_
                    try dsimp only
                    exact J_vret (pc := 346) C dX11_next_346 rfl (by rw [nextK, if_pos h0, if_neg (by rw [bI_f h88]; decide), if_neg (by first | omega | (rw [lI_eq (by omega) (by decide) (by decide)] at h167; omega) | (rw [lI_neg (by omega)] at h183; omega)), if_neg (by rw [bI_f h246]; decide)]; first | (rw [if_pos (isSg_t (by omega))]) | (rw [isSg_f (by omega)]; rfl)) (Nat.zero_le _) (Nat.zero_le _)
                  · refine J_iload_n (pc := 320) C dX11_next_320 rfl rfl ?_
                    refine J_bipush (pc := 321) (v := nI 91) C dX11_next_321 (by decide) ?_
                    refine J_icmp_eqN (pc := 323) (tgt := 338) C dX11_next_323 (by decide) (by omega) (by omega) (fun h323 => ?_) (fun h323 => ?_)
                    · refine J_iconst (pc := 338) (v := nI 4) C dX11_next_338 (by decide) ?_
                      refine J_goto (pc := 339) (tgt := 343) C dX11_next_339 (by decide) ?_
                      refine J_putU (pc := 343) C dX11_next_343 p_X11_120 rfl (jlt rfl) rfl rfl (uM_token _) ?_
                      try dsimp only
                      exact J_vret (pc := 346) C dX11_next_346 rfl (by rw [nextK, if_pos h0, if_neg (by rw [bI_f h88]; decide), if_neg (by first | omega | (rw [lI_eq (by omega) (by decide) (by decide)] at h167; omega) | (rw [lI_neg (by omega)] at h183; omega)), if_neg (by rw [bI_f h246]; decide)]; first | (rw [if_pos (isSg_t (by omega))]) | (rw [isSg_f (by omega)]; rfl)) (Nat.zero_le _) (Nat.zero_le _)
                    · refine J_iload_n (pc := 326) C dX11_next_326 rfl rfl ?_
                      refine J_bipush (pc := 327) (v := nI 93) C dX11_next_327 (by decide) ?_
                      refine J_icmp_eqN (pc := 329) (tgt := 338) C dX11_next_329 (by decide) (by omega) (by omega) (fun h329 => ?_) (fun h329 => ?_)
                      · refine J_iconst (pc := 338) (v := nI 4) C dX11_next_338 (by decide) ?_
                        refine J_goto (pc := 339) (tgt := 343) C dX11_next_339 (by decide) ?_
                        refine J_putU (pc := 343) C dX11_next_343 p_X11_120 rfl (jlt rfl) rfl rfl (uM_token _) ?_
                        try dsimp only
                        exact J_vret (pc := 346) C dX11_next_346 rfl (by rw [nextK, if_pos h0, if_neg (by rw [bI_f h88]; decide), if_neg (by first | omega | (rw [lI_eq (by omega) (by decide) (by decide)] at h167; omega) | (rw [lI_neg (by omega)] at h183; omega)), if_neg (by rw [bI_f h246]; decide)]; first | (rw [if_pos (isSg_t (by omega))]) | (rw [isSg_f (by omega)]; rfl)) (Nat.zero_le _) (Nat.zero_le _)
                      · refine J_iload_n (pc := 332) C dX11_next_332 rfl rfl ?_
                        refine J_bipush (pc := 333) (v := nI 45) C dX11_next_333 (by decide) ?_
                        refine J_icmp_neN (pc := 335) (tgt := 342) C dX11_next_335 (by decide) (by omega) (by omega) (fun h335 => ?_) (fun h335 => ?_)
                        · refine J_iconst (pc := 342) (v := nI 5) C dX11_next_342 (by decide) ?_
                          refine J_putU (pc := 343) C dX11_next_343 p_X11_120 rfl (jlt rfl) rfl rfl (uM_token _) ?_
                          try dsimp only
                          exact J_vret (pc := 346) C dX11_next_346 rfl (by rw [nextK, if_pos h0, if_neg (by rw [bI_f h88]; decide), if_neg (by first | omega | (rw [lI_eq (by omega) (by decide) (by decide)] at h167; omega) | (rw [lI_neg (by omega)] at h183; omega)), if_neg (by rw [bI_f h246]; decide)]; first | (rw [if_pos (isSg_t (by omega))]) | (rw [isSg_f (by omega)]; rfl)) (Nat.zero_le _) (Nat.zero_le _)
                        · refine J_iconst (pc := 338) (v := nI 4) C dX11_next_338 (by decide) ?_
                          refine J_goto (pc := 339) (tgt := 343) C dX11_next_339 (by decide) ?_
                          refine J_putU (pc := 343) C dX11_next_343 p_X11_120 rfl (jlt rfl) rfl rfl (uM_token _) ?_
                          try dsimp only
                          exact J_vret (pc := 346) C dX11_next_346 rfl (by rw [nextK, if_pos h0, if_neg (by rw [bI_f h88]; decide), if_neg (by first | omega | (rw [lI_eq (by omega) (by decide) (by decide)] at h167; omega) | (rw [lI_neg (by omega)] at h183; omega)), if_neg (by rw [bI_f h246]; decide)]; first | (rw [if_pos (isSg_t (by omega))]) | (rw [isSg_f (by omega)]; rfl)) (Nat.zero_le _) (Nat.zero_le _)
          · refine J_aload_n (pc := 249) C dX11_next_249 rfl rfl ?_
            refine J_iconst (pc := 250) (v := nI 2) C dX11_next_250 (by decide) ?_
            refine J_putU (pc := 251) C dX11_next_251 p_X11_120 rfl (jlt rfl) rfl rfl (uM_token _) ?_
            try dsimp only
            refine l_scanD l G er F X K wr D P gv O T q (q + 1) _ C hn hX (by omega) (by omega) ?_
            rw [show (2, q, scan isDig X (q + 32) (q + 1)) = nextK X q by rw [nextK, if_pos h0, if_neg (by rw [bI_f h88]; decide), if_neg (by first | omega | (rw [lI_eq (by omega) (by decide) (by decide)] at h167; omega) | (rw [lI_neg (by omega)] at h183; omega)), if_pos (bI_t h246)]]
            exact J_vret (pc := 346) C dX11_next_346 rfl rfl (Nat.zero_le _) (Nat.zero_le _)
        · refine J_aload_n (pc := 170) C dX11_next_170 rfl rfl ?_
          refine J_aload_n (pc := 171) C dX11_next_171 rfl rfl ?_
          refine J_get (pc := 172) C dX11_next_172 f_X11_110 rfl rfl ?_
          try dsimp only
          refine J_iconst (pc := 175) (v := nI 1) C dX11_next_175 (by decide) ?_
          refine J_iaddN (pc := 176) C dX11_next_176 ?_
          rw [show q + 1 + 1 = q + 2 by omega]
          refine J_callV1 (pc := 177) C dX11_next_177 m_X11_116 (c_c l G _ _ _ _ _ _ _ _ _ _ _ hn hX (by omega)) ⟨jle rfl, jle rfl⟩ rfl rfl rfl rfl rfl (jle rfl) ⟨Nat.zero_le _, Nat.zero_le _⟩ ?_
          refine J_callS1 (pc := 180) C dX11_next_180 m_X11_126 (c_hex l G _ _ (by omega)) ⟨jle rfl, jle rfl⟩ rfl rfl (jle rfl) ⟨Nat.zero_le _, Nat.zero_le _⟩ ?_
          refine J_if_lt (pc := 183) (tgt := 242) C dX11_next_183 (by decide) (fun h183 => ?_) (fun h183 => ?_)
          · refine J_iload_n (pc := 242) C dX11_next_242 rfl rfl ?_
            refine J_callS1 (pc := 243) C dX11_next_243 m_X11_104 (c_isDigitN l G _ _ (by omega)) ⟨jle rfl, jle rfl⟩ rfl rfl (jle rfl) ⟨Nat.zero_le _, Nat.zero_le _⟩ ?_
            refine J_if_eq (pc := 246) (tgt := 295) C dX11_next_246 (by decide) (fun h246 => ?_) (fun h246 => ?_)
            · refine J_aload_n (pc := 295) C dX11_next_295 rfl rfl ?_
              refine J_iload_n (pc := 296) C dX11_next_296 rfl rfl ?_
              refine J_bipush (pc := 297) (v := nI 61) C dX11_next_297 (by decide) ?_
              refine J_icmp_eqN (pc := 299) (tgt := 338) C dX11_next_299 (by decide) (by omega) (by omega) (fun h299 => ?_) (fun h299 => ?_)
              · refine J_iconst (pc := 338) (v := nI 4) C dX11_next_338 (by decide) ?_
                refine J_goto (pc := 339) (tgt := 343) C dX11_next_339 (by decide) ?_
                refine J_putU (pc := 343) C dX11_next_343 p_X11_120 rfl (jlt rfl) rfl rfl (uM_token _) ?_
                try dsimp only
                exact J_vret (pc := 346) C dX11_next_346 rfl (by rw [nextK, if_pos h0, if_neg (by rw [bI_f h88]; decide), if_neg (by first | omega | (rw [lI_eq (by omega) (by decide) (by decide)] at h167; omega) | (rw [lI_neg (by omega)] at h183; omega)), if_neg (by rw [bI_f h246]; decide)]; first | (rw [if_pos (isSg_t (by omega))]) | (rw [isSg_f (by omega)]; rfl)) (Nat.zero_le _) (Nat.zero_le _)
              · refine J_iload_n (pc := 302) C dX11_next_302 rfl rfl ?_
                refine J_bipush (pc := 303) (v := nI 59) C dX11_next_303 (by decide) ?_
                refine J_icmp_eqN (pc := 305) (tgt := 338) C dX11_next_305 (by decide) (by omega) (by omega) (fun h305 => ?_) (fun h305 => ?_)
                · refine J_iconst (pc := 338) (v := nI 4) C dX11_next_338 (by decide) ?_
                  refine J_goto (pc := 339) (tgt := 343) C dX11_next_339 (by decide) ?_
                  refine J_putU (pc := 343) C dX11_next_343 p_X11_120 rfl (jlt rfl) rfl rfl (uM_token _) ?_
                  try dsimp only
                  exact J_vret (pc := 346) C dX11_next_346 rfl (by rw [nextK, if_pos h0, if_neg (by rw [bI_f h88]; decide), if_neg (by first | omega | (rw [lI_eq (by omega) (by decide) (by decide)] at h167; omega) | (rw [lI_neg (by omega)] at h183; omega)), if_neg (by rw [bI_f h246]; decide)]; first | (rw [if_pos (isSg_t (by omega))]) | (rw [isSg_f (by omega)]; rfl)) (Nat.zero_le _) (Nat.zero_le _)
                · refine J_iload_n (pc := 308) C dX11_next_308 rfl rfl ?_
                  refine J_bipush (pc := 309) (v := nI 44) C dX11_next_309 (by decide) ?_
                  refine J_icmp_eqN (pc := 311) (tgt := 338) C dX11_next_311 (by decide) (by omega) (by omega) (fun h311 => ?_) (fun h311 => ?_)
                  · refine J_iconst (pc := 338) (v := nI 4) C dX11_next_338 (by decide) ?_
                    refine J_goto (pc := 339) (tgt := 343) C dX11_next_339 (by decide) ?_
                    refine J_putU (pc := 343) C dX11_next_343 p_X11_120 rfl (jlt rfl) rfl rfl (uM_token _) ?_
                    try dsimp only
                    exact J_vret (pc := 346) C dX11_next_346 rfl (by rw [nextK, if_pos h0, if_neg (by rw [bI_f h88]; decide), if_neg (by first | omega | (rw [lI_eq (by omega) (by decide) (by decide)] at h167; omega) | (rw [lI_neg (by omega)] at h183; omega)), if_neg (by rw [bI_f h246]; decide)]; first | (rw [if_pos (isSg_t (by omega))]) | (rw [isSg_f (by omega)]; rfl)) (Nat.zero_le _) (Nat.zero_le _)
                  · refine J_iload_n (pc := 314) C dX11_next_314 rfl rfl ?_
                    refine J_bipush (pc := 315) (v := nI 58) C dX11_next_315 (by decide) ?_
                    refine J_icmp_eqN (pc := 317) (tgt := 338) C dX11_next_317 (by decide) (by omega) (by omega) (fun h317 => ?_) (fun h317 => ?_)
                    · refine J_iconst (pc := 338) (v := nI 4) C dX11_next_338 (by decide) ?_
                      refine J_goto (pc := 339) (tgt := 343) C dX11_next_339 (by decide) ?_
                      refine J_putU (pc := 343) C dX11_next_343 p_X11_120 rfl (jlt rfl) rfl rfl (uM_token _) ?_
                      try dsimp only
                      exact J_vret (pc := 346) C dX11_next_346 rfl (by rw [nextK, if_pos h0, if_neg (by rw [bI_f h88]; decide), if_neg (by first | omega | (rw [lI_eq (by omega) (by decide) (by decide)] at h167; omega) | (rw [lI_neg (by omega)] at h183; omega)), if_neg (by rw [bI_f h246]; decide)]; first | (rw [if_pos (isSg_t (by omega))]) | (rw [isSg_f (by omega)]; rfl)) (Nat.zero_le _) (Nat.zero_le _)
                    · refine J_iload_n (pc := 320) C dX11_next_320 rfl rfl ?_
                      refine J_bipush (pc := 321) (v := nI 91) C dX11_next_321 (by decide) ?_
                      refine J_icmp_eqN (pc := 323) (tgt := 338) C dX11_next_323 (by decide) (by omega) (by omega) (fun h323 => ?_) (fun h323 => ?_)
                      · refine J_iconst (pc := 338) (v := nI 4) C dX11_next_338 (by decide) ?_
                        refine J_goto (pc := 339) (tgt := 343) C dX11_next_339 (by decide) ?_
                        refine J_putU (pc := 343) C dX11_next_343 p_X11_120 rfl (jlt rfl) rfl rfl (uM_token _) ?_
                        try dsimp only
                        exact J_vret (pc := 346) C dX11_next_346 rfl (by rw [nextK, if_pos h0, if_neg (by rw [bI_f h88]; decide), if_neg (by first | omega | (rw [lI_eq (by omega) (by decide) (by decide)] at h167; omega) | (rw [lI_neg (by omega)] at h183; omega)), if_neg (by rw [bI_f h246]; decide)]; first | (rw [if_pos (isSg_t (by omega))]) | (rw [isSg_f (by omega)]; rfl)) (Nat.zero_le _) (Nat.zero_le _)
                      · refine J_iload_n (pc := 326) C dX11_next_326 rfl rfl ?_
                        refine J_bipush (pc := 327) (v := nI 93) C dX11_next_327 (by decide) ?_
                        refine J_icmp_eqN (pc := 329) (tgt := 338) C dX11_next_329 (by decide) (by omega) (by omega) (fun h329 => ?_) (fun h329 => ?_)
                        · refine J_iconst (pc := 338) (v := nI 4) C dX11_next_338 (by decide) ?_
                          refine J_goto (pc := 339) (tgt := 343) C dX11_next_339 (by decide) ?_
                          refine J_putU (pc := 343) C dX11_next_343 p_X11_120 rfl (jlt rfl) rfl rfl (uM_token _) ?_
                          try dsimp only
                          exact J_vret (pc := 346) C dX11_next_346 rfl (by rw [nextK, if_pos h0, if_neg (by rw [bI_f h88]; decide), if_neg (by first | omega | (rw [lI_eq (by omega) (by decide) (by decide)] at h167; omega) | (rw [lI_neg (by omega)] at h183; omega)), if_neg (by rw [bI_f h246]; decide)]; first | (rw [if_pos (isSg_t (by omega))]) | (rw [isSg_f (by omega)]; rfl)) (Nat.zero_le _) (Nat.zero_le _)
                        · refine J_iload_n (pc := 332) C dX11_next_332 rfl rfl ?_
                          refine J_bipush (pc := 333) (v := nI 45) C dX11_next_333 (by decide) ?_
                          refine J_icmp_neN (pc := 335) (tgt := 342) C dX11_next_335 (by decide) (by omega) (by omega) (fun h335 => ?_) (fun h335 => ?_)
                          · refine J_iconst (pc := 342) (v := nI 5) C dX11_next_342 (by decide) ?_
                            refine J_putU (pc := 343) C dX11_next_343 p_X11_120 rfl (jlt rfl) rfl rfl (uM_token _) ?_
                            try dsimp only
                            exact J_vret (pc := 346) C dX11_next_346 rfl (by rw [nextK, if_pos h0, if_neg (by rw [bI_f h88]; decide), if_neg (by first | omega | (rw [lI_eq (by omega) (by decide) (by decide)] at h167; omega) | (rw [lI_neg (by omega)] at h183; omega)), if_neg (by rw [bI_f h246]; decide)]; first | (rw [if_pos (isSg_t (by omega))]) | (rw [isSg_f (by omega)]; rfl)) (Nat.zero_le _) (Nat.zero_le _)
                          · refine J_iconst (pc := 338) (v := nI 4) C dX11_next_338 (by decide) ?_
                            refine J_goto (pc := 339) (tgt := 343) C dX11_next_339 (by decide) ?_
                            refine J_putU (pc := 343) C dX11_next_343 p_X11_120 rfl (jlt rfl) rfl rfl (uM_token _) ?_
                            try dsimp only
                            exact J_vret (pc := 346) C dX11_next_346 rfl (by rw [nextK, if_pos h0, if_neg (by rw [bI_f h88]; decide), if_neg (by first | omega | (rw [lI_eq (by omega) (by decide) (by decide)] at h167; omega) | (rw [lI_neg (by omega)] at h183; omega)), if_neg (by rw [bI_f h246]; decide)]; first | (rw [if_pos (isSg_t (by omega))]) | (rw [isSg_f (by omega)]; rfl)) (Nat.zero_le _) (Nat.zero_le _)
            · refine J_aload_n (pc := 249) C dX11_next_249 rfl rfl ?_
              refine J_iconst (pc := 250) (v := nI 2) C dX11_next_250 (by decide) ?_
              refine J_putU (pc := 251) C dX11_next_251 p_X11_120 rfl (jlt rfl) rfl rfl (uM_token _) ?_
              try dsimp only
              refine l_scanD l G er F X K wr D P gv O T q (q + 1) _ C hn hX (by omega) (by omega) ?_
              rw [show (2, q, scan isDig X (q + 32) (q + 1)) = nextK X q by rw [nextK, if_pos h0, if_neg (by rw [bI_f h88]; decide), if_neg (by first | omega | (rw [lI_eq (by omega) (by decide) (by decide)] at h167; omega) | (rw [lI_neg (by omega)] at h183; omega)), if_pos (bI_t h246)]]
              exact J_vret (pc := 346) C dX11_next_346 rfl rfl (Nat.zero_le _) (Nat.zero_le _)
          · refine J_aload_n (pc := 186) C dX11_next_186 rfl rfl ?_
            refine J_iconst (pc := 187) (v := nI 3) C dX11_next_187 (by decide) ?_
            refine J_putU (pc := 188) C dX11_next_188 p_X11_120 rfl (jlt rfl) rfl rfl (uM_token _) ?_
            try dsimp only
            refine J_aload_n (pc := 191) C dX11_next_191 rfl rfl ?_
            refine J_dup (pc := 192) C dX11_next_192 rfl ?_
            refine J_get (pc := 193) C dX11_next_193 f_X11_110 rfl rfl ?_
            try dsimp only
            refine J_iconst (pc := 196) (v := nI 1) C dX11_next_196 (by decide) ?_
            refine J_iaddN (pc := 197) C dX11_next_197 ?_
            refine J_putU (pc := 198) C dX11_next_198 p_X11_110 rfl (jlt rfl) rfl rfl (uM_to _) ?_
            try dsimp only
            refine l_scanH l G er F X K wr D P gv O T q (q + 2) _ C hn hX (by omega) (by omega) ?_
            rw [lI_neg (by omega)] at h183
            rw [lI_eq (by omega) (by decide) (by decide)] at h167
            rw [show (3, q, scan hxF X (q + 10) (q + 2)) = nextK X q by rw [nextK, if_pos h0, if_neg (by rw [bI_f h88]; decide), if_pos ⟨h154, h167, h183⟩]]
            exact J_vret (pc := 346) C dX11_next_346 rfl rfl (Nat.zero_le _) (Nat.zero_le _)
    · refine J_aload_n (pc := 91) C dX11_next_91 rfl rfl ?_
      refine J_iconst (pc := 92) (v := nI 1) C dX11_next_92 (by decide) ?_
      refine J_putU (pc := 93) C dX11_next_93 p_X11_120 rfl (jlt rfl) rfl rfl (uM_token _) ?_
      try dsimp only
      refine l_scanN l G er F X K wr D P gv O T q (q + 1) _ C hn hX (by omega) (by omega) ?_
      rw [show (1, q, scan nmF X (q + 12) (q + 1)) = nextK X q by rw [nextK, if_pos h0, if_pos (bI_t h88)]]
      exact J_vret (pc := 346) C dX11_next_346 rfl rfl (Nat.zero_le _) (Nat.zero_le _)
  · have hc : ch X q = 1000 := by rw [ch, if_neg h0]
    refine J_aload_n (pc := 47) C dX11_next_47 rfl rfl ?_
    refine J_aload_n (pc := 48) C dX11_next_48 rfl rfl ?_
    refine J_get (pc := 49) C dX11_next_49 f_X11_113 rfl rfl ?_
    try dsimp only
    refine J_putU (pc := 52) C dX11_next_52 p_X11_110 rfl (jlt rfl) rfl rfl (uM_to _) ?_
    try dsimp only
    refine J_aload_n (pc := 55) C dX11_next_55 rfl rfl ?_
    refine J_aload_n (pc := 56) C dX11_next_56 rfl rfl ?_
    refine J_get (pc := 57) C dX11_next_57 f_X11_113 rfl rfl ?_
    try dsimp only
    refine J_callV1 (pc := 60) C dX11_next_60 m_X11_116 (c_c l G _ _ _ _ _ _ _ _ _ _ _ hn hX (by omega)) ⟨jle rfl, jle rfl⟩ rfl rfl rfl rfl rfl (jle rfl) ⟨Nat.zero_le _, Nat.zero_le _⟩ ?_
    rw [hc]
    refine J_istore_n (pc := 63) C dX11_next_63 rfl (by decide) rfl ?_
    dsimp only [List.set]
    refine J_iload_n (pc := 64) C dX11_next_64 rfl rfl ?_
    refine J_if_ge (pc := 65) (tgt := 74) C dX11_next_65 (by decide) (fun h65 => ?_) (fun h65 => ?_)
    · exact absurd h65 (by decide)
    · refine J_aload_n (pc := 68) C dX11_next_68 rfl rfl ?_
      refine J_iconst (pc := 69) (v := nI 0) C dX11_next_69 (by decide) ?_
      refine J_putU (pc := 70) C dX11_next_70 p_X11_120 rfl (jlt rfl) rfl rfl (uM_token _) ?_
      try dsimp only
      exact J_vret (pc := 73) C dX11_next_73 rfl (by rw [nextK, if_neg h0]) (Nat.zero_le _) (Nat.zero_le _)
set_option maxHeartbeats 4000000 in
set_option maxRecDepth 100000 in
theorem c_next (l : Launch) (G : jG) (er : Nat) (F X : Nat × (Nat → Nat)) (K : Nat × Nat × Nat) (wr : Int32) (D : mD) (P : mP) (gv : Nat → Int64) (O : Nat × (Nat → Nat)) (T : jMem) (hn : X.1 ≤ 4000) (hX : ∀ k, X.2 k < 256) (hK : K.2.2 ≤ X.1) : jC l G yX11_next cX11_next 2 none 4 77 0 0 [.ref 1000] (encM er F X K wr D P gv O T) (.inl (none, encM er F X (nextF X K.2.2) wr D P gv O T)) := by
  refine jC.of (by decide) 1 rfl [some (.ref 1000), none] rfl (fun p e s m args below meth c C hT9 hNm9 => ?_)
  refine J_aload_n (pc := 0) C dX11_next_0 rfl rfl ?_
  refine J_aload_n (pc := 1) C dX11_next_1 rfl rfl ?_
  refine J_get (pc := 2) C dX11_next_2 f_X11_110 rfl rfl ?_
  try dsimp only
  refine J_putU (pc := 5) C dX11_next_5 p_X11_113 rfl (jlt rfl) rfl rfl (uM_from _) ?_
  try dsimp only
  refine l_skip l G er F X K wr D P gv O T _ _ _ C hn hX hK ?_
  exact l_tok l G er F X K wr D P gv O T _ _ _ C hn hX (skip_le hK)
