set_option maxHeartbeats 4000000 in
set_option maxRecDepth 100000 in
theorem c_thrown (l : Launch) (G : jG) (er : Nat) (F X : Nat × (Nat → Nat)) (K : Nat × Nat × Nat) (wr : Int32) (D : mD) (P : mP) (gv : Nat → Int64) (O : Nat × (Nat → Nat)) (T : jMem)  : jC l G yX11_thrown cX11_thrown 1 (some .int) 1 12 0 0 [.ref 1000] (encM er F X K wr D P gv O T) (.inl (some (.int (nI er)), encM er F X K wr D P gv O T)) := by
  refine jC.of (by decide) 0 rfl [some (.ref 1000)] rfl (fun p e s m args below meth c C hT hN => ?_)
  refine J_aload_n (pc := 0) C dX11_thrown_0 rfl rfl ?_
  refine J_get (pc := 1) C dX11_thrown_1 f_X11_75 rfl rfl ?_
  try dsimp only
  exact J_iret (pc := 4) C dX11_thrown_4 rfl (rfl) (Nat.zero_le _) (Nat.zero_le _)
set_option maxHeartbeats 4000000 in
set_option maxRecDepth 100000 in
theorem c_in (l : Launch) (G : jG) (M : jMem) (v a b : Int64)  : jC l G yX11_in cX11_in 6 (some .boolean) 1 12 0 0 [.long v, .long a, .long b] (M) (.inl (some (.int (bI (jin2 a b v))), M)) := by
  refine jC.of (by decide) 0 rfl [some (.long v), none, some (.long a), none, some (.long b), none] rfl (fun p e s m args below meth c C hT hN => ?_)
  refine J_lload_n (pc := 0) C dX11_in_0 rfl rfl ?_
  refine J_lload_n (pc := 1) C dX11_in_1 rfl rfl ?_
  refine J_lcmp (pc := 2) C dX11_in_2 ?_
  refine J_if_lt (pc := 3) (tgt := 17) C dX11_in_3 (by decide) (fun h3 => ?_) (fun h3 => ?_)
  · refine J_iconst (pc := 17) (v := nI 0) C dX11_in_17 (by decide) ?_
    exact J_zret (pc := 18) C dX11_in_18 rfl (by first | rfl | decide) (jo (by first | exact bI_1 (by rw [lg_cmp_lt] at h3; rw [lg_cmp_gt] at h10; simp [jin2]; exact ⟨Int64.not_lt.mp h3, Int64.not_lt.mp h10⟩) | exact bI_0 (by rw [lg_cmp_gt] at h10; simp [jin2]; intro _; exact h10) | exact bI_0 (by rw [lg_cmp_lt] at h3; simp [jin2]; intro q; exact absurd q (Int64.not_le.mpr h3)))) (Nat.zero_le _) (Nat.zero_le _)
  · refine J_lload_n (pc := 6) C dX11_in_6 rfl rfl ?_
    refine J_lload (pc := 7) C dX11_in_7 rfl ?_
    refine J_lcmp (pc := 9) C dX11_in_9 ?_
    refine J_if_gt (pc := 10) (tgt := 17) C dX11_in_10 (by decide) (fun h10 => ?_) (fun h10 => ?_)
    · refine J_iconst (pc := 17) (v := nI 0) C dX11_in_17 (by decide) ?_
      exact J_zret (pc := 18) C dX11_in_18 rfl (by first | rfl | decide) (jo (by first | exact bI_1 (by rw [lg_cmp_lt] at h3; rw [lg_cmp_gt] at h10; simp [jin2]; exact ⟨Int64.not_lt.mp h3, Int64.not_lt.mp h10⟩) | exact bI_0 (by rw [lg_cmp_gt] at h10; simp [jin2]; intro _; exact h10) | exact bI_0 (by rw [lg_cmp_lt] at h3; simp [jin2]; intro q; exact absurd q (Int64.not_le.mpr h3)))) (Nat.zero_le _) (Nat.zero_le _)
    · refine J_iconst (pc := 13) (v := nI 1) C dX11_in_13 (by decide) ?_
      refine J_goto (pc := 14) (tgt := 18) C dX11_in_14 (by decide) ?_
      exact J_zret (pc := 18) C dX11_in_18 rfl (by first | rfl | decide) (jo (by first | exact bI_1 (by rw [lg_cmp_lt] at h3; rw [lg_cmp_gt] at h10; simp [jin2]; exact ⟨Int64.not_lt.mp h3, Int64.not_lt.mp h10⟩) | exact bI_0 (by rw [lg_cmp_gt] at h10; simp [jin2]; intro _; exact h10) | exact bI_0 (by rw [lg_cmp_lt] at h3; simp [jin2]; intro q; exact absurd q (Int64.not_le.mpr h3)))) (Nat.zero_le _) (Nat.zero_le _)
set_option maxHeartbeats 4000000 in
set_option maxRecDepth 100000 in
theorem c_isDigit (l : Launch) (G : jG) (M : jMem) (x : Nat) (hx : x < 2 ^ 31) : jC l G yX11_isDigit cX11_isDigit 1 (some .boolean) 2 37 0 0 [.int (lI x)] (M) (.inl (some (.int (bI (isDig x))), M)) := by
  refine jC.of (by decide) 0 rfl [some (.int (lI x))] rfl (fun p e s m args below meth c C hT hN => ?_)
  refine J_iload_n (pc := 0) C dX11_isDigit_0 rfl rfl ?_
  refine J_i2l (pc := 1) C dX11_isDigit_1 rfl ?_
  refine J_ldc2 (pc := 2) C dX11_isDigit_2 l_X11_97 ?_
  refine J_ldc2 (pc := 5) C dX11_isDigit_5 l_X11_99 ?_
  refine J_callS1 (pc := 8) C dX11_isDigit_8 m_X11_89 (c_in l G _ _ _ _) ⟨jle rfl, jle rfl⟩ rfl rfl (jle rfl) ⟨Nat.zero_le _, Nat.zero_le _⟩ ?_
  exact J_zret (pc := 11) C dX11_isDigit_11 rfl (bI_nar _) (jo (by rw [i64_48, i64_57, jin2_L hx (by decide) (by decide) (by decide)]; rfl)) (Nat.zero_le _) (Nat.zero_le _)
set_option maxHeartbeats 4000000 in
set_option maxRecDepth 100000 in
theorem c_isLetter (l : Launch) (G : jG) (M : jMem) (x : Nat) (hx : x < 2 ^ 31) : jC l G yX11_isLetter cX11_isLetter 1 (some .boolean) 2 37 0 0 [.int (lI x)] (M) (.inl (some (.int (bI (isLet x))), M)) := by
  refine jC.of (by decide) 0 rfl [some (.int (lI x))] rfl (fun p e s m args below meth c C hT hN => ?_)
  refine J_iload_n (pc := 0) C dX11_isLetter_0 rfl rfl ?_
  refine J_i2l (pc := 1) C dX11_isLetter_1 rfl ?_
  refine J_ldc2 (pc := 2) C dX11_isLetter_2 l_X11_85 ?_
  refine J_ldc2 (pc := 5) C dX11_isLetter_5 l_X11_87 ?_
  refine J_callS1 (pc := 8) C dX11_isLetter_8 m_X11_89 (c_in l G _ _ _ _) ⟨jle rfl, jle rfl⟩ rfl rfl (jle rfl) ⟨Nat.zero_le _, Nat.zero_le _⟩ ?_
  rw [i64_97, i64_122, jin2_L hx (by decide) (by decide) (by decide)]
  refine J_if_ne (pc := 11) (tgt := 34) C dX11_isLetter_11 (by decide) (fun h11 => ?_) (fun h11 => ?_)
  · refine J_iconst (pc := 34) (v := nI 1) C dX11_isLetter_34 (by decide) ?_
    refine J_goto (pc := 35) (tgt := 39) C dX11_isLetter_35 (by decide) ?_
    exact J_zret (pc := 39) C dX11_isLetter_39 rfl (by first | rfl | decide) (jo (by first | exact bI_1 (by have h9 := bI_t h11; simp at h9; simp [isLet]; omega) | exact bI_1 (by have h9 := bI_t h25; simp at h9; simp [isLet]; omega) | exact bI_1 (by rw [lI_eq hx (by decide) (by decide)] at h31; simp [isLet]; omega) | exact bI_0 (by rw [lI_eq hx (by decide) (by decide)] at h31; have h8 := bI_f h11; have h9 := bI_f h25; simp at h8 h9; simp [isLet]; omega))) (Nat.zero_le _) (Nat.zero_le _)
  · refine J_iload_n (pc := 14) C dX11_isLetter_14 rfl rfl ?_
    refine J_i2l (pc := 15) C dX11_isLetter_15 rfl ?_
    refine J_ldc2 (pc := 16) C dX11_isLetter_16 l_X11_93 ?_
    refine J_ldc2 (pc := 19) C dX11_isLetter_19 l_X11_95 ?_
    refine J_callS1 (pc := 22) C dX11_isLetter_22 m_X11_89 (c_in l G _ _ _ _) ⟨jle rfl, jle rfl⟩ rfl rfl (jle rfl) ⟨Nat.zero_le _, Nat.zero_le _⟩ ?_
    rw [i64_65, i64_90, jin2_L hx (by decide) (by decide) (by decide)]
    refine J_if_ne (pc := 25) (tgt := 34) C dX11_isLetter_25 (by decide) (fun h25 => ?_) (fun h25 => ?_)
    · refine J_iconst (pc := 34) (v := nI 1) C dX11_isLetter_34 (by decide) ?_
      refine J_goto (pc := 35) (tgt := 39) C dX11_isLetter_35 (by decide) ?_
      exact J_zret (pc := 39) C dX11_isLetter_39 rfl (by first | rfl | decide) (jo (by first | exact bI_1 (by have h9 := bI_t h11; simp at h9; simp [isLet]; omega) | exact bI_1 (by have h9 := bI_t h25; simp at h9; simp [isLet]; omega) | exact bI_1 (by rw [lI_eq hx (by decide) (by decide)] at h31; simp [isLet]; omega) | exact bI_0 (by rw [lI_eq hx (by decide) (by decide)] at h31; have h8 := bI_f h11; have h9 := bI_f h25; simp at h8 h9; simp [isLet]; omega))) (Nat.zero_le _) (Nat.zero_le _)
    · refine J_iload_n (pc := 28) C dX11_isLetter_28 rfl rfl ?_
      refine J_bipush (pc := 29) (v := nI 95) C dX11_isLetter_29 (by decide) ?_
      refine J_icmp_ne (pc := 31) (tgt := 38) C dX11_isLetter_31 (by decide) (fun h31 => ?_) (fun h31 => ?_)
      · refine J_iconst (pc := 38) (v := nI 0) C dX11_isLetter_38 (by decide) ?_
        exact J_zret (pc := 39) C dX11_isLetter_39 rfl (by first | rfl | decide) (jo (by first | exact bI_1 (by have h9 := bI_t h11; simp at h9; simp [isLet]; omega) | exact bI_1 (by have h9 := bI_t h25; simp at h9; simp [isLet]; omega) | exact bI_1 (by rw [lI_eq hx (by decide) (by decide)] at h31; simp [isLet]; omega) | exact bI_0 (by rw [lI_eq hx (by decide) (by decide)] at h31; have h8 := bI_f h11; have h9 := bI_f h25; simp at h8 h9; simp [isLet]; omega))) (Nat.zero_le _) (Nat.zero_le _)
      · refine J_iconst (pc := 34) (v := nI 1) C dX11_isLetter_34 (by decide) ?_
        refine J_goto (pc := 35) (tgt := 39) C dX11_isLetter_35 (by decide) ?_
        exact J_zret (pc := 39) C dX11_isLetter_39 rfl (by first | rfl | decide) (jo (by first | exact bI_1 (by have h9 := bI_t h11; simp at h9; simp [isLet]; omega) | exact bI_1 (by have h9 := bI_t h25; simp at h9; simp [isLet]; omega) | exact bI_1 (by rw [lI_eq hx (by decide) (by decide)] at h31; simp [isLet]; omega) | exact bI_0 (by rw [lI_eq hx (by decide) (by decide)] at h31; have h8 := bI_f h11; have h9 := bI_f h25; simp at h8 h9; simp [isLet]; omega))) (Nat.zero_le _) (Nat.zero_le _)
set_option maxHeartbeats 4000000 in
set_option maxRecDepth 100000 in
theorem c_c (l : Launch) (G : jG) (er : Nat) (F X : Nat × (Nat → Nat)) (K : Nat × Nat × Nat) (wr : Int32) (D : mD) (P : mP) (gv : Nat → Int64) (O : Nat × (Nat → Nat)) (T : jMem) (k : Nat) (hn : X.1 ≤ 4000) (hX : ∀ k, X.2 k < 256) (hk : k < 2 ^ 31) : jC l G yX11_c cX11_c 2 (some .int) 1 12 0 0 [.ref 1000, .int (nI k)] (encM er F X K wr D P gv O T) (.inl (some (.int (lI (ch X k))), encM er F X K wr D P gv O T)) := by
  refine jC.of (by decide) 0 rfl [some (.ref 1000), some (.int (nI k))] rfl (fun p e s m args below meth c C hT hN => ?_)
  refine J_iload_n (pc := 0) C dX11_c_0 rfl rfl ?_
  refine J_aload_n (pc := 1) C dX11_c_1 rfl rfl ?_
  refine J_get (pc := 2) C dX11_c_2 f_X11_101 rfl rfl ?_
  try dsimp only
  refine J_icmp_geN (pc := 5) (tgt := 17) C dX11_c_5 (by decide) (by omega) (by omega) (fun h5 => ?_) (fun h5 => ?_)
  · refine J_iconst (pc := 17) (v := -1) C dX11_c_17 (by decide) ?_
    exact J_iret (pc := 18) C dX11_c_18 rfl (jo (by first | (rw [ch, if_pos h5, lI_n (by have := hX k; omega)]) | (rw [ch, if_neg (by omega)]; rfl))) (Nat.zero_le _) (Nat.zero_le _)
  · refine J_aload_n (pc := 8) C dX11_c_8 rfl rfl ?_
    refine J_get (pc := 9) C dX11_c_9 f_X11_17 rfl rfl ?_
    refine J_iload_n (pc := 12) C dX11_c_12 rfl rfl ?_
    refine J_ialdN (pc := 13) C dX11_c_13 rfl (by omega) (by decide) ?_
    try dsimp only
    refine J_goto (pc := 14) (tgt := 18) C dX11_c_14 (by decide) ?_
    exact J_iret (pc := 18) C dX11_c_18 rfl (jo (by first | (rw [ch, if_pos h5, lI_n (by have := hX k; omega)]) | (rw [ch, if_neg (by omega)]; rfl))) (Nat.zero_le _) (Nat.zero_le _)
set_option maxHeartbeats 4000000 in
set_option maxRecDepth 100000 in
theorem c_hex (l : Launch) (G : jG) (M : jMem) (x : Nat) (hx9 : x < 2 ^ 31) : jC l G yX11_hex cX11_hex 1 (some .int) 3 57 0 0 [.int (lI x)] (M) (.inl (some (.int (lI (hx x))), M)) := by
  refine jC.of (by decide) 0 rfl [some (.int (lI x))] rfl (fun p e s m args below meth c C hT hN => ?_)
  refine J_iload_n (pc := 0) C dX11_hex_0 rfl rfl ?_
  refine J_callS1 (pc := 1) C dX11_hex_1 m_X11_104 (c_isDigit l G _ _ (by omega)) ⟨jle rfl, jle rfl⟩ rfl rfl (jle rfl) ⟨Nat.zero_le _, Nat.zero_le _⟩ ?_
  refine J_if_eq (pc := 4) (tgt := 14) C dX11_hex_4 (by decide) (fun h4 => ?_) (fun h4 => ?_)
  · refine J_iload_n (pc := 14) C dX11_hex_14 rfl rfl ?_
    refine J_i2l (pc := 15) C dX11_hex_15 rfl ?_
    refine J_ldc2 (pc := 16) C dX11_hex_16 l_X11_85 ?_
    refine J_ldc2 (pc := 19) C dX11_hex_19 l_X11_108 ?_
    refine J_callS1 (pc := 22) C dX11_hex_22 m_X11_89 (c_in l G _ _ _ _) ⟨jle rfl, jle rfl⟩ rfl rfl (jle rfl) ⟨Nat.zero_le _, Nat.zero_le _⟩ ?_
    rw [i64_97, i64_102, jin2_L hx9 (by decide) (by decide) (by decide)]
    refine J_if_eq (pc := 25) (tgt := 38) C dX11_hex_25 (by decide) (fun h25 => ?_) (fun h25 => ?_)
    · refine J_iconst (pc := 38) (v := -1) C dX11_hex_38 (by decide) ?_
      exact J_iret (pc := 39) C dX11_hex_39 rfl (jo (by first | (have h7 := bI_t h4; rw [hx, if_pos h7, lI_n (by have h8 := h7; simp [isDig] at h8; omega)]) | (have h7 := bI_f h4; have h8 := bI_t h25; simp at h8; rw [hx, if_neg (by rw [h7]; decide), if_pos h8, lI_n (by omega)]) | (have h7 := bI_f h4; have h8 := bI_f h25; simp at h8; rw [hx, if_neg (by rw [h7]; decide), if_neg (by omega)]; rfl))) (Nat.zero_le _) (Nat.zero_le _)
    · refine J_iload_n (pc := 28) C dX11_hex_28 rfl rfl ?_
      have h9 := bI_t h25
      simp at h9
      rw [lI_n (x := x) (by omega)]
      refine J_bipush (pc := 29) (v := nI 97) C dX11_hex_29 (by decide) ?_
      refine J_isubN (pc := 31) C dX11_hex_31 (by omega) ?_
      refine J_bipush (pc := 32) (v := nI 10) C dX11_hex_32 (by decide) ?_
      refine J_iaddN (pc := 34) C dX11_hex_34 ?_
      refine J_goto (pc := 35) (tgt := 39) C dX11_hex_35 (by decide) ?_
      exact J_iret (pc := 39) C dX11_hex_39 rfl (jo (by first | (have h7 := bI_t h4; rw [hx, if_pos h7, lI_n (by have h8 := h7; simp [isDig] at h8; omega)]) | (have h7 := bI_f h4; have h8 := bI_t h25; simp at h8; rw [hx, if_neg (by rw [h7]; decide), if_pos h8, lI_n (by omega)]) | (have h7 := bI_f h4; have h8 := bI_f h25; simp at h8; rw [hx, if_neg (by rw [h7]; decide), if_neg (by omega)]; rfl))) (Nat.zero_le _) (Nat.zero_le _)
  · refine J_iload_n (pc := 7) C dX11_hex_7 rfl rfl ?_
    have h9 := bI_t h4
    simp [isDig] at h9
    rw [lI_n (x := x) (by omega)]
    refine J_bipush (pc := 8) (v := nI 48) C dX11_hex_8 (by decide) ?_
    refine J_isubN (pc := 10) C dX11_hex_10 (by omega) ?_
    refine J_goto (pc := 11) (tgt := 39) C dX11_hex_11 (by decide) ?_
    exact J_iret (pc := 39) C dX11_hex_39 rfl (jo (by first | (have h7 := bI_t h4; rw [hx, if_pos h7, lI_n (by have h8 := h7; simp [isDig] at h8; omega)]) | (have h7 := bI_f h4; have h8 := bI_t h25; simp at h8; rw [hx, if_neg (by rw [h7]; decide), if_pos h8, lI_n (by omega)]) | (have h7 := bI_f h4; have h8 := bI_f h25; simp at h8; rw [hx, if_neg (by rw [h7]; decide), if_neg (by omega)]; rfl))) (Nat.zero_le _) (Nat.zero_le _)
set_option maxHeartbeats 4000000 in
set_option maxRecDepth 100000 in
theorem c_bad (l : Launch) (G : jG) (er : Nat) (F X : Nat × (Nat → Nat)) (K : Nat × Nat × Nat) (wr : Int32) (D : mD) (P : mP) (gv : Nat → Int64) (O : Nat × (Nat → Nat)) (T : jMem) (a : Nat)  : jC l G yX11_bad cX11_bad 2 (some .boolean) 1 12 0 0 [.ref 1000, .int (nI a)] (encM er F X K wr D P gv O T) (.inl (some (.int (nI 0)), encM er F X K (if wr < 0 then nI a else wr) D P gv O T)) := by
  refine jC.of (by decide) 0 rfl [some (.ref 1000), some (.int (nI a))] rfl (fun p e s m args below meth c C hT hN => ?_)
  refine J_aload_n (pc := 0) C dX11_bad_0 rfl rfl ?_
  refine J_get (pc := 1) C dX11_bad_1 f_X11_7 rfl rfl ?_
  try dsimp only
  refine J_if_ge (pc := 4) (tgt := 12) C dX11_bad_4 (by decide) (fun h4 => ?_) (fun h4 => ?_)
  · refine J_iconst (pc := 12) (v := nI 0) C dX11_bad_12 (by decide) ?_
    exact J_zret (pc := 13) C dX11_bad_13 rfl (by first | rfl | decide) (by first | rw [if_pos (Int32.not_le.mp h4)] | rw [if_neg (Int32.not_lt.mpr h4)]) (Nat.zero_le _) (Nat.zero_le _)
  · refine J_aload_n (pc := 7) C dX11_bad_7 rfl rfl ?_
    refine J_iload_n (pc := 8) C dX11_bad_8 rfl rfl ?_
    refine J_putU (pc := 9) C dX11_bad_9 p_X11_7 rfl (jlt rfl) rfl rfl (uM_wrong _) ?_
    try dsimp only
    refine J_iconst (pc := 12) (v := nI 0) C dX11_bad_12 (by decide) ?_
    exact J_zret (pc := 13) C dX11_bad_13 rfl (by first | rfl | decide) (by first | rw [if_pos (Int32.not_le.mp h4)] | rw [if_neg (Int32.not_lt.mpr h4)]) (Nat.zero_le _) (Nat.zero_le _)
set_option maxHeartbeats 4000000 in
set_option maxRecDepth 100000 in
theorem l_skip (l : Launch) (G : jG) {p : Program} {e : Env} {s : State} {m : MethodId} {args : Array Value} {below : List Frame} {meth : Method} {c : Code} (er : Nat) (F X : Nat × (Nat → Nat)) (K : Nat × Nat × Nat) (wr : Int32) (D : mD) (P : mP) (gv : Nat → Int64) (O : Nat × (Nat → Nat)) (T : jMem) {o : jO} (a b q : Nat) (C : jX0 p l (jR 4 77 0 0) s m args meth c G cX11_next 2 RX11 none) (hn : X.1 ≤ 4000) (hX : ∀ k, X.2 k < 256) (hq : q ≤ X.1) (k : J p l e (jR 4 77 0 0) s m args below meth c G 2 0 0 (o) 47 [some (.ref 1000), none] [] (encM er F X (a, skip X q, b) wr D P gv O T) 0 0) : J p l e (jR 4 77 0 0) s m args below meth c G 2 0 0 (o) 8 [some (.ref 1000), none] [] (encM er F X (a, q, b) wr D P gv O T) 0 0 := by
  induction hm : X.1 - q generalizing q with
  | zero =>
    have hq2 : q = X.1 := by omega
    have h0 : ch X q = 1000 := by rw [ch, if_neg (by omega)]
    have h1 : skip X q = q := by rw [skip, if_neg (by omega)]
    rw [h1] at k
    refine J_aload_n (pc := 8) C dX11_next_8 rfl rfl ?_
    refine J_aload_n (pc := 9) C dX11_next_9 rfl rfl ?_
    refine J_get (pc := 10) C dX11_next_10 f_X11_113 rfl rfl ?_
    try dsimp only
    refine J_callV1 (pc := 13) C dX11_next_13 m_X11_116 (c_c l G _ _ _ _ _ _ _ _ _ _ _ hn hX (by omega)) ⟨jle rfl, jle rfl⟩ rfl rfl rfl rfl rfl (jle rfl) ⟨Nat.zero_le _, Nat.zero_le _⟩ ?_
    refine J_bipush (pc := 16) (v := nI 32) C dX11_next_16 (by decide) ?_
    rw [h0]
    refine J_icmp_eq (pc := 18) (tgt := 34) C dX11_next_18 (by decide) (fun h18 => ?_) (fun h18 => ?_)
    · exact absurd h18 (by decide)
    · refine J_aload_n (pc := 21) C dX11_next_21 rfl rfl ?_
      refine J_aload_n (pc := 22) C dX11_next_22 rfl rfl ?_
      refine J_get (pc := 23) C dX11_next_23 f_X11_113 rfl rfl ?_
      try dsimp only
      refine J_callV1 (pc := 26) C dX11_next_26 m_X11_116 (c_c l G _ _ _ _ _ _ _ _ _ _ _ hn hX (by omega)) ⟨jle rfl, jle rfl⟩ rfl rfl rfl rfl rfl (jle rfl) ⟨Nat.zero_le _, Nat.zero_le _⟩ ?_
      refine J_bipush (pc := 29) (v := nI 10) C dX11_next_29 (by decide) ?_
      rw [h0]
      refine J_icmp_ne (pc := 31) (tgt := 47) C dX11_next_31 (by decide) (fun h31 => ?_) (fun h31 => ?_)
      · exact k
      · exact absurd h31 (by decide)
  | succ d ih =>
    have hc : ch X q = X.2 q := by rw [ch, if_pos (by omega)]
    have hv := hX q
    refine J_aload_n (pc := 8) C dX11_next_8 rfl rfl ?_
    refine J_aload_n (pc := 9) C dX11_next_9 rfl rfl ?_
    refine J_get (pc := 10) C dX11_next_10 f_X11_113 rfl rfl ?_
    try dsimp only
    refine J_callV1 (pc := 13) C dX11_next_13 m_X11_116 (c_c l G _ _ _ _ _ _ _ _ _ _ _ hn hX (by omega)) ⟨jle rfl, jle rfl⟩ rfl rfl rfl rfl rfl (jle rfl) ⟨Nat.zero_le _, Nat.zero_le _⟩ ?_
    refine J_bipush (pc := 16) (v := nI 32) C dX11_next_16 (by decide) ?_
    rw [hc, lI_n (x := X.2 q) (by omega)]
    refine J_icmp_eqN (pc := 18) (tgt := 34) C dX11_next_18 (by decide) (by omega) (by omega) (fun h18 => ?_) (fun h18 => ?_)
    · refine J_aload_n (pc := 34) C dX11_next_34 rfl rfl ?_
      refine J_dup (pc := 35) C dX11_next_35 rfl ?_
      refine J_get (pc := 36) C dX11_next_36 f_X11_113 rfl rfl ?_
      try dsimp only
      refine J_iconst (pc := 39) (v := nI 1) C dX11_next_39 (by decide) ?_
      refine J_iaddN (pc := 40) C dX11_next_40 ?_
      refine J_putU (pc := 41) C dX11_next_41 p_X11_113 rfl (jlt rfl) rfl rfl (uM_from _) ?_
      try dsimp only
      refine J_goto (pc := 44) (tgt := 8) C dX11_next_44 (by decide) ?_
      refine ih (q + 1) (by omega) ?_ (by omega)
      have h1 : skip X q = skip X (q + 1) := by
        conv => lhs; rw [skip]
        rw [if_pos ⟨by omega, by simp [isBl]; omega⟩]
      rw [h1] at k
      exact k
    · refine J_aload_n (pc := 21) C dX11_next_21 rfl rfl ?_
      refine J_aload_n (pc := 22) C dX11_next_22 rfl rfl ?_
      refine J_get (pc := 23) C dX11_next_23 f_X11_113 rfl rfl ?_
      try dsimp only
      refine J_callV1 (pc := 26) C dX11_next_26 m_X11_116 (c_c l G _ _ _ _ _ _ _ _ _ _ _ hn hX (by omega)) ⟨jle rfl, jle rfl⟩ rfl rfl rfl rfl rfl (jle rfl) ⟨Nat.zero_le _, Nat.zero_le _⟩ ?_
      refine J_bipush (pc := 29) (v := nI 10) C dX11_next_29 (by decide) ?_
      rw [hc, lI_n (x := X.2 q) (by omega)]
      refine J_icmp_neN (pc := 31) (tgt := 47) C dX11_next_31 (by decide) (by omega) (by omega) (fun h31 => ?_) (fun h31 => ?_)
      · have h1 : skip X q = q := by
          rw [skip, if_neg (by simp [isBl]; intro _; omega)]
        rw [h1] at k
        exact k
      · refine J_aload_n (pc := 34) C dX11_next_34 rfl rfl ?_
        refine J_dup (pc := 35) C dX11_next_35 rfl ?_
        refine J_get (pc := 36) C dX11_next_36 f_X11_113 rfl rfl ?_
        try dsimp only
        refine J_iconst (pc := 39) (v := nI 1) C dX11_next_39 (by decide) ?_
        refine J_iaddN (pc := 40) C dX11_next_40 ?_
        refine J_putU (pc := 41) C dX11_next_41 p_X11_113 rfl (jlt rfl) rfl rfl (uM_from _) ?_
        try dsimp only
        refine J_goto (pc := 44) (tgt := 8) C dX11_next_44 (by decide) ?_
        refine ih (q + 1) (by omega) ?_ (by omega)
        have h1 : skip X q = skip X (q + 1) := by
          conv => lhs; rw [skip]
          rw [if_pos ⟨by omega, by simp [isBl]; omega⟩]
        rw [h1] at k
        exact k
