set_option maxHeartbeats 4000000 in
set_option maxRecDepth 100000 in
theorem l_decimal (l : Launch) (G : jG) {p : Program} {e : Env} {s : State} {m : MethodId} {args : Array Value} {below : List Frame} {meth : Method} {c : Code} (M : jMem) (X : Nat × (Nat → Nat)) (oc : Nat → Nat) (ix kd : Int32) (f e9 : Nat) (wr : Int32) (v a : Nat) (C : jX0 p l (jR 1 12 0 0) s m args meth c G cX9_decimal 4 RX9 (some .long)) (hTk : M.1 3 = some (.inr (9, [.ref 1, .ref 4, .int ix, .int kd, .int (nI f), .int (nI e9), .int wr]))) (hL : M.1 1 = some (nA 4000 oc)) (hn : e9 ≤ 4000) (hX : ∀ k, X.2 k < 256) (hoc : ∀ k, k < e9 → oc k = X.2 k) (hd9 : ∀ k, f ≤ k → k < e9 → 48 ≤ X.2 k ∧ X.2 k ≤ 57) (hfa : f ≤ a) (ha : a ≤ 5000) : J p l e (jR 1 12 0 0) s m args below meth c G 4 0 0 (.inl (some (.long (lN (decF X e9 a v))), M)) 7 [some (.ref 3), some (.long (lN v)), none, some (.int (nI a))] [] (M) 0 0 := by
  induction hm : e9 - a generalizing v a with
  | zero =>
    rw [show decF X e9 a v = v by rw [decF, if_neg (by omega)]]
    refine J_iload_n (pc := 7) C dX9_decimal_7 rfl rfl ?_
    refine J_aload_n (pc := 8) C dX9_decimal_8 rfl rfl ?_
    refine J_get (pc := 9) C dX9_decimal_9 f_X9_21 hTk rfl ?_
    try dsimp only
    refine J_icmp_geN (pc := 12) (tgt := 38) C dX9_decimal_12 (by decide) (by omega) (by omega) (fun h12 => ?_) (fun h12 => ?_)
    · refine J_lload_n (pc := 38) C dX9_decimal_38 rfl rfl ?_
      exact J_lret (pc := 39) C dX9_decimal_39 rfl (rfl) (Nat.zero_le _) (Nat.zero_le _)
    · omega
  | succ d ih =>
    have h1 : decF X e9 a v = decF X e9 (a + 1) (10 * v + X.2 a - 48) := by
      conv => lhs; rw [decF]
      rw [if_pos (by omega)]
    rw [h1]
    have b1 := hd9 a (by omega) (by omega)
    have ho := hoc a (by omega)
    refine J_iload_n (pc := 7) C dX9_decimal_7 rfl rfl ?_
    refine J_aload_n (pc := 8) C dX9_decimal_8 rfl rfl ?_
    refine J_get (pc := 9) C dX9_decimal_9 f_X9_21 hTk rfl ?_
    try dsimp only
    refine J_icmp_geN (pc := 12) (tgt := 38) C dX9_decimal_12 (by decide) (by omega) (by omega) (fun h12 => ?_) (fun h12 => ?_)
    · omega
    · refine J_lload_n (pc := 15) C dX9_decimal_15 rfl rfl ?_
      refine J_ldc2 (pc := 16) C dX9_decimal_16 l_X9_90 ?_
      refine J_lmul (pc := 19) C dX9_decimal_19 ?_
      refine J_aload_n (pc := 20) C dX9_decimal_20 rfl rfl ?_
      refine J_get (pc := 21) C dX9_decimal_21 f_X9_27 hTk rfl ?_
      refine J_iload_n (pc := 24) C dX9_decimal_24 rfl rfl ?_
      refine J_ialdN (pc := 25) C dX9_decimal_25 hL (by omega) (by decide) ?_
      try dsimp only
      rw [ho]
      refine J_bipush (pc := 26) (v := nI 48) C dX9_decimal_26 (by decide) ?_
      refine J_isubN (pc := 28) C dX9_decimal_28 (by omega) ?_
      refine J_i2l (pc := 29) C dX9_decimal_29 (nI_l (by omega)) ?_
      refine J_ladd (pc := 30) C dX9_decimal_30 ?_
      rw [xdstep b1.1]
      refine J_lstore_n (pc := 31) C dX9_decimal_31 rfl (by decide) rfl ?_
      dsimp only [List.set]
      refine J_iincN (pc := 32) C dX9_decimal_32 rfl (by decide) rfl ?_
      dsimp only [List.set]
      refine J_goto (pc := 35) (tgt := 7) C dX9_decimal_35 (by decide) ?_
      exact ih _ _ (by omega) (by omega) (by omega)
set_option maxHeartbeats 4000000 in
set_option maxRecDepth 100000 in
theorem x_decimal (l : Launch) (G : jG) (M : jMem) (X : Nat × (Nat → Nat)) (oc : Nat → Nat) (ix kd : Int32) (f e9 : Nat) (wr : Int32) (hTk : M.1 3 = some (.inr (9, [.ref 1, .ref 4, .int ix, .int kd, .int (nI f), .int (nI e9), .int wr]))) (hL : M.1 1 = some (nA 4000 oc)) (hn : e9 ≤ 4000) (hX : ∀ k, X.2 k < 256) (hoc : ∀ k, k < e9 → oc k = X.2 k) (hfe : f ≤ e9) (hd9 : ∀ k, f ≤ k → k < e9 → 48 ≤ X.2 k ∧ X.2 k ≤ 57) : jC l G yX9_decimal cX9_decimal 4 (some .long) 1 12 0 0 [.ref 3] (M) (.inl (some (.long (lN (decF X e9 f 0))), M)) := by
  refine jC.of (by decide) 3 rfl [some (.ref 3), none, none, none] rfl (fun p e s m args below meth c C hT9 hNm9 => ?_)
  refine J_lconst (pc := 0) (v := lN 0) C dX9_decimal_0 (by decide) ?_
  refine J_lstore_n (pc := 1) C dX9_decimal_1 rfl (by decide) rfl ?_
  dsimp only [List.set]
  refine J_aload_n (pc := 2) C dX9_decimal_2 rfl rfl ?_
  refine J_get (pc := 3) C dX9_decimal_3 f_X9_18 hTk rfl ?_
  try dsimp only
  refine J_istore_n (pc := 6) C dX9_decimal_6 rfl (by decide) rfl ?_
  dsimp only [List.set]
  exact l_decimal l G M X oc ix kd f e9 wr 0 f C hTk hL hn hX hoc hd9 (Nat.le_refl _) (by omega)
set_option maxHeartbeats 4000000 in
set_option maxRecDepth 100000 in
theorem l_hexadecimal (l : Launch) (G : jG) {p : Program} {e : Env} {s : State} {m : MethodId} {args : Array Value} {below : List Frame} {meth : Method} {c : Code} (M : jMem) (X : Nat × (Nat → Nat)) (oc : Nat → Nat) (ix kd : Int32) (f e9 : Nat) (wr : Int32) (v a : Nat) (dg9 : Option Value) (C : jX0 p l (jR 2 32 0 0) s m args meth c G cX9_hexadecimal 5 RX9 (some .long)) (hTk : M.1 3 = some (.inr (9, [.ref 1, .ref 4, .int ix, .int kd, .int (nI f), .int (nI e9), .int wr]))) (hL : M.1 1 = some (nA 4000 oc)) (hn : e9 ≤ 4000) (hX : ∀ k, X.2 k < 256) (hoc : ∀ k, k < e9 → oc k = X.2 k) (hd9 : ∀ k, f + 2 ≤ k → k < e9 → hx (X.2 k) ≠ 1000) (hfa : f + 2 ≤ a) (ha : a ≤ 5000) : J p l e (jR 2 32 0 0) s m args below meth c G 5 0 0 (.inl (some (.long (lN (hexF X e9 a v))), M)) 9 [some (.ref 3), some (.long (lN v)), none, some (.int (nI a)), dg9] [] (M) 0 0 := by
  induction hm : e9 - a generalizing v a dg9 with
  | zero =>
    rw [show hexF X e9 a v = v by rw [hexF, if_neg (by omega)]]
    refine J_iload_n (pc := 9) C dX9_hexadecimal_9 rfl rfl ?_
    refine J_aload_n (pc := 10) C dX9_hexadecimal_10 rfl rfl ?_
    refine J_get (pc := 11) C dX9_hexadecimal_11 f_X9_21 hTk rfl ?_
    try dsimp only
    refine J_icmp_geN (pc := 14) (tgt := 71) C dX9_hexadecimal_14 (by decide) (by omega) (by omega) (fun h14 => ?_) (fun h14 => ?_)
    · refine J_lload_n (pc := 71) C dX9_hexadecimal_71 rfl rfl ?_
      exact J_lret (pc := 72) C dX9_hexadecimal_72 rfl (rfl) (Nat.zero_le _) (Nat.zero_le _)
    · omega
  | succ d ih =>
    have h1 : hexF X e9 a v = hexF X e9 (a + 1) (16 * v + hx (X.2 a)) := by
      conv => lhs; rw [hexF]
      rw [if_pos (by omega)]
    rw [h1]
    have b1 := hd9 a (by omega) (by omega)
    have b2 := hX a
    have ho := hoc a (by omega)
    refine J_iload_n (pc := 9) C dX9_hexadecimal_9 rfl rfl ?_
    refine J_aload_n (pc := 10) C dX9_hexadecimal_10 rfl rfl ?_
    refine J_get (pc := 11) C dX9_hexadecimal_11 f_X9_21 hTk rfl ?_
    try dsimp only
    refine J_icmp_geN (pc := 14) (tgt := 71) C dX9_hexadecimal_14 (by decide) (by omega) (by omega) (fun h14 => ?_) (fun h14 => ?_)
    · omega
    · refine J_aload_n (pc := 17) C dX9_hexadecimal_17 rfl rfl ?_
      refine J_get (pc := 18) C dX9_hexadecimal_18 f_X9_27 hTk rfl ?_
      refine J_iload_n (pc := 21) C dX9_hexadecimal_21 rfl rfl ?_
      refine J_ialdN (pc := 22) C dX9_hexadecimal_22 hL (by omega) (by decide) ?_
      try dsimp only
      rw [ho]
      refine J_callSN (pc := 23) C dX9_hexadecimal_23 k_X10_isDigit n_X9_92 ns_X9_92 (x_isDigit l G _ _ (by omega)) ⟨jle rfl, jle rfl⟩ rfl rfl (jle rfl) ⟨Nat.zero_le _, Nat.zero_le _⟩ ?_
      try dsimp only
      refine J_if_eq (pc := 26) (tgt := 41) C dX9_hexadecimal_26 (by decide) (fun h26 => ?_) (fun h26 => ?_)
      · refine J_aload_n (pc := 41) C dX9_hexadecimal_41 rfl rfl ?_
        refine J_get (pc := 42) C dX9_hexadecimal_42 f_X9_27 hTk rfl ?_
        refine J_iload_n (pc := 45) C dX9_hexadecimal_45 rfl rfl ?_
        refine J_ialdN (pc := 46) C dX9_hexadecimal_46 hL (by omega) (by decide) ?_
        try dsimp only
        rw [ho]
        have g1 := bI_f h26
        have g3 : 97 ≤ X.2 a := by
          revert b1; unfold hx; rw [if_neg (by rw [g1]; decide)]; split
          · intro _; omega
          · intro z; exact absurd rfl z
        have g2 : hx (X.2 a) = X.2 a - 97 + 10 := by
          revert b1; unfold hx; rw [if_neg (by rw [g1]; decide)]; split
          · intro _; rfl
          · intro z; exact absurd rfl z
        refine J_bipush (pc := 47) (v := nI 97) C dX9_hexadecimal_47 (by decide) ?_
        refine J_isubN (pc := 49) C dX9_hexadecimal_49 (by omega) ?_
        refine J_bipush (pc := 50) (v := nI 10) C dX9_hexadecimal_50 (by decide) ?_
        refine J_iaddN (pc := 52) C dX9_hexadecimal_52 ?_
        rw [← g2]
        refine J_istore (pc := 53) C dX9_hexadecimal_53 (by decide) rfl ?_
        dsimp only [List.set]
        refine J_lload_n (pc := 55) C dX9_hexadecimal_55 rfl rfl ?_
        refine J_ldc2 (pc := 56) C dX9_hexadecimal_56 l_X9_96 ?_
        refine J_lmul (pc := 59) C dX9_hexadecimal_59 ?_
        refine J_iload (pc := 60) C dX9_hexadecimal_60 rfl ?_
        refine J_i2l (pc := 62) C dX9_hexadecimal_62 (nI_l (by omega)) ?_
        refine J_ladd (pc := 63) C dX9_hexadecimal_63 ?_
        rw [xhstep]
        refine J_lstore_n (pc := 64) C dX9_hexadecimal_64 rfl (by decide) rfl ?_
        dsimp only [List.set]
        refine J_iincN (pc := 65) C dX9_hexadecimal_65 rfl (by decide) rfl ?_
        dsimp only [List.set]
        refine J_goto (pc := 68) (tgt := 9) C dX9_hexadecimal_68 (by decide) ?_
        exact ih _ _ _ (by omega) (by omega) (by omega)
      · refine J_aload_n (pc := 29) C dX9_hexadecimal_29 rfl rfl ?_
        refine J_get (pc := 30) C dX9_hexadecimal_30 f_X9_27 hTk rfl ?_
        refine J_iload_n (pc := 33) C dX9_hexadecimal_33 rfl rfl ?_
        refine J_ialdN (pc := 34) C dX9_hexadecimal_34 hL (by omega) (by decide) ?_
        try dsimp only
        rw [ho]
        have g1 := bI_t h26
        have g2 : hx (X.2 a) = X.2 a - 48 := by unfold hx; rw [if_pos g1]
        have g3 : 48 ≤ X.2 a := by simp [isDig] at g1; omega
        refine J_bipush (pc := 35) (v := nI 48) C dX9_hexadecimal_35 (by decide) ?_
        refine J_isubN (pc := 37) C dX9_hexadecimal_37 (by omega) ?_
        refine J_goto (pc := 38) (tgt := 53) C dX9_hexadecimal_38 (by decide) ?_
        rw [← g2]
        refine J_istore (pc := 53) C dX9_hexadecimal_53 (by decide) rfl ?_
        dsimp only [List.set]
        refine J_lload_n (pc := 55) C dX9_hexadecimal_55 rfl rfl ?_
        refine J_ldc2 (pc := 56) C dX9_hexadecimal_56 l_X9_96 ?_
        refine J_lmul (pc := 59) C dX9_hexadecimal_59 ?_
        refine J_iload (pc := 60) C dX9_hexadecimal_60 rfl ?_
        refine J_i2l (pc := 62) C dX9_hexadecimal_62 (nI_l (by omega)) ?_
        refine J_ladd (pc := 63) C dX9_hexadecimal_63 ?_
        rw [xhstep]
        refine J_lstore_n (pc := 64) C dX9_hexadecimal_64 rfl (by decide) rfl ?_
        dsimp only [List.set]
        refine J_iincN (pc := 65) C dX9_hexadecimal_65 rfl (by decide) rfl ?_
        dsimp only [List.set]
        refine J_goto (pc := 68) (tgt := 9) C dX9_hexadecimal_68 (by decide) ?_
        exact ih _ _ _ (by omega) (by omega) (by omega)
set_option maxHeartbeats 4000000 in
set_option maxRecDepth 100000 in
theorem x_hexadecimal (l : Launch) (G : jG) (M : jMem) (X : Nat × (Nat → Nat)) (oc : Nat → Nat) (ix kd : Int32) (f e9 : Nat) (wr : Int32) (hTk : M.1 3 = some (.inr (9, [.ref 1, .ref 4, .int ix, .int kd, .int (nI f), .int (nI e9), .int wr]))) (hL : M.1 1 = some (nA 4000 oc)) (hn : e9 ≤ 4000) (hX : ∀ k, X.2 k < 256) (hoc : ∀ k, k < e9 → oc k = X.2 k) (hfe : f + 2 ≤ e9) (hd9 : ∀ k, f + 2 ≤ k → k < e9 → hx (X.2 k) ≠ 1000) : jC l G yX9_hexadecimal cX9_hexadecimal 5 (some .long) 2 32 0 0 [.ref 3] (M) (.inl (some (.long (lN (hexF X e9 (f + 2) 0))), M)) := by
  refine jC.of (by decide) 4 rfl [some (.ref 3), none, none, none, none] rfl (fun p e s m args below meth c C hT9 hNm9 => ?_)
  refine J_lconst (pc := 0) (v := lN 0) C dX9_hexadecimal_0 (by decide) ?_
  refine J_lstore_n (pc := 1) C dX9_hexadecimal_1 rfl (by decide) rfl ?_
  dsimp only [List.set]
  refine J_aload_n (pc := 2) C dX9_hexadecimal_2 rfl rfl ?_
  refine J_get (pc := 3) C dX9_hexadecimal_3 f_X9_18 hTk rfl ?_
  try dsimp only
  refine J_iconst (pc := 6) (v := nI 2) C dX9_hexadecimal_6 (by decide) ?_
  refine J_iaddN (pc := 7) C dX9_hexadecimal_7 ?_
  refine J_istore_n (pc := 8) C dX9_hexadecimal_8 rfl (by decide) rfl ?_
  dsimp only [List.set]
  exact l_hexadecimal l G M X oc ix kd f e9 wr 0 (f + 2) none C hTk hL hn hX hoc hd9 (Nat.le_refl _) (by omega)
set_option maxHeartbeats 4000000 in
set_option maxRecDepth 100000 in
theorem l_fill (l : Launch) (G : jG) {p : Program} {e : Env} {s : State} {m : MethodId} {args : Array Value} {below : List Frame} {meth : Method} {c : Code} (M : jMem) (q : Nat) (f : Nat → Int32) (x : Int32) (i : Nat) (C : jX0 p l (jR 1 12 0 0) s m args meth c G cJ7_fill_53178 4 RJ7 none) (hq : M.1 q = some (rA 32 f)) (hi : i ≤ 32) : J p l e (jR 1 12 0 0) s m args below meth c G 4 0 0 (.inl (none, ju M q (rA 32 (flF f x 32)))) 5 [some (.ref q), some (.int x), some (.int (nI i)), some (.int (nI 32))] [] (ju M q (rA 32 (flF f x i))) 0 0 := by
  induction hm : 32 - i generalizing i with
  | zero =>
    have hi9 : i = 32 := by omega
    subst hi9
    refine J_iload_n (pc := 5) C dJ7_fill_53178_5 rfl rfl ?_
    refine J_iload_n (pc := 6) C dJ7_fill_53178_6 rfl rfl ?_
    refine J_icmp_geN (pc := 7) (tgt := 20) C dJ7_fill_53178_7 (by decide) (by omega) (by omega) (fun h7 => ?_) (fun h7 => ?_)
    · exact J_vret (pc := 20) C dJ7_fill_53178_20 rfl (rfl) (Nat.zero_le _) (Nat.zero_le _)
    · omega
  | succ d ih =>
    refine J_iload_n (pc := 5) C dJ7_fill_53178_5 rfl rfl ?_
    refine J_iload_n (pc := 6) C dJ7_fill_53178_6 rfl rfl ?_
    refine J_icmp_geN (pc := 7) (tgt := 20) C dJ7_fill_53178_7 (by decide) (by omega) (by omega) (fun h7 => ?_) (fun h7 => ?_)
    · omega
    · refine J_aload_n (pc := 10) C dJ7_fill_53178_10 rfl rfl ?_
      refine J_iload_n (pc := 11) C dJ7_fill_53178_11 rfl rfl ?_
      refine J_iload_n (pc := 12) C dJ7_fill_53178_12 rfl rfl ?_
      refine J_iastR (pc := 13) C dJ7_fill_53178_13 ju_eq (by omega) (by decide) (ju_ju.trans (by rw [flF_up])) ?_
      refine J_iincN (pc := 14) C dJ7_fill_53178_14 rfl (by decide) rfl ?_
      dsimp only [List.set]
      refine J_goto (pc := 17) (tgt := 5) C dJ7_fill_53178_17 (by decide) ?_
      exact ih _ (by omega) (by omega)
set_option maxHeartbeats 4000000 in
set_option maxRecDepth 100000 in
theorem x_fill (l : Launch) (G : jG) (M : jMem) (q : Nat) (f : Nat → Int32) (x : Int32) (hq : M.1 q = some (rA 32 f)) : jC l G yJ7_fill_53178 cJ7_fill_53178 4 none 1 12 0 0 [.ref q, .int x] (M) (.inl (none, ju M q (rA 32 (flF f x 32)))) := by
  refine jC.of (by decide) 2 rfl [some (.ref q), some (.int x), none, none] rfl (fun p e s m args below meth c C hT9 hNm9 => ?_)
  refine J_iconst (pc := 0) (v := nI 0) C dJ7_fill_53178_0 (by decide) ?_
  refine J_istore_n (pc := 1) C dJ7_fill_53178_1 rfl (by decide) rfl ?_
  dsimp only [List.set]
  refine J_aload_n (pc := 2) C dJ7_fill_53178_2 rfl rfl ?_
  refine J_alen (pc := 3) C dJ7_fill_53178_3 hq (by decide) ?_
  refine J_istore_n (pc := 4) C dJ7_fill_53178_4 rfl (by decide) rfl ?_
  dsimp only [List.set]
  refine J.to (M' := ju M q (rA 32 (flF f x 0))) (ju_id (by rw [hq]; rfl)).symm ?_
  exact l_fill l G M q f x 0 C hq (Nat.zero_le _)
set_option maxHeartbeats 4000000 in
set_option maxRecDepth 100000 in
theorem x_hasSign (l : Launch) (G : jG) (M : jMem) (q q2 kd sz : Nat) (st : Int32) (pl : Nat → Int32) (hO : M.1 q = some (.inr (6, [.ref q2, .int (nI (136 + kd)), .int (nI sz), .int st]))) (hP : M.1 q2 = some (rA 32 pl)) (hkd : kd ≤ 3) (hs1 : 1 ≤ sz ∧ sz ≤ 32) : jC l G yX6_hasSign cX6_hasSign 1 (some .boolean) 1 12 0 0 [.ref q] (M) (.inl (some (.int (bI (decide (kd = 1 ∨ kd = 2)))), M)) := by
  refine jC.of (by decide) 0 rfl [some (.ref q)] rfl (fun p e s m args below meth c C hT9 hNm9 => ?_)
  refine J_aload_n (pc := 0) C dX6_hasSign_0 rfl rfl ?_
  refine J_get (pc := 1) C dX6_hasSign_1 f_X6_15 hO rfl ?_
  try dsimp only
  refine J_sipush (pc := 4) (v := nI 137) C dX6_hasSign_4 (by decide) ?_
  refine J_icmp_eqN (pc := 7) (tgt := 20) C dX6_hasSign_7 (by decide) (by omega) (by omega) (fun h7 => ?_) (fun h7 => ?_)
  · refine J_iconst (pc := 20) (v := nI 1) C dX6_hasSign_20 (by decide) ?_
    refine J_goto (pc := 21) (tgt := 25) C dX6_hasSign_21 (by decide) ?_
    exact J_zret (pc := 25) C dX6_hasSign_25 rfl (by first | rfl | decide) (jo (by first | exact bI_1 (decide_eq_true (by omega)) | exact bI_0 (decide_eq_false (by omega)))) (Nat.zero_le _) (Nat.zero_le _)
  · refine J_aload_n (pc := 10) C dX6_hasSign_10 rfl rfl ?_
    refine J_get (pc := 11) C dX6_hasSign_11 f_X6_15 hO rfl ?_
    try dsimp only
    refine J_sipush (pc := 14) (v := nI 138) C dX6_hasSign_14 (by decide) ?_
    refine J_icmp_neN (pc := 17) (tgt := 24) C dX6_hasSign_17 (by decide) (by omega) (by omega) (fun h17 => ?_) (fun h17 => ?_)
    · refine J_iconst (pc := 24) (v := nI 0) C dX6_hasSign_24 (by decide) ?_
      exact J_zret (pc := 25) C dX6_hasSign_25 rfl (by first | rfl | decide) (jo (by first | exact bI_1 (decide_eq_true (by omega)) | exact bI_0 (decide_eq_false (by omega)))) (Nat.zero_le _) (Nat.zero_le _)
    · refine J_iconst (pc := 20) (v := nI 1) C dX6_hasSign_20 (by decide) ?_
      refine J_goto (pc := 21) (tgt := 25) C dX6_hasSign_21 (by decide) ?_
      exact J_zret (pc := 25) C dX6_hasSign_25 rfl (by first | rfl | decide) (jo (by first | exact bI_1 (decide_eq_true (by omega)) | exact bI_0 (decide_eq_false (by omega)))) (Nat.zero_le _) (Nat.zero_le _)
set_option maxHeartbeats 4000000 in
set_option maxRecDepth 100000 in
theorem x_least (l : Launch) (G : jG) (M : jMem) (q q2 kd sz : Nat) (st : Int32) (pl : Nat → Int32) (hO : M.1 q = some (.inr (6, [.ref q2, .int (nI (136 + kd)), .int (nI sz), .int st]))) (hP : M.1 q2 = some (rA 32 pl)) (hkd : kd ≤ 3) (hs1 : 1 ≤ sz ∧ sz ≤ 32) : jC l G yX6_least cX6_least 1 (some .long) 2 32 0 0 [.ref q] (M) (.inl (some (.long (leF kd sz)), M)) := by
  refine jC.of (by decide) 0 rfl [some (.ref q)] rfl (fun p e s m args below meth c C hT9 hNm9 => ?_)
  refine J_aload_n (pc := 0) C dX6_least_0 rfl rfl ?_
  refine J_callV1 (pc := 1) C dX6_least_1 m_X6_31 (x_hasSign l G M q q2 kd sz st pl hO hP hkd hs1) ⟨jle rfl, jle rfl⟩ hO rfl rfl rfl rfl (jle rfl) ⟨Nat.zero_le _, Nat.zero_le _⟩ ?_
  try dsimp only
  refine J_if_eq (pc := 4) (tgt := 19) C dX6_least_4 (by decide) (fun h4 => ?_) (fun h4 => ?_)
  · refine J_lconst (pc := 19) (v := 0) C dX6_least_19 (by decide) ?_
    exact J_lret (pc := 20) C dX6_least_20 rfl (jol (by unfold leF; first | (have z := of_decide_eq_true (bI_t h4); rw [if_pos z]) | (have z := of_decide_eq_false (bI_f h4); rw [if_neg z]))) (Nat.zero_le _) (Nat.zero_le _)
  · refine J_lconst (pc := 7) (v := 1) C dX6_least_7 (by decide) ?_
    refine J_aload_n (pc := 8) C dX6_least_8 rfl rfl ?_
    refine J_get (pc := 9) C dX6_least_9 f_X6_19 hO rfl ?_
    try dsimp only
    refine J_iconst (pc := 12) (v := nI 1) C dX6_least_12 (by decide) ?_
    refine J_isubN (pc := 13) C dX6_least_13 (by omega) ?_
    refine J_lshl (pc := 14) C dX6_least_14 rfl ?_
    rw [shl1 (by omega)]
    refine J_lneg (pc := 15) C dX6_least_15 ?_
    refine J_goto (pc := 16) (tgt := 20) C dX6_least_16 (by decide) ?_
    exact J_lret (pc := 20) C dX6_least_20 rfl (jol (by unfold leF; first | (have z := of_decide_eq_true (bI_t h4); rw [if_pos z]) | (have z := of_decide_eq_false (bI_f h4); rw [if_neg z]))) (Nat.zero_le _) (Nat.zero_le _)
set_option maxHeartbeats 4000000 in
set_option maxRecDepth 100000 in
theorem x_most (l : Launch) (G : jG) (M : jMem) (q q2 kd sz : Nat) (st : Int32) (pl : Nat → Int32) (hO : M.1 q = some (.inr (6, [.ref q2, .int (nI (136 + kd)), .int (nI sz), .int st]))) (hP : M.1 q2 = some (rA 32 pl)) (hkd : kd ≤ 3) (hs1 : 1 ≤ sz ∧ sz ≤ 32) : jC l G yX6_most cX6_most 1 (some .long) 2 32 0 0 [.ref q] (M) (.inl (some (.long (moF kd sz)), M)) := by
  refine jC.of (by decide) 0 rfl [some (.ref q)] rfl (fun p e s m args below meth c C hT9 hNm9 => ?_)
  refine J_aload_n (pc := 0) C dX6_most_0 rfl rfl ?_
  refine J_callV1 (pc := 1) C dX6_most_1 m_X6_31 (x_hasSign l G M q q2 kd sz st pl hO hP hkd hs1) ⟨jle rfl, jle rfl⟩ hO rfl rfl rfl rfl (jle rfl) ⟨Nat.zero_le _, Nat.zero_le _⟩ ?_
  try dsimp only
  refine J_if_eq (pc := 4) (tgt := 20) C dX6_most_4 (by decide) (fun h4 => ?_) (fun h4 => ?_)
  · refine J_lconst (pc := 20) (v := 1) C dX6_most_20 (by decide) ?_
    refine J_aload_n (pc := 21) C dX6_most_21 rfl rfl ?_
    refine J_get (pc := 22) C dX6_most_22 f_X6_19 hO rfl ?_
    try dsimp only
    refine J_lshl (pc := 25) C dX6_most_25 rfl ?_
    rw [shl1 (by omega)]
    refine J_lconst (pc := 26) (v := 1) C dX6_most_26 (by decide) ?_
    refine J_lsub (pc := 27) C dX6_most_27 ?_
    exact J_lret (pc := 28) C dX6_most_28 rfl (jol (by unfold moF; first | (have z := of_decide_eq_true (bI_t h4); rw [if_pos z]) | (have z := of_decide_eq_false (bI_f h4); rw [if_neg z]))) (Nat.zero_le _) (Nat.zero_le _)
  · refine J_lconst (pc := 7) (v := 1) C dX6_most_7 (by decide) ?_
    refine J_aload_n (pc := 8) C dX6_most_8 rfl rfl ?_
    refine J_get (pc := 9) C dX6_most_9 f_X6_19 hO rfl ?_
    try dsimp only
    refine J_iconst (pc := 12) (v := nI 1) C dX6_most_12 (by decide) ?_
    refine J_isubN (pc := 13) C dX6_most_13 (by omega) ?_
    refine J_lshl (pc := 14) C dX6_most_14 rfl ?_
    rw [shl1 (by omega)]
    refine J_lconst (pc := 15) (v := 1) C dX6_most_15 (by decide) ?_
    refine J_lsub (pc := 16) C dX6_most_16 ?_
    refine J_goto (pc := 17) (tgt := 28) C dX6_most_17 (by decide) ?_
    exact J_lret (pc := 28) C dX6_most_28 rfl (jol (by unfold moF; first | (have z := of_decide_eq_true (bI_t h4); rw [if_pos z]) | (have z := of_decide_eq_false (bI_f h4); rw [if_neg z]))) (Nat.zero_le _) (Nat.zero_le _)
set_option maxHeartbeats 4000000 in
set_option maxRecDepth 100000 in
theorem x_canBe (l : Launch) (G : jG) (M : jMem) (q q2 kd sz : Nat) (st : Int32) (pl : Nat → Int32) (v : Int64) (hO : M.1 q = some (.inr (6, [.ref q2, .int (nI (136 + kd)), .int (nI sz), .int st]))) (hP : M.1 q2 = some (rA 32 pl)) (hkd : kd ≤ 3) (hs1 : 1 ≤ sz ∧ sz ≤ 32) : jC l G yX6_canBe cX6_canBe 3 (some .boolean) 3 52 0 0 [.ref q, .long v] (M) (.inl (some (.int (bI (fitF kd sz v))), M)) := by
  refine jC.of (by decide) 0 rfl [some (.ref q), some (.long v), none] rfl (fun p e s m args below meth c C hT9 hNm9 => ?_)
  refine J_lload_n (pc := 0) C dX6_canBe_0 rfl rfl ?_
  refine J_aload_n (pc := 1) C dX6_canBe_1 rfl rfl ?_
  refine J_callV1 (pc := 2) C dX6_canBe_2 m_X6_35 (x_least l G M q q2 kd sz st pl hO hP hkd hs1) ⟨jle rfl, jle rfl⟩ hO rfl rfl rfl rfl (jle rfl) ⟨Nat.zero_le _, Nat.zero_le _⟩ ?_
  try dsimp only
  refine J_lcmp (pc := 5) C dX6_canBe_5 ?_
  refine J_if_lt (pc := 6) (tgt := 22) C dX6_canBe_6 (by decide) (fun h6 => ?_) (fun h6 => ?_)
  · refine J_iconst (pc := 22) (v := nI 0) C dX6_canBe_22 (by decide) ?_
    exact J_zret (pc := 23) C dX6_canBe_23 rfl (by first | rfl | decide) (jo (by rw [fitF_lm]; unfold jin2; first | exact bI_1 (by have z1 := mt (lg_cmp_lt _ _).mpr h6; have z2 := mt (lg_cmp_gt _ _).mpr h15; simp; exact ⟨Int64.not_lt.mp z1, Int64.not_lt.mp z2⟩) | exact bI_0 (by have z1 := (lg_cmp_lt _ _).mp h6; simp; intro z3; exact absurd z1 (Int64.not_lt.mpr z3)) | exact bI_0 (by have z1 := (lg_cmp_gt _ _).mp h15; simp; intro _; exact z1))) (Nat.zero_le _) (Nat.zero_le _)
  · refine J_lload_n (pc := 9) C dX6_canBe_9 rfl rfl ?_
    refine J_aload_n (pc := 10) C dX6_canBe_10 rfl rfl ?_
    refine J_callV1 (pc := 11) C dX6_canBe_11 m_X6_39 (x_most l G M q q2 kd sz st pl hO hP hkd hs1) ⟨jle rfl, jle rfl⟩ hO rfl rfl rfl rfl (jle rfl) ⟨Nat.zero_le _, Nat.zero_le _⟩ ?_
    try dsimp only
    refine J_lcmp (pc := 14) C dX6_canBe_14 ?_
    refine J_if_gt (pc := 15) (tgt := 22) C dX6_canBe_15 (by decide) (fun h15 => ?_) (fun h15 => ?_)
    · refine J_iconst (pc := 22) (v := nI 0) C dX6_canBe_22 (by decide) ?_
      exact J_zret (pc := 23) C dX6_canBe_23 rfl (by first | rfl | decide) (jo (by rw [fitF_lm]; unfold jin2; first | exact bI_1 (by have z1 := mt (lg_cmp_lt _ _).mpr h6; have z2 := mt (lg_cmp_gt _ _).mpr h15; simp; exact ⟨Int64.not_lt.mp z1, Int64.not_lt.mp z2⟩) | exact bI_0 (by have z1 := (lg_cmp_lt _ _).mp h6; simp; intro z3; exact absurd z1 (Int64.not_lt.mpr z3)) | exact bI_0 (by have z1 := (lg_cmp_gt _ _).mp h15; simp; intro _; exact z1))) (Nat.zero_le _) (Nat.zero_le _)
    · refine J_iconst (pc := 18) (v := nI 1) C dX6_canBe_18 (by decide) ?_
      refine J_goto (pc := 19) (tgt := 23) C dX6_canBe_19 (by decide) ?_
      exact J_zret (pc := 23) C dX6_canBe_23 rfl (by first | rfl | decide) (jo (by rw [fitF_lm]; unfold jin2; first | exact bI_1 (by have z1 := mt (lg_cmp_lt _ _).mpr h6; have z2 := mt (lg_cmp_gt _ _).mpr h15; simp; exact ⟨Int64.not_lt.mp z1, Int64.not_lt.mp z2⟩) | exact bI_0 (by have z1 := (lg_cmp_lt _ _).mp h6; simp; intro z3; exact absurd z1 (Int64.not_lt.mpr z3)) | exact bI_0 (by have z1 := (lg_cmp_gt _ _).mp h15; simp; intro _; exact z1))) (Nat.zero_le _) (Nat.zero_le _)
set_option maxHeartbeats 4000000 in
set_option maxRecDepth 100000 in
theorem l_sn (l : Launch) (G : jG) {p : Program} {e : Env} {s : State} {m : MethodId} {args : Array Value} {below : List Frame} {meth : Method} {c : Code} (M : jMem) (q q2 kd sz : Nat) (st : Int32) (pl : Nat → Int32) (h lo b : Nat) (C : jX0 p l (jR 1 12 0 0) s m args meth c G cX6_standsNowhere 4 RX6 (some .boolean)) (hO : M.1 q = some (.inr (6, [.ref q2, .int (nI (136 + kd)), .int (nI sz), .int st]))) (hP : M.1 q2 = some (rA 32 pl)) (hkd : kd ≤ 3) (hs1 : 1 ≤ sz ∧ sz ≤ 32) (hh : h < 32) (hb : b ≤ h + 1) : J p l e (jR 1 12 0 0) s m args below meth c G 4 0 0 (.inl (some (.int (bI (snF pl h b))), M)) 2 [some (.ref q), some (.int (nI h)), some (.int (nI lo)), some (.int (nI b))] [] (M) 0 0 := by
  induction hm : h + 1 - b generalizing b with
  | zero =>
    rw [show snF pl h b = true by rw [snF, if_neg (by omega)]]
    refine J_iload_n (pc := 2) C dX6_standsNowhere_2 rfl rfl ?_
    refine J_iload_n (pc := 3) C dX6_standsNowhere_3 rfl rfl ?_
    refine J_icmp_gtN (pc := 4) (tgt := 25) C dX6_standsNowhere_4 (by decide) (by omega) (by omega) (fun h4 => ?_) (fun h4 => ?_)
    · refine J_iconst (pc := 25) (v := nI 1) C dX6_standsNowhere_25 (by decide) ?_
      exact J_zret (pc := 26) C dX6_standsNowhere_26 rfl (by first | rfl | decide) (rfl) (Nat.zero_le _) (Nat.zero_le _)
    · omega
  | succ d ih =>
    have h1 : snF pl h b = if pl b = -1 then snF pl h (b + 1) else false := by
      conv => lhs; rw [snF]
      rw [if_pos (by omega)]
    rw [h1]
    refine J_iload_n (pc := 2) C dX6_standsNowhere_2 rfl rfl ?_
    refine J_iload_n (pc := 3) C dX6_standsNowhere_3 rfl rfl ?_
    refine J_icmp_gtN (pc := 4) (tgt := 25) C dX6_standsNowhere_4 (by decide) (by omega) (by omega) (fun h4 => ?_) (fun h4 => ?_)
    · omega
    · refine J_aload_n (pc := 7) C dX6_standsNowhere_7 rfl rfl ?_
      refine J_get (pc := 8) C dX6_standsNowhere_8 f_X6_9 hO rfl ?_
      refine J_iload_n (pc := 11) C dX6_standsNowhere_11 rfl rfl ?_
      refine J_ialdR (pc := 12) C dX6_standsNowhere_12 hP (by omega) (by decide) ?_
      try dsimp only
      refine J_iconst (pc := 13) (v := -1) C dX6_standsNowhere_13 (by decide) ?_
      refine J_icmp_eq (pc := 14) (tgt := 19) C dX6_standsNowhere_14 (by decide) (fun h14 => ?_) (fun h14 => ?_)
      · refine J_iincN (pc := 19) C dX6_standsNowhere_19 rfl (by decide) rfl ?_
        dsimp only [List.set]
        refine J_goto (pc := 22) (tgt := 2) C dX6_standsNowhere_22 (by decide) ?_
        rw [if_pos h14]
        exact ih (b + 1) (by omega) (by omega)
      · refine J_iconst (pc := 17) (v := nI 0) C dX6_standsNowhere_17 (by decide) ?_
        exact J_zret (pc := 18) C dX6_standsNowhere_18 rfl (by first | rfl | decide) (jo (by rw [if_neg h14]; rfl)) (Nat.zero_le _) (Nat.zero_le _)
set_option maxHeartbeats 4000000 in
set_option maxRecDepth 100000 in
theorem x_sn (l : Launch) (G : jG) (M : jMem) (q q2 kd sz : Nat) (st : Int32) (pl : Nat → Int32) (h lo : Nat) (hO : M.1 q = some (.inr (6, [.ref q2, .int (nI (136 + kd)), .int (nI sz), .int st]))) (hP : M.1 q2 = some (rA 32 pl)) (hkd : kd ≤ 3) (hs1 : 1 ≤ sz ∧ sz ≤ 32) (hh : h < 32) (hl : lo ≤ h) : jC l G yX6_standsNowhere cX6_standsNowhere 4 (some .boolean) 1 12 0 0 [.ref q, .int (nI h), .int (nI lo)] (M) (.inl (some (.int (bI (snF pl h lo))), M)) := by
  refine jC.of (by decide) 1 rfl [some (.ref q), some (.int (nI h)), some (.int (nI lo)), none] rfl (fun p e s m args below meth c C hT9 hNm9 => ?_)
  refine J_iload_n (pc := 0) C dX6_standsNowhere_0 rfl rfl ?_
  refine J_istore_n (pc := 1) C dX6_standsNowhere_1 rfl (by decide) rfl ?_
  dsimp only [List.set]
  exact l_sn l G M q q2 kd sz st pl h lo lo C hO hP hkd hs1 hh (by omega)
set_option maxHeartbeats 4000000 in
set_option maxRecDepth 100000 in
theorem l_sw (l : Launch) (G : jG) {p : Program} {e : Env} {s : State} {m : MethodId} {args : Array Value} {below : List Frame} {meth : Method} {c : Code} (M : jMem) (q q2 kd sz : Nat) (st : Int32) (pl : Nat → Int32) (b : Nat) (C : jX0 p l (jR 1 12 0 0) s m args meth c G cX6_standsWhole 2 RX6 (some .boolean)) (hO : M.1 q = some (.inr (6, [.ref q2, .int (nI (136 + kd)), .int (nI sz), .int st]))) (hP : M.1 q2 = some (rA 32 pl)) (hkd : kd ≤ 3) (hs1 : 1 ≤ sz ∧ sz ≤ 32) (hb : b ≤ sz) : J p l e (jR 1 12 0 0) s m args below meth c G 2 0 0 (.inl (some (.int (bI (swF pl sz b))), M)) 2 [some (.ref q), some (.int (nI b))] [] (M) 0 0 := by
  induction hm : sz - b generalizing b with
  | zero =>
    rw [show swF pl sz b = true by rw [swF, if_neg (by omega)]]
    refine J_iload_n (pc := 2) C dX6_standsWhole_2 rfl rfl ?_
    refine J_aload_n (pc := 3) C dX6_standsWhole_3 rfl rfl ?_
    refine J_get (pc := 4) C dX6_standsWhole_4 f_X6_19 hO rfl ?_
    try dsimp only
    refine J_icmp_geN (pc := 7) (tgt := 28) C dX6_standsWhole_7 (by decide) (by omega) (by omega) (fun h7 => ?_) (fun h7 => ?_)
    · refine J_iconst (pc := 28) (v := nI 1) C dX6_standsWhole_28 (by decide) ?_
      exact J_zret (pc := 29) C dX6_standsWhole_29 rfl (by first | rfl | decide) (rfl) (Nat.zero_le _) (Nat.zero_le _)
    · omega
  | succ d ih =>
    have h1 : swF pl sz b = if pl b = -1 then false else swF pl sz (b + 1) := by
      conv => lhs; rw [swF]
      rw [if_pos (by omega)]
    rw [h1]
    refine J_iload_n (pc := 2) C dX6_standsWhole_2 rfl rfl ?_
    refine J_aload_n (pc := 3) C dX6_standsWhole_3 rfl rfl ?_
    refine J_get (pc := 4) C dX6_standsWhole_4 f_X6_19 hO rfl ?_
    try dsimp only
    refine J_icmp_geN (pc := 7) (tgt := 28) C dX6_standsWhole_7 (by decide) (by omega) (by omega) (fun h7 => ?_) (fun h7 => ?_)
    · omega
    · refine J_aload_n (pc := 10) C dX6_standsWhole_10 rfl rfl ?_
      refine J_get (pc := 11) C dX6_standsWhole_11 f_X6_9 hO rfl ?_
      refine J_iload_n (pc := 14) C dX6_standsWhole_14 rfl rfl ?_
      refine J_ialdR (pc := 15) C dX6_standsWhole_15 hP (by omega) (by decide) ?_
      try dsimp only
      refine J_iconst (pc := 16) (v := -1) C dX6_standsWhole_16 (by decide) ?_
      refine J_icmp_ne (pc := 17) (tgt := 22) C dX6_standsWhole_17 (by decide) (fun h17 => ?_) (fun h17 => ?_)
      · refine J_iincN (pc := 22) C dX6_standsWhole_22 rfl (by decide) rfl ?_
        dsimp only [List.set]
        refine J_goto (pc := 25) (tgt := 2) C dX6_standsWhole_25 (by decide) ?_
        rw [if_neg h17]
        exact ih (b + 1) (by omega) (by omega)
      · refine J_iconst (pc := 20) (v := nI 0) C dX6_standsWhole_20 (by decide) ?_
        exact J_zret (pc := 21) C dX6_standsWhole_21 rfl (by first | rfl | decide) (jo (by rw [if_pos h17]; rfl)) (Nat.zero_le _) (Nat.zero_le _)
set_option maxHeartbeats 4000000 in
set_option maxRecDepth 100000 in
theorem x_sw (l : Launch) (G : jG) (M : jMem) (q q2 kd sz : Nat) (st : Int32) (pl : Nat → Int32) (hO : M.1 q = some (.inr (6, [.ref q2, .int (nI (136 + kd)), .int (nI sz), .int st]))) (hP : M.1 q2 = some (rA 32 pl)) (hkd : kd ≤ 3) (hs1 : 1 ≤ sz ∧ sz ≤ 32) : jC l G yX6_standsWhole cX6_standsWhole 2 (some .boolean) 1 12 0 0 [.ref q] (M) (.inl (some (.int (bI (swF pl sz 0))), M)) := by
  refine jC.of (by decide) 1 rfl [some (.ref q), none] rfl (fun p e s m args below meth c C hT9 hNm9 => ?_)
  refine J_iconst (pc := 0) (v := nI 0) C dX6_standsWhole_0 (by decide) ?_
  refine J_istore_n (pc := 1) C dX6_standsWhole_1 rfl (by decide) rfl ?_
  dsimp only [List.set]
  exact l_sw l G M q q2 kd sz st pl 0 C hO hP hkd hs1 (Nat.zero_le _)
set_option maxHeartbeats 4000000 in
set_option maxRecDepth 100000 in
theorem lx_lay (l : Launch) (G : jG) {p : Program} {e : Env} {s : State} {m : MethodId} {args : Array Value} {below : List Frame} {meth : Method} {c : Code} (M : jMem) (q q2 kd sz : Nat) (st : Int32) (pl : Nat → Int32) (h lo hp i : Nat) (C : jX0 p l (jR 1 12 0 0) s m args meth c G cX6_lay 5 RX6 none) (hO : M.1 q = some (.inr (6, [.ref q2, .int (nI (136 + kd)), .int (nI sz), .int st]))) (hP : M.1 q2 = some (rA 32 pl)) (hkd : kd ≤ 3) (hs1 : 1 ≤ sz ∧ sz ≤ 32) (hq2 : q ≠ q2) (hh : h < 32) (hl : lo ≤ h) (hp9 : hp < 32) (hhp : h - lo ≤ hp) (hi : lo + i ≤ h + 1) : J p l e (jR 1 12 0 0) s m args below meth c G 5 0 0 (.inl (none, ju M q2 (rA 32 (layF pl h lo hp (h + 1 - lo))))) 3 [some (.ref q), some (.int (nI h)), some (.int (nI lo)), some (.int (nI hp)), some (.int (nI (lo + i)))] [] (ju M q2 (rA 32 (layF pl h lo hp i))) 0 0 := by
  have hO1 : ∀ x, (ju M q2 x).1 q = some (.inr (6, [.ref q2, .int (nI (136 + kd)), .int (nI sz), .int st])) := fun x => (ju_ne hq2).trans hO
  induction hm : h + 1 - (lo + i) generalizing i with
  | zero =>
    have hi9 : i = h + 1 - lo := by omega
    subst hi9
    refine J_iload (pc := 3) C dX6_lay_3 rfl ?_
    refine J_iload_n (pc := 5) C dX6_lay_5 rfl rfl ?_
    refine J_icmp_gtN (pc := 6) (tgt := 28) C dX6_lay_6 (by decide) (by omega) (by omega) (fun h6 => ?_) (fun h6 => ?_)
    · exact J_vret (pc := 28) C dX6_lay_28 rfl (rfl) (Nat.zero_le _) (Nat.zero_le _)
    · omega
  | succ d ih =>
    refine J_iload (pc := 3) C dX6_lay_3 rfl ?_
    refine J_iload_n (pc := 5) C dX6_lay_5 rfl rfl ?_
    refine J_icmp_gtN (pc := 6) (tgt := 28) C dX6_lay_6 (by decide) (by omega) (by omega) (fun h6 => ?_) (fun h6 => ?_)
    · omega
    · refine J_aload_n (pc := 9) C dX6_lay_9 rfl rfl ?_
      refine J_get (pc := 10) C dX6_lay_10 f_X6_9 (hO1 _) rfl ?_
      refine J_iload (pc := 13) C dX6_lay_13 rfl ?_
      refine J_iload_n (pc := 15) C dX6_lay_15 rfl rfl ?_
      refine J_iload_n (pc := 16) C dX6_lay_16 rfl rfl ?_
      refine J_iload (pc := 17) C dX6_lay_17 rfl ?_
      refine J_isubN (pc := 19) C dX6_lay_19 (by omega) ?_
      refine J_isubN (pc := 20) C dX6_lay_20 (by omega) ?_
      refine J_iastR (pc := 21) C dX6_lay_21 ju_eq (by omega) (by decide) (ju_ju) ?_
      refine J_iincN (pc := 22) C dX6_lay_22 rfl (by decide) rfl ?_
      dsimp only [List.set]
      refine J_goto (pc := 25) (tgt := 3) C dX6_lay_25 (by decide) ?_
      exact ih (i + 1) (by omega) (by omega)
set_option maxHeartbeats 4000000 in
set_option maxRecDepth 100000 in
theorem x_lay (l : Launch) (G : jG) (M : jMem) (q q2 kd sz : Nat) (st : Int32) (pl : Nat → Int32) (h lo hp : Nat) (hO : M.1 q = some (.inr (6, [.ref q2, .int (nI (136 + kd)), .int (nI sz), .int st]))) (hP : M.1 q2 = some (rA 32 pl)) (hkd : kd ≤ 3) (hs1 : 1 ≤ sz ∧ sz ≤ 32) (hq2 : q ≠ q2) (hh : h < 32) (hl : lo ≤ h) (hp9 : hp < 32) (hhp : h - lo ≤ hp) : jC l G yX6_lay cX6_lay 5 none 1 12 0 0 [.ref q, .int (nI h), .int (nI lo), .int (nI hp)] (M) (.inl (none, ju M q2 (rA 32 (layF pl h lo hp (h + 1 - lo))))) := by
  refine jC.of (by decide) 1 rfl [some (.ref q), some (.int (nI h)), some (.int (nI lo)), some (.int (nI hp)), none] rfl (fun p e s m args below meth c C hT9 hNm9 => ?_)
  refine J_iload_n (pc := 0) C dX6_lay_0 rfl rfl ?_
  refine J_istore (pc := 1) C dX6_lay_1 (by decide) rfl ?_
  dsimp only [List.set]
  refine J.to (M' := ju M q2 (rA 32 (layF pl h lo hp 0))) (ju_id hP).symm ?_
  exact lx_lay l G M q q2 kd sz st pl h lo hp 0 C hO hP hkd hs1 hq2 hh hl hp9 hhp (by omega)
set_option maxHeartbeats 4000000 in
set_option maxRecDepth 100000 in
theorem l_spread (l : Launch) (G : jG) {p : Program} {e : Env} {s : State} {m : MethodId} {args : Array Value} {below : List Frame} {meth : Method} {c : Code} (M : jMem) (q q2 kd sz : Nat) (st : Int32) (pl : Nat → Int32) (v : Int64) (b : Nat) (w : Int32) (C : jX0 p l (jR 1 12 0 0) s m args meth c G cX6_spread 5 RX6 (some .int)) (hO : M.1 q = some (.inr (6, [.ref q2, .int (nI (136 + kd)), .int (nI sz), .int st]))) (hP : M.1 q2 = some (rA 32 pl)) (hkd : kd ≤ 3) (hs1 : 1 ≤ sz ∧ sz ≤ 32) (hb : b ≤ sz) : J p l e (jR 1 12 0 0) s m args below meth c G 5 0 0 (.inl (some (.int (spF pl v sz b w)), M)) 5 [some (.ref q), some (.long v), none, some (.int w), some (.int (nI b))] [] (M) 0 0 := by
  induction hm : sz - b generalizing b w with
  | zero =>
    rw [show spF pl v sz b w = w by rw [spF, if_neg (by omega)]]
    refine J_iload (pc := 5) C dX6_spread_5 rfl ?_
    refine J_aload_n (pc := 7) C dX6_spread_7 rfl rfl ?_
    refine J_get (pc := 8) C dX6_spread_8 f_X6_19 hO rfl ?_
    try dsimp only
    refine J_icmp_geN (pc := 11) (tgt := 38) C dX6_spread_11 (by decide) (by omega) (by omega) (fun h11 => ?_) (fun h11 => ?_)
    · refine J_iload_n (pc := 38) C dX6_spread_38 rfl rfl ?_
      exact J_iret (pc := 39) C dX6_spread_39 rfl (rfl) (Nat.zero_le _) (Nat.zero_le _)
    · omega
  | succ d ih =>
    have h1 : spF pl v sz b w = spF pl v sz (b + 1) (w ||| spB pl v b) := by
      conv => lhs; rw [spF]
      rw [if_pos (by omega)]
    rw [h1]
    refine J_iload (pc := 5) C dX6_spread_5 rfl ?_
    refine J_aload_n (pc := 7) C dX6_spread_7 rfl rfl ?_
    refine J_get (pc := 8) C dX6_spread_8 f_X6_19 hO rfl ?_
    try dsimp only
    refine J_icmp_geN (pc := 11) (tgt := 38) C dX6_spread_11 (by decide) (by omega) (by omega) (fun h11 => ?_) (fun h11 => ?_)
    · omega
    · refine J_iload_n (pc := 14) C dX6_spread_14 rfl rfl ?_
      refine J_lload_n (pc := 15) C dX6_spread_15 rfl rfl ?_
      refine J_iload (pc := 16) C dX6_spread_16 rfl ?_
      refine J_lushr (pc := 18) C dX6_spread_18 rfl ?_
      refine J_lconst (pc := 19) (v := 1) C dX6_spread_19 (by decide) ?_
      refine J_land (pc := 20) C dX6_spread_20 ?_
      refine J_l2i (pc := 21) C dX6_spread_21 rfl ?_
      refine J_aload_n (pc := 22) C dX6_spread_22 rfl rfl ?_
      refine J_get (pc := 23) C dX6_spread_23 f_X6_9 hO rfl ?_
      refine J_iload (pc := 26) C dX6_spread_26 rfl ?_
      refine J_ialdR (pc := 28) C dX6_spread_28 hP (by omega) (by decide) ?_
      try dsimp only
      refine J_ishl (pc := 29) C dX6_spread_29 ?_
      refine J_ior (pc := 30) C dX6_spread_30 ?_
      refine J_istore_n (pc := 31) C dX6_spread_31 rfl (by decide) rfl ?_
      dsimp only [List.set]
      refine J_iincN (pc := 32) C dX6_spread_32 rfl (by decide) rfl ?_
      dsimp only [List.set]
      refine J_goto (pc := 35) (tgt := 5) C dX6_spread_35 (by decide) ?_
      exact ih (b + 1) (w ||| spB pl v b) (by omega) (by omega)
set_option maxHeartbeats 4000000 in
set_option maxRecDepth 100000 in
theorem x_spread (l : Launch) (G : jG) (M : jMem) (q q2 kd sz : Nat) (st : Int32) (pl : Nat → Int32) (v : Int64) (hO : M.1 q = some (.inr (6, [.ref q2, .int (nI (136 + kd)), .int (nI sz), .int st]))) (hP : M.1 q2 = some (rA 32 pl)) (hkd : kd ≤ 3) (hs1 : 1 ≤ sz ∧ sz ≤ 32) : jC l G yX6_spread cX6_spread 5 (some .int) 1 12 0 0 [.ref q, .long v] (M) (.inl (some (.int (spF pl v sz 0 (nI 0))), M)) := by
  refine jC.of (by decide) 2 rfl [some (.ref q), some (.long v), none, none, none] rfl (fun p e s m args below meth c C hT9 hNm9 => ?_)
  refine J_iconst (pc := 0) (v := nI 0) C dX6_spread_0 (by decide) ?_
  refine J_istore_n (pc := 1) C dX6_spread_1 rfl (by decide) rfl ?_
  dsimp only [List.set]
  refine J_iconst (pc := 2) (v := nI 0) C dX6_spread_2 (by decide) ?_
  refine J_istore (pc := 3) C dX6_spread_3 (by decide) rfl ?_
  dsimp only [List.set]
  exact l_spread l G M q q2 kd sz st pl v 0 (nI 0) C hO hP hkd hs1 (Nat.zero_le _)
set_option maxHeartbeats 4000000 in
set_option maxRecDepth 100000 in
theorem l_gather (l : Launch) (G : jG) {p : Program} {e : Env} {s : State} {m : MethodId} {args : Array Value} {below : List Frame} {meth : Method} {c : Code} (M : jMem) (q q2 kd sz : Nat) (st : Int32) (pl : Nat → Int32) (w : Int32) (b : Nat) (v : Int64) (C : jX0 p l (jR 3 52 0 0) s m args meth c G cX6_gather 5 RX6 (some .long)) (hO : M.1 q = some (.inr (6, [.ref q2, .int (nI (136 + kd)), .int (nI sz), .int st]))) (hP : M.1 q2 = some (rA 32 pl)) (hkd : kd ≤ 3) (hs1 : 1 ≤ sz ∧ sz ≤ 32) (hb : b ≤ sz) (hg : gaF pl w sz b v = gaF pl w sz 0 0) : J p l e (jR 3 52 0 0) s m args below meth c G 5 0 0 (.inl (some (.long (gthF kd sz pl w)), M)) 5 [some (.ref q), some (.int w), some (.long v), none, some (.int (nI b))] [] (M) 0 0 := by
  induction hm : sz - b generalizing b v with
  | zero =>
    have hv : v = gaF pl w sz 0 0 := by rw [← hg, gaF, if_neg (by omega)]
    subst hv
    refine J_iload (pc := 5) C dX6_gather_5 rfl ?_
    refine J_aload_n (pc := 7) C dX6_gather_7 rfl rfl ?_
    refine J_get (pc := 8) C dX6_gather_8 f_X6_19 hO rfl ?_
    try dsimp only
    refine J_icmp_geN (pc := 11) (tgt := 38) C dX6_gather_11 (by decide) (by omega) (by omega) (fun h11 => ?_) (fun h11 => ?_)
    · refine J_lload_n (pc := 38) C dX6_gather_38 rfl rfl ?_
      refine J_aload_n (pc := 39) C dX6_gather_39 rfl rfl ?_
      refine J_callV1 (pc := 40) C dX6_gather_40 m_X6_39 (x_most l G M q q2 kd sz st pl hO hP hkd hs1) ⟨jle rfl, jle rfl⟩ hO rfl rfl rfl rfl (jle rfl) ⟨Nat.zero_le _, Nat.zero_le _⟩ ?_
      try dsimp only
      refine J_lcmp (pc := 43) C dX6_gather_43 ?_
      refine J_if_le (pc := 44) (tgt := 58) C dX6_gather_44 (by decide) (fun h44 => ?_) (fun h44 => ?_)
      · refine J_lload_n (pc := 58) C dX6_gather_58 rfl rfl ?_
        exact J_lret (pc := 59) C dX6_gather_59 rfl (jol (by unfold gthF; first | (have z := (lg_cmp_gt _ _).mp (Int32.not_le.mp h44); rw [if_pos z]) | (have z : ¬ moF kd sz < gaF pl w sz 0 0 := fun z => absurd ((lg_cmp_gt _ _).mpr z) (Int32.not_lt.mpr h44); rw [if_neg z]))) (Nat.zero_le _) (Nat.zero_le _)
      · refine J_lload_n (pc := 47) C dX6_gather_47 rfl rfl ?_
        refine J_lconst (pc := 48) (v := 1) C dX6_gather_48 (by decide) ?_
        refine J_aload_n (pc := 49) C dX6_gather_49 rfl rfl ?_
        refine J_get (pc := 50) C dX6_gather_50 f_X6_19 hO rfl ?_
        try dsimp only
        refine J_lshl (pc := 53) C dX6_gather_53 rfl ?_
        rw [shl1 (by omega)]
        refine J_lsub (pc := 54) C dX6_gather_54 ?_
        refine J_goto (pc := 55) (tgt := 59) C dX6_gather_55 (by decide) ?_
        exact J_lret (pc := 59) C dX6_gather_59 rfl (jol (by unfold gthF; first | (have z := (lg_cmp_gt _ _).mp (Int32.not_le.mp h44); rw [if_pos z]) | (have z : ¬ moF kd sz < gaF pl w sz 0 0 := fun z => absurd ((lg_cmp_gt _ _).mpr z) (Int32.not_lt.mpr h44); rw [if_neg z]))) (Nat.zero_le _) (Nat.zero_le _)
    · omega
  | succ d ih =>
    have h1 : gaF pl w sz b v = gaF pl w sz (b + 1) (v ||| gaB pl w b) := by
      conv => lhs; rw [gaF]
      rw [if_pos (by omega)]
    rw [h1] at hg
    refine J_iload (pc := 5) C dX6_gather_5 rfl ?_
    refine J_aload_n (pc := 7) C dX6_gather_7 rfl rfl ?_
    refine J_get (pc := 8) C dX6_gather_8 f_X6_19 hO rfl ?_
    try dsimp only
    refine J_icmp_geN (pc := 11) (tgt := 38) C dX6_gather_11 (by decide) (by omega) (by omega) (fun h11 => ?_) (fun h11 => ?_)
    · omega
    · refine J_lload_n (pc := 14) C dX6_gather_14 rfl rfl ?_
      refine J_iload_n (pc := 15) C dX6_gather_15 rfl rfl ?_
      refine J_aload_n (pc := 16) C dX6_gather_16 rfl rfl ?_
      refine J_get (pc := 17) C dX6_gather_17 f_X6_9 hO rfl ?_
      refine J_iload (pc := 20) C dX6_gather_20 rfl ?_
      refine J_ialdR (pc := 22) C dX6_gather_22 hP (by omega) (by decide) ?_
      try dsimp only
      refine J_iushr (pc := 23) C dX6_gather_23 rfl ?_
      refine J_iconst (pc := 24) (v := nI 1) C dX6_gather_24 (by decide) ?_
      refine J_iand (pc := 25) C dX6_gather_25 ?_
      refine J_i2l (pc := 26) C dX6_gather_26 rfl ?_
      refine J_iload (pc := 27) C dX6_gather_27 rfl ?_
      refine J_lshl (pc := 29) C dX6_gather_29 rfl ?_
      refine J_lor (pc := 30) C dX6_gather_30 ?_
      refine J_lstore_n (pc := 31) C dX6_gather_31 rfl (by decide) rfl ?_
      dsimp only [List.set]
      refine J_iincN (pc := 32) C dX6_gather_32 rfl (by decide) rfl ?_
      dsimp only [List.set]
      refine J_goto (pc := 35) (tgt := 5) C dX6_gather_35 (by decide) ?_
      exact ih (b + 1) (v ||| gaB pl w b) (by omega) hg (by omega)
set_option maxHeartbeats 4000000 in
set_option maxRecDepth 100000 in
theorem x_gather (l : Launch) (G : jG) (M : jMem) (q q2 kd sz : Nat) (st : Int32) (pl : Nat → Int32) (w : Int32) (hO : M.1 q = some (.inr (6, [.ref q2, .int (nI (136 + kd)), .int (nI sz), .int st]))) (hP : M.1 q2 = some (rA 32 pl)) (hkd : kd ≤ 3) (hs1 : 1 ≤ sz ∧ sz ≤ 32) : jC l G yX6_gather cX6_gather 5 (some .long) 3 52 0 0 [.ref q, .int w] (M) (.inl (some (.long (gthF kd sz pl w)), M)) := by
  refine jC.of (by decide) 3 rfl [some (.ref q), some (.int w), none, none, none] rfl (fun p e s m args below meth c C hT9 hNm9 => ?_)
  refine J_lconst (pc := 0) (v := 0) C dX6_gather_0 (by decide) ?_
  refine J_lstore_n (pc := 1) C dX6_gather_1 rfl (by decide) rfl ?_
  dsimp only [List.set]
  refine J_iconst (pc := 2) (v := nI 0) C dX6_gather_2 (by decide) ?_
  refine J_istore (pc := 3) C dX6_gather_3 (by decide) rfl ?_
  dsimp only [List.set]
  exact l_gather l G M q q2 kd sz st pl w 0 0 C hO hP hkd hs1 (Nat.zero_le _) rfl
set_option maxHeartbeats 4000000 in
set_option maxRecDepth 100000 in
theorem x_owns (l : Launch) (G : jG) (M : jMem) (q q2 sz ld : Nat) (mk pt : Int32) (w : Int32) (hO : M.1 q = some (.inr (5, [.ref q2, .int (nI sz), .int (nI ld), .int mk, .int pt]))) : jC l G yX5_owns cX5_owns 2 (some .boolean) 1 12 0 0 [.ref q, .int w] (M) (.inl (some (.int (bI (owF mk pt w))), M)) := by
  refine jC.of (by decide) 0 rfl [some (.ref q), some (.int w)] rfl (fun p e s m args below meth c C hT9 hNm9 => ?_)
  refine J_iload_n (pc := 0) C dX5_owns_0 rfl rfl ?_
  refine J_aload_n (pc := 1) C dX5_owns_1 rfl rfl ?_
  refine J_get (pc := 2) C dX5_owns_2 f_X5_24 hO rfl ?_
  try dsimp only
  refine J_iand (pc := 5) C dX5_owns_5 ?_
  refine J_aload_n (pc := 6) C dX5_owns_6 rfl rfl ?_
  refine J_get (pc := 7) C dX5_owns_7 f_X5_27 hO rfl ?_
  try dsimp only
  refine J_icmp_ne (pc := 10) (tgt := 17) C dX5_owns_10 (by decide) (fun h10 => ?_) (fun h10 => ?_)
  · refine J_iconst (pc := 17) (v := nI 0) C dX5_owns_17 (by decide) ?_
    exact J_zret (pc := 18) C dX5_owns_18 rfl (by first | rfl | decide) (jo (by unfold owF; first | exact bI_1 (decide_eq_true h10) | exact bI_0 (decide_eq_false h10))) (Nat.zero_le _) (Nat.zero_le _)
  · refine J_iconst (pc := 13) (v := nI 1) C dX5_owns_13 (by decide) ?_
    refine J_goto (pc := 14) (tgt := 18) C dX5_owns_14 (by decide) ?_
    exact J_zret (pc := 18) C dX5_owns_18 rfl (by first | rfl | decide) (jo (by unfold owF; first | exact bI_1 (decide_eq_true h10) | exact bI_0 (decide_eq_false h10))) (Nat.zero_le _) (Nat.zero_le _)
set_option maxHeartbeats 4000000 in
set_option maxRecDepth 100000 in
theorem x_shares (l : Launch) (G : jG) (M : jMem) (q q2 sz ld : Nat) (mk pt : Int32) (q9 q8 sz2 ld2 : Nat) (mk2 pt2 : Int32) (hO : M.1 q = some (.inr (5, [.ref q2, .int (nI sz), .int (nI ld), .int mk, .int pt]))) (hO2 : M.1 q9 = some (.inr (5, [.ref q8, .int (nI sz2), .int (nI ld2), .int mk2, .int pt2]))) : jC l G yX5_sharesWordWith cX5_sharesWordWith 2 (some .boolean) 1 12 0 0 [.ref q, .ref q9] (M) (.inl (some (.int (bI (shF mk pt mk2 pt2))), M)) := by
  refine jC.of (by decide) 0 rfl [some (.ref q), some (.ref q9)] rfl (fun p e s m args below meth c C hT9 hNm9 => ?_)
  refine J_aload_n (pc := 0) C dX5_sharesWordWith_0 rfl rfl ?_
  refine J_get (pc := 1) C dX5_sharesWordWith_1 f_X5_27 hO rfl ?_
  try dsimp only
  refine J_aload_n (pc := 4) C dX5_sharesWordWith_4 rfl rfl ?_
  refine J_get (pc := 5) C dX5_sharesWordWith_5 f_X5_27 hO2 rfl ?_
  try dsimp only
  refine J_ixor (pc := 8) C dX5_sharesWordWith_8 ?_
  refine J_aload_n (pc := 9) C dX5_sharesWordWith_9 rfl rfl ?_
  refine J_get (pc := 10) C dX5_sharesWordWith_10 f_X5_24 hO rfl ?_
  try dsimp only
  refine J_iand (pc := 13) C dX5_sharesWordWith_13 ?_
  refine J_aload_n (pc := 14) C dX5_sharesWordWith_14 rfl rfl ?_
  refine J_get (pc := 15) C dX5_sharesWordWith_15 f_X5_24 hO2 rfl ?_
  try dsimp only
  refine J_iand (pc := 18) C dX5_sharesWordWith_18 ?_
  refine J_if_ne (pc := 19) (tgt := 26) C dX5_sharesWordWith_19 (by decide) (fun h19 => ?_) (fun h19 => ?_)
  · refine J_iconst (pc := 26) (v := nI 0) C dX5_sharesWordWith_26 (by decide) ?_
    exact J_zret (pc := 27) C dX5_sharesWordWith_27 rfl (by first | rfl | decide) (jo (by unfold shF; first | exact bI_1 (decide_eq_true h19) | exact bI_0 (decide_eq_false h19))) (Nat.zero_le _) (Nat.zero_le _)
  · refine J_iconst (pc := 22) (v := nI 1) C dX5_sharesWordWith_22 (by decide) ?_
    refine J_goto (pc := 23) (tgt := 27) C dX5_sharesWordWith_23 (by decide) ?_
    exact J_zret (pc := 27) C dX5_sharesWordWith_27 rfl (by first | rfl | decide) (jo (by unfold shF; first | exact bI_1 (decide_eq_true h19) | exact bI_0 (decide_eq_false h19))) (Nat.zero_le _) (Nat.zero_le _)
