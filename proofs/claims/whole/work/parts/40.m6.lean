set_option maxHeartbeats 4000000 in
set_option maxRecDepth 100000 in
theorem l_dig (l : Launch) (G : jG) {p : Program} {e : Env} {s : State} {m : MethodId} {args : Array Value} {below : List Frame} {meth : Method} {c : Code} (er : Nat) (F X : Nat × (Nat → Nat)) (K : Nat × Nat × Nat) (D : mD) (P : mP) (gv : Nat → Int64) (O : Nat × (Nat → Nat)) (T : jMem) {ou : jO} (o n a9 m9 k : Nat) (C : jX0 p l (jR 9 180 0 0) s m args meth c G cX11_field 9 RX11 (some .int)) (hn : X.1 ≤ 4000) (hX : ∀ k, X.2 k < 256) (hG : tkG X K) (h2 : K.1 = 2) (hk : K.2.1 ≤ k) (hk2 : k ≤ K.2.2) (ha : a9 = K.2.1) (hf : digOK X K.2.2 k = false → ou = .inl (some (.int (-1)), encM er F X K (badW (-1) a9) D P gv O T)) (kk : digOK X K.2.2 k = true → J p l e (jR 9 180 0 0) s m args below meth c G 9 0 0 (ou) 57 [some (.ref 1000), some (.int (nI o)), some (.int (nI n)), some (.int (nI a9)), some (.int (nI m9)), some (.int (nI K.2.2)), none, none, none] [] (encM er F X K (-1) D P gv O T) 0 0) : J p l e (jR 9 180 0 0) s m args below meth c G 9 0 0 (ou) 22 [some (.ref 1000), some (.int (nI o)), some (.int (nI n)), some (.int (nI a9)), some (.int (nI m9)), some (.int (nI k)), none, none, none] [] (encM er F X K (-1) D P gv O T) 0 0 := by
  have b0 := hG.1
  unfold tkOK at b0
  induction hm : K.2.2 - k generalizing k with
  | zero =>
    have h9 : k = K.2.2 := by omega
    have h1 : digOK X K.2.2 k = true := by rw [digOK, if_neg (by omega)]
    subst h9
    refine J_iload (pc := 22) C dX11_field_22 rfl ?_
    refine J_aload_n (pc := 24) C dX11_field_24 rfl rfl ?_
    refine J_get (pc := 25) C dX11_field_25 f_X11_110 rfl rfl ?_
    try dsimp only
    refine J_icmp_geN (pc := 28) (tgt := 57) C dX11_field_28 (by decide) (by omega) (by omega) (fun h28 => ?_) (fun h28 => ?_)
    · exact kk h1
    · omega
  | succ d ih =>
    have hv := hG.2 h2 k hk (by omega)
    refine J_iload (pc := 22) C dX11_field_22 rfl ?_
    refine J_aload_n (pc := 24) C dX11_field_24 rfl rfl ?_
    refine J_get (pc := 25) C dX11_field_25 f_X11_110 rfl rfl ?_
    try dsimp only
    refine J_icmp_geN (pc := 28) (tgt := 57) C dX11_field_28 (by decide) (by omega) (by omega) (fun h28 => ?_) (fun h28 => ?_)
    · omega
    · refine J_aload_n (pc := 31) C dX11_field_31 rfl rfl ?_
      refine J_get (pc := 32) C dX11_field_32 f_X11_17 rfl rfl ?_
      refine J_iload (pc := 35) C dX11_field_35 rfl ?_
      refine J_ialdN (pc := 37) C dX11_field_37 rfl (by omega) (by decide) ?_
      try dsimp only
      refine J_bipush (pc := 38) (v := nI 49) C dX11_field_38 (by decide) ?_
      refine J_icmp_leN (pc := 40) (tgt := 51) C dX11_field_40 (by decide) (by omega) (by omega) (fun h40 => ?_) (fun h40 => ?_)
      · refine J_iincN (pc := 51) C dX11_field_51 rfl (by decide) rfl ?_
        dsimp only [List.set]
        refine J_goto (pc := 54) (tgt := 22) C dX11_field_54 (by decide) ?_
        have h1 : digOK X K.2.2 k = digOK X K.2.2 (k + 1) := by
          conv => lhs; rw [digOK]
          rw [if_pos (by omega), if_pos (by omega)]
        exact ih (k + 1) (by omega) (by omega) (fun z => hf (h1.trans z)) (fun z => kk (h1.trans z)) (by omega)
      · refine J_aload_n (pc := 43) C dX11_field_43 rfl rfl ?_
        refine J_iload_n (pc := 44) C dX11_field_44 rfl rfl ?_
        refine J_callV1 (pc := 45) C dX11_field_45 m_X11_142 (c_bad l G _ _ _ _ _ _ _ _ _ _ _) ⟨jle rfl, jle rfl⟩ rfl rfl rfl rfl rfl (jle rfl) ⟨Nat.zero_le _, Nat.zero_le _⟩ ?_
        try dsimp only
        refine J_pop (pc := 48) C dX11_field_48 rfl ?_
        refine J_iconst (pc := 49) (v := -1) C dX11_field_49 (by decide) ?_
        exact J_iret (pc := 50) C dX11_field_50 rfl (hf (by rw [digOK, if_pos (by omega), if_neg (by omega)])) (Nat.zero_le _) (Nat.zero_le _)
set_option maxHeartbeats 4000000 in
set_option maxRecDepth 100000 in
theorem l_fix (l : Launch) (G : jG) {p : Program} {e : Env} {s : State} {m : MethodId} {args : Array Value} {below : List Frame} {meth : Method} {c : Code} (er : Nat) (F X : Nat × (Nat → Nat)) (K : Nat × Nat × Nat) (D : mD) (P : mP) (gv : Nat → Int64) (O : Nat × (Nat → Nat)) (T : jMem) {ou : jO} (o n a9 m9 k : Nat) (C : jX0 p l (jR 9 180 0 0) s m args meth c G cX11_field 9 RX11 (some .int)) (hn : X.1 ≤ 4000) (hX : ∀ k, X.2 k < 256) (hG : tkG X K) (h2 : K.1 = 2) (ho : o < 60) (hk : K.2.1 ≤ k) (hk2 : k ≤ K.2.2) (hm9 : m9 + (K.2.2 - k) ≤ 32) (kk : J p l e (jR 9 180 0 0) s m args below meth c G 9 0 0 (ou) 137 [some (.ref 1000), some (.int (nI o)), some (.int (nI n)), some (.int (nI a9)), some (.int (nI (m9 + (K.2.2 - k)))), some (.int (nI K.2.2)), none, none, none] [] (encM er F X K (-1) (mdW D (fixW X (mWhat D) K.2.2 k (32 * o + m9))) P gv O T) 0 0) : J p l e (jR 9 180 0 0) s m args below meth c G 9 0 0 (ou) 89 [some (.ref 1000), some (.int (nI o)), some (.int (nI n)), some (.int (nI a9)), some (.int (nI m9)), some (.int (nI k)), none, none, none] [] (encM er F X K (-1) D P gv O T) 0 0 := by
  have b0 := hG.1
  unfold tkOK at b0
  induction hm : K.2.2 - k generalizing k m9 D with
  | zero =>
    have h9 : k = K.2.2 := by omega
    have h1 : fixW X (mWhat D) K.2.2 k (32 * o + m9) = mWhat D := by rw [fixW, if_neg (by omega)]
    rw [h1] at kk
    subst h9
    refine J_iload (pc := 89) C dX11_field_89 rfl ?_
    refine J_aload_n (pc := 91) C dX11_field_91 rfl rfl ?_
    refine J_get (pc := 92) C dX11_field_92 f_X11_110 rfl rfl ?_
    try dsimp only
    refine J_icmp_geN (pc := 95) (tgt := 137) C dX11_field_95 (by decide) (by omega) (by omega) (fun h95 => ?_) (fun h95 => ?_)
    · rw [show m9 + (K.2.2 - K.2.2) = m9 by omega] at kk
      exact kk
    · omega
  | succ d ih =>
    have hv := hG.2 h2 k hk (by omega)
    refine J_iload (pc := 89) C dX11_field_89 rfl ?_
    refine J_aload_n (pc := 91) C dX11_field_91 rfl rfl ?_
    refine J_get (pc := 92) C dX11_field_92 f_X11_110 rfl rfl ?_
    try dsimp only
    refine J_icmp_geN (pc := 95) (tgt := 137) C dX11_field_95 (by decide) (by omega) (by omega) (fun h95 => ?_) (fun h95 => ?_)
    · omega
    · refine J_aload_n (pc := 98) C dX11_field_98 rfl rfl ?_
      refine J_get (pc := 99) C dX11_field_99 f_X11_53 rfl rfl ?_
      refine J_bipush (pc := 102) (v := nI 32) C dX11_field_102 (by decide) ?_
      refine J_iload_n (pc := 104) C dX11_field_104 rfl rfl ?_
      refine J_imulN (pc := 105) C dX11_field_105 ?_
      refine J_iload (pc := 106) C dX11_field_106 rfl ?_
      refine J_iincN (pc := 108) C dX11_field_108 rfl (by decide) rfl ?_
      dsimp only [List.set]
      refine J_iaddN (pc := 111) C dX11_field_111 ?_
      refine J_aload_n (pc := 112) C dX11_field_112 rfl rfl ?_
      refine J_get (pc := 113) C dX11_field_113 f_X11_17 rfl rfl ?_
      refine J_iload (pc := 116) C dX11_field_116 rfl ?_
      refine J_ialdN (pc := 118) C dX11_field_118 rfl (by omega) (by decide) ?_
      try dsimp only
      refine J_bipush (pc := 119) (v := nI 48) C dX11_field_119 (by decide) ?_
      refine J_icmp_neN (pc := 121) (tgt := 128) C dX11_field_121 (by decide) (by omega) (by omega) (fun h121 => ?_) (fun h121 => ?_)
      · refine J_bipush (pc := 128) (v := -2) C dX11_field_128 (by decide) ?_
        refine J_iastR (pc := 130) C dX11_field_130 rfl (by omega) (by decide) (uM_what _) ?_
        refine J_iincN (pc := 131) C dX11_field_131 rfl (by decide) rfl ?_
        dsimp only [List.set]
        refine J_goto (pc := 134) (tgt := 89) C dX11_field_134 (by decide) ?_
        refine ih _ (m9 + 1) (k + 1) (by omega) (by omega) (by omega) ?_ (by omega)
        rw [show m9 + 1 + (K.2.2 - (k + 1)) = m9 + (K.2.2 - k) by omega]
        have h1 : fixW X (mWhat D) K.2.2 k (32 * o + m9) = fixW X (va_up (mWhat D) (32 * o + m9) (if X.2 k = 48 then -1 else -2)) K.2.2 (k + 1) (32 * o + (m9 + 1)) := by
          conv => lhs; rw [fixW]
          rw [if_pos (by omega), Nat.add_assoc]
        rw [h1] at kk
        first
          | (rw [if_pos h121] at kk; exact kk)
          | (rw [if_neg h121] at kk; exact kk)
      · refine J_iconst (pc := 124) (v := -1) C dX11_field_124 (by decide) ?_
        refine J_goto (pc := 125) (tgt := 130) C dX11_field_125 (by decide) ?_
        refine J_iastR (pc := 130) C dX11_field_130 rfl (by omega) (by decide) (uM_what _) ?_
        refine J_iincN (pc := 131) C dX11_field_131 rfl (by decide) rfl ?_
        dsimp only [List.set]
        refine J_goto (pc := 134) (tgt := 89) C dX11_field_134 (by decide) ?_
        refine ih _ (m9 + 1) (k + 1) (by omega) (by omega) (by omega) ?_ (by omega)
        rw [show m9 + 1 + (K.2.2 - (k + 1)) = m9 + (K.2.2 - k) by omega]
        have h1 : fixW X (mWhat D) K.2.2 k (32 * o + m9) = fixW X (va_up (mWhat D) (32 * o + m9) (if X.2 k = 48 then -1 else -2)) K.2.2 (k + 1) (32 * o + (m9 + 1)) := by
          conv => lhs; rw [fixW]
          rw [if_pos (by omega), Nat.add_assoc]
        rw [h1] at kk
        first
          | (rw [if_pos h121] at kk; exact kk)
          | (rw [if_neg h121] at kk; exact kk)
set_option maxHeartbeats 4000000 in
set_option maxRecDepth 100000 in
theorem l_lay (l : Launch) (G : jG) {p : Program} {e : Env} {s : State} {m : MethodId} {args : Array Value} {below : List Frame} {meth : Method} {c : Code} (er : Nat) (F X : Nat × (Nat → Nat)) (K : Nat × Nat × Nat) (D : mD) (P : mP) (gv : Nat → Int64) (O : Nat × (Nat → Nat)) (T : jMem) (o n a9 m9 k lo q : Nat) (v6 : Option Value) (C : jX0 p l (jR 9 180 0 0) s m args meth c G cX11_field 9 RX11 (some .int)) (hn : X.1 ≤ 4000) (hX : ∀ k, X.2 k < 256) (ho : o < 60) (hk : k < 6) (hn9 : n ≤ 32) (hm9 : m9 + q ≤ 32) (hl : lo + q ≤ 32) : J p l e (jR 9 180 0 0) s m args below meth c G 9 0 0 (.inl (some (.int (fRet (fldL a9 K o n k lo q D m9))), encM er F X (fldL a9 K o n k lo q D m9).2.1 (wrI (fldL a9 K o n k lo q D m9).1) (fldL a9 K o n k lo q D m9).2.2.1 P gv O T)) 351 [some (.ref 1000), some (.int (nI o)), some (.int (nI n)), some (.int (nI a9)), some (.int (nI m9)), some (.int (nI k)), v6, some (.int (nI lo)), some (.int (nI (lo + q) - 1))] [] (encM er F X K (-1) D P gv O T) 0 0 := by
  induction q generalizing m9 D with
  | zero =>
    refine J_iload (pc := 351) C dX11_field_351 rfl ?_
    refine J_iload (pc := 353) C dX11_field_353 rfl ?_
    refine J_icmp_lt (pc := 355) (tgt := 412) C dX11_field_355 (by decide) (fun h355 => ?_) (fun h355 => ?_)
    · refine J_iload (pc := 412) C dX11_field_412 rfl ?_
      exact J_iret (pc := 414) C dX11_field_414 rfl (mF_t rfl) (Nat.zero_le _) (Nat.zero_le _)
    · exact absurd (nI_m1lt (by omega)) h355
  | succ q ih =>
    rw [show lo + (q + 1) = (lo + q) + 1 by omega, nI_pred]
    refine J_iload (pc := 351) C dX11_field_351 rfl ?_
    refine J_iload (pc := 353) C dX11_field_353 rfl ?_
    refine J_icmp_ltN (pc := 355) (tgt := 412) C dX11_field_355 (by decide) (by omega) (by omega) (fun h355 => ?_) (fun h355 => ?_)
    · omega
    · refine J_aload_n (pc := 358) C dX11_field_358 rfl rfl ?_
      refine J_iload_n (pc := 359) C dX11_field_359 rfl rfl ?_
      refine J_iload_n (pc := 360) C dX11_field_360 rfl rfl ?_
      refine J_bipush (pc := 361) (v := nI 32) C dX11_field_361 (by decide) ?_
      refine J_iload (pc := 363) C dX11_field_363 rfl ?_
      refine J_imulN (pc := 365) C dX11_field_365 ?_
      refine J_iload (pc := 366) C dX11_field_366 rfl ?_
      refine J_iaddN (pc := 368) C dX11_field_368 ?_
      refine J_callV1 (pc := 369) C dX11_field_369 m_X11_228 (c_stands l G _ _ _ _ _ _ _ _ _ _ _ _ _ ho hn9) ⟨jle rfl, jle rfl⟩ rfl rfl rfl rfl rfl (jle rfl) ⟨Nat.zero_le _, Nat.zero_le _⟩ ?_
      try dsimp only
      refine J_if_eq (pc := 372) (tgt := 383) C dX11_field_372 (by decide) (fun h372 => ?_) (fun h372 => ?_)
      · refine J_aload_n (pc := 383) C dX11_field_383 rfl rfl ?_
        refine J_get (pc := 384) C dX11_field_384 f_X11_53 rfl rfl ?_
        refine J_bipush (pc := 387) (v := nI 32) C dX11_field_387 (by decide) ?_
        refine J_iload_n (pc := 389) C dX11_field_389 rfl rfl ?_
        refine J_imulN (pc := 390) C dX11_field_390 ?_
        refine J_iload (pc := 391) C dX11_field_391 rfl ?_
        refine J_iincN (pc := 393) C dX11_field_393 rfl (by decide) rfl ?_
        dsimp only [List.set]
        refine J_iaddN (pc := 396) C dX11_field_396 ?_
        refine J_bipush (pc := 397) (v := nI 32) C dX11_field_397 (by decide) ?_
        refine J_iload (pc := 399) C dX11_field_399 rfl ?_
        refine J_imulN (pc := 401) C dX11_field_401 ?_
        refine J_iload (pc := 402) C dX11_field_402 rfl ?_
        refine J_iaddN (pc := 404) C dX11_field_404 ?_
        refine J_iastR (pc := 405) C dX11_field_405 rfl (by omega) (by decide) (uM_what _) ?_
        refine J_iinc (pc := 406) C dX11_field_406 rfl (im1 _) (by decide) rfl ?_
        dsimp only [List.set]
        refine J_goto (pc := 409) (tgt := 351) C dX11_field_409 (by decide) ?_
        rw [show fldL a9 K o n k lo (q + 1) D m9 = fldL a9 K o n k lo q (mdW D (va_up (mWhat D) (32 * o + m9) (nI (32 * k + (lo + q))))) (m9 + 1) by rw [fldL, if_neg (by rw [bI_f h372]; decide)]]
        exact ih _ (m9 + 1) (by omega) (by omega)
      · refine J_aload_n (pc := 375) C dX11_field_375 rfl rfl ?_
        refine J_iload_n (pc := 376) C dX11_field_376 rfl rfl ?_
        refine J_callV1 (pc := 377) C dX11_field_377 m_X11_142 (c_bad l G _ _ _ _ _ _ _ _ _ _ _) ⟨jle rfl, jle rfl⟩ rfl rfl rfl rfl rfl (jle rfl) ⟨Nat.zero_le _, Nat.zero_le _⟩ ?_
        try dsimp only
        refine J_pop (pc := 380) C dX11_field_380 rfl ?_
        refine J_iconst (pc := 381) (v := -1) C dX11_field_381 (by decide) ?_
        exact J_iret (pc := 382) C dX11_field_382 rfl (mF_f (by rw [fldL, if_pos (bI_t h372)])) (Nat.zero_le _) (Nat.zero_le _)
set_option maxHeartbeats 4000000 in
set_option maxRecDepth 100000 in
theorem c_field (l : Launch) (G : jG) (er : Nat) (F X : Nat × (Nat → Nat)) (K : Nat × Nat × Nat) (D : mD) (P : mP) (gv : Nat → Int64) (O : Nat × (Nat → Nat)) (T : jMem) (o n : Nat) (hn : X.1 ≤ 4000) (hX : ∀ k, X.2 k < 256) (hG : tkG X K) (hD : dOK D) (ho : o < 60) (hq9 : D.2.2.2.2.2.2.2.2.1 o ≤ 6) (hw9 : D.1 ≤ 32) (hn9 : n ≤ D.1) (hb : ∀ k, k < D.2.2.2.2.2.2.2.2.1 o → ∃ b, 1 ≤ b ∧ b ≤ 32 ∧ D.2.2.2.2.2.2.2.2.2.2.1 (6 * o + k) = nI b) : jC l G yX11_field cX11_field 9 (some .int) 9 180 0 0 [.ref 1000, .int (nI o), .int (nI n)] (encM er F X K (-1) D P gv O T) (.inl (some (.int (fRet (fldF X K D o n))), encM er F X (fldF X K D o n).2.1 (wrI (fldF X K D o n).1) (fldF X K D o n).2.2.1 P gv O T)) := by
  refine jC.of (by decide) 6 rfl [some (.ref 1000), some (.int (nI o)), some (.int (nI n)), none, none, none, none, none, none] rfl (fun p e s m args below meth c C hT9 hNm9 => ?_)
  have b0 : K.2.1 ≤ K.2.2 ∧ K.2.2 ≤ X.1 ∧ K.1 ≤ 5 := ⟨hG.1.1, hG.1.2.1, hG.1.2.2.2.1⟩
  have k0 := hG.1
  have hD9 := hD
  obtain ⟨d1, d2, d3, d4, d5⟩ := hD
  have f0 := findF_lt (X := X) (K := K) (nm := D.2.2.2.2.2.2.2.1) (m := D.2.2.2.2.2.2.2.2.1 o) (j := 0)
  refine J_aload_n (pc := 0) C dX11_field_0 rfl rfl ?_
  refine J_get (pc := 1) C dX11_field_1 f_X11_113 rfl rfl ?_
  try dsimp only
  refine J_istore_n (pc := 4) C dX11_field_4 rfl (by decide) rfl ?_
  dsimp only [List.set]
  refine J_iload_n (pc := 5) C dX11_field_5 rfl rfl ?_
  refine J_istore (pc := 6) C dX11_field_6 (by decide) rfl ?_
  dsimp only [List.set]
  refine J_aload_n (pc := 8) C dX11_field_8 rfl rfl ?_
  refine J_get (pc := 9) C dX11_field_9 f_X11_120 rfl rfl ?_
  try dsimp only
  refine J_iconst (pc := 12) (v := nI 2) C dX11_field_12 (by decide) ?_
  refine J_icmp_neN (pc := 13) (tgt := 144) C dX11_field_13 (by decide) (by omega) (by omega) (fun h13 => ?_) (fun h13 => ?_)
  · refine J_aload_n (pc := 144) C dX11_field_144 rfl rfl ?_
    refine J_callV1 (pc := 145) C dX11_field_145 m_X11_208 (c_isName l G _ _ _ _ _ _ _ _ _ _ hn hX (by first | assumption | exact (nextF_g (by omega)).1)) ⟨jle rfl, jle rfl⟩ rfl rfl rfl rfl rfl (jle rfl) ⟨Nat.zero_le _, Nat.zero_le _⟩ ?_
    try dsimp only
    refine J_if_eq (pc := 148) (tgt := 168) C dX11_field_148 (by decide) (fun h148 => ?_) (fun h148 => ?_)
    · refine J_iconst (pc := 168) (v := -1) C dX11_field_168 (by decide) ?_
      refine J_istore (pc := 169) C dX11_field_169 (by decide) rfl ?_
      dsimp only [List.set]
      refine J_iload (pc := 171) C dX11_field_171 rfl ?_
      refine J_if_ge (pc := 173) (tgt := 187) C dX11_field_173 (by decide) (fun h173 => ?_) (fun h173 => ?_)
      · exact absurd h173 (by decide)
      · refine J_aload_n (pc := 176) C dX11_field_176 rfl rfl ?_
        refine J_aload_n (pc := 177) C dX11_field_177 rfl rfl ?_
        refine J_get (pc := 178) C dX11_field_178 f_X11_113 rfl rfl ?_
        try dsimp only
        refine J_callV1 (pc := 181) C dX11_field_181 m_X11_142 (c_bad l G _ _ _ _ _ _ _ _ _ _ _) ⟨jle rfl, jle rfl⟩ rfl rfl rfl rfl rfl (jle rfl) ⟨Nat.zero_le _, Nat.zero_le _⟩ ?_
        try dsimp only
        refine J_pop (pc := 184) C dX11_field_184 rfl ?_
        refine J_iconst (pc := 185) (v := -1) C dX11_field_185 (by decide) ?_
        exact J_iret (pc := 186) C dX11_field_186 rfl (mF_f (by rw [fldF, if_neg h13]; first | (rw [if_neg (by rw [bI_f h148]; decide), fld1, if_pos rfl]) | (rw [if_pos (bI_t h148), fld1, if_pos (by rcases f0 with z | z; exact z; exact absurd ((lI_pos (by omega)).mpr (by omega)) h173)]))) (Nat.zero_le _) (Nat.zero_le _)
    · refine J_aload_n (pc := 151) C dX11_field_151 rfl rfl ?_
      refine J_aload_n (pc := 152) C dX11_field_152 rfl rfl ?_
      refine J_get (pc := 153) C dX11_field_153 f_X11_32 rfl rfl ?_
      refine J_aload_n (pc := 156) C dX11_field_156 rfl rfl ?_
      refine J_get (pc := 157) C dX11_field_157 f_X11_41 rfl rfl ?_
      refine J_iload_n (pc := 160) C dX11_field_160 rfl rfl ?_
      refine J_ialdN (pc := 161) C dX11_field_161 rfl (by omega) (by decide) ?_
      try dsimp only
      refine J_callV1 (pc := 162) C dX11_field_162 m_X11_211 (c_find l G _ _ _ _ _ _ _ _ _ _ _ hn hX rfl (by decide) d5 k0 (by omega) (by omega)) ⟨jle rfl, jle rfl⟩ rfl rfl rfl rfl rfl (jle rfl) ⟨Nat.zero_le _, Nat.zero_le _⟩ ?_
      try dsimp only
      refine J_goto (pc := 165) (tgt := 169) C dX11_field_165 (by decide) ?_
      refine J_istore (pc := 169) C dX11_field_169 (by decide) rfl ?_
      dsimp only [List.set]
      refine J_iload (pc := 171) C dX11_field_171 rfl ?_
      refine J_if_ge (pc := 173) (tgt := 187) C dX11_field_173 (by decide) (fun h173 => ?_) (fun h173 => ?_)
      · have h9 := (lI_pos (by omega)).mp h173
        rw [lI_n h9]
        have r1 : fldF X K D o n = fld2 X K.2.1 (nextF X K.2.2) D o n (findF X K D.2.2.2.2.2.2.2.1 (D.2.2.2.2.2.2.2.2.1 o) 0) := by rw [fldF, if_neg h13, if_pos (bI_t h148), fld1, if_neg h9]
        obtain ⟨kk, ek⟩ : ∃ z, z = findF X K D.2.2.2.2.2.2.2.1 (D.2.2.2.2.2.2.2.2.1 o) 0 := ⟨_, rfl⟩
        rw [← ek] at r1 h9 f0 ⊢
        obtain ⟨bb, hb1, hb2, hb3⟩ := hb kk (by omega)
        have hb4 : bitsN D (6 * o + kk) = bb := by unfold bitsN; rw [show mBits D (6 * o + kk) = nI bb from hb3, nI_clamp (by omega)]
        refine J_aload_n (pc := 187) C dX11_field_187 rfl rfl ?_
        refine J_get (pc := 188) C dX11_field_188 f_X11_47 rfl rfl ?_
        refine J_bipush (pc := 191) (v := nI 6) C dX11_field_191 (by decide) ?_
        refine J_iload_n (pc := 193) C dX11_field_193 rfl rfl ?_
        refine J_imulN (pc := 194) C dX11_field_194 ?_
        refine J_iload (pc := 195) C dX11_field_195 rfl ?_
        refine J_iaddN (pc := 197) C dX11_field_197 ?_
        refine J_ialdR (pc := 198) C dX11_field_198 rfl (by omega) (by decide) ?_
        try dsimp only
        rw [hb3]
        refine J_iconst (pc := 199) (v := nI 1) C dX11_field_199 (by decide) ?_
        refine J_isubN (pc := 200) C dX11_field_200 (by omega) ?_
        refine J_istore (pc := 201) C dX11_field_201 (by decide) rfl ?_
        dsimp only [List.set]
        refine J_iconst (pc := 203) (v := nI 0) C dX11_field_203 (by decide) ?_
        refine J_istore (pc := 204) C dX11_field_204 (by decide) rfl ?_
        dsimp only [List.set]
        refine J_aload_n (pc := 206) C dX11_field_206 rfl rfl ?_
        refine J_callV0 (pc := 207) C dX11_field_207 m_X11_145 (c_next l G _ _ _ _ _ _ _ _ _ _ hn hX (by omega)) ⟨jle rfl, jle rfl⟩ rfl rfl rfl rfl rfl (jle rfl) ⟨Nat.zero_le _, Nat.zero_le _⟩ ?_
        try dsimp only
        obtain ⟨K1, e1⟩ : ∃ z, z = nextF X K.2.2 := ⟨_, rfl⟩
        rw [← e1]
        have g1 : tkG X K1 := by rw [e1]; exact nextF_g (by omega)
        have k1 := g1.1
        have b1 : K1.2.1 ≤ K1.2.2 ∧ K1.2.2 ≤ X.1 ∧ K1.1 ≤ 5 := ⟨g1.1.1, g1.1.2.1, g1.1.2.2.2.1⟩
        rw [← e1, fld2] at r1
        refine J_aload_n (pc := 210) C dX11_field_210 rfl rfl ?_
        refine J_bipush (pc := 211) (v := nI 91) C dX11_field_211 (by decide) ?_
        refine J_callV1 (pc := 213) C dX11_field_213 m_X11_139 (c_isSign l G _ _ _ _ _ _ _ _ _ _ _ hn hX (by first | assumption | exact (nextF_g (by omega)).1) (by omega)) ⟨jle rfl, jle rfl⟩ rfl rfl rfl rfl rfl (jle rfl) ⟨Nat.zero_le _, Nat.zero_le _⟩ ?_
        try dsimp only
        refine J_if_eq (pc := 216) (tgt := 323) C dX11_field_216 (by decide) (fun h216 => ?_) (fun h216 => ?_)
        · have r6 := r1
          rw [if_neg (by rw [bI_f h216]; decide), hb4] at r6
          refine J_iload_n (pc := 323) C dX11_field_323 rfl rfl ?_
          refine J_iload (pc := 324) C dX11_field_324 rfl ?_
          refine J_iaddN (pc := 326) C dX11_field_326 ?_
          refine J_iload (pc := 327) C dX11_field_327 rfl ?_
          refine J_isubN (pc := 329) C dX11_field_329 (by omega) ?_
          refine J_iconst (pc := 330) (v := nI 1) C dX11_field_330 (by decide) ?_
          refine J_iaddN (pc := 331) C dX11_field_331 ?_
          refine J_aload_n (pc := 332) C dX11_field_332 rfl rfl ?_
          refine J_get (pc := 333) C dX11_field_333 f_X11_196 rfl rfl ?_
          try dsimp only
          refine J_icmp_leN (pc := 336) (tgt := 347) C dX11_field_336 (by decide) (by omega) (by omega) (fun h336 => ?_) (fun h336 => ?_)
          · refine J_iload (pc := 347) C dX11_field_347 rfl ?_
            refine J_istore (pc := 349) C dX11_field_349 (by decide) rfl ?_
            dsimp only [List.set]
            rw [show nI (bb - 1) = nI (0 + (bb - 1 + 1 - 0)) - 1 by rw [show 0 + (bb - 1 + 1 - 0) = bb - 1 + 1 by omega, nI_pred]]
            have r9 := r6
            rw [fld9, if_pos (by omega)] at r9
            rw [r9]
            exact l_lay l G er F X K1 D P gv O T o n K.2.1 n kk (0) (bb - 1 + 1 - 0) _ C hn hX ho (by omega) (by omega) (by omega) (by omega)
          · refine J_aload_n (pc := 339) C dX11_field_339 rfl rfl ?_
            refine J_iload_n (pc := 340) C dX11_field_340 rfl rfl ?_
            refine J_callV1 (pc := 341) C dX11_field_341 m_X11_142 (c_bad l G _ _ _ _ _ _ _ _ _ _ _) ⟨jle rfl, jle rfl⟩ rfl rfl rfl rfl rfl (jle rfl) ⟨Nat.zero_le _, Nat.zero_le _⟩ ?_
            try dsimp only
            refine J_pop (pc := 344) C dX11_field_344 rfl ?_
            refine J_iconst (pc := 345) (v := -1) C dX11_field_345 (by decide) ?_
            exact J_iret (pc := 346) C dX11_field_346 rfl (mF_f (r6.trans (by rw [fld9, if_neg (by omega)]))) (Nat.zero_le _) (Nat.zero_le _)
        · have r2 := r1
          rw [if_pos (bI_t h216)] at r2
          refine J_aload_n (pc := 219) C dX11_field_219 rfl rfl ?_
          refine J_callV0 (pc := 220) C dX11_field_220 m_X11_145 (c_next l G _ _ _ _ _ _ _ _ _ _ hn hX (by omega)) ⟨jle rfl, jle rfl⟩ rfl rfl rfl rfl rfl (jle rfl) ⟨Nat.zero_le _, Nat.zero_le _⟩ ?_
          try dsimp only
          obtain ⟨K2, e2⟩ : ∃ z, z = nextF X K1.2.2 := ⟨_, rfl⟩
          rw [← e2]
          have g2 : tkG X K2 := by rw [e2]; exact nextF_g (by omega)
          have k2 := g2.1
          have b2 : K2.2.1 ≤ K2.2.2 ∧ K2.2.2 ≤ X.1 ∧ K2.1 ≤ 5 := ⟨g2.1.1, g2.1.2.1, g2.1.2.2.2.1⟩
          rw [← e2, fld3] at r2
          refine J_aload_n (pc := 223) C dX11_field_223 rfl rfl ?_
          by_cases q224 : K2.1 = 2 ∧ K2.2.2 - K2.2.1 ≤ 4
          · refine J_callV1 (pc := 224) C dX11_field_224 m_X11_198 (c_small_t l G _ _ _ _ _ _ _ _ _ _ hn hX g2.1 (g2.2 q224.1) q224.1 q224.2) ⟨jle rfl, jle rfl⟩ rfl rfl rfl rfl rfl (jle rfl) ⟨Nat.zero_le _, Nat.zero_le _⟩ ?_
            try dsimp only
            have v2 := small_lt (g2.2 q224.1) q224.2
            rw [if_pos q224] at r2
            refine J_istore (pc := 227) C dX11_field_227 (by decide) rfl ?_
            dsimp only [List.set]
            refine J_aload_n (pc := 229) C dX11_field_229 rfl rfl ?_
            refine J_get (pc := 230) C dX11_field_230 f_X11_7 rfl rfl ?_
            try dsimp only
            refine J_if_lt (pc := 233) (tgt := 238) C dX11_field_233 (by decide) (fun h233 => ?_) (fun h233 => ?_)
            · refine J_iload (pc := 238) C dX11_field_238 rfl ?_
              refine J_iload (pc := 240) C dX11_field_240 rfl ?_
              refine J_icmp_leN (pc := 242) (tgt := 256) C dX11_field_242 (by decide) (by omega) (by omega) (fun h242 => ?_) (fun h242 => ?_)
              · have r3 := r2
                rw [if_pos (by omega)] at r3
                refine J_iload (pc := 256) C dX11_field_256 rfl ?_
                refine J_istore (pc := 258) C dX11_field_258 (by decide) rfl ?_
                dsimp only [List.set]
                refine J_aload_n (pc := 260) C dX11_field_260 rfl rfl ?_
                refine J_callV0 (pc := 261) C dX11_field_261 m_X11_145 (c_next l G _ _ _ _ _ _ _ _ _ _ hn hX (by omega)) ⟨jle rfl, jle rfl⟩ rfl rfl rfl rfl rfl (jle rfl) ⟨Nat.zero_le _, Nat.zero_le _⟩ ?_
                try dsimp only
                obtain ⟨K3, e3⟩ : ∃ z, z = nextF X K2.2.2 := ⟨_, rfl⟩
                rw [← e3]
                have g3 : tkG X K3 := by rw [e3]; exact nextF_g (by omega)
                have k3 := g3.1
                have b3 : K3.2.1 ≤ K3.2.2 ∧ K3.2.2 ≤ X.1 ∧ K3.1 ≤ 5 := ⟨g3.1.1, g3.1.2.1, g3.1.2.2.2.1⟩
                rw [← e3, fld4] at r3
                refine J_aload_n (pc := 264) C dX11_field_264 rfl rfl ?_
                refine J_bipush (pc := 265) (v := nI 58) C dX11_field_265 (by decide) ?_
                by_cases q267 : isSignF X K3 58 = true
                · refine J_callV1 (pc := 267) C dX11_field_267 m_X11_201 (c_sign_t l G _ _ _ _ _ _ _ _ _ _ _ hn hX k3 (by decide) q267) ⟨jle rfl, jle rfl⟩ rfl rfl rfl rfl rfl (jle rfl) ⟨Nat.zero_le _, Nat.zero_le _⟩ ?_
                  try dsimp only
                  refine J_if_neN (pc := 270) (tgt := 275) C dX11_field_270 (by decide) (by omega) (fun _ => ?_) (fun h270 => absurd h270 (by decide))
                  obtain ⟨K4, e4⟩ : ∃ z, z = nextF X K3.2.2 := ⟨_, rfl⟩
                  rw [← e4]
                  have g4 : tkG X K4 := by rw [e4]; exact nextF_g (by omega)
                  have k4 := g4.1
                  have b4 : K4.2.1 ≤ K4.2.2 ∧ K4.2.2 ≤ X.1 ∧ K4.1 ≤ 5 := ⟨g4.1.1, g4.1.2.1, g4.1.2.2.2.1⟩
                  have r4 := r3
                  rw [if_pos q267, ← e4, fld5] at r4
                  refine J_aload_n (pc := 275) C dX11_field_275 rfl rfl ?_
                  by_cases q276 : K4.1 = 2 ∧ K4.2.2 - K4.2.1 ≤ 4
                  · refine J_callV1 (pc := 276) C dX11_field_276 m_X11_198 (c_small_t l G _ _ _ _ _ _ _ _ _ _ hn hX g4.1 (g4.2 q276.1) q276.1 q276.2) ⟨jle rfl, jle rfl⟩ rfl rfl rfl rfl rfl (jle rfl) ⟨Nat.zero_le _, Nat.zero_le _⟩ ?_
                    try dsimp only
                    have v4 := small_lt (g4.2 q276.1) q276.2
                    rw [if_pos q276] at r4
                    refine J_istore (pc := 279) C dX11_field_279 (by decide) rfl ?_
                    dsimp only [List.set]
                    refine J_aload_n (pc := 281) C dX11_field_281 rfl rfl ?_
                    refine J_get (pc := 282) C dX11_field_282 f_X11_7 rfl rfl ?_
                    try dsimp only
                    refine J_if_lt (pc := 285) (tgt := 290) C dX11_field_285 (by decide) (fun h285 => ?_) (fun h285 => ?_)
                    · refine J_iload (pc := 290) C dX11_field_290 rfl ?_
                      refine J_iload (pc := 292) C dX11_field_292 rfl ?_
                      refine J_icmp_leN (pc := 294) (tgt := 308) C dX11_field_294 (by decide) (by omega) (by omega) (fun h294 => ?_) (fun h294 => ?_)
                      · have r5 := r4
                        rw [if_pos h294] at r5
                        refine J_aload_n (pc := 308) C dX11_field_308 rfl rfl ?_
                        refine J_callV0 (pc := 309) C dX11_field_309 m_X11_145 (c_next l G _ _ _ _ _ _ _ _ _ _ hn hX (by omega)) ⟨jle rfl, jle rfl⟩ rfl rfl rfl rfl rfl (jle rfl) ⟨Nat.zero_le _, Nat.zero_le _⟩ ?_
                        try dsimp only
                        obtain ⟨K5, e5⟩ : ∃ z, z = nextF X K4.2.2 := ⟨_, rfl⟩
                        rw [← e5]
                        have g5 : tkG X K5 := by rw [e5]; exact nextF_g (by omega)
                        have k5 := g5.1
                        have b5 : K5.2.1 ≤ K5.2.2 ∧ K5.2.2 ≤ X.1 ∧ K5.1 ≤ 5 := ⟨g5.1.1, g5.1.2.1, g5.1.2.2.2.1⟩
                        rw [← e5, fld6] at r5
                        refine J_aload_n (pc := 312) C dX11_field_312 rfl rfl ?_
                        refine J_bipush (pc := 313) (v := nI 93) C dX11_field_313 (by decide) ?_
                        by_cases q315 : isSignF X K5 93 = true
                        · refine J_callV1 (pc := 315) C dX11_field_315 m_X11_201 (c_sign_t l G _ _ _ _ _ _ _ _ _ _ _ hn hX k5 (by decide) q315) ⟨jle rfl, jle rfl⟩ rfl rfl rfl rfl rfl (jle rfl) ⟨Nat.zero_le _, Nat.zero_le _⟩ ?_
                          try dsimp only
                          refine J_if_neN (pc := 318) (tgt := 323) C dX11_field_318 (by decide) (by omega) (fun _ => ?_) (fun h318 => absurd h318 (by decide))
                          have r6 := r5
                          rw [if_pos q315] at r6
                          obtain ⟨K6, e6⟩ : ∃ z, z = nextF X K5.2.2 := ⟨_, rfl⟩
                          rw [← e6]
                          have g6 : tkG X K6 := by rw [e6]; exact nextF_g (by omega)
                          have k6 := g6.1
                          have b6 : K6.2.1 ≤ K6.2.2 ∧ K6.2.2 ≤ X.1 ∧ K6.1 ≤ 5 := ⟨g6.1.1, g6.1.2.1, g6.1.2.2.2.1⟩
                          rw [← e6] at r6
                          refine J_iload_n (pc := 323) C dX11_field_323 rfl rfl ?_
                          refine J_iload (pc := 324) C dX11_field_324 rfl ?_
                          refine J_iaddN (pc := 326) C dX11_field_326 ?_
                          refine J_iload (pc := 327) C dX11_field_327 rfl ?_
                          refine J_isubN (pc := 329) C dX11_field_329 (by omega) ?_
                          refine J_iconst (pc := 330) (v := nI 1) C dX11_field_330 (by decide) ?_
                          refine J_iaddN (pc := 331) C dX11_field_331 ?_
                          refine J_aload_n (pc := 332) C dX11_field_332 rfl rfl ?_
                          refine J_get (pc := 333) C dX11_field_333 f_X11_196 rfl rfl ?_
                          try dsimp only
                          refine J_icmp_leN (pc := 336) (tgt := 347) C dX11_field_336 (by decide) (by omega) (by omega) (fun h336 => ?_) (fun h336 => ?_)
                          · refine J_iload (pc := 347) C dX11_field_347 rfl ?_
                            refine J_istore (pc := 349) C dX11_field_349 (by decide) rfl ?_
                            dsimp only [List.set]
                            rw [show nI (decF X K2.2.2 K2.2.1 0) = nI (decF X K4.2.2 K4.2.1 0 + (decF X K2.2.2 K2.2.1 0 + 1 - decF X K4.2.2 K4.2.1 0)) - 1 by rw [show decF X K4.2.2 K4.2.1 0 + (decF X K2.2.2 K2.2.1 0 + 1 - decF X K4.2.2 K4.2.1 0) = decF X K2.2.2 K2.2.1 0 + 1 by omega, nI_pred]]
                            have r9 := r6
                            rw [fld9, if_pos (by omega)] at r9
                            rw [r9]
                            exact l_lay l G er F X K6 D P gv O T o n K.2.1 n kk (decF X K4.2.2 K4.2.1 0) (decF X K2.2.2 K2.2.1 0 + 1 - decF X K4.2.2 K4.2.1 0) _ C hn hX ho (by omega) (by omega) (by omega) (by omega)
                          · refine J_aload_n (pc := 339) C dX11_field_339 rfl rfl ?_
                            refine J_iload_n (pc := 340) C dX11_field_340 rfl rfl ?_
                            refine J_callV1 (pc := 341) C dX11_field_341 m_X11_142 (c_bad l G _ _ _ _ _ _ _ _ _ _ _) ⟨jle rfl, jle rfl⟩ rfl rfl rfl rfl rfl (jle rfl) ⟨Nat.zero_le _, Nat.zero_le _⟩ ?_
                            try dsimp only
                            refine J_pop (pc := 344) C dX11_field_344 rfl ?_
                            refine J_iconst (pc := 345) (v := -1) C dX11_field_345 (by decide) ?_
                            exact J_iret (pc := 346) C dX11_field_346 rfl (mF_f (r6.trans (by rw [fld9, if_neg (by omega)]))) (Nat.zero_le _) (Nat.zero_le _)
                        · refine J_callV1 (pc := 315) C dX11_field_315 m_X11_201 (c_sign_f l G _ _ _ _ _ _ _ _ _ _ _ hn hX k5 (by decide) q315) ⟨jle rfl, jle rfl⟩ rfl rfl rfl rfl rfl (jle rfl) ⟨Nat.zero_le _, Nat.zero_le _⟩ ?_
                          try dsimp only
                          refine J_if_neN (pc := 318) (tgt := 323) C dX11_field_318 (by decide) (by omega) (fun h318 => absurd h318 (by decide)) (fun _ => ?_)
                          refine J_iconst (pc := 321) (v := -1) C dX11_field_321 (by decide) ?_
                          exact J_iret (pc := 322) C dX11_field_322 rfl (mF_f (r5.trans (by rw [if_neg q315]))) (Nat.zero_le _) (Nat.zero_le _)
                      · refine J_aload_n (pc := 297) C dX11_field_297 rfl rfl ?_
                        refine J_aload_n (pc := 298) C dX11_field_298 rfl rfl ?_
                        refine J_get (pc := 299) C dX11_field_299 f_X11_113 rfl rfl ?_
                        try dsimp only
                        refine J_callV1 (pc := 302) C dX11_field_302 m_X11_142 (c_bad l G _ _ _ _ _ _ _ _ _ _ _) ⟨jle rfl, jle rfl⟩ rfl rfl rfl rfl rfl (jle rfl) ⟨Nat.zero_le _, Nat.zero_le _⟩ ?_
                        try dsimp only
                        refine J_pop (pc := 305) C dX11_field_305 rfl ?_
                        refine J_iconst (pc := 306) (v := -1) C dX11_field_306 (by decide) ?_
                        exact J_iret (pc := 307) C dX11_field_307 rfl (mF_f (r4.trans (by rw [if_neg (by omega)]))) (Nat.zero_le _) (Nat.zero_le _)
                    · exact absurd (by decide) h285
                  · refine J_callV1 (pc := 276) C dX11_field_276 m_X11_198 (c_small_f l G _ _ _ _ _ _ _ _ _ _ hn hX g4.1 q276) ⟨jle rfl, jle rfl⟩ rfl rfl rfl rfl rfl (jle rfl) ⟨Nat.zero_le _, Nat.zero_le _⟩ ?_
                    try dsimp only
                    rw [badW_1]
                    rw [if_neg q276] at r4
                    refine J_istore (pc := 279) C dX11_field_279 (by decide) rfl ?_
                    dsimp only [List.set]
                    refine J_aload_n (pc := 281) C dX11_field_281 rfl rfl ?_
                    refine J_get (pc := 282) C dX11_field_282 f_X11_7 rfl rfl ?_
                    try dsimp only
                    refine J_if_lt (pc := 285) (tgt := 290) C dX11_field_285 (by decide) (fun h285 => ?_) (fun h285 => ?_)
                    · exact absurd h285 (nI_pos (by omega))
                    · refine J_iconst (pc := 288) (v := -1) C dX11_field_288 (by decide) ?_
                      exact J_iret (pc := 289) C dX11_field_289 rfl (by rw [← badW_1]; exact mF_f r4) (Nat.zero_le _) (Nat.zero_le _)
                · refine J_callV1 (pc := 267) C dX11_field_267 m_X11_201 (c_sign_f l G _ _ _ _ _ _ _ _ _ _ _ hn hX k3 (by decide) q267) ⟨jle rfl, jle rfl⟩ rfl rfl rfl rfl rfl (jle rfl) ⟨Nat.zero_le _, Nat.zero_le _⟩ ?_
                  try dsimp only
                  refine J_if_neN (pc := 270) (tgt := 275) C dX11_field_270 (by decide) (by omega) (fun h270 => absurd h270 (by decide)) (fun _ => ?_)
                  refine J_iconst (pc := 273) (v := -1) C dX11_field_273 (by decide) ?_
                  exact J_iret (pc := 274) C dX11_field_274 rfl (mF_f (r3.trans (by rw [if_neg q267]))) (Nat.zero_le _) (Nat.zero_le _)
              · refine J_aload_n (pc := 245) C dX11_field_245 rfl rfl ?_
                refine J_aload_n (pc := 246) C dX11_field_246 rfl rfl ?_
                refine J_get (pc := 247) C dX11_field_247 f_X11_113 rfl rfl ?_
                try dsimp only
                refine J_callV1 (pc := 250) C dX11_field_250 m_X11_142 (c_bad l G _ _ _ _ _ _ _ _ _ _ _) ⟨jle rfl, jle rfl⟩ rfl rfl rfl rfl rfl (jle rfl) ⟨Nat.zero_le _, Nat.zero_le _⟩ ?_
                try dsimp only
                refine J_pop (pc := 253) C dX11_field_253 rfl ?_
                refine J_iconst (pc := 254) (v := -1) C dX11_field_254 (by decide) ?_
                exact J_iret (pc := 255) C dX11_field_255 rfl (mF_f (r2.trans (by rw [if_neg (by omega)]))) (Nat.zero_le _) (Nat.zero_le _)
            · exact absurd (by decide) h233
          · refine J_callV1 (pc := 224) C dX11_field_224 m_X11_198 (c_small_f l G _ _ _ _ _ _ _ _ _ _ hn hX g2.1 q224) ⟨jle rfl, jle rfl⟩ rfl rfl rfl rfl rfl (jle rfl) ⟨Nat.zero_le _, Nat.zero_le _⟩ ?_
            try dsimp only
            rw [badW_1]
            rw [if_neg q224] at r2
            refine J_istore (pc := 227) C dX11_field_227 (by decide) rfl ?_
            dsimp only [List.set]
            refine J_aload_n (pc := 229) C dX11_field_229 rfl rfl ?_
            refine J_get (pc := 230) C dX11_field_230 f_X11_7 rfl rfl ?_
            try dsimp only
            refine J_if_lt (pc := 233) (tgt := 238) C dX11_field_233 (by decide) (fun h233 => ?_) (fun h233 => ?_)
            · exact absurd h233 (nI_pos (by omega))
            · refine J_iconst (pc := 236) (v := -1) C dX11_field_236 (by decide) ?_
              exact J_iret (pc := 237) C dX11_field_237 rfl (by rw [← badW_1]; exact mF_f r2) (Nat.zero_le _) (Nat.zero_le _)
      · refine J_aload_n (pc := 176) C dX11_field_176 rfl rfl ?_
        refine J_aload_n (pc := 177) C dX11_field_177 rfl rfl ?_
        refine J_get (pc := 178) C dX11_field_178 f_X11_113 rfl rfl ?_
        try dsimp only
        refine J_callV1 (pc := 181) C dX11_field_181 m_X11_142 (c_bad l G _ _ _ _ _ _ _ _ _ _ _) ⟨jle rfl, jle rfl⟩ rfl rfl rfl rfl rfl (jle rfl) ⟨Nat.zero_le _, Nat.zero_le _⟩ ?_
        try dsimp only
        refine J_pop (pc := 184) C dX11_field_184 rfl ?_
        refine J_iconst (pc := 185) (v := -1) C dX11_field_185 (by decide) ?_
        exact J_iret (pc := 186) C dX11_field_186 rfl (mF_f (by rw [fldF, if_neg h13]; first | (rw [if_neg (by rw [bI_f h148]; decide), fld1, if_pos rfl]) | (rw [if_pos (bI_t h148), fld1, if_pos (by rcases f0 with z | z; exact z; exact absurd ((lI_pos (by omega)).mpr (by omega)) h173)]))) (Nat.zero_le _) (Nat.zero_le _)
  · refine J_aload_n (pc := 16) C dX11_field_16 rfl rfl ?_
    refine J_get (pc := 17) C dX11_field_17 f_X11_113 rfl rfl ?_
    try dsimp only
    refine J_istore (pc := 20) C dX11_field_20 (by decide) rfl ?_
    dsimp only [List.set]
    refine l_dig l G er F X K D P gv O T o n K.2.1 n K.2.1 C hn hX hG h13 (Nat.le_refl _) b0.1 rfl (fun z => ?_) (fun z => ?_)
    · exact mF_f (by rw [fldF, if_pos h13, if_neg (by rw [z]; decide)])
    · have rD := z
      refine J_iload_n (pc := 57) C dX11_field_57 rfl rfl ?_
      refine J_aload_n (pc := 58) C dX11_field_58 rfl rfl ?_
      refine J_get (pc := 59) C dX11_field_59 f_X11_110 rfl rfl ?_
      try dsimp only
      refine J_iaddN (pc := 62) C dX11_field_62 ?_
      refine J_aload_n (pc := 63) C dX11_field_63 rfl rfl ?_
      refine J_get (pc := 64) C dX11_field_64 f_X11_113 rfl rfl ?_
      try dsimp only
      refine J_isubN (pc := 67) C dX11_field_67 (by omega) ?_
      refine J_aload_n (pc := 68) C dX11_field_68 rfl rfl ?_
      refine J_get (pc := 69) C dX11_field_69 f_X11_196 rfl rfl ?_
      try dsimp only
      refine J_icmp_leN (pc := 72) (tgt := 83) C dX11_field_72 (by decide) (by omega) (by omega) (fun h72 => ?_) (fun h72 => ?_)
      · refine J_aload_n (pc := 83) C dX11_field_83 rfl rfl ?_
        refine J_get (pc := 84) C dX11_field_84 f_X11_113 rfl rfl ?_
        try dsimp only
        refine J_istore (pc := 87) C dX11_field_87 (by decide) rfl ?_
        dsimp only [List.set]
        refine l_fix l G er F X K D P gv O T o n K.2.1 n K.2.1 C hn hX hG h13 ho (Nat.le_refl _) b0.1 (by omega) ?_
        refine J_aload_n (pc := 137) C dX11_field_137 rfl rfl ?_
        refine J_callV0 (pc := 138) C dX11_field_138 m_X11_145 (c_next l G _ _ _ _ _ _ _ _ _ _ hn hX (by omega)) ⟨jle rfl, jle rfl⟩ rfl rfl rfl rfl rfl (jle rfl) ⟨Nat.zero_le _, Nat.zero_le _⟩ ?_
        try dsimp only
        refine J_iload (pc := 141) C dX11_field_141 rfl ?_
        exact J_iret (pc := 143) C dX11_field_143 rfl (mF_t (by rw [fldF, if_pos h13, if_pos rD, if_pos (by omega)])) (Nat.zero_le _) (Nat.zero_le _)
      · refine J_aload_n (pc := 75) C dX11_field_75 rfl rfl ?_
        refine J_iload_n (pc := 76) C dX11_field_76 rfl rfl ?_
        refine J_callV1 (pc := 77) C dX11_field_77 m_X11_142 (c_bad l G _ _ _ _ _ _ _ _ _ _ _) ⟨jle rfl, jle rfl⟩ rfl rfl rfl rfl rfl (jle rfl) ⟨Nat.zero_le _, Nat.zero_le _⟩ ?_
        try dsimp only
        refine J_pop (pc := 80) C dX11_field_80 rfl ?_
        refine J_iconst (pc := 81) (v := -1) C dX11_field_81 (by decide) ?_
        exact J_iret (pc := 82) C dX11_field_82 rfl (mF_f (by rw [fldF, if_pos h13, if_pos rD, if_neg (by omega)])) (Nat.zero_le _) (Nat.zero_le _)
