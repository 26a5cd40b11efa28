set_option maxHeartbeats 4000000 in
set_option maxRecDepth 100000 in
theorem l_endOfName (l : Launch) (G : jG) {p : Program} {e : Env} {s : State} {m : MethodId} {args : Array Value} {below : List Frame} {meth : Method} {c : Code} (M : jMem) (X : Nat × (Nat → Nat)) (oc : Nat → Nat) (sz : Nat) (q a : Nat) (C : jX0 p l (jR 2 33 0 0) s m args meth c G cX8_endOfName 4 RX8 (some .int)) (hSp : M.1 4 = some (.inr (8, [.ref 1, .ref 5, .ref 6, .ref 7, .int (nI X.1), .int (nI sz)]))) (hL : M.1 1 = some (nA 4000 oc)) (hn : X.1 ≤ 4000) (hX : ∀ k, X.2 k < 256) (hoc : ∀ k, k < X.1 → oc k = X.2 k) (hq : q < X.1) (ha : a ≤ 5000) : J p l e (jR 2 33 0 0) s m args below meth c G 4 0 0 (.inl (some (.int (nI (scan nmF X (q + 12) a))), M)) 14 [some (.ref 4), some (.int (nI q)), some (.int (nI (min X.1 (q + 12)))), some (.int (nI a))] [] (M) 0 0 := by
  have hmin : min X.1 (q + 12) ≤ X.1 ∧ min X.1 (q + 12) ≤ q + 12 := ⟨Nat.min_le_left _ _, Nat.min_le_right _ _⟩
  induction hm : min X.1 (q + 12) - a generalizing a with
  | zero =>
    have hge : min X.1 (q + 12) ≤ a := by omega
    have h1 : scan nmF X (q + 12) a = a := by
      rw [scan, if_neg ?_]
      intro z
      have h2 : X.1 ≤ a := by omega
      rw [ch, if_neg (by omega)] at z
      exact absurd z.2 (by decide)
    rw [h1]
    refine J_iload_n (pc := 14) C dX8_endOfName_14 rfl rfl ?_
    refine J_iload_n (pc := 15) C dX8_endOfName_15 rfl rfl ?_
    refine J_icmp_geN (pc := 16) (tgt := 49) C dX8_endOfName_16 (by decide) (by omega) (by omega) (fun h16 => ?_) (fun h16 => ?_)
    · refine J_iload_n (pc := 49) C dX8_endOfName_49 rfl rfl ?_
      exact J_iret (pc := 50) C dX8_endOfName_50 rfl (rfl) (Nat.zero_le _) (Nat.zero_le _)
    · omega
  | succ d ih =>
    have hlt : a < min X.1 (q + 12) := by omega
    have hx4 := hX a
    have ho := hoc a (by omega)
    have h1 : scan nmF X (q + 12) a = if nmF (X.2 a) = true then scan nmF X (q + 12) (a + 1) else a := by
      conv => lhs; rw [scan]
      rw [show ch X a = X.2 a by rw [ch, if_pos (by omega)]]
      by_cases e : nmF (X.2 a) = true
      · rw [if_pos ⟨by omega, e⟩, if_pos e]
      · rw [if_neg (fun z => e z.2), if_neg e]
    rw [h1]
    refine J_iload_n (pc := 14) C dX8_endOfName_14 rfl rfl ?_
    refine J_iload_n (pc := 15) C dX8_endOfName_15 rfl rfl ?_
    refine J_icmp_geN (pc := 16) (tgt := 49) C dX8_endOfName_16 (by decide) (by omega) (by omega) (fun h16 => ?_) (fun h16 => ?_)
    · omega
    · refine J_aload_n (pc := 19) C dX8_endOfName_19 rfl rfl ?_
      refine J_get (pc := 20) C dX8_endOfName_20 f_X8_28 hSp rfl ?_
      refine J_iload_n (pc := 23) C dX8_endOfName_23 rfl rfl ?_
      refine J_ialdN (pc := 24) C dX8_endOfName_24 hL (by omega) (by decide) ?_
      try dsimp only
      rw [ho]
      refine J_callSN (pc := 25) C dX8_endOfName_25 k_X10_beginsName n_X8_47 ns_X8_47 (x_beginsName l G _ _ (by omega)) ⟨jle rfl, jle rfl⟩ rfl rfl (jle rfl) ⟨Nat.zero_le _, Nat.zero_le _⟩ ?_
      try dsimp only
      refine J_if_ne (pc := 28) (tgt := 43) C dX8_endOfName_28 (by decide) (fun h28 => ?_) (fun h28 => ?_)
      · refine J_iincN (pc := 43) C dX8_endOfName_43 rfl (by decide) rfl ?_
        dsimp only [List.set]
        refine J_goto (pc := 46) (tgt := 14) C dX8_endOfName_46 (by decide) ?_
        have hf : nmF (X.2 a) = true := by unfold nmF; first | (rw [bI_t h28]; rfl) | (rw [bI_t h40, Bool.or_true])
        rw [if_pos hf]
        exact ih (a + 1) (by omega) (by omega)
      · refine J_aload_n (pc := 31) C dX8_endOfName_31 rfl rfl ?_
        refine J_get (pc := 32) C dX8_endOfName_32 f_X8_28 hSp rfl ?_
        refine J_iload_n (pc := 35) C dX8_endOfName_35 rfl rfl ?_
        refine J_ialdN (pc := 36) C dX8_endOfName_36 hL (by omega) (by decide) ?_
        try dsimp only
        rw [ho]
        refine J_callSN (pc := 37) C dX8_endOfName_37 k_X10_isDigit n_X8_59 ns_X8_59 (x_isDigit l G _ _ (by omega)) ⟨jle rfl, jle rfl⟩ rfl rfl (jle rfl) ⟨Nat.zero_le _, Nat.zero_le _⟩ ?_
        try dsimp only
        refine J_if_eq (pc := 40) (tgt := 49) C dX8_endOfName_40 (by decide) (fun h40 => ?_) (fun h40 => ?_)
        · refine J_iload_n (pc := 49) C dX8_endOfName_49 rfl rfl ?_
          exact J_iret (pc := 50) C dX8_endOfName_50 rfl (jo (by rw [if_neg (by unfold nmF; rw [bI_f h28, bI_f h40]; decide)])) (Nat.zero_le _) (Nat.zero_le _)
        · refine J_iincN (pc := 43) C dX8_endOfName_43 rfl (by decide) rfl ?_
          dsimp only [List.set]
          refine J_goto (pc := 46) (tgt := 14) C dX8_endOfName_46 (by decide) ?_
          have hf : nmF (X.2 a) = true := by unfold nmF; first | (rw [bI_t h28]; rfl) | (rw [bI_t h40, Bool.or_true])
          rw [if_pos hf]
          exact ih (a + 1) (by omega) (by omega)
set_option maxHeartbeats 4000000 in
set_option maxRecDepth 100000 in
theorem x_endOfName (l : Launch) (G : jG) (M : jMem) (X : Nat × (Nat → Nat)) (oc : Nat → Nat) (sz : Nat) (q : Nat) (hSp : M.1 4 = some (.inr (8, [.ref 1, .ref 5, .ref 6, .ref 7, .int (nI X.1), .int (nI sz)]))) (hL : M.1 1 = some (nA 4000 oc)) (hn : X.1 ≤ 4000) (hX : ∀ k, X.2 k < 256) (hoc : ∀ k, k < X.1 → oc k = X.2 k) (hq : q < X.1) : jC l G yX8_endOfName cX8_endOfName 4 (some .int) 2 33 0 0 [.ref 4, .int (nI q)] (M) (.inl (some (.int (nI (scan nmF X (q + 12) (q)))), M)) := by
  refine jC.of (by decide) 2 rfl [some (.ref 4), some (.int (nI q)), none, none] rfl (fun p e s m args below meth c C hT9 hNm9 => ?_)
  refine J_aload_n (pc := 0) C dX8_endOfName_0 rfl rfl ?_
  refine J_get (pc := 1) C dX8_endOfName_1 f_X8_21 hSp rfl ?_
  try dsimp only
  refine J_iload_n (pc := 4) C dX8_endOfName_4 rfl rfl ?_
  refine J_bipush (pc := 5) (v := nI 12) C dX8_endOfName_5 (by decide) ?_
  refine J_iaddN (pc := 7) C dX8_endOfName_7 ?_
  refine J_min (pc := 8) C dX8_endOfName_8 m_X8_65 (by omega) (by omega) (jle rfl) (jle rfl) (Nat.zero_le _) (Nat.zero_le _) ?_
  refine J_istore_n (pc := 11) C dX8_endOfName_11 rfl (by decide) rfl ?_
  dsimp only [List.set]
  refine J_iload_n (pc := 12) C dX8_endOfName_12 rfl rfl ?_
  refine J_istore_n (pc := 13) C dX8_endOfName_13 rfl (by decide) rfl ?_
  dsimp only [List.set]
  exact l_endOfName l G M X oc sz q (q) C hSp hL hn hX hoc hq (by omega)
set_option maxHeartbeats 4000000 in
set_option maxRecDepth 100000 in
theorem l_endOfDigits (l : Launch) (G : jG) {p : Program} {e : Env} {s : State} {m : MethodId} {args : Array Value} {below : List Frame} {meth : Method} {c : Code} (M : jMem) (X : Nat × (Nat → Nat)) (oc : Nat → Nat) (sz : Nat) (q a : Nat) (C : jX0 p l (jR 2 33 0 0) s m args meth c G cX8_endOfDigits 4 RX8 (some .int)) (hSp : M.1 4 = some (.inr (8, [.ref 1, .ref 5, .ref 6, .ref 7, .int (nI X.1), .int (nI sz)]))) (hL : M.1 1 = some (nA 4000 oc)) (hn : X.1 ≤ 4000) (hX : ∀ k, X.2 k < 256) (hoc : ∀ k, k < X.1 → oc k = X.2 k) (hq : q < X.1) (ha : a ≤ 5000) : J p l e (jR 2 33 0 0) s m args below meth c G 4 0 0 (.inl (some (.int (nI (scan isDig X (q + 32) a))), M)) 14 [some (.ref 4), some (.int (nI q)), some (.int (nI (min X.1 (q + 32)))), some (.int (nI a))] [] (M) 0 0 := by
  have hmin : min X.1 (q + 32) ≤ X.1 ∧ min X.1 (q + 32) ≤ q + 32 := ⟨Nat.min_le_left _ _, Nat.min_le_right _ _⟩
  induction hm : min X.1 (q + 32) - a generalizing a with
  | zero =>
    have hge : min X.1 (q + 32) ≤ a := by omega
    have h1 : scan isDig X (q + 32) a = a := by
      rw [scan, if_neg ?_]
      intro z
      have h2 : X.1 ≤ a := by omega
      rw [ch, if_neg (by omega)] at z
      exact absurd z.2 (by decide)
    rw [h1]
    refine J_iload_n (pc := 14) C dX8_endOfDigits_14 rfl rfl ?_
    refine J_iload_n (pc := 15) C dX8_endOfDigits_15 rfl rfl ?_
    refine J_icmp_geN (pc := 16) (tgt := 37) C dX8_endOfDigits_16 (by decide) (by omega) (by omega) (fun h16 => ?_) (fun h16 => ?_)
    · refine J_iload_n (pc := 37) C dX8_endOfDigits_37 rfl rfl ?_
      exact J_iret (pc := 38) C dX8_endOfDigits_38 rfl (rfl) (Nat.zero_le _) (Nat.zero_le _)
    · omega
  | succ d ih =>
    have hlt : a < min X.1 (q + 32) := by omega
    have hx4 := hX a
    have ho := hoc a (by omega)
    have h1 : scan isDig X (q + 32) a = if isDig (X.2 a) = true then scan isDig X (q + 32) (a + 1) else a := by
      conv => lhs; rw [scan]
      rw [show ch X a = X.2 a by rw [ch, if_pos (by omega)]]
      by_cases e : isDig (X.2 a) = true
      · rw [if_pos ⟨by omega, e⟩, if_pos e]
      · rw [if_neg (fun z => e z.2), if_neg e]
    rw [h1]
    refine J_iload_n (pc := 14) C dX8_endOfDigits_14 rfl rfl ?_
    refine J_iload_n (pc := 15) C dX8_endOfDigits_15 rfl rfl ?_
    refine J_icmp_geN (pc := 16) (tgt := 37) C dX8_endOfDigits_16 (by decide) (by omega) (by omega) (fun h16 => ?_) (fun h16 => ?_)
    · omega
    · refine J_aload_n (pc := 19) C dX8_endOfDigits_19 rfl rfl ?_
      refine J_get (pc := 20) C dX8_endOfDigits_20 f_X8_28 hSp rfl ?_
      refine J_iload_n (pc := 23) C dX8_endOfDigits_23 rfl rfl ?_
      refine J_ialdN (pc := 24) C dX8_endOfDigits_24 hL (by omega) (by decide) ?_
      try dsimp only
      rw [ho]
      refine J_callSN (pc := 25) C dX8_endOfDigits_25 k_X10_isDigit n_X8_59 ns_X8_59 (x_isDigit l G _ _ (by omega)) ⟨jle rfl, jle rfl⟩ rfl rfl (jle rfl) ⟨Nat.zero_le _, Nat.zero_le _⟩ ?_
      try dsimp only
      refine J_if_eq (pc := 28) (tgt := 37) C dX8_endOfDigits_28 (by decide) (fun h28 => ?_) (fun h28 => ?_)
      · refine J_iload_n (pc := 37) C dX8_endOfDigits_37 rfl rfl ?_
        exact J_iret (pc := 38) C dX8_endOfDigits_38 rfl (jo (by rw [if_neg (by rw [bI_f h28]; decide)])) (Nat.zero_le _) (Nat.zero_le _)
      · refine J_iincN (pc := 31) C dX8_endOfDigits_31 rfl (by decide) rfl ?_
        dsimp only [List.set]
        refine J_goto (pc := 34) (tgt := 14) C dX8_endOfDigits_34 (by decide) ?_
        rw [if_pos (bI_t h28)]
        exact ih (a + 1) (by omega) (by omega)
set_option maxHeartbeats 4000000 in
set_option maxRecDepth 100000 in
theorem x_endOfDigits (l : Launch) (G : jG) (M : jMem) (X : Nat × (Nat → Nat)) (oc : Nat → Nat) (sz : Nat) (q : Nat) (hSp : M.1 4 = some (.inr (8, [.ref 1, .ref 5, .ref 6, .ref 7, .int (nI X.1), .int (nI sz)]))) (hL : M.1 1 = some (nA 4000 oc)) (hn : X.1 ≤ 4000) (hX : ∀ k, X.2 k < 256) (hoc : ∀ k, k < X.1 → oc k = X.2 k) (hq : q < X.1) : jC l G yX8_endOfDigits cX8_endOfDigits 4 (some .int) 2 33 0 0 [.ref 4, .int (nI q)] (M) (.inl (some (.int (nI (scan isDig X (q + 32) (q)))), M)) := by
  refine jC.of (by decide) 2 rfl [some (.ref 4), some (.int (nI q)), none, none] rfl (fun p e s m args below meth c C hT9 hNm9 => ?_)
  refine J_aload_n (pc := 0) C dX8_endOfDigits_0 rfl rfl ?_
  refine J_get (pc := 1) C dX8_endOfDigits_1 f_X8_21 hSp rfl ?_
  try dsimp only
  refine J_iload_n (pc := 4) C dX8_endOfDigits_4 rfl rfl ?_
  refine J_bipush (pc := 5) (v := nI 32) C dX8_endOfDigits_5 (by decide) ?_
  refine J_iaddN (pc := 7) C dX8_endOfDigits_7 ?_
  refine J_min (pc := 8) C dX8_endOfDigits_8 m_X8_65 (by omega) (by omega) (jle rfl) (jle rfl) (Nat.zero_le _) (Nat.zero_le _) ?_
  refine J_istore_n (pc := 11) C dX8_endOfDigits_11 rfl (by decide) rfl ?_
  dsimp only [List.set]
  refine J_iload_n (pc := 12) C dX8_endOfDigits_12 rfl rfl ?_
  refine J_istore_n (pc := 13) C dX8_endOfDigits_13 rfl (by decide) rfl ?_
  dsimp only [List.set]
  exact l_endOfDigits l G M X oc sz q (q) C hSp hL hn hX hoc hq (by omega)
set_option maxHeartbeats 4000000 in
set_option maxRecDepth 100000 in
theorem l_endOfHex (l : Launch) (G : jG) {p : Program} {e : Env} {s : State} {m : MethodId} {args : Array Value} {below : List Frame} {meth : Method} {c : Code} (M : jMem) (X : Nat × (Nat → Nat)) (oc : Nat → Nat) (sz : Nat) (q a : Nat) (C : jX0 p l (jR 3 52 0 0) s m args meth c G cX8_endOfHex 4 RX8 (some .int)) (hSp : M.1 4 = some (.inr (8, [.ref 1, .ref 5, .ref 6, .ref 7, .int (nI X.1), .int (nI sz)]))) (hL : M.1 1 = some (nA 4000 oc)) (hn : X.1 ≤ 4000) (hX : ∀ k, X.2 k < 256) (hoc : ∀ k, k < X.1 → oc k = X.2 k) (hq : q < X.1) (ha : a ≤ 5000) : J p l e (jR 3 52 0 0) s m args below meth c G 4 0 0 (.inl (some (.int (nI (scan hxF X (q + 10) a))), M)) 18 [some (.ref 4), some (.int (nI q)), some (.int (nI (min X.1 (q + 10)))), some (.int (nI a))] [] (M) 0 0 := by
  have hmin : min X.1 (q + 10) ≤ X.1 ∧ min X.1 (q + 10) ≤ q + 10 := ⟨Nat.min_le_left _ _, Nat.min_le_right _ _⟩
  induction hm : min X.1 (q + 10) - a generalizing a with
  | zero =>
    have hge : min X.1 (q + 10) ≤ a := by omega
    have h1 : scan hxF X (q + 10) a = a := by
      rw [scan, if_neg ?_]
      intro z
      have h2 : X.1 ≤ a := by omega
      rw [ch, if_neg (by omega)] at z
      exact absurd z.2 (by decide)
    rw [h1]
    refine J_iload_n (pc := 18) C dX8_endOfHex_18 rfl rfl ?_
    refine J_iload_n (pc := 19) C dX8_endOfHex_19 rfl rfl ?_
    refine J_icmp_geN (pc := 20) (tgt := 41) C dX8_endOfHex_20 (by decide) (by omega) (by omega) (fun h20 => ?_) (fun h20 => ?_)
    · refine J_iload_n (pc := 41) C dX8_endOfHex_41 rfl rfl ?_
      exact J_iret (pc := 42) C dX8_endOfHex_42 rfl (rfl) (Nat.zero_le _) (Nat.zero_le _)
    · omega
  | succ d ih =>
    have hlt : a < min X.1 (q + 10) := by omega
    have hx4 := hX a
    have ho := hoc a (by omega)
    have h1 : scan hxF X (q + 10) a = if hxF (X.2 a) = true then scan hxF X (q + 10) (a + 1) else a := by
      conv => lhs; rw [scan]
      rw [show ch X a = X.2 a by rw [ch, if_pos (by omega)]]
      by_cases e : hxF (X.2 a) = true
      · rw [if_pos ⟨by omega, e⟩, if_pos e]
      · rw [if_neg (fun z => e z.2), if_neg e]
    rw [h1]
    refine J_iload_n (pc := 18) C dX8_endOfHex_18 rfl rfl ?_
    refine J_iload_n (pc := 19) C dX8_endOfHex_19 rfl rfl ?_
    refine J_icmp_geN (pc := 20) (tgt := 41) C dX8_endOfHex_20 (by decide) (by omega) (by omega) (fun h20 => ?_) (fun h20 => ?_)
    · omega
    · refine J_aload_n (pc := 23) C dX8_endOfHex_23 rfl rfl ?_
      refine J_get (pc := 24) C dX8_endOfHex_24 f_X8_28 hSp rfl ?_
      refine J_iload_n (pc := 27) C dX8_endOfHex_27 rfl rfl ?_
      refine J_ialdN (pc := 28) C dX8_endOfHex_28 hL (by omega) (by decide) ?_
      try dsimp only
      rw [ho]
      refine J_callSN (pc := 29) C dX8_endOfHex_29 k_X10_isHexDigit n_X8_70 ns_X8_70 (x_isHexDigit l G _ _ (by omega)) ⟨jle rfl, jle rfl⟩ rfl rfl (jle rfl) ⟨Nat.zero_le _, Nat.zero_le _⟩ ?_
      try dsimp only
      refine J_if_eq (pc := 32) (tgt := 41) C dX8_endOfHex_32 (by decide) (fun h32 => ?_) (fun h32 => ?_)
      · refine J_iload_n (pc := 41) C dX8_endOfHex_41 rfl rfl ?_
        exact J_iret (pc := 42) C dX8_endOfHex_42 rfl (jo (by rw [if_neg (by rw [bI_f h32]; decide)])) (Nat.zero_le _) (Nat.zero_le _)
      · refine J_iincN (pc := 35) C dX8_endOfHex_35 rfl (by decide) rfl ?_
        dsimp only [List.set]
        refine J_goto (pc := 38) (tgt := 18) C dX8_endOfHex_38 (by decide) ?_
        rw [if_pos (bI_t h32)]
        exact ih (a + 1) (by omega) (by omega)
set_option maxHeartbeats 4000000 in
set_option maxRecDepth 100000 in
theorem x_endOfHex (l : Launch) (G : jG) (M : jMem) (X : Nat × (Nat → Nat)) (oc : Nat → Nat) (sz : Nat) (q : Nat) (hSp : M.1 4 = some (.inr (8, [.ref 1, .ref 5, .ref 6, .ref 7, .int (nI X.1), .int (nI sz)]))) (hL : M.1 1 = some (nA 4000 oc)) (hn : X.1 ≤ 4000) (hX : ∀ k, X.2 k < 256) (hoc : ∀ k, k < X.1 → oc k = X.2 k) (hq : q < X.1) : jC l G yX8_endOfHex cX8_endOfHex 4 (some .int) 3 52 0 0 [.ref 4, .int (nI q)] (M) (.inl (some (.int (nI (scan hxF X (q + 10) (q + 2)))), M)) := by
  refine jC.of (by decide) 2 rfl [some (.ref 4), some (.int (nI q)), none, none] rfl (fun p e s m args below meth c C hT9 hNm9 => ?_)
  refine J_aload_n (pc := 0) C dX8_endOfHex_0 rfl rfl ?_
  refine J_get (pc := 1) C dX8_endOfHex_1 f_X8_21 hSp rfl ?_
  try dsimp only
  refine J_iload_n (pc := 4) C dX8_endOfHex_4 rfl rfl ?_
  refine J_iconst (pc := 5) (v := nI 2) C dX8_endOfHex_5 (by decide) ?_
  refine J_iaddN (pc := 6) C dX8_endOfHex_6 ?_
  refine J_bipush (pc := 7) (v := nI 8) C dX8_endOfHex_7 (by decide) ?_
  refine J_iaddN (pc := 9) C dX8_endOfHex_9 ?_
  refine J_min (pc := 10) C dX8_endOfHex_10 m_X8_65 (by omega) (by omega) (jle rfl) (jle rfl) (Nat.zero_le _) (Nat.zero_le _) ?_
  refine J_istore_n (pc := 13) C dX8_endOfHex_13 rfl (by decide) rfl ?_
  dsimp only [List.set]
  refine J_iload_n (pc := 14) C dX8_endOfHex_14 rfl rfl ?_
  refine J_iconst (pc := 15) (v := nI 2) C dX8_endOfHex_15 (by decide) ?_
  refine J_iaddN (pc := 16) C dX8_endOfHex_16 ?_
  refine J_istore_n (pc := 17) C dX8_endOfHex_17 rfl (by decide) rfl ?_
  dsimp only [List.set]
  exact l_endOfHex l G M X oc sz q (q + 2) C hSp hL hn hX hoc hq (by omega)
set_option maxHeartbeats 4000000 in
set_option maxRecDepth 100000 in
theorem x_beginsHex (l : Launch) (G : jG) (M : jMem) (X : Nat × (Nat → Nat)) (oc : Nat → Nat) (sz : Nat) (q : Nat) (hSp : M.1 4 = some (.inr (8, [.ref 1, .ref 5, .ref 6, .ref 7, .int (nI X.1), .int (nI sz)]))) (hL : M.1 1 = some (nA 4000 oc)) (hn : X.1 ≤ 4000) (hX : ∀ k, X.2 k < 256) (hoc : ∀ k, k < X.1 → oc k = X.2 k) (hq : q < X.1) : jC l G yX8_beginsHex cX8_beginsHex 2 (some .boolean) 3 52 0 0 [.ref 4, .int (nI q)] (M) (.inl (some (.int (bI (bhF X q))), M)) := by
  refine jC.of (by decide) 0 rfl [some (.ref 4), some (.int (nI q))] rfl (fun p e s m args below meth c C hT9 hNm9 => ?_)
  have hx0 := hX q
  have hx1 := hX (q + 1)
  have hx2 := hX (q + 2)
  have o0 := hoc q hq
  refine J_iload_n (pc := 0) C dX8_beginsHex_0 rfl rfl ?_
  refine J_iconst (pc := 1) (v := nI 2) C dX8_beginsHex_1 (by decide) ?_
  refine J_iaddN (pc := 2) C dX8_beginsHex_2 ?_
  refine J_aload_n (pc := 3) C dX8_beginsHex_3 rfl rfl ?_
  refine J_get (pc := 4) C dX8_beginsHex_4 f_X8_21 hSp rfl ?_
  try dsimp only
  refine J_icmp_geN (pc := 7) (tgt := 52) C dX8_beginsHex_7 (by decide) (by omega) (by omega) (fun h7 => ?_) (fun h7 => ?_)
  · refine J_iconst (pc := 52) (v := nI 0) C dX8_beginsHex_52 (by decide) ?_
    exact J_zret (pc := 53) C dX8_beginsHex_53 rfl (by first | rfl | decide) (jo (by first | exact bI_1 (by unfold bhF; rw [c1, c2]; exact decide_eq_true ⟨h18, h31, by have := bI_t h45; simpa [hxF] using this⟩) | exact bI_0 (bhF_0 (by omega)) | exact bI_0 (by unfold bhF; rw [c1, c2]; exact decide_eq_false (fun z => h18 z.1)) | exact bI_0 (by unfold bhF; rw [c1, c2]; exact decide_eq_false (fun z => h31 z.2.1)) | exact bI_0 (by unfold bhF; rw [c1, c2]; exact decide_eq_false (fun z => z.2.2 (by have := bI_f h45; simpa [hxF] using this))))) (Nat.zero_le _) (Nat.zero_le _)
  · have o1 := hoc (q + 1) (by omega)
    have o2 := hoc (q + 2) (by omega)
    have c1 : ch X (q + 1) = X.2 (q + 1) := by rw [ch, if_pos (by omega)]
    have c2 : ch X (q + 2) = X.2 (q + 2) := by rw [ch, if_pos (by omega)]
    refine J_aload_n (pc := 10) C dX8_beginsHex_10 rfl rfl ?_
    refine J_get (pc := 11) C dX8_beginsHex_11 f_X8_28 hSp rfl ?_
    refine J_iload_n (pc := 14) C dX8_beginsHex_14 rfl rfl ?_
    refine J_ialdN (pc := 15) C dX8_beginsHex_15 hL (by omega) (by decide) ?_
    try dsimp only
    rw [o0]
    refine J_bipush (pc := 16) (v := nI 48) C dX8_beginsHex_16 (by decide) ?_
    refine J_icmp_neN (pc := 18) (tgt := 52) C dX8_beginsHex_18 (by decide) (by omega) (by omega) (fun h18 => ?_) (fun h18 => ?_)
    · refine J_iconst (pc := 52) (v := nI 0) C dX8_beginsHex_52 (by decide) ?_
      exact J_zret (pc := 53) C dX8_beginsHex_53 rfl (by first | rfl | decide) (jo (by first | exact bI_1 (by unfold bhF; rw [c1, c2]; exact decide_eq_true ⟨h18, h31, by have := bI_t h45; simpa [hxF] using this⟩) | exact bI_0 (bhF_0 (by omega)) | exact bI_0 (by unfold bhF; rw [c1, c2]; exact decide_eq_false (fun z => h18 z.1)) | exact bI_0 (by unfold bhF; rw [c1, c2]; exact decide_eq_false (fun z => h31 z.2.1)) | exact bI_0 (by unfold bhF; rw [c1, c2]; exact decide_eq_false (fun z => z.2.2 (by have := bI_f h45; simpa [hxF] using this))))) (Nat.zero_le _) (Nat.zero_le _)
    · refine J_aload_n (pc := 21) C dX8_beginsHex_21 rfl rfl ?_
      refine J_get (pc := 22) C dX8_beginsHex_22 f_X8_28 hSp rfl ?_
      refine J_iload_n (pc := 25) C dX8_beginsHex_25 rfl rfl ?_
      refine J_iconst (pc := 26) (v := nI 1) C dX8_beginsHex_26 (by decide) ?_
      refine J_iaddN (pc := 27) C dX8_beginsHex_27 ?_
      refine J_ialdN (pc := 28) C dX8_beginsHex_28 hL (by omega) (by decide) ?_
      try dsimp only
      rw [o1]
      refine J_bipush (pc := 29) (v := nI 120) C dX8_beginsHex_29 (by decide) ?_
      refine J_icmp_neN (pc := 31) (tgt := 52) C dX8_beginsHex_31 (by decide) (by omega) (by omega) (fun h31 => ?_) (fun h31 => ?_)
      · refine J_iconst (pc := 52) (v := nI 0) C dX8_beginsHex_52 (by decide) ?_
        exact J_zret (pc := 53) C dX8_beginsHex_53 rfl (by first | rfl | decide) (jo (by first | exact bI_1 (by unfold bhF; rw [c1, c2]; exact decide_eq_true ⟨h18, h31, by have := bI_t h45; simpa [hxF] using this⟩) | exact bI_0 (bhF_0 (by omega)) | exact bI_0 (by unfold bhF; rw [c1, c2]; exact decide_eq_false (fun z => h18 z.1)) | exact bI_0 (by unfold bhF; rw [c1, c2]; exact decide_eq_false (fun z => h31 z.2.1)) | exact bI_0 (by unfold bhF; rw [c1, c2]; exact decide_eq_false (fun z => z.2.2 (by have := bI_f h45; simpa [hxF] using this))))) (Nat.zero_le _) (Nat.zero_le _)
      · refine J_aload_n (pc := 34) C dX8_beginsHex_34 rfl rfl ?_
        refine J_get (pc := 35) C dX8_beginsHex_35 f_X8_28 hSp rfl ?_
        refine J_iload_n (pc := 38) C dX8_beginsHex_38 rfl rfl ?_
        refine J_iconst (pc := 39) (v := nI 2) C dX8_beginsHex_39 (by decide) ?_
        refine J_iaddN (pc := 40) C dX8_beginsHex_40 ?_
        refine J_ialdN (pc := 41) C dX8_beginsHex_41 hL (by omega) (by decide) ?_
        try dsimp only
        rw [o2]
        refine J_callSN (pc := 42) C dX8_beginsHex_42 k_X10_isHexDigit n_X8_70 ns_X8_70 (x_isHexDigit l G _ _ (by omega)) ⟨jle rfl, jle rfl⟩ rfl rfl (jle rfl) ⟨Nat.zero_le _, Nat.zero_le _⟩ ?_
        try dsimp only
        refine J_if_eq (pc := 45) (tgt := 52) C dX8_beginsHex_45 (by decide) (fun h45 => ?_) (fun h45 => ?_)
        · refine J_iconst (pc := 52) (v := nI 0) C dX8_beginsHex_52 (by decide) ?_
          exact J_zret (pc := 53) C dX8_beginsHex_53 rfl (by first | rfl | decide) (jo (by first | exact bI_1 (by unfold bhF; rw [c1, c2]; exact decide_eq_true ⟨h18, h31, by have := bI_t h45; simpa [hxF] using this⟩) | exact bI_0 (bhF_0 (by omega)) | exact bI_0 (by unfold bhF; rw [c1, c2]; exact decide_eq_false (fun z => h18 z.1)) | exact bI_0 (by unfold bhF; rw [c1, c2]; exact decide_eq_false (fun z => h31 z.2.1)) | exact bI_0 (by unfold bhF; rw [c1, c2]; exact decide_eq_false (fun z => z.2.2 (by have := bI_f h45; simpa [hxF] using this))))) (Nat.zero_le _) (Nat.zero_le _)
        · refine J_iconst (pc := 48) (v := nI 1) C dX8_beginsHex_48 (by decide) ?_
          refine J_goto (pc := 49) (tgt := 53) C dX8_beginsHex_49 (by decide) ?_
          exact J_zret (pc := 53) C dX8_beginsHex_53 rfl (by first | rfl | decide) (jo (by first | exact bI_1 (by unfold bhF; rw [c1, c2]; exact decide_eq_true ⟨h18, h31, by have := bI_t h45; simpa [hxF] using this⟩) | exact bI_0 (bhF_0 (by omega)) | exact bI_0 (by unfold bhF; rw [c1, c2]; exact decide_eq_false (fun z => h18 z.1)) | exact bI_0 (by unfold bhF; rw [c1, c2]; exact decide_eq_false (fun z => h31 z.2.1)) | exact bI_0 (by unfold bhF; rw [c1, c2]; exact decide_eq_false (fun z => z.2.2 (by have := bI_f h45; simpa [hxF] using this))))) (Nat.zero_le _) (Nat.zero_le _)
set_option maxHeartbeats 4000000 in
set_option maxRecDepth 100000 in
theorem x_endOfToken (l : Launch) (G : jG) (M : jMem) (X : Nat × (Nat → Nat)) (oc : Nat → Nat) (sz : Nat) (q : Nat) (hSp : M.1 4 = some (.inr (8, [.ref 1, .ref 5, .ref 6, .ref 7, .int (nI X.1), .int (nI sz)]))) (hL : M.1 1 = some (nA 4000 oc)) (hn : X.1 ≤ 4000) (hX : ∀ k, X.2 k < 256) (hoc : ∀ k, k < X.1 → oc k = X.2 k) (hq : q < X.1) : jC l G yX8_endOfToken cX8_endOfToken 2 (some .int) 4 75 0 0 [.ref 4, .int (nI q)] (M) (.inl (some (.int (nI (nextK X q).2.2)), M)) := by
  refine jC.of (by decide) 0 rfl [some (.ref 4), some (.int (nI q))] rfl (fun p e s m args below meth c C hT9 hNm9 => ?_)
  have hx0 := hX q
  have o0 := hoc q hq
  refine J_aload_n (pc := 0) C dX8_endOfToken_0 rfl rfl ?_
  refine J_get (pc := 1) C dX8_endOfToken_1 f_X8_28 hSp rfl ?_
  refine J_iload_n (pc := 4) C dX8_endOfToken_4 rfl rfl ?_
  refine J_ialdN (pc := 5) C dX8_endOfToken_5 hL (by omega) (by decide) ?_
  try dsimp only
  rw [o0]
  refine J_callSN (pc := 6) C dX8_endOfToken_6 k_X10_beginsName n_X8_47 ns_X8_47 (x_beginsName l G _ _ (by omega)) ⟨jle rfl, jle rfl⟩ rfl rfl (jle rfl) ⟨Nat.zero_le _, Nat.zero_le _⟩ ?_
  try dsimp only
  refine J_if_eq (pc := 9) (tgt := 18) C dX8_endOfToken_9 (by decide) (fun h9 => ?_) (fun h9 => ?_)
  · refine J_aload_n (pc := 18) C dX8_endOfToken_18 rfl rfl ?_
    refine J_iload_n (pc := 19) C dX8_endOfToken_19 rfl rfl ?_
    refine J_callV1 (pc := 20) C dX8_endOfToken_20 m_X8_53 (x_beginsHex l G _ _ _ _ _ hSp hL hn hX hoc (by omega)) ⟨jle rfl, jle rfl⟩ hSp rfl rfl rfl rfl (jle rfl) ⟨Nat.zero_le _, Nat.zero_le _⟩ ?_
    try dsimp only
    refine J_if_eq (pc := 23) (tgt := 32) C dX8_endOfToken_23 (by decide) (fun h23 => ?_) (fun h23 => ?_)
    · refine J_aload_n (pc := 32) C dX8_endOfToken_32 rfl rfl ?_
      refine J_get (pc := 33) C dX8_endOfToken_33 f_X8_28 hSp rfl ?_
      refine J_iload_n (pc := 36) C dX8_endOfToken_36 rfl rfl ?_
      refine J_ialdN (pc := 37) C dX8_endOfToken_37 hL (by omega) (by decide) ?_
      try dsimp only
      rw [o0]
      refine J_callSN (pc := 38) C dX8_endOfToken_38 k_X10_isDigit n_X8_59 ns_X8_59 (x_isDigit l G _ _ (by omega)) ⟨jle rfl, jle rfl⟩ rfl rfl (jle rfl) ⟨Nat.zero_le _, Nat.zero_le _⟩ ?_
      try dsimp only
      refine J_if_eq (pc := 41) (tgt := 52) C dX8_endOfToken_41 (by decide) (fun h41 => ?_) (fun h41 => ?_)
      · refine J_iload_n (pc := 52) C dX8_endOfToken_52 rfl rfl ?_
        refine J_iconst (pc := 53) (v := nI 1) C dX8_endOfToken_53 (by decide) ?_
        refine J_iaddN (pc := 54) C dX8_endOfToken_54 ?_
        exact J_iret (pc := 55) C dX8_endOfToken_55 rfl (jo (by first | exact nk_e2 hq (bI_f h9) (bI_f h23) (bI_t h41) | exact nk_e4 hq (bI_f h9) (bI_f h23) (bI_f h41))) (Nat.zero_le _) (Nat.zero_le _)
      · refine J_aload_n (pc := 44) C dX8_endOfToken_44 rfl rfl ?_
        refine J_iload_n (pc := 45) C dX8_endOfToken_45 rfl rfl ?_
        refine J_callV1 (pc := 46) C dX8_endOfToken_46 m_X8_62 (x_endOfDigits l G _ _ _ _ _ hSp hL hn hX hoc (by omega)) ⟨jle rfl, jle rfl⟩ hSp rfl rfl rfl rfl (jle rfl) ⟨Nat.zero_le _, Nat.zero_le _⟩ ?_
        try dsimp only
        refine J_goto (pc := 49) (tgt := 55) C dX8_endOfToken_49 (by decide) ?_
        exact J_iret (pc := 55) C dX8_endOfToken_55 rfl (jo (by first | exact nk_e2 hq (bI_f h9) (bI_f h23) (bI_t h41) | exact nk_e4 hq (bI_f h9) (bI_f h23) (bI_f h41))) (Nat.zero_le _) (Nat.zero_le _)
    · refine J_aload_n (pc := 26) C dX8_endOfToken_26 rfl rfl ?_
      refine J_iload_n (pc := 27) C dX8_endOfToken_27 rfl rfl ?_
      refine J_callV1 (pc := 28) C dX8_endOfToken_28 m_X8_56 (x_endOfHex l G _ _ _ _ _ hSp hL hn hX hoc (by omega)) ⟨jle rfl, jle rfl⟩ hSp rfl rfl rfl rfl (jle rfl) ⟨Nat.zero_le _, Nat.zero_le _⟩ ?_
      try dsimp only
      exact J_iret (pc := 31) C dX8_endOfToken_31 rfl (jo (nk_e3 hq (bI_f h9) (bI_t h23))) (Nat.zero_le _) (Nat.zero_le _)
  · refine J_aload_n (pc := 12) C dX8_endOfToken_12 rfl rfl ?_
    refine J_iload_n (pc := 13) C dX8_endOfToken_13 rfl rfl ?_
    refine J_callV1 (pc := 14) C dX8_endOfToken_14 m_X8_50 (x_endOfName l G _ _ _ _ _ hSp hL hn hX hoc (by omega)) ⟨jle rfl, jle rfl⟩ hSp rfl rfl rfl rfl (jle rfl) ⟨Nat.zero_le _, Nat.zero_le _⟩ ?_
    try dsimp only
    exact J_iret (pc := 17) C dX8_endOfToken_17 rfl (jo (nk_e1 hq (bI_t h9))) (Nat.zero_le _) (Nat.zero_le _)
set_option maxHeartbeats 4000000 in
set_option maxRecDepth 100000 in
theorem l_spells (l : Launch) (G : jG) {p : Program} {e : Env} {s : State} {m : MethodId} {args : Array Value} {below : List Frame} {meth : Method} {c : Code} (M : jMem) (X : Nat × (Nat → Nat)) (oc : Nat → Nat) (sz : Nat) {i : Nat} {q9 : String × Nat × String × List Nat} (f e9 k : Nat) (C : jX0 p l (jR 6 118 0 0) s m args meth c G cX8_spells 5 RX8 (some .boolean)) (hSp : M.1 4 = some (.inr (8, [.ref 1, .ref 5, .ref 6, .ref 7, .int (nI X.1), .int (nI sz)]))) (hL : M.1 1 = some (nA 4000 oc)) (hn : X.1 ≤ 4000) (hX : ∀ k, X.2 k < 256) (hoc : ∀ k, k < X.1 → oc k = X.2 k) (hs : jStr[i]? = some q9) (hfe : f ≤ e9) (he : e9 ≤ X.1) (hl9 : e9 - f = q9.2.2.2.length) (hk : k ≤ q9.2.2.2.length) : J p l e (jR 6 118 0 0) s m args below meth c G 5 0 0 (.inl (some (.int (bI (eqF X f q9.2.2.2 k))), M)) 15 [some (.ref 4), some (.ref (2000 + i)), some (.int (nI f)), some (.int (nI e9)), some (.int (nI k))] [] (M) 0 0 := by
  have hq9 : q9.2.2.2.length < 100 := jStr_len hs
  induction hm : q9.2.2.2.length - k generalizing k with
  | zero =>
    rw [show eqF X f q9.2.2.2 k = true by rw [eqF, if_neg (by omega)]]
    refine J_iload (pc := 15) C dX8_spells_15 rfl ?_
    refine J_aload_n (pc := 17) C dX8_spells_17 rfl rfl ?_
    refine J_callVS (pc := 18) C dX8_spells_18 m_X8_94 rfl hs (c_length l G _ hs) ⟨jle rfl, jle rfl⟩ rfl rfl (jle rfl) ⟨Nat.zero_le _, Nat.zero_le _⟩ ?_
    refine J_icmp_geN (pc := 21) (tgt := 50) C dX8_spells_21 (by decide) (by omega) (by omega) (fun h21 => ?_) (fun h21 => ?_)
    · refine J_iconst (pc := 50) (v := nI 1) C dX8_spells_50 (by decide) ?_
      exact J_zret (pc := 51) C dX8_spells_51 rfl (by first | rfl | decide) (rfl) (Nat.zero_le _) (Nat.zero_le _)
    · omega
  | succ d ih =>
    have hx4 := hX (f + k)
    have ho := hoc (f + k) (by omega)
    have hb4 := jStr_byte hs k
    have h1 : eqF X f q9.2.2.2 k = if X.2 (f + k) = q9.2.2.2.getD k 0 then eqF X f q9.2.2.2 (k + 1) else false := by
      conv => lhs; rw [eqF]
      rw [if_pos (by omega)]
    rw [h1]
    refine J_iload (pc := 15) C dX8_spells_15 rfl ?_
    refine J_aload_n (pc := 17) C dX8_spells_17 rfl rfl ?_
    refine J_callVS (pc := 18) C dX8_spells_18 m_X8_94 rfl hs (c_length l G _ hs) ⟨jle rfl, jle rfl⟩ rfl rfl (jle rfl) ⟨Nat.zero_le _, Nat.zero_le _⟩ ?_
    refine J_icmp_geN (pc := 21) (tgt := 50) C dX8_spells_21 (by decide) (by omega) (by omega) (fun h21 => ?_) (fun h21 => ?_)
    · omega
    · refine J_aload_n (pc := 24) C dX8_spells_24 rfl rfl ?_
      refine J_get (pc := 25) C dX8_spells_25 f_X8_28 hSp rfl ?_
      refine J_iload_n (pc := 28) C dX8_spells_28 rfl rfl ?_
      refine J_iload (pc := 29) C dX8_spells_29 rfl ?_
      refine J_iaddN (pc := 31) C dX8_spells_31 ?_
      refine J_ialdN (pc := 32) C dX8_spells_32 hL (by omega) (by decide) ?_
      try dsimp only
      rw [ho]
      refine J_aload_n (pc := 33) C dX8_spells_33 rfl rfl ?_
      refine J_iload (pc := 34) C dX8_spells_34 rfl ?_
      refine J_callVS (pc := 36) C dX8_spells_36 m_X8_99 rfl hs (c_charAt l G _ hs _ (by omega)) ⟨jle rfl, jle rfl⟩ rfl rfl (jle rfl) ⟨Nat.zero_le _, Nat.zero_le _⟩ ?_
      refine J_icmp_eqN (pc := 39) (tgt := 44) C dX8_spells_39 (by decide) (by omega) (by omega) (fun h39 => ?_) (fun h39 => ?_)
      · refine J_iincN (pc := 44) C dX8_spells_44 rfl (by decide) rfl ?_
        dsimp only [List.set]
        refine J_goto (pc := 47) (tgt := 15) C dX8_spells_47 (by decide) ?_
        rw [if_pos h39]
        exact ih (k + 1) (by omega) (by omega)
      · refine J_iconst (pc := 42) (v := nI 0) C dX8_spells_42 (by decide) ?_
        exact J_zret (pc := 43) C dX8_spells_43 rfl (by first | rfl | decide) (jo (by rw [if_neg h39]; rfl)) (Nat.zero_le _) (Nat.zero_le _)
set_option maxHeartbeats 4000000 in
set_option maxRecDepth 100000 in
theorem x_spells (l : Launch) (G : jG) (M : jMem) (X : Nat × (Nat → Nat)) (oc : Nat → Nat) (sz : Nat) {i : Nat} {q9 : String × Nat × String × List Nat} (k1 f e9 : Nat) (hSp : M.1 4 = some (.inr (8, [.ref 1, .ref 5, .ref 6, .ref 7, .int (nI X.1), .int (nI sz)]))) (hL : M.1 1 = some (nA 4000 oc)) (hn : X.1 ≤ 4000) (hX : ∀ k, X.2 k < 256) (hoc : ∀ k, k < X.1 → oc k = X.2 k) (hs : jStr[i]? = some q9) (hfe : f ≤ e9) (he : e9 ≤ X.1) : jC l G yX8_spells cX8_spells 5 (some .boolean) 6 118 0 0 [.ref 4, .ref (2000 + i), .int (nI f), .int (nI e9)] (M) (.inl (some (.int (bI (isW X (k1, f, e9) q9.2.2.2))), M)) := by
  refine jC.of (by decide) 1 rfl [some (.ref 4), some (.ref (2000 + i)), some (.int (nI f)), some (.int (nI e9)), none] rfl (fun p e s m args below meth c C hT9 hNm9 => ?_)
  have hq9 : q9.2.2.2.length < 100 := jStr_len hs
  refine J_iload_n (pc := 0) C dX8_spells_0 rfl rfl ?_
  refine J_iload_n (pc := 1) C dX8_spells_1 rfl rfl ?_
  refine J_isubN (pc := 2) C dX8_spells_2 (by omega) ?_
  refine J_aload_n (pc := 3) C dX8_spells_3 rfl rfl ?_
  refine J_callVS (pc := 4) C dX8_spells_4 m_X8_94 rfl hs (c_length l G _ hs) ⟨jle rfl, jle rfl⟩ rfl rfl (jle rfl) ⟨Nat.zero_le _, Nat.zero_le _⟩ ?_
  refine J_icmp_eqN (pc := 7) (tgt := 12) C dX8_spells_7 (by decide) (by omega) (by omega) (fun h7 => ?_) (fun h7 => ?_)
  · refine J_iconst (pc := 12) (v := nI 0) C dX8_spells_12 (by decide) ?_
    refine J_istore (pc := 13) C dX8_spells_13 (by decide) rfl ?_
    dsimp only [List.set]
    rw [show isW X (k1, f, e9) q9.2.2.2 = eqF X f q9.2.2.2 0 by rw [isW, decide_eq_true (show e9 - f = q9.2.2.2.length from h7), Bool.true_and]]
    exact l_spells l G M X oc sz f e9 0 C hSp hL hn hX hoc hs hfe he h7 (Nat.zero_le _)
  · refine J_iconst (pc := 10) (v := nI 0) C dX8_spells_10 (by decide) ?_
    exact J_zret (pc := 11) C dX8_spells_11 rfl (by first | rfl | decide) (jo (by rw [isW, decide_eq_false (show ¬ e9 - f = q9.2.2.2.length from h7)]; rfl)) (Nat.zero_le _) (Nat.zero_le _)
set_option maxHeartbeats 4000000 in
set_option maxRecDepth 100000 in
theorem x_kindOfName (l : Launch) (G : jG) (M : jMem) (X : Nat × (Nat → Nat)) (oc : Nat → Nat) (sz : Nat) (f e9 : Nat) (hSp : M.1 4 = some (.inr (8, [.ref 1, .ref 5, .ref 6, .ref 7, .int (nI X.1), .int (nI sz)]))) (hL : M.1 1 = some (nA 4000 oc)) (hn : X.1 ≤ 4000) (hX : ∀ k, X.2 k < 256) (hoc : ∀ k, k < X.1 → oc k = X.2 k) (hfe : f ≤ e9) (he : e9 ≤ X.1) : jC l G yX8_kindOfName cX8_kindOfName 3 (some .int) 7 142 0 0 [.ref 4, .int (nI f), .int (nI e9)] (M) (.inl (some (.int (nI (kwF X (1, f, e9)))), M)) := by
  refine jC.of (by decide) 0 rfl [some (.ref 4), some (.int (nI f)), some (.int (nI e9))] rfl (fun p e s m args below meth c C hT9 hNm9 => ?_)
  refine J_aload_n (pc := 0) C dX8_kindOfName_0 rfl rfl ?_
  refine J_ldcS (pc := 1) (i := 3) C dX8_kindOfName_1 rfl ?_
  refine J_iload_n (pc := 3) C dX8_kindOfName_3 rfl rfl ?_
  refine J_iload_n (pc := 4) C dX8_kindOfName_4 rfl rfl ?_
  refine J_callV1 (pc := 5) C dX8_kindOfName_5 m_X8_78 (x_spells l G _ _ _ _ 1 _ _ hSp hL hn hX hoc rfl hfe he) ⟨jle rfl, jle rfl⟩ hSp rfl rfl rfl rfl (jle rfl) ⟨Nat.zero_le _, Nat.zero_le _⟩ ?_
  try dsimp only
  refine J_if_eq (pc := 8) (tgt := 15) C dX8_kindOfName_8 (by decide) (fun h8 => ?_) (fun h8 => ?_)
  · refine J_aload_n (pc := 15) C dX8_kindOfName_15 rfl rfl ?_
    refine J_ldcS (pc := 16) (i := 4) C dX8_kindOfName_16 rfl ?_
    refine J_iload_n (pc := 18) C dX8_kindOfName_18 rfl rfl ?_
    refine J_iload_n (pc := 19) C dX8_kindOfName_19 rfl rfl ?_
    refine J_callV1 (pc := 20) C dX8_kindOfName_20 m_X8_78 (x_spells l G _ _ _ _ 1 _ _ hSp hL hn hX hoc rfl hfe he) ⟨jle rfl, jle rfl⟩ hSp rfl rfl rfl rfl (jle rfl) ⟨Nat.zero_le _, Nat.zero_le _⟩ ?_
    try dsimp only
    refine J_if_eq (pc := 23) (tgt := 30) C dX8_kindOfName_23 (by decide) (fun h23 => ?_) (fun h23 => ?_)
    · refine J_aload_n (pc := 30) C dX8_kindOfName_30 rfl rfl ?_
      refine J_ldcS (pc := 31) (i := 5) C dX8_kindOfName_31 rfl ?_
      refine J_iload_n (pc := 33) C dX8_kindOfName_33 rfl rfl ?_
      refine J_iload_n (pc := 34) C dX8_kindOfName_34 rfl rfl ?_
      refine J_callV1 (pc := 35) C dX8_kindOfName_35 m_X8_78 (x_spells l G _ _ _ _ 1 _ _ hSp hL hn hX hoc rfl hfe he) ⟨jle rfl, jle rfl⟩ hSp rfl rfl rfl rfl (jle rfl) ⟨Nat.zero_le _, Nat.zero_le _⟩ ?_
      try dsimp only
      refine J_if_eq (pc := 38) (tgt := 45) C dX8_kindOfName_38 (by decide) (fun h38 => ?_) (fun h38 => ?_)
      · refine J_aload_n (pc := 45) C dX8_kindOfName_45 rfl rfl ?_
        refine J_ldcS (pc := 46) (i := 6) C dX8_kindOfName_46 rfl ?_
        refine J_iload_n (pc := 48) C dX8_kindOfName_48 rfl rfl ?_
        refine J_iload_n (pc := 49) C dX8_kindOfName_49 rfl rfl ?_
        refine J_callV1 (pc := 50) C dX8_kindOfName_50 m_X8_78 (x_spells l G _ _ _ _ 1 _ _ hSp hL hn hX hoc rfl hfe he) ⟨jle rfl, jle rfl⟩ hSp rfl rfl rfl rfl (jle rfl) ⟨Nat.zero_le _, Nat.zero_le _⟩ ?_
        try dsimp only
        refine J_if_eq (pc := 53) (tgt := 60) C dX8_kindOfName_53 (by decide) (fun h53 => ?_) (fun h53 => ?_)
        · refine J_aload_n (pc := 60) C dX8_kindOfName_60 rfl rfl ?_
          refine J_ldcS (pc := 61) (i := 7) C dX8_kindOfName_61 rfl ?_
          refine J_iload_n (pc := 63) C dX8_kindOfName_63 rfl rfl ?_
          refine J_iload_n (pc := 64) C dX8_kindOfName_64 rfl rfl ?_
          refine J_callV1 (pc := 65) C dX8_kindOfName_65 m_X8_78 (x_spells l G _ _ _ _ 1 _ _ hSp hL hn hX hoc rfl hfe he) ⟨jle rfl, jle rfl⟩ hSp rfl rfl rfl rfl (jle rfl) ⟨Nat.zero_le _, Nat.zero_le _⟩ ?_
          try dsimp only
          refine J_if_eq (pc := 68) (tgt := 75) C dX8_kindOfName_68 (by decide) (fun h68 => ?_) (fun h68 => ?_)
          · refine J_aload_n (pc := 75) C dX8_kindOfName_75 rfl rfl ?_
            refine J_ldcS (pc := 76) (i := 8) C dX8_kindOfName_76 rfl ?_
            refine J_iload_n (pc := 78) C dX8_kindOfName_78 rfl rfl ?_
            refine J_iload_n (pc := 79) C dX8_kindOfName_79 rfl rfl ?_
            refine J_callV1 (pc := 80) C dX8_kindOfName_80 m_X8_78 (x_spells l G _ _ _ _ 1 _ _ hSp hL hn hX hoc rfl hfe he) ⟨jle rfl, jle rfl⟩ hSp rfl rfl rfl rfl (jle rfl) ⟨Nat.zero_le _, Nat.zero_le _⟩ ?_
            try dsimp only
            refine J_if_eq (pc := 83) (tgt := 90) C dX8_kindOfName_83 (by decide) (fun h83 => ?_) (fun h83 => ?_)
            · refine J_aload_n (pc := 90) C dX8_kindOfName_90 rfl rfl ?_
              refine J_ldcS (pc := 91) (i := 9) C dX8_kindOfName_91 rfl ?_
              refine J_iload_n (pc := 93) C dX8_kindOfName_93 rfl rfl ?_
              refine J_iload_n (pc := 94) C dX8_kindOfName_94 rfl rfl ?_
              refine J_callV1 (pc := 95) C dX8_kindOfName_95 m_X8_78 (x_spells l G _ _ _ _ 1 _ _ hSp hL hn hX hoc rfl hfe he) ⟨jle rfl, jle rfl⟩ hSp rfl rfl rfl rfl (jle rfl) ⟨Nat.zero_le _, Nat.zero_le _⟩ ?_
              try dsimp only
              refine J_if_eq (pc := 98) (tgt := 107) C dX8_kindOfName_98 (by decide) (fun h98 => ?_) (fun h98 => ?_)
              · refine J_sipush (pc := 107) (v := nI 129) C dX8_kindOfName_107 (by decide) ?_
                exact J_iret (pc := 110) C dX8_kindOfName_110 rfl (jo (by first | (rw [kwF, if_neg (by rw [show isW X (1, f, e9) [119, 105, 100, 116, 104] = false from bI_f h8]; decide), if_neg (by rw [show isW X (1, f, e9) [115, 101, 116] = false from bI_f h23]; decide), if_neg (by rw [show isW X (1, f, e9) [111, 112] = false from bI_f h38]; decide), if_neg (by rw [show isW X (1, f, e9) [119, 111, 114, 100] = false from bI_f h53]; decide), if_neg (by rw [show isW X (1, f, e9) [117] = false from bI_f h68]; decide), if_neg (by rw [show isW X (1, f, e9) [115] = false from bI_f h83]; decide), if_pos (show isW X (1, f, e9) [112] = true from bI_t h98)]) | (rw [kwF, if_neg (by rw [show isW X (1, f, e9) [119, 105, 100, 116, 104] = false from bI_f h8]; decide), if_neg (by rw [show isW X (1, f, e9) [115, 101, 116] = false from bI_f h23]; decide), if_neg (by rw [show isW X (1, f, e9) [111, 112] = false from bI_f h38]; decide), if_neg (by rw [show isW X (1, f, e9) [119, 111, 114, 100] = false from bI_f h53]; decide), if_neg (by rw [show isW X (1, f, e9) [117] = false from bI_f h68]; decide), if_neg (by rw [show isW X (1, f, e9) [115] = false from bI_f h83]; decide), if_neg (by rw [show isW X (1, f, e9) [112] = false from bI_f h98]; decide)]))) (Nat.zero_le _) (Nat.zero_le _)
              · refine J_sipush (pc := 101) (v := nI 138) C dX8_kindOfName_101 (by decide) ?_
                refine J_goto (pc := 104) (tgt := 110) C dX8_kindOfName_104 (by decide) ?_
                exact J_iret (pc := 110) C dX8_kindOfName_110 rfl (jo (by first | (rw [kwF, if_neg (by rw [show isW X (1, f, e9) [119, 105, 100, 116, 104] = false from bI_f h8]; decide), if_neg (by rw [show isW X (1, f, e9) [115, 101, 116] = false from bI_f h23]; decide), if_neg (by rw [show isW X (1, f, e9) [111, 112] = false from bI_f h38]; decide), if_neg (by rw [show isW X (1, f, e9) [119, 111, 114, 100] = false from bI_f h53]; decide), if_neg (by rw [show isW X (1, f, e9) [117] = false from bI_f h68]; decide), if_neg (by rw [show isW X (1, f, e9) [115] = false from bI_f h83]; decide), if_pos (show isW X (1, f, e9) [112] = true from bI_t h98)]) | (rw [kwF, if_neg (by rw [show isW X (1, f, e9) [119, 105, 100, 116, 104] = false from bI_f h8]; decide), if_neg (by rw [show isW X (1, f, e9) [115, 101, 116] = false from bI_f h23]; decide), if_neg (by rw [show isW X (1, f, e9) [111, 112] = false from bI_f h38]; decide), if_neg (by rw [show isW X (1, f, e9) [119, 111, 114, 100] = false from bI_f h53]; decide), if_neg (by rw [show isW X (1, f, e9) [117] = false from bI_f h68]; decide), if_neg (by rw [show isW X (1, f, e9) [115] = false from bI_f h83]; decide), if_neg (by rw [show isW X (1, f, e9) [112] = false from bI_f h98]; decide)]))) (Nat.zero_le _) (Nat.zero_le _)
            · refine J_sipush (pc := 86) (v := nI 137) C dX8_kindOfName_86 (by decide) ?_
              exact J_iret (pc := 89) C dX8_kindOfName_89 rfl (jo (by rw [kwF, if_neg (by rw [show isW X (1, f, e9) [119, 105, 100, 116, 104] = false from bI_f h8]; decide), if_neg (by rw [show isW X (1, f, e9) [115, 101, 116] = false from bI_f h23]; decide), if_neg (by rw [show isW X (1, f, e9) [111, 112] = false from bI_f h38]; decide), if_neg (by rw [show isW X (1, f, e9) [119, 111, 114, 100] = false from bI_f h53]; decide), if_neg (by rw [show isW X (1, f, e9) [117] = false from bI_f h68]; decide), if_pos (show isW X (1, f, e9) [115] = true from bI_t h83)])) (Nat.zero_le _) (Nat.zero_le _)
          · refine J_sipush (pc := 71) (v := nI 136) C dX8_kindOfName_71 (by decide) ?_
            exact J_iret (pc := 74) C dX8_kindOfName_74 rfl (jo (by rw [kwF, if_neg (by rw [show isW X (1, f, e9) [119, 105, 100, 116, 104] = false from bI_f h8]; decide), if_neg (by rw [show isW X (1, f, e9) [115, 101, 116] = false from bI_f h23]; decide), if_neg (by rw [show isW X (1, f, e9) [111, 112] = false from bI_f h38]; decide), if_neg (by rw [show isW X (1, f, e9) [119, 111, 114, 100] = false from bI_f h53]; decide), if_pos (show isW X (1, f, e9) [117] = true from bI_t h68)])) (Nat.zero_le _) (Nat.zero_le _)
        · refine J_sipush (pc := 56) (v := nI 135) C dX8_kindOfName_56 (by decide) ?_
          exact J_iret (pc := 59) C dX8_kindOfName_59 rfl (jo (by rw [kwF, if_neg (by rw [show isW X (1, f, e9) [119, 105, 100, 116, 104] = false from bI_f h8]; decide), if_neg (by rw [show isW X (1, f, e9) [115, 101, 116] = false from bI_f h23]; decide), if_neg (by rw [show isW X (1, f, e9) [111, 112] = false from bI_f h38]; decide), if_pos (show isW X (1, f, e9) [119, 111, 114, 100] = true from bI_t h53)])) (Nat.zero_le _) (Nat.zero_le _)
      · refine J_sipush (pc := 41) (v := nI 134) C dX8_kindOfName_41 (by decide) ?_
        exact J_iret (pc := 44) C dX8_kindOfName_44 rfl (jo (by rw [kwF, if_neg (by rw [show isW X (1, f, e9) [119, 105, 100, 116, 104] = false from bI_f h8]; decide), if_neg (by rw [show isW X (1, f, e9) [115, 101, 116] = false from bI_f h23]; decide), if_pos (show isW X (1, f, e9) [111, 112] = true from bI_t h38)])) (Nat.zero_le _) (Nat.zero_le _)
    · refine J_sipush (pc := 26) (v := nI 133) C dX8_kindOfName_26 (by decide) ?_
      exact J_iret (pc := 29) C dX8_kindOfName_29 rfl (jo (by rw [kwF, if_neg (by rw [show isW X (1, f, e9) [119, 105, 100, 116, 104] = false from bI_f h8]; decide), if_pos (show isW X (1, f, e9) [115, 101, 116] = true from bI_t h23)])) (Nat.zero_le _) (Nat.zero_le _)
  · refine J_sipush (pc := 11) (v := nI 132) C dX8_kindOfName_11 (by decide) ?_
    exact J_iret (pc := 14) C dX8_kindOfName_14 rfl (jo (by rw [kwF, if_pos (show isW X (1, f, e9) [119, 105, 100, 116, 104] = true from bI_t h8)])) (Nat.zero_le _) (Nat.zero_le _)
set_option maxHeartbeats 4000000 in
set_option maxRecDepth 100000 in
theorem x_kindOfToken (l : Launch) (G : jG) (M : jMem) (X : Nat × (Nat → Nat)) (oc : Nat → Nat) (sz : Nat) (q : Nat) (hSp : M.1 4 = some (.inr (8, [.ref 1, .ref 5, .ref 6, .ref 7, .int (nI X.1), .int (nI sz)]))) (hL : M.1 1 = some (nA 4000 oc)) (hn : X.1 ≤ 4000) (hX : ∀ k, X.2 k < 256) (hoc : ∀ k, k < X.1 → oc k = X.2 k) (hq : q < X.1) : jC l G yX8_kindOfToken cX8_kindOfToken 3 (some .int) 8 164 0 0 [.ref 4, .int (nI q), .int (nI (nextK X q).2.2)] (M) (.inl (some (.int (nI (kcl X (nextK X q)))), M)) := by
  refine jC.of (by decide) 0 rfl [some (.ref 4), some (.int (nI q)), some (.int (nI (nextK X q).2.2))] rfl (fun p e s m args below meth c C hT9 hNm9 => ?_)
  have hx0 := hX q
  have o0 := hoc q hq
  have hto := nextK_to (Nat.le_of_lt hq)
  refine J_aload_n (pc := 0) C dX8_kindOfToken_0 rfl rfl ?_
  refine J_get (pc := 1) C dX8_kindOfToken_1 f_X8_28 hSp rfl ?_
  refine J_iload_n (pc := 4) C dX8_kindOfToken_4 rfl rfl ?_
  refine J_ialdN (pc := 5) C dX8_kindOfToken_5 hL (by omega) (by decide) ?_
  try dsimp only
  rw [o0]
  refine J_callSN (pc := 6) C dX8_kindOfToken_6 k_X10_beginsName n_X8_47 ns_X8_47 (x_beginsName l G _ _ (by omega)) ⟨jle rfl, jle rfl⟩ rfl rfl (jle rfl) ⟨Nat.zero_le _, Nat.zero_le _⟩ ?_
  try dsimp only
  refine J_if_eq (pc := 9) (tgt := 19) C dX8_kindOfToken_9 (by decide) (fun h9 => ?_) (fun h9 => ?_)
  · refine J_aload_n (pc := 19) C dX8_kindOfToken_19 rfl rfl ?_
    refine J_iload_n (pc := 20) C dX8_kindOfToken_20 rfl rfl ?_
    refine J_callV1 (pc := 21) C dX8_kindOfToken_21 m_X8_53 (x_beginsHex l G _ _ _ _ _ hSp hL hn hX hoc (by omega)) ⟨jle rfl, jle rfl⟩ hSp rfl rfl rfl rfl (jle rfl) ⟨Nat.zero_le _, Nat.zero_le _⟩ ?_
    try dsimp only
    refine J_if_eq (pc := 24) (tgt := 31) C dX8_kindOfToken_24 (by decide) (fun h24 => ?_) (fun h24 => ?_)
    · refine J_aload_n (pc := 31) C dX8_kindOfToken_31 rfl rfl ?_
      refine J_get (pc := 32) C dX8_kindOfToken_32 f_X8_28 hSp rfl ?_
      refine J_iload_n (pc := 35) C dX8_kindOfToken_35 rfl rfl ?_
      refine J_ialdN (pc := 36) C dX8_kindOfToken_36 hL (by omega) (by decide) ?_
      try dsimp only
      rw [o0]
      refine J_callSN (pc := 37) C dX8_kindOfToken_37 k_X10_isDigit n_X8_59 ns_X8_59 (x_isDigit l G _ _ (by omega)) ⟨jle rfl, jle rfl⟩ rfl rfl (jle rfl) ⟨Nat.zero_le _, Nat.zero_le _⟩ ?_
      try dsimp only
      refine J_if_eq (pc := 40) (tgt := 49) C dX8_kindOfToken_40 (by decide) (fun h40 => ?_) (fun h40 => ?_)
      · refine J_aload_n (pc := 49) C dX8_kindOfToken_49 rfl rfl ?_
        refine J_get (pc := 50) C dX8_kindOfToken_50 f_X8_28 hSp rfl ?_
        refine J_iload_n (pc := 53) C dX8_kindOfToken_53 rfl rfl ?_
        refine J_ialdN (pc := 54) C dX8_kindOfToken_54 hL (by omega) (by decide) ?_
        try dsimp only
        rw [o0]
        exact J_iret (pc := 55) C dX8_kindOfToken_55 rfl (jo (by first | exact nk_k2 hq (bI_f h9) (bI_f h24) (bI_t h40) | exact nk_k4 hq (bI_f h9) (bI_f h24) (bI_f h40))) (Nat.zero_le _) (Nat.zero_le _)
      · refine J_sipush (pc := 43) (v := nI 130) C dX8_kindOfToken_43 (by decide) ?_
        refine J_goto (pc := 46) (tgt := 55) C dX8_kindOfToken_46 (by decide) ?_
        exact J_iret (pc := 55) C dX8_kindOfToken_55 rfl (jo (by first | exact nk_k2 hq (bI_f h9) (bI_f h24) (bI_t h40) | exact nk_k4 hq (bI_f h9) (bI_f h24) (bI_f h40))) (Nat.zero_le _) (Nat.zero_le _)
    · refine J_sipush (pc := 27) (v := nI 131) C dX8_kindOfToken_27 (by decide) ?_
      exact J_iret (pc := 30) C dX8_kindOfToken_30 rfl (jo (by rw [nk_3 hq (bI_f h9) (bI_t h24)]; rfl)) (Nat.zero_le _) (Nat.zero_le _)
  · refine J_aload_n (pc := 12) C dX8_kindOfToken_12 rfl rfl ?_
    refine J_iload_n (pc := 13) C dX8_kindOfToken_13 rfl rfl ?_
    refine J_iload_n (pc := 14) C dX8_kindOfToken_14 rfl rfl ?_
    refine J_callV1 (pc := 15) C dX8_kindOfToken_15 m_X8_73 (x_kindOfName l G _ _ _ _ _ _ hSp hL hn hX hoc (by omega) (by omega)) ⟨jle rfl, jle rfl⟩ hSp rfl rfl rfl rfl (jle rfl) ⟨Nat.zero_le _, Nat.zero_le _⟩ ?_
    try dsimp only
    exact J_iret (pc := 18) C dX8_kindOfToken_18 rfl (jo (by rw [nk_1 hq (bI_t h9)]; rfl)) (Nat.zero_le _) (Nat.zero_le _)
set_option maxHeartbeats 4000000 in
set_option maxRecDepth 100000 in
theorem l_ff (l : Launch) (G : jG) {p : Program} {e : Env} {s : State} {m : MethodId} {args : Array Value} {below : List Frame} {meth : Method} {c : Code} (M : jMem) (X : Nat × (Nat → Nat)) (oc : Nat → Nat) (ln sz k : Nat) (C : jX0 p l (jR 1 12 0 0) s m args meth c G cX8_firstForbidden 3 RX8 (some .int)) (hSp : M.1 4 = some (.inr (8, [.ref 1, .ref 5, .ref 6, .ref 7, .int (nI ln), .int (nI sz)]))) (hL : M.1 1 = some (nA 4000 oc)) (hn : X.1 ≤ 4000) (hX : ∀ k, X.2 k < 256) (hoc : ∀ k, k < X.1 → oc k = X.2 k) (hk : k ≤ X.1) : J p l e (jR 1 12 0 0) s m args below meth c G 3 0 0 (.inl (some (.int (wrI (fbF X k))), M)) 2 [some (.ref 4), some (.int (nI X.1)), some (.int (nI k))] [] (M) 0 0 := by
  induction hm : X.1 - k generalizing k with
  | zero =>
    rw [show fbF X k = none by rw [fbF, if_neg (by omega)]]
    refine J_iload_n (pc := 2) C dX8_firstForbidden_2 rfl rfl ?_
    refine J_iload_n (pc := 3) C dX8_firstForbidden_3 rfl rfl ?_
    refine J_icmp_geN (pc := 4) (tgt := 48) C dX8_firstForbidden_4 (by decide) (by omega) (by omega) (fun h4 => ?_) (fun h4 => ?_)
    · refine J_iconst (pc := 48) (v := -1) C dX8_firstForbidden_48 (by decide) ?_
      exact J_iret (pc := 49) C dX8_firstForbidden_49 rfl (rfl) (Nat.zero_le _) (Nat.zero_le _)
    · omega
  | succ d ih =>
    have hx4 := hX k
    have ho := hoc k (by omega)
    have h1 : fbF X k = if okL (X.2 k) = true then fbF X (k + 1) else some k := by
      conv => lhs; rw [fbF]
      rw [if_pos (by omega)]
    rw [h1]
    refine J_iload_n (pc := 2) C dX8_firstForbidden_2 rfl rfl ?_
    refine J_iload_n (pc := 3) C dX8_firstForbidden_3 rfl rfl ?_
    refine J_icmp_geN (pc := 4) (tgt := 48) C dX8_firstForbidden_4 (by decide) (by omega) (by omega) (fun h4 => ?_) (fun h4 => ?_)
    · omega
    · refine J_aload_n (pc := 7) C dX8_firstForbidden_7 rfl rfl ?_
      refine J_get (pc := 8) C dX8_firstForbidden_8 f_X8_28 hSp rfl ?_
      refine J_iload_n (pc := 11) C dX8_firstForbidden_11 rfl rfl ?_
      refine J_ialdN (pc := 12) C dX8_firstForbidden_12 hL (by omega) (by decide) ?_
      try dsimp only
      rw [ho]
      refine J_bipush (pc := 13) (v := nI 10) C dX8_firstForbidden_13 (by decide) ?_
      refine J_icmp_eqN (pc := 15) (tgt := 42) C dX8_firstForbidden_15 (by decide) (by omega) (by omega) (fun h15 => ?_) (fun h15 => ?_)
      · refine J_iincN (pc := 42) C dX8_firstForbidden_42 rfl (by decide) rfl ?_
        dsimp only [List.set]
        refine J_goto (pc := 45) (tgt := 2) C dX8_firstForbidden_45 (by decide) ?_
        rw [if_pos (by unfold okL; simp; omega)]
        exact ih (k + 1) (by omega) (by omega)
      · refine J_aload_n (pc := 18) C dX8_firstForbidden_18 rfl rfl ?_
        refine J_get (pc := 19) C dX8_firstForbidden_19 f_X8_28 hSp rfl ?_
        refine J_iload_n (pc := 22) C dX8_firstForbidden_22 rfl rfl ?_
        refine J_ialdN (pc := 23) C dX8_firstForbidden_23 hL (by omega) (by decide) ?_
        try dsimp only
        rw [ho]
        refine J_bipush (pc := 24) (v := nI 32) C dX8_firstForbidden_24 (by decide) ?_
        refine J_icmp_ltN (pc := 26) (tgt := 40) C dX8_firstForbidden_26 (by decide) (by omega) (by omega) (fun h26 => ?_) (fun h26 => ?_)
        · refine J_iload_n (pc := 40) C dX8_firstForbidden_40 rfl rfl ?_
          exact J_iret (pc := 41) C dX8_firstForbidden_41 rfl (jo (by rw [if_neg (by unfold okL; simp; omega)]; rfl)) (Nat.zero_le _) (Nat.zero_le _)
        · refine J_aload_n (pc := 29) C dX8_firstForbidden_29 rfl rfl ?_
          refine J_get (pc := 30) C dX8_firstForbidden_30 f_X8_28 hSp rfl ?_
          refine J_iload_n (pc := 33) C dX8_firstForbidden_33 rfl rfl ?_
          refine J_ialdN (pc := 34) C dX8_firstForbidden_34 hL (by omega) (by decide) ?_
          try dsimp only
          rw [ho]
          refine J_bipush (pc := 35) (v := nI 126) C dX8_firstForbidden_35 (by decide) ?_
          refine J_icmp_leN (pc := 37) (tgt := 42) C dX8_firstForbidden_37 (by decide) (by omega) (by omega) (fun h37 => ?_) (fun h37 => ?_)
          · refine J_iincN (pc := 42) C dX8_firstForbidden_42 rfl (by decide) rfl ?_
            dsimp only [List.set]
            refine J_goto (pc := 45) (tgt := 2) C dX8_firstForbidden_45 (by decide) ?_
            rw [if_pos (by unfold okL; simp; omega)]
            exact ih (k + 1) (by omega) (by omega)
          · refine J_iload_n (pc := 40) C dX8_firstForbidden_40 rfl rfl ?_
            exact J_iret (pc := 41) C dX8_firstForbidden_41 rfl (jo (by rw [if_neg (by unfold okL; simp; omega)]; rfl)) (Nat.zero_le _) (Nat.zero_le _)
set_option maxHeartbeats 4000000 in
set_option maxRecDepth 100000 in
theorem x_ff (l : Launch) (G : jG) (M : jMem) (X : Nat × (Nat → Nat)) (oc : Nat → Nat) (ln sz : Nat) (hSp : M.1 4 = some (.inr (8, [.ref 1, .ref 5, .ref 6, .ref 7, .int (nI ln), .int (nI sz)]))) (hL : M.1 1 = some (nA 4000 oc)) (hn : X.1 ≤ 4000) (hX : ∀ k, X.2 k < 256) (hoc : ∀ k, k < X.1 → oc k = X.2 k) : jC l G yX8_firstForbidden cX8_firstForbidden 3 (some .int) 1 12 0 0 [.ref 4, .int (nI X.1)] (M) (.inl (some (.int (wrI (fbF X 0))), M)) := by
  refine jC.of (by decide) 1 rfl [some (.ref 4), some (.int (nI X.1)), none] rfl (fun p e s m args below meth c C hT9 hNm9 => ?_)
  refine J_iconst (pc := 0) (v := nI 0) C dX8_firstForbidden_0 (by decide) ?_
  refine J_istore_n (pc := 1) C dX8_firstForbidden_1 rfl (by decide) rfl ?_
  dsimp only [List.set]
  exact l_ff l G M X oc ln sz 0 C hSp hL hn hX hoc (Nat.zero_le _)
