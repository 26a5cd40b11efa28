set_option maxHeartbeats 4000000 in
set_option maxRecDepth 100000 in
theorem l_begins (l : Launch) (G : jG) {p : Program} {e : Env} {s : State} {m : MethodId} {args : Array Value} {below : List Frame} {meth : Method} {c : Code} (M : jMem) (a ml nl : Nat) (N : xN) (oc : Nat → Nat) (i f j : Nat) (C : jX0 p l (jR 1 12 0 0) s m args meth c G cX4_begins 5 RX4 (some .boolean)) (hN : M.1 a = some (.inr (4, [.ref (a + 1), .ref (a + 2), .int (nI N.1)]))) (hA : M.1 (a + 1) = some (nA nl N.2.1)) (hB : M.1 (a + 2) = some (nA ml N.2.2)) (hL : M.1 1 = some (nA 4000 oc)) (hnl : nl = 12 * ml) (hnB : nB N ml) (hoc : ∀ k, oc k < 256) (hi : i < ml) (hf : f + N.2.2 i ≤ 4000) (hj : j ≤ N.2.2 i) : J p l e (jR 1 12 0 0) s m args below meth c G 5 0 0 (.inl (some (.int (bI (bgF oc N i f j))), M)) 3 [some (.ref a), some (.int (nI i)), some (.ref 1), some (.int (nI f)), some (.int (nI j))] [] (M) 0 0 := by
  have hm6 := hnB.1
  have hl9 := hnB.2.2 i
  induction hm : N.2.2 i - j generalizing j with
  | zero =>
    rw [show bgF oc N i f j = true by rw [bgF, if_neg (by omega)]]
    refine J_iload (pc := 3) C dX4_begins_3 rfl ?_
    refine J_aload_n (pc := 5) C dX4_begins_5 rfl rfl ?_
    refine J_get (pc := 6) C dX4_begins_6 f_X4_19 hN rfl ?_
    refine J_iload_n (pc := 9) C dX4_begins_9 rfl rfl ?_
    refine J_ialdN (pc := 10) C dX4_begins_10 hB (by omega) (by omega) ?_
    try dsimp only
    refine J_icmp_geN (pc := 11) (tgt := 43) C dX4_begins_11 (by decide) (by omega) (by omega) (fun h11 => ?_) (fun h11 => ?_)
    · refine J_iconst (pc := 43) (v := nI 1) C dX4_begins_43 (by decide) ?_
      exact J_zret (pc := 44) C dX4_begins_44 rfl (by first | rfl | decide) (rfl) (Nat.zero_le _) (Nat.zero_le _)
    · omega
  | succ d ih =>
    have h1 : bgF oc N i f j = if N.2.1 (12 * i + j) = oc (f + j) then bgF oc N i f (j + 1) else false := by
      conv => lhs; rw [bgF]
      rw [if_pos (by omega)]
    rw [h1]
    have b1 := hnB.2.1 (12 * i + j)
    have b2 := hoc (f + j)
    refine J_iload (pc := 3) C dX4_begins_3 rfl ?_
    refine J_aload_n (pc := 5) C dX4_begins_5 rfl rfl ?_
    refine J_get (pc := 6) C dX4_begins_6 f_X4_19 hN rfl ?_
    refine J_iload_n (pc := 9) C dX4_begins_9 rfl rfl ?_
    refine J_ialdN (pc := 10) C dX4_begins_10 hB (by omega) (by omega) ?_
    try dsimp only
    refine J_icmp_geN (pc := 11) (tgt := 43) C dX4_begins_11 (by decide) (by omega) (by omega) (fun h11 => ?_) (fun h11 => ?_)
    · omega
    · refine J_aload_n (pc := 14) C dX4_begins_14 rfl rfl ?_
      refine J_get (pc := 15) C dX4_begins_15 f_X4_15 hN rfl ?_
      refine J_iload_n (pc := 18) C dX4_begins_18 rfl rfl ?_
      refine J_bipush (pc := 19) (v := nI 12) C dX4_begins_19 (by decide) ?_
      refine J_imulN (pc := 21) C dX4_begins_21 ?_
      refine J_iload (pc := 22) C dX4_begins_22 rfl ?_
      refine J_iaddN (pc := 24) C dX4_begins_24 ?_
      refine J_ialdN (pc := 25) C dX4_begins_25 hA (by omega) (by omega) ?_
      try dsimp only
      refine J_aload_n (pc := 26) C dX4_begins_26 rfl rfl ?_
      refine J_iload_n (pc := 27) C dX4_begins_27 rfl rfl ?_
      refine J_iload (pc := 28) C dX4_begins_28 rfl ?_
      refine J_iaddN (pc := 30) C dX4_begins_30 ?_
      refine J_ialdN (pc := 31) C dX4_begins_31 hL (by omega) (by decide) ?_
      try dsimp only
      rw [show i * 12 + j = 12 * i + j by omega]
      refine J_icmp_eqN (pc := 32) (tgt := 37) C dX4_begins_32 (by decide) (by omega) (by omega) (fun h32 => ?_) (fun h32 => ?_)
      · refine J_iincN (pc := 37) C dX4_begins_37 rfl (by decide) rfl ?_
        dsimp only [List.set]
        refine J_goto (pc := 40) (tgt := 3) C dX4_begins_40 (by decide) ?_
        rw [if_pos h32]
        exact ih (j + 1) (by omega) (by omega)
      · refine J_iconst (pc := 35) (v := nI 0) C dX4_begins_35 (by decide) ?_
        exact J_zret (pc := 36) C dX4_begins_36 rfl (by first | rfl | decide) (jo (by rw [if_neg h32]; rfl)) (Nat.zero_le _) (Nat.zero_le _)
set_option maxHeartbeats 4000000 in
set_option maxRecDepth 100000 in
theorem x_begins (l : Launch) (G : jG) (M : jMem) (a ml nl : Nat) (N : xN) (oc : Nat → Nat) (i f : Nat) (hN : M.1 a = some (.inr (4, [.ref (a + 1), .ref (a + 2), .int (nI N.1)]))) (hA : M.1 (a + 1) = some (nA nl N.2.1)) (hB : M.1 (a + 2) = some (nA ml N.2.2)) (hL : M.1 1 = some (nA 4000 oc)) (hnl : nl = 12 * ml) (hnB : nB N ml) (hoc : ∀ k, oc k < 256) (hi : i < ml) (hf : f + N.2.2 i ≤ 4000) : jC l G yX4_begins cX4_begins 5 (some .boolean) 1 12 0 0 [.ref a, .int (nI i), .ref 1, .int (nI f)] (M) (.inl (some (.int (bI (bgF oc N i f 0))), M)) := by
  refine jC.of (by decide) 1 rfl [some (.ref a), some (.int (nI i)), some (.ref 1), some (.int (nI f)), none] rfl (fun p e s m args below meth c C hT9 hNm9 => ?_)
  refine J_iconst (pc := 0) (v := nI 0) C dX4_begins_0 (by decide) ?_
  refine J_istore (pc := 1) C dX4_begins_1 (by decide) rfl ?_
  dsimp only [List.set]
  exact l_begins l G M a ml nl N oc i f 0 C hN hA hB hL hnl hnB hoc hi hf (Nat.zero_le _)
set_option maxHeartbeats 4000000 in
set_option maxRecDepth 100000 in
theorem lx_find (l : Launch) (G : jG) {p : Program} {e : Env} {s : State} {m : MethodId} {args : Array Value} {below : List Frame} {meth : Method} {c : Code} (M : jMem) (a ml nl : Nat) (N : xN) (oc : Nat → Nat) (f e9 j : Nat) (C : jX0 p l (jR 2 36 0 0) s m args meth c G cX4_find 5 RX4 (some .int)) (hN : M.1 a = some (.inr (4, [.ref (a + 1), .ref (a + 2), .int (nI N.1)]))) (hA : M.1 (a + 1) = some (nA nl N.2.1)) (hB : M.1 (a + 2) = some (nA ml N.2.2)) (hL : M.1 1 = some (nA 4000 oc)) (hnl : nl = 12 * ml) (hnB : nB N ml) (hoc : ∀ k, oc k < 256) (hfe : f ≤ e9) (he : e9 ≤ 4000) (hj : j ≤ N.1) : J p l e (jR 2 36 0 0) s m args below meth c G 5 0 0 (.inl (some (.int (lI (xfF oc N f e9 j))), M)) 3 [some (.ref a), some (.ref 1), some (.int (nI f)), some (.int (nI e9)), some (.int (nI j))] [] (M) 0 0 := by
  have hm6 := hnB.1
  induction hm : N.1 - j generalizing j with
  | zero =>
    rw [show xfF oc N f e9 j = 1000 by rw [xfF, if_neg (by omega)]]
    refine J_iload (pc := 3) C dX4_find_3 rfl ?_
    refine J_aload_n (pc := 5) C dX4_find_5 rfl rfl ?_
    refine J_get (pc := 6) C dX4_find_6 f_X4_9 hN rfl ?_
    try dsimp only
    refine J_icmp_geN (pc := 9) (tgt := 45) C dX4_find_9 (by decide) (by omega) (by omega) (fun h9 => ?_) (fun h9 => ?_)
    · refine J_iconst (pc := 45) (v := -1) C dX4_find_45 (by decide) ?_
      exact J_iret (pc := 46) C dX4_find_46 rfl (rfl) (Nat.zero_le _) (Nat.zero_le _)
    · omega
  | succ d ih =>
    have hl9 := hnB.2.2 j
    have h1 : xfF oc N f e9 j = if N.2.2 j = e9 - f ∧ bgF oc N j f 0 = true then j else xfF oc N f e9 (j + 1) := by
      conv => lhs; rw [xfF]
      rw [if_pos (by omega)]
    rw [h1]
    refine J_iload (pc := 3) C dX4_find_3 rfl ?_
    refine J_aload_n (pc := 5) C dX4_find_5 rfl rfl ?_
    refine J_get (pc := 6) C dX4_find_6 f_X4_9 hN rfl ?_
    try dsimp only
    refine J_icmp_geN (pc := 9) (tgt := 45) C dX4_find_9 (by decide) (by omega) (by omega) (fun h9 => ?_) (fun h9 => ?_)
    · omega
    · refine J_aload_n (pc := 12) C dX4_find_12 rfl rfl ?_
      refine J_get (pc := 13) C dX4_find_13 f_X4_19 hN rfl ?_
      refine J_iload (pc := 16) C dX4_find_16 rfl ?_
      refine J_ialdN (pc := 18) C dX4_find_18 hB (by omega) (by omega) ?_
      try dsimp only
      refine J_iload_n (pc := 19) C dX4_find_19 rfl rfl ?_
      refine J_iload_n (pc := 20) C dX4_find_20 rfl rfl ?_
      refine J_isubN (pc := 21) C dX4_find_21 (by omega) ?_
      refine J_icmp_neN (pc := 22) (tgt := 39) C dX4_find_22 (by decide) (by omega) (by omega) (fun h22 => ?_) (fun h22 => ?_)
      · refine J_iincN (pc := 39) C dX4_find_39 rfl (by decide) rfl ?_
        dsimp only [List.set]
        refine J_goto (pc := 42) (tgt := 3) C dX4_find_42 (by decide) ?_
        have hq : ¬ (N.2.2 j = e9 - f ∧ bgF oc N j f 0 = true) := by first | exact fun z => h22 z.1 | exact fun z => absurd z.2 (by rw [bI_f h33]; decide)
        rw [if_neg hq]
        exact ih (j + 1) (by omega) (by omega)
      · refine J_aload_n (pc := 25) C dX4_find_25 rfl rfl ?_
        refine J_iload (pc := 26) C dX4_find_26 rfl ?_
        refine J_aload_n (pc := 28) C dX4_find_28 rfl rfl ?_
        refine J_iload_n (pc := 29) C dX4_find_29 rfl rfl ?_
        refine J_callV1 (pc := 30) C dX4_find_30 m_X4_28 (x_begins l G M a ml nl N oc _ _ hN hA hB hL hnl hnB hoc (by omega) (by omega)) ⟨jle rfl, jle rfl⟩ hN rfl rfl rfl rfl (jle rfl) ⟨Nat.zero_le _, Nat.zero_le _⟩ ?_
        try dsimp only
        refine J_if_eq (pc := 33) (tgt := 39) C dX4_find_33 (by decide) (fun h33 => ?_) (fun h33 => ?_)
        · refine J_iincN (pc := 39) C dX4_find_39 rfl (by decide) rfl ?_
          dsimp only [List.set]
          refine J_goto (pc := 42) (tgt := 3) C dX4_find_42 (by decide) ?_
          have hq : ¬ (N.2.2 j = e9 - f ∧ bgF oc N j f 0 = true) := by first | exact fun z => h22 z.1 | exact fun z => absurd z.2 (by rw [bI_f h33]; decide)
          rw [if_neg hq]
          exact ih (j + 1) (by omega) (by omega)
        · refine J_iload (pc := 36) C dX4_find_36 rfl ?_
          exact J_iret (pc := 38) C dX4_find_38 rfl (jo (by rw [if_pos ⟨h22, bI_t h33⟩, lI, if_neg (by omega)])) (Nat.zero_le _) (Nat.zero_le _)
set_option maxHeartbeats 4000000 in
set_option maxRecDepth 100000 in
theorem x_find (l : Launch) (G : jG) (M : jMem) (a ml nl : Nat) (N : xN) (oc : Nat → Nat) (f e9 : Nat) (hN : M.1 a = some (.inr (4, [.ref (a + 1), .ref (a + 2), .int (nI N.1)]))) (hA : M.1 (a + 1) = some (nA nl N.2.1)) (hB : M.1 (a + 2) = some (nA ml N.2.2)) (hL : M.1 1 = some (nA 4000 oc)) (hnl : nl = 12 * ml) (hnB : nB N ml) (hoc : ∀ k, oc k < 256) (hfe : f ≤ e9) (he : e9 ≤ 4000) : jC l G yX4_find cX4_find 5 (some .int) 2 36 0 0 [.ref a, .ref 1, .int (nI f), .int (nI e9)] (M) (.inl (some (.int (lI (xfF oc N f e9 0))), M)) := by
  refine jC.of (by decide) 1 rfl [some (.ref a), some (.ref 1), some (.int (nI f)), some (.int (nI e9)), none] rfl (fun p e s m args below meth c C hT9 hNm9 => ?_)
  refine J_iconst (pc := 0) (v := nI 0) C dX4_find_0 (by decide) ?_
  refine J_istore (pc := 1) C dX4_find_1 (by decide) rfl ?_
  dsimp only [List.set]
  exact lx_find l G M a ml nl N oc f e9 0 C hN hA hB hL hnl hnB hoc hfe he (Nat.zero_le _)
set_option maxHeartbeats 4000000 in
set_option maxRecDepth 100000 in
theorem x_lb (l : Launch) (G : jG) (M : jMem) (a ml nl : Nat) (N : xN) (oc : Nat → Nat) (i f e9 : Nat) (hN : M.1 a = some (.inr (4, [.ref (a + 1), .ref (a + 2), .int (nI N.1)]))) (hA : M.1 (a + 1) = some (nA nl N.2.1)) (hB : M.1 (a + 2) = some (nA ml N.2.2)) (hL : M.1 1 = some (nA 4000 oc)) (hnl : nl = 12 * ml) (hnB : nB N ml) (hoc : ∀ k, oc k < 256) (hi : i < ml) (hfe : f ≤ e9) (he : e9 ≤ 4000) (hge : N.2.2 i ≤ e9 - f) : jC l G yX4_lettersBehind cX4_lettersBehind 6 (some .int) 2 36 0 0 [.ref a, .int (nI i), .ref 1, .int (nI f), .int (nI e9)] (M) (.inl (some (.int (if bgF oc N i f 0 = true then nI (e9 - f - N.2.2 i) else -1)), M)) := by
  refine jC.of (by decide) 1 rfl [some (.ref a), some (.int (nI i)), some (.ref 1), some (.int (nI f)), some (.int (nI e9)), none] rfl (fun p e s m args below meth c C hT9 hNm9 => ?_)
  have hm6 := hnB.1
  refine J_iload (pc := 0) C dX4_lettersBehind_0 rfl ?_
  refine J_iload_n (pc := 2) C dX4_lettersBehind_2 rfl rfl ?_
  refine J_isubN (pc := 3) C dX4_lettersBehind_3 (by omega) ?_
  refine J_aload_n (pc := 4) C dX4_lettersBehind_4 rfl rfl ?_
  refine J_get (pc := 5) C dX4_lettersBehind_5 f_X4_19 hN rfl ?_
  refine J_iload_n (pc := 8) C dX4_lettersBehind_8 rfl rfl ?_
  refine J_ialdN (pc := 9) C dX4_lettersBehind_9 hB (by omega) (by omega) ?_
  try dsimp only
  refine J_isubN (pc := 10) C dX4_lettersBehind_10 (by omega) ?_
  refine J_istore (pc := 11) C dX4_lettersBehind_11 (by decide) rfl ?_
  dsimp only [List.set]
  refine J_iload (pc := 13) C dX4_lettersBehind_13 rfl ?_
  refine J_if_ltN (pc := 15) (tgt := 33) C dX4_lettersBehind_15 (by decide) (by omega) ?_
  refine J_aload_n (pc := 18) C dX4_lettersBehind_18 rfl rfl ?_
  refine J_iload_n (pc := 19) C dX4_lettersBehind_19 rfl rfl ?_
  refine J_aload_n (pc := 20) C dX4_lettersBehind_20 rfl rfl ?_
  refine J_iload_n (pc := 21) C dX4_lettersBehind_21 rfl rfl ?_
  refine J_callV1 (pc := 22) C dX4_lettersBehind_22 m_X4_28 (x_begins l G M a ml nl N oc _ _ hN hA hB hL hnl hnB hoc (by omega) (by omega)) ⟨jle rfl, jle rfl⟩ hN rfl rfl rfl rfl (jle rfl) ⟨Nat.zero_le _, Nat.zero_le _⟩ ?_
  try dsimp only
  refine J_if_eq (pc := 25) (tgt := 33) C dX4_lettersBehind_25 (by decide) (fun h25 => ?_) (fun h25 => ?_)
  · refine J_iconst (pc := 33) (v := -1) C dX4_lettersBehind_33 (by decide) ?_
    exact J_iret (pc := 34) C dX4_lettersBehind_34 rfl (jo (by first | (have z := bI_t h25; rw [if_pos z]) | (have z := bI_f h25; rw [if_neg (by rw [z]; decide)]))) (Nat.zero_le _) (Nat.zero_le _)
  · refine J_iload (pc := 28) C dX4_lettersBehind_28 rfl ?_
    refine J_goto (pc := 30) (tgt := 34) C dX4_lettersBehind_30 (by decide) ?_
    exact J_iret (pc := 34) C dX4_lettersBehind_34 rfl (jo (by first | (have z := bI_t h25; rw [if_pos z]) | (have z := bI_f h25; rw [if_neg (by rw [z]; decide)]))) (Nat.zero_le _) (Nat.zero_le _)
set_option maxHeartbeats 4000000 in
set_option maxRecDepth 100000 in
theorem x_lb_n (l : Launch) (G : jG) (M : jMem) (a ml nl : Nat) (N : xN) (oc : Nat → Nat) (i f e9 : Nat) (hN : M.1 a = some (.inr (4, [.ref (a + 1), .ref (a + 2), .int (nI N.1)]))) (hA : M.1 (a + 1) = some (nA nl N.2.1)) (hB : M.1 (a + 2) = some (nA ml N.2.2)) (hL : M.1 1 = some (nA 4000 oc)) (hnl : nl = 12 * ml) (hnB : nB N ml) (hoc : ∀ k, oc k < 256) (hi : i < ml) (hfe : f ≤ e9) (he : e9 ≤ 4000) (hge : e9 - f < N.2.2 i) : jC l G yX4_lettersBehind cX4_lettersBehind 6 (some .int) 2 36 0 0 [.ref a, .int (nI i), .ref 1, .int (nI f), .int (nI e9)] (M) (.inl (some (.int (-1)), M)) := by
  refine jC.of (by decide) 1 rfl [some (.ref a), some (.int (nI i)), some (.ref 1), some (.int (nI f)), some (.int (nI e9)), none] rfl (fun p e s m args below meth c C hT9 hNm9 => ?_)
  have hm6 := hnB.1
  have hl9 := hnB.2.2 i
  refine J_iload (pc := 0) C dX4_lettersBehind_0 rfl ?_
  refine J_iload_n (pc := 2) C dX4_lettersBehind_2 rfl rfl ?_
  refine J_isubN (pc := 3) C dX4_lettersBehind_3 (by omega) ?_
  refine J_aload_n (pc := 4) C dX4_lettersBehind_4 rfl rfl ?_
  refine J_get (pc := 5) C dX4_lettersBehind_5 f_X4_19 hN rfl ?_
  refine J_iload_n (pc := 8) C dX4_lettersBehind_8 rfl rfl ?_
  refine J_ialdN (pc := 9) C dX4_lettersBehind_9 hB (by omega) (by omega) ?_
  try dsimp only
  refine J_isub (pc := 10) C dX4_lettersBehind_10 ?_
  refine J_istore (pc := 11) C dX4_lettersBehind_11 (by decide) rfl ?_
  dsimp only [List.set]
  refine J_iload (pc := 13) C dX4_lettersBehind_13 rfl ?_
  refine J_if_lt (pc := 15) (tgt := 33) C dX4_lettersBehind_15 (by decide) (fun h15 => ?_) (fun h15 => ?_)
  · refine J_iconst (pc := 33) (v := -1) C dX4_lettersBehind_33 (by decide) ?_
    exact J_iret (pc := 34) C dX4_lettersBehind_34 rfl (rfl) (Nat.zero_le _) (Nat.zero_le _)
  · exact absurd (nI_neg hge (by omega)) h15
set_option maxHeartbeats 4000000 in
set_option maxRecDepth 100000 in
theorem x_add (l : Launch) (G : jG) (M M1 M2 M3 : jMem) (a ml nl : Nat) (N : xN) (oc : Nat → Nat) (f e9 : Nat) (hN : M.1 a = some (.inr (4, [.ref (a + 1), .ref (a + 2), .int (nI N.1)]))) (hA : M.1 (a + 1) = some (nA nl N.2.1)) (hB : M.1 (a + 2) = some (nA ml N.2.2)) (hL : M.1 1 = some (nA 4000 oc)) (hnl : nl = 12 * ml) (hnB : nB N ml) (hoc : ∀ k, oc k < 256) (ha1 : a ≠ 1 ∧ a + 1 ≠ 1 ∧ a + 2 ≠ 1) (hfe : f ≤ e9) (he : e9 ≤ 4000) (hlt : N.1 < ml) (hln : e9 - f ≤ 12) (hu1 : ju M (a + 2) (nA ml (va_up N.2.2 N.1 (e9 - f))) = M1) (hu2 : ju M1 (a + 1) (nA nl (va_cpy oc N.2.1 f (12 * N.1) (e9 - f))) = M2) (hu3 : ju M2 a (.inr (4, [.ref (a + 1), .ref (a + 2), .int (nI (N.1 + 1))])) = M3) : jC l G yX4_add cX4_add 4 none 2 60 0 0 [.ref a, .ref 1, .int (nI f), .int (nI e9)] (M) (.inl (none, M3)) := by
  refine jC.of (by decide) 0 rfl [some (.ref a), some (.ref 1), some (.int (nI f)), some (.int (nI e9))] rfl (fun p e s m args below meth c C hT9 hNm9 => ?_)
  have hm6 := hnB.1
  have h1N : M1.1 a = some (.inr (4, [.ref (a + 1), .ref (a + 2), .int (nI N.1)])) := by rw [← hu1, ju_ne (by omega)]; exact hN
  have h1A : M1.1 (a + 1) = some (nA nl N.2.1) := by rw [← hu1, ju_ne (by omega)]; exact hA
  have h1L : M1.1 1 = some (nA 4000 oc) := by rw [← hu1, ju_ne (by omega)]; exact hL
  have h2N : M2.1 a = some (.inr (4, [.ref (a + 1), .ref (a + 2), .int (nI N.1)])) := by rw [← hu2, ju_ne (by omega)]; exact h1N
  refine J_aload_n (pc := 0) C dX4_add_0 rfl rfl ?_
  refine J_get (pc := 1) C dX4_add_1 f_X4_9 hN rfl ?_
  try dsimp only
  refine J_aload_n (pc := 4) C dX4_add_4 rfl rfl ?_
  refine J_get (pc := 5) C dX4_add_5 f_X4_19 hN rfl ?_
  refine J_alen (pc := 8) C dX4_add_8 hB (by decide) ?_
  refine J_icmp_geN (pc := 9) (tgt := 61) C dX4_add_9 (by decide) (by omega) (by omega) (fun h9 => ?_) (fun h9 => ?_)
  · omega
  · refine J_iload_n (pc := 12) C dX4_add_12 rfl rfl ?_
    refine J_iload_n (pc := 13) C dX4_add_13 rfl rfl ?_
    refine J_isubN (pc := 14) C dX4_add_14 (by omega) ?_
    refine J_bipush (pc := 15) (v := nI 12) C dX4_add_15 (by decide) ?_
    refine J_icmp_gtN (pc := 17) (tgt := 61) C dX4_add_17 (by decide) (by omega) (by omega) (fun h17 => ?_) (fun h17 => ?_)
    · omega
    · refine J_aload_n (pc := 20) C dX4_add_20 rfl rfl ?_
      refine J_get (pc := 21) C dX4_add_21 f_X4_19 hN rfl ?_
      refine J_aload_n (pc := 24) C dX4_add_24 rfl rfl ?_
      refine J_get (pc := 25) C dX4_add_25 f_X4_9 hN rfl ?_
      try dsimp only
      refine J_iload_n (pc := 28) C dX4_add_28 rfl rfl ?_
      refine J_iload_n (pc := 29) C dX4_add_29 rfl rfl ?_
      refine J_isubN (pc := 30) C dX4_add_30 (by omega) ?_
      refine J_iastN (pc := 31) C dX4_add_31 hB (by omega) (by omega) (hu1) ?_
      refine J_aload_n (pc := 32) C dX4_add_32 rfl rfl ?_
      refine J_iload_n (pc := 33) C dX4_add_33 rfl rfl ?_
      refine J_aload_n (pc := 34) C dX4_add_34 rfl rfl ?_
      refine J_get (pc := 35) C dX4_add_35 f_X4_15 h1N rfl ?_
      refine J_aload_n (pc := 38) C dX4_add_38 rfl rfl ?_
      refine J_get (pc := 39) C dX4_add_39 f_X4_9 h1N rfl ?_
      try dsimp only
      refine J_bipush (pc := 42) (v := nI 12) C dX4_add_42 (by decide) ?_
      refine J_imulN (pc := 44) C dX4_add_44 ?_
      rw [show N.1 * 12 = 12 * N.1 by omega]
      refine J_iload_n (pc := 45) C dX4_add_45 rfl rfl ?_
      refine J_iload_n (pc := 46) C dX4_add_46 rfl rfl ?_
      refine J_isubN (pc := 47) C dX4_add_47 (by omega) ?_
      refine J_copy (pc := 48) C dX4_add_48 h1L h1A (by omega) (by omega) (by decide) (by omega) (jle rfl) (jle rfl) hu2 ?_
      refine J_aload_n (pc := 51) C dX4_add_51 rfl rfl ?_
      refine J_dup (pc := 52) C dX4_add_52 rfl ?_
      refine J_get (pc := 53) C dX4_add_53 f_X4_9 h2N rfl ?_
      try dsimp only
      refine J_iconst (pc := 56) (v := nI 1) C dX4_add_56 (by decide) ?_
      refine J_iaddN (pc := 57) C dX4_add_57 ?_
      refine J_putU (pc := 58) C dX4_add_58 p_X4_9 h2N (jlt rfl) rfl rfl (hu3) ?_
      try dsimp only
      exact J_vret (pc := 61) C dX4_add_61 rfl (rfl) (Nat.zero_le _) (Nat.zero_le _)
