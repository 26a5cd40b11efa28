set_option maxHeartbeats 4000000 in
set_option maxRecDepth 100000 in
theorem x_addFour (l : Launch) (G : jG) (A : xA) (S : xS) (t : xT) (wr : Int32) (B : xB) (Z : xZ) (P : xC) (Q : xN) (V : xV) (L : xL) (T : jMem) (v : Int32) (hf : A.1 + 4 ≤ 4000) : jC l G yX10_addFour cX10_addFour 3 none 1 12 0 0 [.ref 0, .int v] (encX A S t wr B Z P Q V L T) (.inl (none, encX (A.1 + 1 + 1 + 1 + 1, fd4 A.2.1 A.1 v, A.2.2) S t wr B Z P Q V L T)) := by
  refine jC.of (by decide) 1 rfl [some (.ref 0), some (.int v), none] rfl (fun p e s m args below meth c C hT9 hNm9 => ?_)
  refine J_bipush (pc := 0) (v := nI 24) C dX10_addFour_0 (by decide) ?_
  refine J_istore_n (pc := 2) C dX10_addFour_2 rfl (by decide) rfl ?_
  dsimp only [List.set]
  refine J_iload_n (pc := 3) C dX10_addFour_3 rfl rfl ?_
  refine J_if_ltN (pc := 4) (tgt := 39) C dX10_addFour_4 (by decide) (by omega) ?_
  refine J_aload_n (pc := 7) C dX10_addFour_7 rfl rfl ?_
  refine J_get (pc := 8) C dX10_addFour_8 f_X10_9 rfl rfl ?_
  refine J_aload_n (pc := 11) C dX10_addFour_11 rfl rfl ?_
  refine J_get (pc := 12) C dX10_addFour_12 f_X10_65 rfl rfl ?_
  try dsimp only
  refine J_iload_n (pc := 15) C dX10_addFour_15 rfl rfl ?_
  refine J_iload_n (pc := 16) C dX10_addFour_16 rfl rfl ?_
  refine J_iushr (pc := 17) C dX10_addFour_17 rfl ?_
  refine J_sipush (pc := 18) (v := nI 255) C dX10_addFour_18 (by decide) ?_
  refine J_iand (pc := 21) C dX10_addFour_21 ?_
  rw [oct_s v (by decide)]
  refine J_iastN (pc := 22) C dX10_addFour_22 rfl (by omega) (by decide) (uX_octets _) ?_
  refine J_aload_n (pc := 23) C dX10_addFour_23 rfl rfl ?_
  refine J_dup (pc := 24) C dX10_addFour_24 rfl ?_
  refine J_get (pc := 25) C dX10_addFour_25 f_X10_65 rfl rfl ?_
  try dsimp only
  refine J_iconst (pc := 28) (v := nI 1) C dX10_addFour_28 (by decide) ?_
  refine J_iaddN (pc := 29) C dX10_addFour_29 ?_
  refine J_putU (pc := 30) C dX10_addFour_30 p_X10_65 rfl (jlt rfl) rfl rfl (uX_fed _) ?_
  try dsimp only
  refine J_iinc (pc := 33) C dX10_addFour_33 rfl (show nI 24 + Int32.ofInt (-8) = nI 16 by decide) (by decide) rfl ?_
  dsimp only [List.set]
  refine J_goto (pc := 36) (tgt := 3) C dX10_addFour_36 (by decide) ?_
  refine J_iload_n (pc := 3) C dX10_addFour_3 rfl rfl ?_
  refine J_if_ltN (pc := 4) (tgt := 39) C dX10_addFour_4 (by decide) (by omega) ?_
  refine J_aload_n (pc := 7) C dX10_addFour_7 rfl rfl ?_
  refine J_get (pc := 8) C dX10_addFour_8 f_X10_9 rfl rfl ?_
  refine J_aload_n (pc := 11) C dX10_addFour_11 rfl rfl ?_
  refine J_get (pc := 12) C dX10_addFour_12 f_X10_65 rfl rfl ?_
  try dsimp only
  refine J_iload_n (pc := 15) C dX10_addFour_15 rfl rfl ?_
  refine J_iload_n (pc := 16) C dX10_addFour_16 rfl rfl ?_
  refine J_iushr (pc := 17) C dX10_addFour_17 rfl ?_
  refine J_sipush (pc := 18) (v := nI 255) C dX10_addFour_18 (by decide) ?_
  refine J_iand (pc := 21) C dX10_addFour_21 ?_
  rw [oct_s v (by decide)]
  refine J_iastN (pc := 22) C dX10_addFour_22 rfl (by omega) (by decide) (uX_octets _) ?_
  refine J_aload_n (pc := 23) C dX10_addFour_23 rfl rfl ?_
  refine J_dup (pc := 24) C dX10_addFour_24 rfl ?_
  refine J_get (pc := 25) C dX10_addFour_25 f_X10_65 rfl rfl ?_
  try dsimp only
  refine J_iconst (pc := 28) (v := nI 1) C dX10_addFour_28 (by decide) ?_
  refine J_iaddN (pc := 29) C dX10_addFour_29 ?_
  refine J_putU (pc := 30) C dX10_addFour_30 p_X10_65 rfl (jlt rfl) rfl rfl (uX_fed _) ?_
  try dsimp only
  refine J_iinc (pc := 33) C dX10_addFour_33 rfl (show nI 16 + Int32.ofInt (-8) = nI 8 by decide) (by decide) rfl ?_
  dsimp only [List.set]
  refine J_goto (pc := 36) (tgt := 3) C dX10_addFour_36 (by decide) ?_
  refine J_iload_n (pc := 3) C dX10_addFour_3 rfl rfl ?_
  refine J_if_ltN (pc := 4) (tgt := 39) C dX10_addFour_4 (by decide) (by omega) ?_
  refine J_aload_n (pc := 7) C dX10_addFour_7 rfl rfl ?_
  refine J_get (pc := 8) C dX10_addFour_8 f_X10_9 rfl rfl ?_
  refine J_aload_n (pc := 11) C dX10_addFour_11 rfl rfl ?_
  refine J_get (pc := 12) C dX10_addFour_12 f_X10_65 rfl rfl ?_
  try dsimp only
  refine J_iload_n (pc := 15) C dX10_addFour_15 rfl rfl ?_
  refine J_iload_n (pc := 16) C dX10_addFour_16 rfl rfl ?_
  refine J_iushr (pc := 17) C dX10_addFour_17 rfl ?_
  refine J_sipush (pc := 18) (v := nI 255) C dX10_addFour_18 (by decide) ?_
  refine J_iand (pc := 21) C dX10_addFour_21 ?_
  rw [oct_s v (by decide)]
  refine J_iastN (pc := 22) C dX10_addFour_22 rfl (by omega) (by decide) (uX_octets _) ?_
  refine J_aload_n (pc := 23) C dX10_addFour_23 rfl rfl ?_
  refine J_dup (pc := 24) C dX10_addFour_24 rfl ?_
  refine J_get (pc := 25) C dX10_addFour_25 f_X10_65 rfl rfl ?_
  try dsimp only
  refine J_iconst (pc := 28) (v := nI 1) C dX10_addFour_28 (by decide) ?_
  refine J_iaddN (pc := 29) C dX10_addFour_29 ?_
  refine J_putU (pc := 30) C dX10_addFour_30 p_X10_65 rfl (jlt rfl) rfl rfl (uX_fed _) ?_
  try dsimp only
  refine J_iinc (pc := 33) C dX10_addFour_33 rfl (show nI 8 + Int32.ofInt (-8) = nI 0 by decide) (by decide) rfl ?_
  dsimp only [List.set]
  refine J_goto (pc := 36) (tgt := 3) C dX10_addFour_36 (by decide) ?_
  refine J_iload_n (pc := 3) C dX10_addFour_3 rfl rfl ?_
  refine J_if_ltN (pc := 4) (tgt := 39) C dX10_addFour_4 (by decide) (by omega) ?_
  refine J_aload_n (pc := 7) C dX10_addFour_7 rfl rfl ?_
  refine J_get (pc := 8) C dX10_addFour_8 f_X10_9 rfl rfl ?_
  refine J_aload_n (pc := 11) C dX10_addFour_11 rfl rfl ?_
  refine J_get (pc := 12) C dX10_addFour_12 f_X10_65 rfl rfl ?_
  try dsimp only
  refine J_iload_n (pc := 15) C dX10_addFour_15 rfl rfl ?_
  refine J_iload_n (pc := 16) C dX10_addFour_16 rfl rfl ?_
  refine J_iushr (pc := 17) C dX10_addFour_17 rfl ?_
  refine J_sipush (pc := 18) (v := nI 255) C dX10_addFour_18 (by decide) ?_
  refine J_iand (pc := 21) C dX10_addFour_21 ?_
  rw [oct_s v (by decide)]
  refine J_iastN (pc := 22) C dX10_addFour_22 rfl (by omega) (by decide) (uX_octets _) ?_
  refine J_aload_n (pc := 23) C dX10_addFour_23 rfl rfl ?_
  refine J_dup (pc := 24) C dX10_addFour_24 rfl ?_
  refine J_get (pc := 25) C dX10_addFour_25 f_X10_65 rfl rfl ?_
  try dsimp only
  refine J_iconst (pc := 28) (v := nI 1) C dX10_addFour_28 (by decide) ?_
  refine J_iaddN (pc := 29) C dX10_addFour_29 ?_
  refine J_putU (pc := 30) C dX10_addFour_30 p_X10_65 rfl (jlt rfl) rfl rfl (uX_fed _) ?_
  try dsimp only
  refine J_iinc (pc := 33) C dX10_addFour_33 rfl (show nI 0 + Int32.ofInt (-8) = -8 by decide) (by decide) rfl ?_
  dsimp only [List.set]
  refine J_goto (pc := 36) (tgt := 3) C dX10_addFour_36 (by decide) ?_
  refine J_iload_n (pc := 3) C dX10_addFour_3 rfl rfl ?_
  refine J_if_lt (pc := 4) (tgt := 39) C dX10_addFour_4 (by decide) (fun h4 => ?_) (fun h4 => ?_)
  · exact J_vret (pc := 39) C dX10_addFour_39 rfl (rfl) (Nat.zero_le _) (Nat.zero_le _)
  · exact absurd (by decide) h4
set_option maxHeartbeats 4000000 in
set_option maxRecDepth 100000 in
theorem x_feed (l : Launch) (G : jG) (A : xA) (S : xS) (t : xT) (wr : Int32) (B : xB) (Z : xZ) (P : xC) (Q : xN) (V : xV) (L : xL) (T : jMem) (a9 b9 c9 d9 e9 : Int32) (hf : A.1 + 20 ≤ 4000) : jC l G yX10_feed cX10_feed 6 (some .int) 6 82 0 0 [.ref 0, .int a9, .int b9, .int c9, .int d9, .int e9] (encX A S t wr B Z P Q V L T) (.inl (some (.int (nI (A.1 + 20))), encX (A.1 + 20, fdF A.2.1 A.1 a9 b9 c9 d9 e9 20, A.2.2) S t wr B Z P Q V L T)) := by
  refine jC.of (by decide) 0 rfl [some (.ref 0), some (.int a9), some (.int b9), some (.int c9), some (.int d9), some (.int e9)] rfl (fun p e s m args below meth c C hT9 hNm9 => ?_)
  refine J_aload_n (pc := 0) C dX10_feed_0 rfl rfl ?_
  refine J_get (pc := 1) C dX10_feed_1 f_X10_65 rfl rfl ?_
  try dsimp only
  refine J_bipush (pc := 4) (v := nI 20) C dX10_feed_4 (by decide) ?_
  refine J_iaddN (pc := 6) C dX10_feed_6 ?_
  refine J_sipush (pc := 7) (v := nI 4000) C dX10_feed_7 (by decide) ?_
  refine J_icmp_leN (pc := 10) (tgt := 23) C dX10_feed_10 (by decide) (by omega) (by omega) (fun h10 => ?_) (fun h10 => ?_)
  · refine J_aload_n (pc := 23) C dX10_feed_23 rfl rfl ?_
    refine J_iload_n (pc := 24) C dX10_feed_24 rfl rfl ?_
    refine J_callV0 (pc := 25) C dX10_feed_25 m_X10_76 (x_addFour l G _ _ _ _ _ _ _ _ _ _ _ _ (by omega)) ⟨jle rfl, jle rfl⟩ rfl rfl rfl rfl rfl (jle rfl) ⟨Nat.zero_le _, Nat.zero_le _⟩ ?_
    try dsimp only
    refine J_aload_n (pc := 28) C dX10_feed_28 rfl rfl ?_
    refine J_iload_n (pc := 29) C dX10_feed_29 rfl rfl ?_
    refine J_callV0 (pc := 30) C dX10_feed_30 m_X10_76 (x_addFour l G _ _ _ _ _ _ _ _ _ _ _ _ (by omega)) ⟨jle rfl, jle rfl⟩ rfl rfl rfl rfl rfl (jle rfl) ⟨Nat.zero_le _, Nat.zero_le _⟩ ?_
    try dsimp only
    refine J_aload_n (pc := 33) C dX10_feed_33 rfl rfl ?_
    refine J_iload_n (pc := 34) C dX10_feed_34 rfl rfl ?_
    refine J_callV0 (pc := 35) C dX10_feed_35 m_X10_76 (x_addFour l G _ _ _ _ _ _ _ _ _ _ _ _ (by omega)) ⟨jle rfl, jle rfl⟩ rfl rfl rfl rfl rfl (jle rfl) ⟨Nat.zero_le _, Nat.zero_le _⟩ ?_
    try dsimp only
    refine J_aload_n (pc := 38) C dX10_feed_38 rfl rfl ?_
    refine J_iload (pc := 39) C dX10_feed_39 rfl ?_
    refine J_callV0 (pc := 41) C dX10_feed_41 m_X10_76 (x_addFour l G _ _ _ _ _ _ _ _ _ _ _ _ (by omega)) ⟨jle rfl, jle rfl⟩ rfl rfl rfl rfl rfl (jle rfl) ⟨Nat.zero_le _, Nat.zero_le _⟩ ?_
    try dsimp only
    refine J_aload_n (pc := 44) C dX10_feed_44 rfl rfl ?_
    refine J_iload (pc := 45) C dX10_feed_45 rfl ?_
    refine J_callV0 (pc := 47) C dX10_feed_47 m_X10_76 (x_addFour l G _ _ _ _ _ _ _ _ _ _ _ _ (by omega)) ⟨jle rfl, jle rfl⟩ rfl rfl rfl rfl rfl (jle rfl) ⟨Nat.zero_le _, Nat.zero_le _⟩ ?_
    try dsimp only
    refine J_aload_n (pc := 50) C dX10_feed_50 rfl rfl ?_
    refine J_get (pc := 51) C dX10_feed_51 f_X10_65 rfl rfl ?_
    try dsimp only
    exact J_iret (pc := 54) C dX10_feed_54 rfl (rfl) (Nat.zero_le _) (Nat.zero_le _)
  · omega
set_option maxHeartbeats 4000000 in
set_option maxRecDepth 100000 in
theorem x_feed_x (l : Launch) (G : jG) (A : xA) (S : xS) (t : xT) (wr : Int32) (B : xB) (Z : xZ) (P : xC) (Q : xN) (V : xV) (L : xL) (T : jMem) (a9 b9 c9 d9 e9 : Int32) (hst : l.stackTraces = false) (hf : 4000 < A.1 + 20) (hf2 : A.1 ≤ 4000) : jCp l G yX10_feed cX10_feed 6 (some .int) 6 82 1 6 [.ref 0, .int a9, .int b9, .int c9, .int d9, .int e9] (encX A S t wr B Z P Q V L T) ((fun o => o = .inr (eIO, jno (encX A S t wr B Z P Q V L T)))) := by
  refine jCp.of (by decide) 0 rfl [some (.ref 0), some (.int a9), some (.int b9), some (.int c9), some (.int d9), some (.int e9)] rfl (fun p e s m args below meth c C hT9 hz9 => ?_)
  refine E_aload_n (pc := 0) C dX10_feed_0 rfl rfl ?_
  refine E_get (pc := 1) C dX10_feed_1 f_X10_65 rfl rfl ?_
  try dsimp only
  refine E_bipush (pc := 4) (v := nI 20) C dX10_feed_4 (by decide) ?_
  refine E_iaddN (pc := 6) C dX10_feed_6 ?_
  refine E_sipush (pc := 7) (v := nI 4000) C dX10_feed_7 (by decide) ?_
  refine E_icmp_leN (pc := 10) (tgt := 23) C dX10_feed_10 (by decide) (by omega) (by omega) (fun h10 => ?_) (fun h10 => ?_)
  · omega
  · exact E_throw (pc := 13) (ik := 69) (is := 71) (ic := 73) (i := 0) (names := eUp) C hst hT9 (by decide) (by decide) kl_X10_69 in_IO rfl at_X10_69 ot_X10_69 dX10_feed_13 dX10_feed_16 dX10_feed_17 dX10_feed_19 dX10_feed_22 ⟨by decide, jle rfl, jle rfl, jle rfl⟩ rfl (jle rfl) (jle rfl)
set_option maxHeartbeats 4000000 in
set_option maxRecDepth 100000 in
theorem x_needFed (l : Launch) (G : jG) (A : xA) (S : xS) (t : xT) (wr : Int32) (B : xB) (Z : xZ) (P : xC) (Q : xN) (V : xV) (L : xL) (T : jMem) (n : Nat) (hn : n ≤ A.1) (hf : A.1 ≤ 4000) : jC l G yX10_needFed cX10_needFed 2 none 6 82 0 0 [.ref 0, .int (nI n)] (encX A S t wr B Z P Q V L T) (.inl (none, encX A S t wr B Z P Q V L T)) := by
  refine jC.of (by decide) 0 rfl [some (.ref 0), some (.int (nI n))] rfl (fun p e s m args below meth c C hT9 hNm9 => ?_)
  refine J_iload_n (pc := 0) C dX10_needFed_0 rfl rfl ?_
  refine J_if_ltN (pc := 1) (tgt := 12) C dX10_needFed_1 (by decide) (by omega) ?_
  refine J_iload_n (pc := 4) C dX10_needFed_4 rfl rfl ?_
  refine J_aload_n (pc := 5) C dX10_needFed_5 rfl rfl ?_
  refine J_get (pc := 6) C dX10_needFed_6 f_X10_65 rfl rfl ?_
  try dsimp only
  refine J_icmp_leN (pc := 9) (tgt := 22) C dX10_needFed_9 (by decide) (by omega) (by omega) (fun h9 => ?_) (fun h9 => ?_)
  · exact J_vret (pc := 22) C dX10_needFed_22 rfl (rfl) (Nat.zero_le _) (Nat.zero_le _)
  · omega
set_option maxHeartbeats 4000000 in
set_option maxRecDepth 100000 in
theorem x_needFed_x (l : Launch) (G : jG) (A : xA) (S : xS) (t : xT) (wr : Int32) (B : xB) (Z : xZ) (P : xC) (Q : xN) (V : xV) (L : xL) (T : jMem) (v : Int32) (hst : l.stackTraces = false) (hv : v < 0 ∨ nI A.1 < v) : jCp l G yX10_needFed cX10_needFed 2 none 6 82 1 6 [.ref 0, .int v] (encX A S t wr B Z P Q V L T) ((fun o => o = .inr (eIO, jno (encX A S t wr B Z P Q V L T)))) := by
  refine jCp.of (by decide) 0 rfl [some (.ref 0), some (.int v)] rfl (fun p e s m args below meth c C hT9 hz9 => ?_)
  refine E_iload_n (pc := 0) C dX10_needFed_0 rfl rfl ?_
  refine E_if_lt (pc := 1) (tgt := 12) C dX10_needFed_1 (by decide) (fun h1 => ?_) (fun h1 => ?_)
  · exact E_throw (pc := 12) (ik := 69) (is := 171) (ic := 73) (i := 1) (names := eUp) C hst hT9 (by decide) (by decide) kl_X10_69 in_IO rfl at_X10_69 ot_X10_69 dX10_needFed_12 dX10_needFed_15 dX10_needFed_16 dX10_needFed_18 dX10_needFed_21 ⟨by decide, jle rfl, jle rfl, jle rfl⟩ rfl (jle rfl) (jle rfl)
  · refine E_iload_n (pc := 4) C dX10_needFed_4 rfl rfl ?_
    refine E_aload_n (pc := 5) C dX10_needFed_5 rfl rfl ?_
    refine E_get (pc := 6) C dX10_needFed_6 f_X10_65 rfl rfl ?_
    try dsimp only
    refine E_icmp_le (pc := 9) (tgt := 22) C dX10_needFed_9 (by decide) (fun h9 => ?_) (fun h9 => ?_)
    · (rcases hv with z | z; exact absurd z h1; exact absurd h9 (Int32.not_le.mpr z))
    · exact E_throw (pc := 12) (ik := 69) (is := 171) (ic := 73) (i := 1) (names := eUp) C hst hT9 (by decide) (by decide) kl_X10_69 in_IO rfl at_X10_69 ot_X10_69 dX10_needFed_12 dX10_needFed_15 dX10_needFed_16 dX10_needFed_18 dX10_needFed_21 ⟨by decide, jle rfl, jle rfl, jle rfl⟩ rfl (jle rfl) (jle rfl)
set_option maxHeartbeats 4000000 in
set_option maxRecDepth 100000 in
theorem x_needD (l : Launch) (G : jG) (A : xA) (S : xS) (t : xT) (wr : Int32) (B : xB) (Z : xZ) (P : xC) (Q : xN) (V : xV) (L : xL) (T : jMem) (hs : B.2.1 = 1) : jC l G yX10_needDescription cX10_needDescription 1 none 6 82 0 0 [.ref 0] (encX A S t wr B Z P Q V L T) (.inl (none, encX A S t wr B Z P Q V L T)) := by
  refine jC.of (by decide) 0 rfl [some (.ref 0)] rfl (fun p e s m args below meth c C hT9 hNm9 => ?_)
  refine J_aload_n (pc := 0) C dX10_needDescription_0 rfl rfl ?_
  refine J_get (pc := 1) C dX10_needDescription_1 f_X10_29 rfl rfl ?_
  refine J_get (pc := 4) C dX10_needDescription_4 f_X10_87 rfl rfl ?_
  try dsimp only
  refine J_if_neN (pc := 7) (tgt := 20) C dX10_needDescription_7 (by decide) (by omega) (fun h7 => ?_) (fun h7 => ?_)
  · exact J_vret (pc := 20) C dX10_needDescription_20 rfl (rfl) (Nat.zero_le _) (Nat.zero_le _)
  · omega
set_option maxHeartbeats 4000000 in
set_option maxRecDepth 100000 in
theorem x_needD_x (l : Launch) (G : jG) (A : xA) (S : xS) (t : xT) (wr : Int32) (B : xB) (Z : xZ) (P : xC) (Q : xN) (V : xV) (L : xL) (T : jMem) (hst : l.stackTraces = false) (hs : B.2.1 = 0) : jCp l G yX10_needDescription cX10_needDescription 1 none 6 82 1 6 [.ref 0] (encX A S t wr B Z P Q V L T) ((fun o => o = .inr (eIS, jno (encX A S t wr B Z P Q V L T)))) := by
  refine jCp.of (by decide) 0 rfl [some (.ref 0)] rfl (fun p e s m args below meth c C hT9 hz9 => ?_)
  refine E_aload_n (pc := 0) C dX10_needDescription_0 rfl rfl ?_
  refine E_get (pc := 1) C dX10_needDescription_1 f_X10_29 rfl rfl ?_
  refine E_get (pc := 4) C dX10_needDescription_4 f_X10_87 rfl rfl ?_
  try dsimp only
  refine E_if_neN (pc := 7) (tgt := 20) C dX10_needDescription_7 (by decide) (by omega) (fun h7 => ?_) (fun h7 => ?_)
  · omega
  · exact E_throw (pc := 10) (ik := 173) (is := 175) (ic := 177) (i := 10) (names := eUp) C hst hT9 (by decide) (by decide) kl_X10_173 in_IS rfl at_X10_173 ot_X10_173 dX10_needDescription_10 dX10_needDescription_13 dX10_needDescription_14 dX10_needDescription_16 dX10_needDescription_19 ⟨by decide, jle rfl, jle rfl, jle rfl⟩ rfl (jle rfl) (jle rfl)
set_option maxHeartbeats 4000000 in
set_option maxRecDepth 100000 in
theorem x_wrong (l : Launch) (G : jG) (A : xA) (S : xS) (t : xT) (wr : Int32) (B : xB) (Z : xZ) (P : xC) (Q : xN) (V : xV) (L : xL) (T : jMem)  : jC l G yX10_wrong cX10_wrong 1 (some .int) 1 12 0 0 [.ref 0] (encX A S t wr B Z P Q V L T) (.inl (some (.int wr), encX A S t wr B Z P Q V L T)) := by
  refine jC.of (by decide) 0 rfl [some (.ref 0)] rfl (fun p e s m args below meth c C hT9 hNm9 => ?_)
  refine J_aload_n (pc := 0) C dX10_wrong_0 rfl rfl ?_
  refine J_get (pc := 1) C dX10_wrong_1 f_X10_22 rfl rfl ?_
  refine J_get (pc := 4) C dX10_wrong_4 f_X10_110 rfl rfl ?_
  try dsimp only
  exact J_iret (pc := 7) C dX10_wrong_7 rfl (rfl) (Nat.zero_le _) (Nat.zero_le _)
set_option maxHeartbeats 4000000 in
set_option maxRecDepth 100000 in
theorem x_word (l : Launch) (G : jG) (A : xA) (S : xS) (t : xT) (wr : Int32) (B : xB) (Z : xZ) (P : xC) (Q : xN) (V : xV) (L : xL) (T : jMem) (k : Nat) (hs : P.2.1 = 1) (hk : k < P.1) (hp : P.1 ≤ 1000) : jC l G yX10_word cX10_word 2 (some .int) 6 82 0 0 [.ref 0, .int (nI k)] (encX A S t wr B Z P Q V L T) (.inl (some (.int (P.2.2.1 k)), encX A S t wr B Z P Q V L T)) := by
  refine jC.of (by decide) 0 rfl [some (.ref 0), some (.int (nI k))] rfl (fun p e s m args below meth c C hT9 hNm9 => ?_)
  refine J_aload_n (pc := 0) C dX10_word_0 rfl rfl ?_
  refine J_get (pc := 1) C dX10_word_1 f_X10_36 rfl rfl ?_
  refine J_get (pc := 4) C dX10_word_4 f_X10_83 rfl rfl ?_
  try dsimp only
  refine J_if_eqN (pc := 7) (tgt := 25) C dX10_word_7 (by decide) (by omega) (fun h7 => ?_) (fun h7 => ?_)
  · omega
  · refine J_iload_n (pc := 10) C dX10_word_10 rfl rfl ?_
    refine J_if_ltN (pc := 11) (tgt := 25) C dX10_word_11 (by decide) (by omega) ?_
    refine J_iload_n (pc := 14) C dX10_word_14 rfl rfl ?_
    refine J_aload_n (pc := 15) C dX10_word_15 rfl rfl ?_
    refine J_get (pc := 16) C dX10_word_16 f_X10_36 rfl rfl ?_
    refine J_get (pc := 19) C dX10_word_19 f_X10_109 rfl rfl ?_
    try dsimp only
    refine J_icmp_ltN (pc := 22) (tgt := 35) C dX10_word_22 (by decide) (by omega) (by omega) (fun h22 => ?_) (fun h22 => ?_)
    · refine J_aload_n (pc := 35) C dX10_word_35 rfl rfl ?_
      refine J_get (pc := 36) C dX10_word_36 f_X10_36 rfl rfl ?_
      refine J_get (pc := 39) C dX10_word_39 f_X10_115 rfl rfl ?_
      refine J_iload_n (pc := 42) C dX10_word_42 rfl rfl ?_
      refine J_ialdR (pc := 43) C dX10_word_43 rfl (by omega) (by decide) ?_
      try dsimp only
      exact J_iret (pc := 44) C dX10_word_44 rfl (rfl) (Nat.zero_le _) (Nat.zero_le _)
    · omega
set_option maxHeartbeats 4000000 in
set_option maxRecDepth 100000 in
theorem x_word_x (l : Launch) (G : jG) (A : xA) (S : xS) (t : xT) (wr : Int32) (B : xB) (Z : xZ) (P : xC) (Q : xN) (V : xV) (L : xL) (T : jMem) (v : Int32) (hst : l.stackTraces = false) (hv : P.2.1 = 0 ∨ v < 0 ∨ nI P.1 ≤ v) (hs : P.2.1 ≤ 1) : jCp l G yX10_word cX10_word 2 (some .int) 6 82 1 6 [.ref 0, .int v] (encX A S t wr B Z P Q V L T) ((fun o => o = .inr (eIO, jno (encX A S t wr B Z P Q V L T)))) := by
  refine jCp.of (by decide) 0 rfl [some (.ref 0), some (.int v)] rfl (fun p e s m args below meth c C hT9 hz9 => ?_)
  refine E_aload_n (pc := 0) C dX10_word_0 rfl rfl ?_
  refine E_get (pc := 1) C dX10_word_1 f_X10_36 rfl rfl ?_
  refine E_get (pc := 4) C dX10_word_4 f_X10_83 rfl rfl ?_
  try dsimp only
  refine E_if_eqN (pc := 7) (tgt := 25) C dX10_word_7 (by decide) (by omega) (fun h7 => ?_) (fun h7 => ?_)
  · exact E_throw (pc := 25) (ik := 69) (is := 113) (ic := 73) (i := 11) (names := eUp) C hst hT9 (by decide) (by decide) kl_X10_69 in_IO rfl at_X10_69 ot_X10_69 dX10_word_25 dX10_word_28 dX10_word_29 dX10_word_31 dX10_word_34 ⟨by decide, jle rfl, jle rfl, jle rfl⟩ rfl (jle rfl) (jle rfl)
  · refine E_iload_n (pc := 10) C dX10_word_10 rfl rfl ?_
    refine E_if_lt (pc := 11) (tgt := 25) C dX10_word_11 (by decide) (fun h11 => ?_) (fun h11 => ?_)
    · exact E_throw (pc := 25) (ik := 69) (is := 113) (ic := 73) (i := 11) (names := eUp) C hst hT9 (by decide) (by decide) kl_X10_69 in_IO rfl at_X10_69 ot_X10_69 dX10_word_25 dX10_word_28 dX10_word_29 dX10_word_31 dX10_word_34 ⟨by decide, jle rfl, jle rfl, jle rfl⟩ rfl (jle rfl) (jle rfl)
    · refine E_iload_n (pc := 14) C dX10_word_14 rfl rfl ?_
      refine E_aload_n (pc := 15) C dX10_word_15 rfl rfl ?_
      refine E_get (pc := 16) C dX10_word_16 f_X10_36 rfl rfl ?_
      refine E_get (pc := 19) C dX10_word_19 f_X10_109 rfl rfl ?_
      try dsimp only
      refine E_icmp_lt (pc := 22) (tgt := 35) C dX10_word_22 (by decide) (fun h22 => ?_) (fun h22 => ?_)
      · (rcases hv with z | z | z; exact absurd z h7; exact absurd z h11; exact absurd h22 (Int32.not_lt.mpr z))
      · exact E_throw (pc := 25) (ik := 69) (is := 113) (ic := 73) (i := 11) (names := eUp) C hst hT9 (by decide) (by decide) kl_X10_69 in_IO rfl at_X10_69 ot_X10_69 dX10_word_25 dX10_word_28 dX10_word_29 dX10_word_31 dX10_word_34 ⟨by decide, jle rfl, jle rfl, jle rfl⟩ rfl (jle rfl) (jle rfl)
set_option maxHeartbeats 4000000 in
set_option maxRecDepth 100000 in
theorem x_op (l : Launch) (G : jG) (A : xA) (S : xS) (t : xT) (wr : Int32) (B : xB) (Z : xZ) (P : xC) (Q : xN) (V : xV) (L : xL) (T : jMem) {D : mD} (w : Int32) (hd : dR D B Z D.2.2.1) (hb : nB B.2.2.1 12 ∧ nB B.2.2.2.2 60) (hs : B.2.1 = 1) : jC l G yX10_op cX10_op 2 (some .int) 7 102 0 0 [.ref 0, .int w] (encX A S t wr B Z P Q V L T) (.inl (some (.int (lI (opOfF D w))), encX A S t wr B Z P Q V L T)) := by
  refine jC.of (by decide) 0 rfl [some (.ref 0), some (.int w)] rfl (fun p e s m args below meth c C hT9 hNm9 => ?_)
  have hm1 := hd.2.2.2.1.1
  have hm2 := hb.2.1
  have hxo : ∀ w, xoF Z w B.2.2.2.2.1 0 = opOfF D w := fun w => by rw [hm1, xoF_eq (fun i hi => (hd.2.2.2.2 i hi).1)]; rfl
  refine J_aload_n (pc := 0) C dX10_op_0 rfl rfl ?_
  refine J_callV0 (pc := 1) C dX10_op_1 m_X10_103 (x_needD l G _ _ _ _ _ _ _ _ _ _ _ hs) ⟨jle rfl, jle rfl⟩ rfl rfl rfl rfl rfl (jle rfl) ⟨Nat.zero_le _, Nat.zero_le _⟩ ?_
  try dsimp only
  refine J_aload_n (pc := 4) C dX10_op_4 rfl rfl ?_
  refine J_get (pc := 5) C dX10_op_5 f_X10_29 rfl rfl ?_
  refine J_iload_n (pc := 8) C dX10_op_8 rfl rfl ?_
  refine J_callV1 (pc := 9) C dX10_op_9 m_X10_118 (x_opOf l G _ _ _ _ _ _ _ _ _ _ _ w (by omega)) ⟨jle rfl, jle rfl⟩ rfl rfl rfl rfl rfl (jle rfl) ⟨Nat.zero_le _, Nat.zero_le _⟩ ?_
  try dsimp only
  exact J_iret (pc := 12) C dX10_op_12 rfl (jo (by rw [hxo])) (Nat.zero_le _) (Nat.zero_le _)
set_option maxHeartbeats 4000000 in
set_option maxRecDepth 100000 in
theorem x_op_x (l : Launch) (G : jG) (A : xA) (S : xS) (t : xT) (wr : Int32) (B : xB) (Z : xZ) (P : xC) (Q : xN) (V : xV) (L : xL) (T : jMem) (w : Int32) (hst : l.stackTraces = false) (hs : B.2.1 = 0) : jCp l G yX10_op cX10_op 2 (some .int) 7 102 1 6 [.ref 0, .int w] (encX A S t wr B Z P Q V L T) ((fun o => o = .inr (eIS, jno (encX A S t wr B Z P Q V L T)))) := by
  refine jCp.of (by decide) 0 rfl [some (.ref 0), some (.int w)] rfl (fun p e s m args below meth c C hT9 hz9 => ?_)
  refine E_aload_n (pc := 0) C dX10_op_0 rfl rfl ?_
  exact E_callVx (pc := 1) C hT9 dX10_op_1 m_X10_103 (x_needD_x l G _ _ _ _ _ _ _ _ _ _ _ hst hs) ⟨jle rfl, jle rfl⟩ rfl rfl rfl rfl rfl (jle rfl) ⟨jle rfl, jle rfl⟩ (jle rfl) (jle rfl) (rfl)
set_option maxHeartbeats 4000000 in
set_option maxRecDepth 100000 in
theorem x_operand_x (l : Launch) (G : jG) (A : xA) (S : xS) (t : xT) (wr : Int32) (B : xB) (Z : xZ) (P : xC) (Q : xN) (V : xV) (L : xL) (T : jMem) (w kx : Int32) (hst : l.stackTraces = false) (hs : B.2.1 = 0) : jCp l G yX10_operand cX10_operand 4 (some .long) 7 102 1 6 [.ref 0, .int w, .int kx] (encX A S t wr B Z P Q V L T) ((fun o => o = .inr (eIS, jno (encX A S t wr B Z P Q V L T)))) := by
  refine jCp.of (by decide) 1 rfl [some (.ref 0), some (.int w), some (.int kx), none] rfl (fun p e s m args below meth c C hT9 hz9 => ?_)
  refine E_aload_n (pc := 0) C dX10_operand_0 rfl rfl ?_
  exact E_callVx (pc := 1) C hT9 dX10_operand_1 m_X10_103 (x_needD_x l G _ _ _ _ _ _ _ _ _ _ _ hst hs) ⟨jle rfl, jle rfl⟩ rfl rfl rfl rfl rfl (jle rfl) ⟨jle rfl, jle rfl⟩ (jle rfl) (jle rfl) (rfl)
set_option maxHeartbeats 4000000 in
set_option maxRecDepth 100000 in
theorem x_operand (l : Launch) (G : jG) (A : xA) (S : xS) (t : xT) (wr : Int32) (B : xB) (Z : xZ) (P : xC) (Q : xN) (V : xV) (L : xL) (T : jMem) {D : mD} (w : Int32) (o k : Nat) (hd : dR D B Z D.2.2.1) (hb : nB B.2.2.1 12 ∧ nB B.2.2.2.2 60) (hs : B.2.1 = 1) (ho9 : opOfF D w = o) (ho : o < D.2.2.1) (hk : k < mOpds D o) : jC l G yX10_operand cX10_operand 4 (some .long) 7 102 0 0 [.ref 0, .int w, .int (nI k)] (encX A S t wr B Z P Q V L T) (.inl (some (.long (takenF D o w k)), encX A S t wr B Z P Q V L T)) := by
  refine jC.of (by decide) 1 rfl [some (.ref 0), some (.int w), some (.int (nI k)), none] rfl (fun p e s m args below meth c C hT9 hNm9 => ?_)
  have hm1 := hd.2.2.2.1.1
  have hm2 := hb.2.1
  have hxo : ∀ w, xoF Z w B.2.2.2.2.1 0 = opOfF D w := fun w => by rw [hm1, xoF_eq (fun i hi => (hd.2.2.2.2 i hi).1)]; rfl
  have ho6 : o < 60 := by omega
  obtain ⟨hR, hW⟩ := hd.2.2.2.2 o ho
  have hk7 : k < 6 := Nat.lt_of_lt_of_le hk hR.1.2.1
  have hpd := hR.2.1 k hk
  have hsz := hR.1.1
  have hs6 := hR.1.2.1
  have hlo : lI (opOfF D w) = nI o := by rw [ho9]; unfold lI; rw [if_neg (by omega)]
  refine J_aload_n (pc := 0) C dX10_operand_0 rfl rfl ?_
  refine J_callV0 (pc := 1) C dX10_operand_1 m_X10_103 (x_needD l G _ _ _ _ _ _ _ _ _ _ _ hs) ⟨jle rfl, jle rfl⟩ rfl rfl rfl rfl rfl (jle rfl) ⟨Nat.zero_le _, Nat.zero_le _⟩ ?_
  try dsimp only
  refine J_aload_n (pc := 4) C dX10_operand_4 rfl rfl ?_
  refine J_get (pc := 5) C dX10_operand_5 f_X10_29 rfl rfl ?_
  refine J_iload_n (pc := 8) C dX10_operand_8 rfl rfl ?_
  refine J_callV1 (pc := 9) C dX10_operand_9 m_X10_118 (x_opOf l G _ _ _ _ _ _ _ _ _ _ _ w (by omega)) ⟨jle rfl, jle rfl⟩ rfl rfl rfl rfl rfl (jle rfl) ⟨Nat.zero_le _, Nat.zero_le _⟩ ?_
  try dsimp only
  rw [hxo, hlo]
  refine J_istore_n (pc := 12) C dX10_operand_12 rfl (by decide) rfl ?_
  dsimp only [List.set]
  refine J_iload_n (pc := 13) C dX10_operand_13 rfl rfl ?_
  refine J_if_ltN (pc := 14) (tgt := 37) C dX10_operand_14 (by decide) (by omega) ?_
  refine J_iload_n (pc := 17) C dX10_operand_17 rfl rfl ?_
  refine J_if_ltN (pc := 18) (tgt := 37) C dX10_operand_18 (by decide) (by omega) ?_
  refine J_iload_n (pc := 21) C dX10_operand_21 rfl rfl ?_
  refine J_aload_n (pc := 22) C dX10_operand_22 rfl rfl ?_
  refine J_get (pc := 23) C dX10_operand_23 f_X10_29 rfl rfl ?_
  refine J_get (pc := 26) C dX10_operand_26 f_X10_122 rfl rfl ?_
  refine J_iload_n (pc := 29) C dX10_operand_29 rfl rfl ?_
  refine J_aaldN (pc := 30) C dX10_operand_30 rfl (by decide) (by omega) (by decide) rfl ?_
  refine J_get (pc := 31) C dX10_operand_31 f_X10_126 (gX_op ho6) rfl ?_
  try dsimp only
  refine J_icmp_ltN (pc := 34) (tgt := 47) C dX10_operand_34 (by decide) (by omega) (by omega) (fun h34 => ?_) (fun h34 => ?_)
  · refine J_aload_n (pc := 47) C dX10_operand_47 rfl rfl ?_
    refine J_get (pc := 48) C dX10_operand_48 f_X10_29 rfl rfl ?_
    refine J_get (pc := 51) C dX10_operand_51 f_X10_122 rfl rfl ?_
    refine J_iload_n (pc := 54) C dX10_operand_54 rfl rfl ?_
    refine J_aaldN (pc := 55) C dX10_operand_55 rfl (by decide) (by omega) (by decide) rfl ?_
    refine J_get (pc := 56) C dX10_operand_56 f_X10_131 (gX_op ho6) rfl ?_
    refine J_iload_n (pc := 59) C dX10_operand_59 rfl rfl ?_
    refine J_aaldN (pc := 60) C dX10_operand_60 (gX_ops ho6) (by decide) (by omega) (by decide) rfl ?_
    refine J_iload_n (pc := 61) C dX10_operand_61 rfl rfl ?_
    refine J_callV1 (pc := 62) C dX10_operand_62 m_X10_135 (x_gather l G _ _ _ _ _ _ _ w (gX_pd ho6 hk7 hpd.2.1) (gX_opl ho6 hk7) hpd.1 hpd.2.2.1) ⟨jle rfl, jle rfl⟩ (gX_pd ho6 hk7 hpd.2.1) rfl rfl rfl rfl (jle rfl) ⟨Nat.zero_le _, Nat.zero_le _⟩ ?_
    try dsimp only
    exact J_lret (pc := 65) C dX10_operand_65 rfl (jol (hR.tak hW w hk)) (Nat.zero_le _) (Nat.zero_le _)
  · omega
set_option maxHeartbeats 4000000 in
set_option maxRecDepth 100000 in
theorem x_operand_0 (l : Launch) (G : jG) (A : xA) (S : xS) (t : xT) (wr : Int32) (B : xB) (Z : xZ) (P : xC) (Q : xN) (V : xV) (L : xL) (T : jMem) {D : mD} (w kx : Int32) (hst : l.stackTraces = false) (hd : dR D B Z D.2.2.1) (hb : nB B.2.2.1 12 ∧ nB B.2.2.2.2 60) (hs : B.2.1 = 1) (ho : opOfF D w = 1000) : jCp l G yX10_operand cX10_operand 4 (some .long) 7 102 1 6 [.ref 0, .int w, .int kx] (encX A S t wr B Z P Q V L T) ((fun o => o = .inr (eIO, jno (encX A S t wr B Z P Q V L T)))) := by
  refine jCp.of (by decide) 1 rfl [some (.ref 0), some (.int w), some (.int kx), none] rfl (fun p e s m args below meth c C hT9 hz9 => ?_)
  have hm1 := hd.2.2.2.1.1
  have hm2 := hb.2.1
  have hxo : ∀ w, xoF Z w B.2.2.2.2.1 0 = opOfF D w := fun w => by rw [hm1, xoF_eq (fun i hi => (hd.2.2.2.2 i hi).1)]; rfl
  refine E_aload_n (pc := 0) C dX10_operand_0 rfl rfl ?_
  refine E_callV0 (pc := 1) C dX10_operand_1 m_X10_103 (x_needD l G _ _ _ _ _ _ _ _ _ _ _ hs) ⟨jle rfl, jle rfl⟩ rfl rfl rfl rfl rfl (jle rfl) ⟨Nat.zero_le _, Nat.zero_le _⟩ ?_
  try dsimp only
  refine E_aload_n (pc := 4) C dX10_operand_4 rfl rfl ?_
  refine E_get (pc := 5) C dX10_operand_5 f_X10_29 rfl rfl ?_
  refine E_iload_n (pc := 8) C dX10_operand_8 rfl rfl ?_
  refine E_callV1 (pc := 9) C dX10_operand_9 m_X10_118 (x_opOf l G _ _ _ _ _ _ _ _ _ _ _ w (by omega)) ⟨jle rfl, jle rfl⟩ rfl rfl rfl rfl rfl (jle rfl) ⟨Nat.zero_le _, Nat.zero_le _⟩ ?_
  try dsimp only
  rw [hxo, ho]
  refine E_istore_n (pc := 12) C dX10_operand_12 rfl (by decide) rfl ?_
  dsimp only [List.set]
  refine E_iload_n (pc := 13) C dX10_operand_13 rfl rfl ?_
  refine E_if_lt (pc := 14) (tgt := 37) C dX10_operand_14 (by decide) (fun h14 => ?_) (fun h14 => ?_)
  · exact E_throw (pc := 37) (ik := 69) (is := 129) (ic := 73) (i := 12) (names := eUp) C hst hT9 (by decide) (by decide) kl_X10_69 in_IO rfl at_X10_69 ot_X10_69 dX10_operand_37 dX10_operand_40 dX10_operand_41 dX10_operand_43 dX10_operand_46 ⟨by decide, jle rfl, jle rfl, jle rfl⟩ rfl (jle rfl) (jle rfl)
  · exact absurd (by decide) h14
set_option maxHeartbeats 4000000 in
set_option maxRecDepth 100000 in
theorem x_operand_1 (l : Launch) (G : jG) (A : xA) (S : xS) (t : xT) (wr : Int32) (B : xB) (Z : xZ) (P : xC) (Q : xN) (V : xV) (L : xL) (T : jMem) {D : mD} (w kx : Int32) (o : Nat) (hst : l.stackTraces = false) (hd : dR D B Z D.2.2.1) (hb : nB B.2.2.1 12 ∧ nB B.2.2.2.2 60) (hs : B.2.1 = 1) (ho9 : opOfF D w = o) (ho : o < D.2.2.1) (hk : kx < 0 ∨ nI (mOpds D o) ≤ kx) : jCp l G yX10_operand cX10_operand 4 (some .long) 7 102 1 6 [.ref 0, .int w, .int kx] (encX A S t wr B Z P Q V L T) ((fun o => o = .inr (eIO, jno (encX A S t wr B Z P Q V L T)))) := by
  refine jCp.of (by decide) 1 rfl [some (.ref 0), some (.int w), some (.int kx), none] rfl (fun p e s m args below meth c C hT9 hz9 => ?_)
  have hm1 := hd.2.2.2.1.1
  have hm2 := hb.2.1
  have hxo : ∀ w, xoF Z w B.2.2.2.2.1 0 = opOfF D w := fun w => by rw [hm1, xoF_eq (fun i hi => (hd.2.2.2.2 i hi).1)]; rfl
  have ho6 : o < 60 := by omega
  obtain ⟨hR, hW⟩ := hd.2.2.2.2 o ho
  have hsz := hR.1.1
  have hlo : lI (opOfF D w) = nI o := by rw [ho9]; unfold lI; rw [if_neg (by omega)]
  refine E_aload_n (pc := 0) C dX10_operand_0 rfl rfl ?_
  refine E_callV0 (pc := 1) C dX10_operand_1 m_X10_103 (x_needD l G _ _ _ _ _ _ _ _ _ _ _ hs) ⟨jle rfl, jle rfl⟩ rfl rfl rfl rfl rfl (jle rfl) ⟨Nat.zero_le _, Nat.zero_le _⟩ ?_
  try dsimp only
  refine E_aload_n (pc := 4) C dX10_operand_4 rfl rfl ?_
  refine E_get (pc := 5) C dX10_operand_5 f_X10_29 rfl rfl ?_
  refine E_iload_n (pc := 8) C dX10_operand_8 rfl rfl ?_
  refine E_callV1 (pc := 9) C dX10_operand_9 m_X10_118 (x_opOf l G _ _ _ _ _ _ _ _ _ _ _ w (by omega)) ⟨jle rfl, jle rfl⟩ rfl rfl rfl rfl rfl (jle rfl) ⟨Nat.zero_le _, Nat.zero_le _⟩ ?_
  try dsimp only
  rw [hxo, hlo]
  refine E_istore_n (pc := 12) C dX10_operand_12 rfl (by decide) rfl ?_
  dsimp only [List.set]
  refine E_iload_n (pc := 13) C dX10_operand_13 rfl rfl ?_
  refine E_if_ltN (pc := 14) (tgt := 37) C dX10_operand_14 (by decide) (by omega) ?_
  refine E_iload_n (pc := 17) C dX10_operand_17 rfl rfl ?_
  refine E_if_lt (pc := 18) (tgt := 37) C dX10_operand_18 (by decide) (fun h18 => ?_) (fun h18 => ?_)
  · exact E_throw (pc := 37) (ik := 69) (is := 129) (ic := 73) (i := 12) (names := eUp) C hst hT9 (by decide) (by decide) kl_X10_69 in_IO rfl at_X10_69 ot_X10_69 dX10_operand_37 dX10_operand_40 dX10_operand_41 dX10_operand_43 dX10_operand_46 ⟨by decide, jle rfl, jle rfl, jle rfl⟩ rfl (jle rfl) (jle rfl)
  · refine E_iload_n (pc := 21) C dX10_operand_21 rfl rfl ?_
    refine E_aload_n (pc := 22) C dX10_operand_22 rfl rfl ?_
    refine E_get (pc := 23) C dX10_operand_23 f_X10_29 rfl rfl ?_
    refine E_get (pc := 26) C dX10_operand_26 f_X10_122 rfl rfl ?_
    refine E_iload_n (pc := 29) C dX10_operand_29 rfl rfl ?_
    refine E_aaldN (pc := 30) C dX10_operand_30 rfl (by decide) (by omega) (by decide) rfl ?_
    refine E_get (pc := 31) C dX10_operand_31 f_X10_126 (gX_op ho6) rfl ?_
    try dsimp only
    rw [hsz]
    refine E_icmp_lt (pc := 34) (tgt := 47) C dX10_operand_34 (by decide) (fun h34 => ?_) (fun h34 => ?_)
    · (rcases hk with z | z; exact absurd z h18; exact absurd h34 (Int32.not_lt.mpr z))
    · exact E_throw (pc := 37) (ik := 69) (is := 129) (ic := 73) (i := 12) (names := eUp) C hst hT9 (by decide) (by decide) kl_X10_69 in_IO rfl at_X10_69 ot_X10_69 dX10_operand_37 dX10_operand_40 dX10_operand_41 dX10_operand_43 dX10_operand_46 ⟨by decide, jle rfl, jle rfl, jle rfl⟩ rfl (jle rfl) (jle rfl)
set_option maxHeartbeats 4000000 in
set_option maxRecDepth 100000 in
theorem x_text (l : Launch) (G : jG) (A : xA) (S : xS) (t : xT) (wr : Int32) (B : xB) (Z : xZ) (P : xC) (Q : xN) (V : xV) (L : xL) (T : jMem) {D : mD} (w : Int32) (hd : dR D B Z D.2.2.1) (hb : nB B.2.2.1 12 ∧ nB B.2.2.2.2 60) (hs : B.2.1 = 1) : jC l G yX10_text cX10_text 2 (some .int) 9 188 0 0 [.ref 0, .int w] (encX A S t wr B Z P Q V L T) (.inl (some (.int (nI (apO (0, L.2) (textL D w)).1)), encX A S t wr B Z P Q V (apO (0, L.2) (textL D w)) T)) := by
  refine jC.of (by decide) 0 rfl [some (.ref 0), some (.int w)] rfl (fun p e s m args below meth c C hT9 hNm9 => ?_)
  refine J_aload_n (pc := 0) C dX10_text_0 rfl rfl ?_
  refine J_callV0 (pc := 1) C dX10_text_1 m_X10_103 (x_needD l G _ _ _ _ _ _ _ _ _ _ _ hs) ⟨jle rfl, jle rfl⟩ rfl rfl rfl rfl rfl (jle rfl) ⟨Nat.zero_le _, Nat.zero_le _⟩ ?_
  try dsimp only
  refine J_aload_n (pc := 4) C dX10_text_4 rfl rfl ?_
  refine J_get (pc := 5) C dX10_text_5 f_X10_61 rfl rfl ?_
  refine J_aload_n (pc := 8) C dX10_text_8 rfl rfl ?_
  refine J_get (pc := 9) C dX10_text_9 f_X10_29 rfl rfl ?_
  refine J_iload_n (pc := 12) C dX10_text_12 rfl rfl ?_
  refine J_callV0 (pc := 13) C dX10_text_13 m_X10_147 (x_write l G _ _ _ _ _ _ _ _ _ _ _ w hd hb) ⟨jle rfl, jle rfl⟩ rfl rfl rfl rfl rfl (jle rfl) ⟨Nat.zero_le _, Nat.zero_le _⟩ ?_
  try dsimp only
  refine J_aload_n (pc := 16) C dX10_text_16 rfl rfl ?_
  refine J_get (pc := 17) C dX10_text_17 f_X10_61 rfl rfl ?_
  refine J_get (pc := 20) C dX10_text_20 f_X10_151 rfl rfl ?_
  try dsimp only
  exact J_iret (pc := 23) C dX10_text_23 rfl (rfl) (Nat.zero_le _) (Nat.zero_le _)
set_option maxHeartbeats 4000000 in
set_option maxRecDepth 100000 in
theorem x_text_x (l : Launch) (G : jG) (A : xA) (S : xS) (t : xT) (wr : Int32) (B : xB) (Z : xZ) (P : xC) (Q : xN) (V : xV) (L : xL) (T : jMem) (w : Int32) (hst : l.stackTraces = false) (hs : B.2.1 = 0) : jCp l G yX10_text cX10_text 2 (some .int) 9 188 1 6 [.ref 0, .int w] (encX A S t wr B Z P Q V L T) ((fun o => o = .inr (eIS, jno (encX A S t wr B Z P Q V L T)))) := by
  refine jCp.of (by decide) 0 rfl [some (.ref 0), some (.int w)] rfl (fun p e s m args below meth c C hT9 hz9 => ?_)
  refine E_aload_n (pc := 0) C dX10_text_0 rfl rfl ?_
  exact E_callVx (pc := 1) C hT9 dX10_text_1 m_X10_103 (x_needD_x l G _ _ _ _ _ _ _ _ _ _ _ hst hs) ⟨jle rfl, jle rfl⟩ rfl rfl rfl rfl rfl (jle rfl) ⟨jle rfl, jle rfl⟩ (jle rfl) (jle rfl) (rfl)
set_option maxHeartbeats 4000000 in
set_option maxRecDepth 100000 in
theorem x_let (l : Launch) (G : jG) (A : xA) (S : xS) (t : xT) (wr : Int32) (B : xB) (Z : xZ) (P : xC) (Q : xN) (V : xV) (L : xL) (T : jMem) (k : Nat) (hk : k < (L.1 + 7) / 8) (ho : L.1 ≤ 96) (hL : ∀ q, q < L.1 → L.2 q < 256) : jC l G yX10_letters cX10_letters 2 (some .long) 6 82 0 0 [.ref 0, .int (nI k)] (encX A S t wr B Z P Q V L T) (.inl (some (.long (l8F L k 0 0)), encX A S t wr B Z P Q V L T)) := by
  refine jC.of (by decide) 0 rfl [some (.ref 0), some (.int (nI k))] rfl (fun p e s m args below meth c C hT9 hNm9 => ?_)
  refine J_iload_n (pc := 0) C dX10_letters_0 rfl rfl ?_
  refine J_if_ltN (pc := 1) (tgt := 21) C dX10_letters_1 (by decide) (by omega) ?_
  refine J_iload_n (pc := 4) C dX10_letters_4 rfl rfl ?_
  refine J_aload_n (pc := 5) C dX10_letters_5 rfl rfl ?_
  refine J_get (pc := 6) C dX10_letters_6 f_X10_61 rfl rfl ?_
  refine J_get (pc := 9) C dX10_letters_9 f_X10_151 rfl rfl ?_
  try dsimp only
  refine J_bipush (pc := 12) (v := nI 7) C dX10_letters_12 (by decide) ?_
  refine J_iaddN (pc := 14) C dX10_letters_14 ?_
  refine J_bipush (pc := 15) (v := nI 8) C dX10_letters_15 (by decide) ?_
  refine J_idivN (pc := 17) C dX10_letters_17 (by omega) (by omega) (by omega) ?_
  refine J_icmp_ltN (pc := 18) (tgt := 31) C dX10_letters_18 (by decide) (by omega) (by omega) (fun h18 => ?_) (fun h18 => ?_)
  · refine J_aload_n (pc := 31) C dX10_letters_31 rfl rfl ?_
    refine J_get (pc := 32) C dX10_letters_32 f_X10_61 rfl rfl ?_
    refine J_bipush (pc := 35) (v := nI 8) C dX10_letters_35 (by decide) ?_
    refine J_iload_n (pc := 37) C dX10_letters_37 rfl rfl ?_
    refine J_imulN (pc := 38) C dX10_letters_38 ?_
    refine J_callV1 (pc := 39) C dX10_letters_39 m_X10_154 (x_eightFrom l G _ _ _ _ _ _ _ _ _ _ _ k (by omega) ho hL) ⟨jle rfl, jle rfl⟩ rfl rfl rfl rfl rfl (jle rfl) ⟨Nat.zero_le _, Nat.zero_le _⟩ ?_
    try dsimp only
    exact J_lret (pc := 42) C dX10_letters_42 rfl (rfl) (Nat.zero_le _) (Nat.zero_le _)
  · omega
set_option maxHeartbeats 4000000 in
set_option maxRecDepth 100000 in
theorem x_let_x (l : Launch) (G : jG) (A : xA) (S : xS) (t : xT) (wr : Int32) (B : xB) (Z : xZ) (P : xC) (Q : xN) (V : xV) (L : xL) (T : jMem) (v : Int32) (hst : l.stackTraces = false) (hv : v < 0 ∨ nI ((L.1 + 7) / 8) ≤ v) (ho : L.1 ≤ 96) : jCp l G yX10_letters cX10_letters 2 (some .long) 6 82 1 6 [.ref 0, .int v] (encX A S t wr B Z P Q V L T) ((fun o => o = .inr (eIO, jno (encX A S t wr B Z P Q V L T)))) := by
  refine jCp.of (by decide) 0 rfl [some (.ref 0), some (.int v)] rfl (fun p e s m args below meth c C hT9 hz9 => ?_)
  refine E_iload_n (pc := 0) C dX10_letters_0 rfl rfl ?_
  refine E_if_lt (pc := 1) (tgt := 21) C dX10_letters_1 (by decide) (fun h1 => ?_) (fun h1 => ?_)
  · exact E_throw (pc := 21) (ik := 69) (is := 152) (ic := 73) (i := 18) (names := eUp) C hst hT9 (by decide) (by decide) kl_X10_69 in_IO rfl at_X10_69 ot_X10_69 dX10_letters_21 dX10_letters_24 dX10_letters_25 dX10_letters_27 dX10_letters_30 ⟨by decide, jle rfl, jle rfl, jle rfl⟩ rfl (jle rfl) (jle rfl)
  · refine E_iload_n (pc := 4) C dX10_letters_4 rfl rfl ?_
    refine E_aload_n (pc := 5) C dX10_letters_5 rfl rfl ?_
    refine E_get (pc := 6) C dX10_letters_6 f_X10_61 rfl rfl ?_
    refine E_get (pc := 9) C dX10_letters_9 f_X10_151 rfl rfl ?_
    try dsimp only
    refine E_bipush (pc := 12) (v := nI 7) C dX10_letters_12 (by decide) ?_
    refine E_iaddN (pc := 14) C dX10_letters_14 ?_
    refine E_bipush (pc := 15) (v := nI 8) C dX10_letters_15 (by decide) ?_
    refine E_idivN (pc := 17) C dX10_letters_17 (by omega) (by omega) (by omega) ?_
    refine E_icmp_lt (pc := 18) (tgt := 31) C dX10_letters_18 (by decide) (fun h18 => ?_) (fun h18 => ?_)
    · (rcases hv with z | z; exact absurd z h1; exact absurd h18 (Int32.not_lt.mpr z))
    · exact E_throw (pc := 21) (ik := 69) (is := 152) (ic := 73) (i := 18) (names := eUp) C hst hT9 (by decide) (by decide) kl_X10_69 in_IO rfl at_X10_69 ot_X10_69 dX10_letters_21 dX10_letters_24 dX10_letters_25 dX10_letters_27 dX10_letters_30 ⟨by decide, jle rfl, jle rfl, jle rfl⟩ rfl (jle rfl) (jle rfl)
