set_option maxHeartbeats 4000000 in
set_option maxRecDepth 100000 in
theorem x_look (l : Launch) (G : jG) (A : xA) (S : xS) (t : xT) (wr : Int32) (B : xB) (Z : xZ) (P : xC) (Q : xN) (V : xV) (L : xL) (T : jMem) (hi : t.1 < 4001) : jC l G yX9_look cX9_look 1 none 1 12 0 0 [.ref 3] (encX A S t wr B Z P Q V L T) (.inl (none, encX A S (t.1, S.2.2.1 t.1, S.2.2.2.1 t.1, S.2.2.2.2 t.1) wr B Z P Q V L T)) := by
  refine jC.of (by decide) 0 rfl [some (.ref 3)] rfl (fun p e s m args below meth c C hT9 hNm9 => ?_)
  refine J_aload_n (pc := 0) C dX9_look_0 rfl rfl ?_
  refine J_aload_n (pc := 1) C dX9_look_1 rfl rfl ?_
  refine J_get (pc := 2) C dX9_look_2 f_X9_36 rfl rfl ?_
  refine J_get (pc := 5) C dX9_look_5 f_X9_61 rfl rfl ?_
  refine J_aload_n (pc := 8) C dX9_look_8 rfl rfl ?_
  refine J_get (pc := 9) C dX9_look_9 f_X9_9 rfl rfl ?_
  try dsimp only [tt]
  refine J_ialdN (pc := 12) C dX9_look_12 rfl (by omega) (by decide) ?_
  try dsimp only [tt]
  refine J_putU (pc := 13) C dX9_look_13 p_X9_15 rfl (jlt rfl) rfl rfl (uX_kind _) ?_
  try dsimp only [tt]
  refine J_aload_n (pc := 16) C dX9_look_16 rfl rfl ?_
  refine J_aload_n (pc := 17) C dX9_look_17 rfl rfl ?_
  refine J_get (pc := 18) C dX9_look_18 f_X9_36 rfl rfl ?_
  refine J_get (pc := 21) C dX9_look_21 f_X9_64 rfl rfl ?_
  refine J_aload_n (pc := 24) C dX9_look_24 rfl rfl ?_
  refine J_get (pc := 25) C dX9_look_25 f_X9_9 rfl rfl ?_
  try dsimp only [tt]
  refine J_ialdN (pc := 28) C dX9_look_28 rfl (by omega) (by decide) ?_
  try dsimp only [tt]
  refine J_putU (pc := 29) C dX9_look_29 p_X9_18 rfl (jlt rfl) rfl rfl (uX_start _) ?_
  try dsimp only [tt]
  refine J_aload_n (pc := 32) C dX9_look_32 rfl rfl ?_
  refine J_aload_n (pc := 33) C dX9_look_33 rfl rfl ?_
  refine J_get (pc := 34) C dX9_look_34 f_X9_36 rfl rfl ?_
  refine J_get (pc := 37) C dX9_look_37 f_X9_67 rfl rfl ?_
  refine J_aload_n (pc := 40) C dX9_look_40 rfl rfl ?_
  refine J_get (pc := 41) C dX9_look_41 f_X9_9 rfl rfl ?_
  try dsimp only [tt]
  refine J_ialdN (pc := 44) C dX9_look_44 rfl (by omega) (by decide) ?_
  try dsimp only [tt]
  refine J_putU (pc := 45) C dX9_look_45 p_X9_21 rfl (jlt rfl) rfl rfl (uX_end _) ?_
  try dsimp only [tt]
  exact J_vret (pc := 48) C dX9_look_48 rfl (rfl) (Nat.zero_le _) (Nat.zero_le _)
set_option maxHeartbeats 4000000 in
set_option maxRecDepth 100000 in
theorem x_advance (l : Launch) (G : jG) {X : Nat × (Nat → Nat)} {ix : Nat} {K : Nat × Nat × Nat} (A : xA) (S : xS) (wr : Int32) (B : xB) (Z : xZ) (P : xC) (Q : xN) (V : xV) (L : xL) (T : jMem) (hx : xcx X A S) (hk : xtk X S ix K) : jC l G yX9_advance cX9_advance 1 none 2 32 0 0 [.ref 3] (encX A S (tt X ix K) wr B Z P Q V L T) (.inl (none, encX A S (tt X (axF ix K) (nextF X K.2.2)) wr B Z P Q V L T)) := by
  refine jC.of (by decide) 0 rfl [some (.ref 3)] rfl (fun p e s m args below meth c C hT9 hNm9 => ?_)
  have hX1 := hx.1
  have hX2 := hx.2.1
  have hoc := hx.2.2.1
  have hS := hx.2.2.2.1
  have hok := hx.2.2.2.2
  have hn := hk.n
  have hg := hn.g
  have hg1 := hg.1
  have hg2 := hg1.1
  have hg3 := hg1.2.1
  have hkl := kcl_lt hX2 (K := K)
  have hix := hk.lt hS
  have hat := hk.at hS
  refine J_aload_n (pc := 0) C dX9_advance_0 rfl rfl ?_
  refine J_get (pc := 1) C dX9_advance_1 f_X9_15 rfl rfl ?_
  try dsimp only [tt]
  refine J_sipush (pc := 4) (v := nI 128) C dX9_advance_4 (by decide) ?_
  refine J_icmp_eqN (pc := 7) (tgt := 20) C dX9_advance_7 (by decide) (by omega) (by omega) (fun h7 => ?_) (fun h7 => ?_)
  · refine J_aload_n (pc := 20) C dX9_advance_20 rfl rfl ?_
    refine J_callV0 (pc := 21) C dX9_advance_21 m_X9_51 (x_look l G A S _ wr B Z P Q V L T (by first | exact hix | (show ix + 1 < 4001; exact hix2))) ⟨jle rfl, jle rfl⟩ rfl rfl rfl rfl rfl (jle rfl) ⟨Nat.zero_le _, Nat.zero_le _⟩ ?_
    try dsimp only [tt]
    exact J_vret (pc := 24) C dX9_advance_24 rfl (jo2 (by first | (have h0 : K.1 = 0 := (kcl_0 hn hok).mp h7; show encX A S (tt X (axF ix K) (nextF X K.2.2)) wr B Z P Q V L T = encX A S (ix, S.2.2.1 ix, S.2.2.2.1 ix, S.2.2.2.2 ix) wr B Z P Q V L T; rw [(tkN_end hn h0).2, axF, if_pos h0, hat.1, hat.2.1, hat.2.2]; rfl) | (show encX A S (tt X (axF ix K) (nextF X K.2.2)) wr B Z P Q V L T = encX A S (ix + 1, S.2.2.1 (ix + 1), S.2.2.2.1 (ix + 1), S.2.2.2.2 (ix + 1)) wr B Z P Q V L T; rw [axF, if_neg h0, hat2.1, hat2.2.1, hat2.2.2]; rfl))) (Nat.zero_le _) (Nat.zero_le _)
  · have h0 : K.1 ≠ 0 := fun z => h7 ((kcl_0 hn hok).mpr z)
    have hk2 := hk.next hS h0
    have hix2 := hk2.lt hS
    have hat2 := hk2.at hS
    refine J_aload_n (pc := 10) C dX9_advance_10 rfl rfl ?_
    refine J_dup (pc := 11) C dX9_advance_11 rfl ?_
    refine J_get (pc := 12) C dX9_advance_12 f_X9_9 rfl rfl ?_
    try dsimp only [tt]
    refine J_iconst (pc := 15) (v := nI 1) C dX9_advance_15 (by decide) ?_
    refine J_iaddN (pc := 16) C dX9_advance_16 ?_
    refine J_putU (pc := 17) C dX9_advance_17 p_X9_9 rfl (jlt rfl) rfl rfl (uX_index _) ?_
    try dsimp only [tt]
    refine J_aload_n (pc := 20) C dX9_advance_20 rfl rfl ?_
    refine J_callV0 (pc := 21) C dX9_advance_21 m_X9_51 (x_look l G A S _ wr B Z P Q V L T (by first | exact hix | (show ix + 1 < 4001; exact hix2))) ⟨jle rfl, jle rfl⟩ rfl rfl rfl rfl rfl (jle rfl) ⟨Nat.zero_le _, Nat.zero_le _⟩ ?_
    try dsimp only [tt]
    exact J_vret (pc := 24) C dX9_advance_24 rfl (jo2 (by first | (have h0 : K.1 = 0 := (kcl_0 hn hok).mp h7; show encX A S (tt X (axF ix K) (nextF X K.2.2)) wr B Z P Q V L T = encX A S (ix, S.2.2.1 ix, S.2.2.2.1 ix, S.2.2.2.2 ix) wr B Z P Q V L T; rw [(tkN_end hn h0).2, axF, if_pos h0, hat.1, hat.2.1, hat.2.2]; rfl) | (show encX A S (tt X (axF ix K) (nextF X K.2.2)) wr B Z P Q V L T = encX A S (ix + 1, S.2.2.1 (ix + 1), S.2.2.2.1 (ix + 1), S.2.2.2.2 (ix + 1)) wr B Z P Q V L T; rw [axF, if_neg h0, hat2.1, hat2.2.1, hat2.2.2]; rfl))) (Nat.zero_le _) (Nat.zero_le _)
set_option maxHeartbeats 4000000 in
set_option maxRecDepth 100000 in
theorem x_refuse (l : Launch) (G : jG) (A : xA) (S : xS) (t : xT) (wr : Int32) (B : xB) (Z : xZ) (P : xC) (Q : xN) (V : xV) (L : xL) (T : jMem) (n : Nat) (hst : l.stackTraces = false) : jCp l G yX9_refuse cX9_refuse 2 none 6 82 1 6 [.ref 3, .int (nI n)] (encX A S t wr B Z P Q V L T) ((fun o => o = .inr (eIA, jno (encX A S t (nI n) B Z P Q V L T)))) := by
  refine jCp.of (by decide) 0 rfl [some (.ref 3), some (.int (nI n))] rfl (fun p e s m args below meth c C hT9 hz9 => ?_)
  refine E_aload_n (pc := 0) C dX9_refuse_0 rfl rfl ?_
  refine E_iload_n (pc := 1) C dX9_refuse_1 rfl rfl ?_
  refine E_putU (pc := 2) C dX9_refuse_2 p_X9_24 rfl (jlt rfl) rfl rfl (uX_wrongAt _) ?_
  try dsimp only [tt]
  exact E_throw (pc := 5) (ik := 54) (is := 56) (ic := 58) (i := 2) (names := eUp) C hst hT9 (by decide) (by decide) kl_X9_54 in_IA rfl at_X9_54 ot_X9_54 dX9_refuse_5 dX9_refuse_8 dX9_refuse_9 dX9_refuse_11 dX9_refuse_14 ⟨by decide, jle rfl, jle rfl, jle rfl⟩ rfl (jle rfl) (jle rfl)
set_option maxHeartbeats 4000000 in
set_option maxRecDepth 100000 in
theorem x_take (l : Launch) (G : jG) {X : Nat × (Nat → Nat)} {ix : Nat} {K : Nat × Nat × Nat} (A : xA) (S : xS) (wr : Int32) (B : xB) (Z : xZ) (P : xC) (Q : xN) (V : xV) (L : xL) (T : jMem) (c9 : Nat) (hx : xcx X A S) (hk : xtk X S ix K) (hq : kcl X K = c9) : jC l G yX9_take cX9_take 2 none 7 103 0 0 [.ref 3, .int (nI c9)] (encX A S (tt X ix K) wr B Z P Q V L T) (.inl (none, encX A S (tt X (axF ix K) (nextF X K.2.2)) wr B Z P Q V L T)) := by
  refine jC.of (by decide) 0 rfl [some (.ref 3), some (.int (nI c9))] rfl (fun p e s m args below meth c C hT9 hNm9 => ?_)
  have hX1 := hx.1
  have hX2 := hx.2.1
  have hoc := hx.2.2.1
  have hS := hx.2.2.2.1
  have hok := hx.2.2.2.2
  have hn := hk.n
  have hg := hn.g
  have hg1 := hg.1
  have hg2 := hg1.1
  have hg3 := hg1.2.1
  have hkl := kcl_lt hX2 (K := K)
  have hix := hk.lt hS
  have hat := hk.at hS
  refine J_aload_n (pc := 0) C dX9_take_0 rfl rfl ?_
  refine J_get (pc := 1) C dX9_take_1 f_X9_15 rfl rfl ?_
  try dsimp only [tt]
  refine J_iload_n (pc := 4) C dX9_take_4 rfl rfl ?_
  refine J_icmp_eqN (pc := 5) (tgt := 16) C dX9_take_5 (by decide) (by omega) (by omega) (fun h5 => ?_) (fun h5 => ?_)
  · refine J_aload_n (pc := 16) C dX9_take_16 rfl rfl ?_
    refine J_callV0 (pc := 17) C dX9_take_17 m_X9_70 (x_advance l G A S wr _ Z P _ V L T hx hk) ⟨jle rfl, jle rfl⟩ rfl rfl rfl rfl rfl (jle rfl) ⟨Nat.zero_le _, Nat.zero_le _⟩ ?_
    try dsimp only [tt]
    exact J_vret (pc := 20) C dX9_take_20 rfl (rfl) (Nat.zero_le _) (Nat.zero_le _)
  · exact absurd hq h5
set_option maxHeartbeats 4000000 in
set_option maxRecDepth 100000 in
theorem x_take_x (l : Launch) (G : jG) {X : Nat × (Nat → Nat)} {ix : Nat} {K : Nat × Nat × Nat} (A : xA) (S : xS) (wr : Int32) (B : xB) (Z : xZ) (P : xC) (Q : xN) (V : xV) (L : xL) (T : jMem) (c9 : Nat) (hst : l.stackTraces = false) (hx : xcx X A S) (hk : xtk X S ix K) (hc9 : c9 < 256) (hq : kcl X K ≠ c9) : jCp l G yX9_take cX9_take 2 none 7 103 1 6 [.ref 3, .int (nI c9)] (encX A S (tt X ix K) wr B Z P Q V L T) ((fun o => o = .inr (eIA, jno (encX A S (tt X ix K) (nI K.2.1) B Z P Q V L T)))) := by
  refine jCp.of (by decide) 0 rfl [some (.ref 3), some (.int (nI c9))] rfl (fun p e s m args below meth c C hT9 hz9 => ?_)
  have hX1 := hx.1
  have hX2 := hx.2.1
  have hoc := hx.2.2.1
  have hS := hx.2.2.2.1
  have hok := hx.2.2.2.2
  have hn := hk.n
  have hg := hn.g
  have hg1 := hg.1
  have hg2 := hg1.1
  have hg3 := hg1.2.1
  have hkl := kcl_lt hX2 (K := K)
  have hix := hk.lt hS
  have hat := hk.at hS
  refine E_aload_n (pc := 0) C dX9_take_0 rfl rfl ?_
  refine E_get (pc := 1) C dX9_take_1 f_X9_15 rfl rfl ?_
  try dsimp only [tt]
  refine E_iload_n (pc := 4) C dX9_take_4 rfl rfl ?_
  refine E_icmp_eqN (pc := 5) (tgt := 16) C dX9_take_5 (by decide) (by omega) (by omega) (fun h5 => ?_) (fun h5 => ?_)
  · exact absurd h5 hq
  · refine E_aload_n (pc := 8) C dX9_take_8 rfl rfl ?_
    refine E_aload_n (pc := 9) C dX9_take_9 rfl rfl ?_
    refine E_get (pc := 10) C dX9_take_10 f_X9_18 rfl rfl ?_
    try dsimp only [tt]
    exact E_callVx (pc := 13) C hT9 dX9_take_13 m_X9_44 (x_refuse l G A S _ wr B Z P Q V L T _ hst) ⟨jle rfl, jle rfl⟩ rfl rfl rfl rfl rfl (jle rfl) ⟨jle rfl, jle rfl⟩ (jle rfl) (jle rfl) (rfl)
set_option maxHeartbeats 4000000 in
set_option maxRecDepth 100000 in
theorem x_tnn_s (l : Launch) (G : jG) {X : Nat × (Nat → Nat)} {ix : Nat} {K : Nat × Nat × Nat} (A : xA) (S : xS) (wr : Int32) (B : xB) (Z : xZ) (P : xC) (Q : xN) (V : xV) (L : xL) (T : jMem) (nm9 : Nat → Nat) (m9 lo9 : Nat) (hx : xcx X A S) (hk : xtk X S ix K) (hA8 : ∀ k, A.2.1 k < 256) (hnB : nB B.2.2.1 12) (hnR : nR B.2.2.1 nm9 m9) (hlo : lo9 ≤ 12) (hlt : B.2.2.1.1 < 12) (hq : isNameF X K = true ∧ K.2.2 - K.2.1 ≤ lo9 ∧ findF X K nm9 m9 0 = 1000) : jC l G yX9_takeNewName cX9_takeNewName 3 none 7 103 0 0 [.ref 3, .ref 9, .int (nI lo9)] (encX A S (tt X ix K) wr B Z P Q V L T) (.inl (none, encX A S (tt X (axF ix K) (nextF X K.2.2)) wr (B.1, B.2.1, nAdd A.2.1 B.2.2.1 K.2.1 K.2.2, B.2.2.2.1, B.2.2.2.2) Z P Q V L T)) := by
  refine jC.of (by decide) 0 rfl [some (.ref 3), some (.ref 9), some (.int (nI lo9))] rfl (fun p e s m args below meth c C hT9 hNm9 => ?_)
  have hX1 := hx.1
  have hX2 := hx.2.1
  have hoc := hx.2.2.1
  have hS := hx.2.2.2.1
  have hok := hx.2.2.2.2
  have hn := hk.n
  have hg := hn.g
  have hg1 := hg.1
  have hg2 := hg1.1
  have hg3 := hg1.2.1
  have hkl := kcl_lt hX2 (K := K)
  have hix := hk.lt hS
  have hat := hk.at hS
  have hfe := hg1.1
  have hfd := nR_find hnR hn hoc 0
  rw [if_pos hq.1, hq.2.2] at hfd
  refine J_aload_n (pc := 0) C dX9_takeNewName_0 rfl rfl ?_
  refine J_get (pc := 1) C dX9_takeNewName_1 f_X9_15 rfl rfl ?_
  try dsimp only [tt]
  refine J_sipush (pc := 4) (v := nI 129) C dX9_takeNewName_4 (by decide) ?_
  refine J_icmp_neN (pc := 7) (tgt := 42) C dX9_takeNewName_7 (by decide) (by omega) (by omega) (fun h7 => ?_) (fun h7 => ?_)
  · exact absurd ((kcl_n hn hok).mpr hq.1) h7
  · refine J_aload_n (pc := 10) C dX9_takeNewName_10 rfl rfl ?_
    refine J_get (pc := 11) C dX9_takeNewName_11 f_X9_21 rfl rfl ?_
    try dsimp only [tt]
    refine J_aload_n (pc := 14) C dX9_takeNewName_14 rfl rfl ?_
    refine J_get (pc := 15) C dX9_takeNewName_15 f_X9_18 rfl rfl ?_
    try dsimp only [tt]
    refine J_isubN (pc := 18) C dX9_takeNewName_18 (by omega) ?_
    refine J_iload_n (pc := 19) C dX9_takeNewName_19 rfl rfl ?_
    refine J_icmp_gtN (pc := 20) (tgt := 42) C dX9_takeNewName_20 (by decide) (by omega) (by omega) (fun h20 => ?_) (fun h20 => ?_)
    · omega
    · refine J_aload_n (pc := 23) C dX9_takeNewName_23 rfl rfl ?_
      refine J_aload_n (pc := 24) C dX9_takeNewName_24 rfl rfl ?_
      refine J_get (pc := 25) C dX9_takeNewName_25 f_X9_27 rfl rfl ?_
      refine J_aload_n (pc := 28) C dX9_takeNewName_28 rfl rfl ?_
      refine J_get (pc := 29) C dX9_takeNewName_29 f_X9_18 rfl rfl ?_
      try dsimp only [tt]
      refine J_aload_n (pc := 32) C dX9_takeNewName_32 rfl rfl ?_
      refine J_get (pc := 33) C dX9_takeNewName_33 f_X9_21 rfl rfl ?_
      try dsimp only [tt]
      refine J_callV1 (pc := 36) C dX9_takeNewName_36 m_X9_73 (x_find l G _ 9 12 144 B.2.2.1 A.2.1 _ _ rfl rfl rfl rfl rfl hnB hA8 (by omega) (by omega)) ⟨jle rfl, jle rfl⟩ rfl rfl rfl rfl rfl (jle rfl) ⟨Nat.zero_le _, Nat.zero_le _⟩ ?_
      try dsimp only [tt]
      rw [hfd]
      refine J_if_lt (pc := 39) (tgt := 50) C dX9_takeNewName_39 (by decide) (fun h39 => ?_) (fun h39 => ?_)
      · refine J_aload_n (pc := 50) C dX9_takeNewName_50 rfl rfl ?_
        refine J_aload_n (pc := 51) C dX9_takeNewName_51 rfl rfl ?_
        refine J_get (pc := 52) C dX9_takeNewName_52 f_X9_27 rfl rfl ?_
        refine J_aload_n (pc := 55) C dX9_takeNewName_55 rfl rfl ?_
        refine J_get (pc := 56) C dX9_takeNewName_56 f_X9_18 rfl rfl ?_
        try dsimp only [tt]
        refine J_aload_n (pc := 59) C dX9_takeNewName_59 rfl rfl ?_
        refine J_get (pc := 60) C dX9_takeNewName_60 f_X9_21 rfl rfl ?_
        try dsimp only [tt]
        refine J_callV0 (pc := 63) C dX9_takeNewName_63 m_X9_79 (x_add l G _ _ _ _ 9 12 144 B.2.2.1 A.2.1 _ _ rfl rfl rfl rfl rfl hnB hA8 (by decide) (by omega) (by omega) hlt (by omega) (uX_snlen _) (uX_snlet _) (uX_snsize _)) ⟨jle rfl, jle rfl⟩ rfl rfl rfl rfl rfl (jle rfl) ⟨Nat.zero_le _, Nat.zero_le _⟩ ?_
        try dsimp only [tt]
        refine J_aload_n (pc := 66) C dX9_takeNewName_66 rfl rfl ?_
        refine J_callV0 (pc := 67) C dX9_takeNewName_67 m_X9_70 (x_advance l G A S wr _ Z P _ V L T hx hk) ⟨jle rfl, jle rfl⟩ rfl rfl rfl rfl rfl (jle rfl) ⟨Nat.zero_le _, Nat.zero_le _⟩ ?_
        try dsimp only [tt]
        exact J_vret (pc := 70) C dX9_takeNewName_70 rfl (rfl) (Nat.zero_le _) (Nat.zero_le _)
      · exact absurd (by decide) h39
set_option maxHeartbeats 4000000 in
set_option maxRecDepth 100000 in
theorem x_tnn_s_x (l : Launch) (G : jG) {X : Nat × (Nat → Nat)} {ix : Nat} {K : Nat × Nat × Nat} (A : xA) (S : xS) (wr : Int32) (B : xB) (Z : xZ) (P : xC) (Q : xN) (V : xV) (L : xL) (T : jMem) (nm9 : Nat → Nat) (m9 lo9 : Nat) (hst : l.stackTraces = false) (hx : xcx X A S) (hk : xtk X S ix K) (hA8 : ∀ k, A.2.1 k < 256) (hnB : nB B.2.2.1 12) (hnR : nR B.2.2.1 nm9 m9) (hlo : lo9 ≤ 12) (hq : ¬ (isNameF X K = true ∧ K.2.2 - K.2.1 ≤ lo9 ∧ findF X K nm9 m9 0 = 1000)) : jCp l G yX9_takeNewName cX9_takeNewName 3 none 7 103 1 6 [.ref 3, .ref 9, .int (nI lo9)] (encX A S (tt X ix K) wr B Z P Q V L T) ((fun o => o = .inr (eIA, jno (encX A S (tt X ix K) (nI K.2.1) B Z P Q V L T)))) := by
  refine jCp.of (by decide) 0 rfl [some (.ref 3), some (.ref 9), some (.int (nI lo9))] rfl (fun p e s m args below meth c C hT9 hz9 => ?_)
  have hX1 := hx.1
  have hX2 := hx.2.1
  have hoc := hx.2.2.1
  have hS := hx.2.2.2.1
  have hok := hx.2.2.2.2
  have hn := hk.n
  have hg := hn.g
  have hg1 := hg.1
  have hg2 := hg1.1
  have hg3 := hg1.2.1
  have hkl := kcl_lt hX2 (K := K)
  have hix := hk.lt hS
  have hat := hk.at hS
  have hfe := hg1.1
  have hfd := nR_find hnR hn hoc 0
  refine E_aload_n (pc := 0) C dX9_takeNewName_0 rfl rfl ?_
  refine E_get (pc := 1) C dX9_takeNewName_1 f_X9_15 rfl rfl ?_
  try dsimp only [tt]
  refine E_sipush (pc := 4) (v := nI 129) C dX9_takeNewName_4 (by decide) ?_
  refine E_icmp_neN (pc := 7) (tgt := 42) C dX9_takeNewName_7 (by decide) (by omega) (by omega) (fun h7 => ?_) (fun h7 => ?_)
  · refine E_aload_n (pc := 42) C dX9_takeNewName_42 rfl rfl ?_
    refine E_aload_n (pc := 43) C dX9_takeNewName_43 rfl rfl ?_
    refine E_get (pc := 44) C dX9_takeNewName_44 f_X9_18 rfl rfl ?_
    try dsimp only [tt]
    exact E_callVx (pc := 47) C hT9 dX9_takeNewName_47 m_X9_44 (x_refuse l G A S _ wr B Z P Q V L T _ hst) ⟨jle rfl, jle rfl⟩ rfl rfl rfl rfl rfl (jle rfl) ⟨jle rfl, jle rfl⟩ (jle rfl) (jle rfl) (rfl)
  · refine E_aload_n (pc := 10) C dX9_takeNewName_10 rfl rfl ?_
    refine E_get (pc := 11) C dX9_takeNewName_11 f_X9_21 rfl rfl ?_
    try dsimp only [tt]
    refine E_aload_n (pc := 14) C dX9_takeNewName_14 rfl rfl ?_
    refine E_get (pc := 15) C dX9_takeNewName_15 f_X9_18 rfl rfl ?_
    try dsimp only [tt]
    refine E_isubN (pc := 18) C dX9_takeNewName_18 (by omega) ?_
    refine E_iload_n (pc := 19) C dX9_takeNewName_19 rfl rfl ?_
    refine E_icmp_gtN (pc := 20) (tgt := 42) C dX9_takeNewName_20 (by decide) (by omega) (by omega) (fun h20 => ?_) (fun h20 => ?_)
    · refine E_aload_n (pc := 42) C dX9_takeNewName_42 rfl rfl ?_
      refine E_aload_n (pc := 43) C dX9_takeNewName_43 rfl rfl ?_
      refine E_get (pc := 44) C dX9_takeNewName_44 f_X9_18 rfl rfl ?_
      try dsimp only [tt]
      exact E_callVx (pc := 47) C hT9 dX9_takeNewName_47 m_X9_44 (x_refuse l G A S _ wr B Z P Q V L T _ hst) ⟨jle rfl, jle rfl⟩ rfl rfl rfl rfl rfl (jle rfl) ⟨jle rfl, jle rfl⟩ (jle rfl) (jle rfl) (rfl)
    · refine E_aload_n (pc := 23) C dX9_takeNewName_23 rfl rfl ?_
      refine E_aload_n (pc := 24) C dX9_takeNewName_24 rfl rfl ?_
      refine E_get (pc := 25) C dX9_takeNewName_25 f_X9_27 rfl rfl ?_
      refine E_aload_n (pc := 28) C dX9_takeNewName_28 rfl rfl ?_
      refine E_get (pc := 29) C dX9_takeNewName_29 f_X9_18 rfl rfl ?_
      try dsimp only [tt]
      refine E_aload_n (pc := 32) C dX9_takeNewName_32 rfl rfl ?_
      refine E_get (pc := 33) C dX9_takeNewName_33 f_X9_21 rfl rfl ?_
      try dsimp only [tt]
      refine E_callV1 (pc := 36) C dX9_takeNewName_36 m_X9_73 (x_find l G _ 9 12 144 B.2.2.1 A.2.1 _ _ rfl rfl rfl rfl rfl hnB hA8 (by omega) (by omega)) ⟨jle rfl, jle rfl⟩ rfl rfl rfl rfl rfl (jle rfl) ⟨Nat.zero_le _, Nat.zero_le _⟩ ?_
      try dsimp only [tt]
      have hnm := (kcl_n hn hok).mp h7
      rw [if_pos hnm] at hfd
      rw [hfd]
      have hfl := findF_lt (X := X) (K := K) (nm := nm9) (m := m9) (j := 0)
      have hm9 := hnR.1
      have hm8 := hnB.1
      refine E_if_lt (pc := 39) (tgt := 50) C dX9_takeNewName_39 (by decide) (fun h39 => ?_) (fun h39 => ?_)
      · exact absurd ⟨hnm, by omega, lI_lt0 (by omega) h39⟩ hq
      · refine E_aload_n (pc := 42) C dX9_takeNewName_42 rfl rfl ?_
        refine E_aload_n (pc := 43) C dX9_takeNewName_43 rfl rfl ?_
        refine E_get (pc := 44) C dX9_takeNewName_44 f_X9_18 rfl rfl ?_
        try dsimp only [tt]
        exact E_callVx (pc := 47) C hT9 dX9_takeNewName_47 m_X9_44 (x_refuse l G A S _ wr B Z P Q V L T _ hst) ⟨jle rfl, jle rfl⟩ rfl rfl rfl rfl rfl (jle rfl) ⟨jle rfl, jle rfl⟩ (jle rfl) (jle rfl) (rfl)
set_option maxHeartbeats 4000000 in
set_option maxRecDepth 100000 in
theorem x_tnn_o (l : Launch) (G : jG) {X : Nat × (Nat → Nat)} {ix : Nat} {K : Nat × Nat × Nat} (A : xA) (S : xS) (wr : Int32) (B : xB) (Z : xZ) (P : xC) (Q : xN) (V : xV) (L : xL) (T : jMem) (nm9 : Nat → Nat) (m9 lo9 : Nat) (hx : xcx X A S) (hk : xtk X S ix K) (hA8 : ∀ k, A.2.1 k < 256) (hnB : nB B.2.2.2.2 60) (hnR : nR B.2.2.2.2 nm9 m9) (hlo : lo9 ≤ 12) (hlt : B.2.2.2.2.1 < 60) (hq : isNameF X K = true ∧ K.2.2 - K.2.1 ≤ lo9 ∧ findF X K nm9 m9 0 = 1000) : jC l G yX9_takeNewName cX9_takeNewName 3 none 7 103 0 0 [.ref 3, .ref 13, .int (nI lo9)] (encX A S (tt X ix K) wr B Z P Q V L T) (.inl (none, encX A S (tt X (axF ix K) (nextF X K.2.2)) wr (B.1, B.2.1, B.2.2.1, B.2.2.2.1, nAdd A.2.1 B.2.2.2.2 K.2.1 K.2.2) Z P Q V L T)) := by
  refine jC.of (by decide) 0 rfl [some (.ref 3), some (.ref 13), some (.int (nI lo9))] rfl (fun p e s m args below meth c C hT9 hNm9 => ?_)
  have hX1 := hx.1
  have hX2 := hx.2.1
  have hoc := hx.2.2.1
  have hS := hx.2.2.2.1
  have hok := hx.2.2.2.2
  have hn := hk.n
  have hg := hn.g
  have hg1 := hg.1
  have hg2 := hg1.1
  have hg3 := hg1.2.1
  have hkl := kcl_lt hX2 (K := K)
  have hix := hk.lt hS
  have hat := hk.at hS
  have hfe := hg1.1
  have hfd := nR_find hnR hn hoc 0
  rw [if_pos hq.1, hq.2.2] at hfd
  refine J_aload_n (pc := 0) C dX9_takeNewName_0 rfl rfl ?_
  refine J_get (pc := 1) C dX9_takeNewName_1 f_X9_15 rfl rfl ?_
  try dsimp only [tt]
  refine J_sipush (pc := 4) (v := nI 129) C dX9_takeNewName_4 (by decide) ?_
  refine J_icmp_neN (pc := 7) (tgt := 42) C dX9_takeNewName_7 (by decide) (by omega) (by omega) (fun h7 => ?_) (fun h7 => ?_)
  · exact absurd ((kcl_n hn hok).mpr hq.1) h7
  · refine J_aload_n (pc := 10) C dX9_takeNewName_10 rfl rfl ?_
    refine J_get (pc := 11) C dX9_takeNewName_11 f_X9_21 rfl rfl ?_
    try dsimp only [tt]
    refine J_aload_n (pc := 14) C dX9_takeNewName_14 rfl rfl ?_
    refine J_get (pc := 15) C dX9_takeNewName_15 f_X9_18 rfl rfl ?_
    try dsimp only [tt]
    refine J_isubN (pc := 18) C dX9_takeNewName_18 (by omega) ?_
    refine J_iload_n (pc := 19) C dX9_takeNewName_19 rfl rfl ?_
    refine J_icmp_gtN (pc := 20) (tgt := 42) C dX9_takeNewName_20 (by decide) (by omega) (by omega) (fun h20 => ?_) (fun h20 => ?_)
    · omega
    · refine J_aload_n (pc := 23) C dX9_takeNewName_23 rfl rfl ?_
      refine J_aload_n (pc := 24) C dX9_takeNewName_24 rfl rfl ?_
      refine J_get (pc := 25) C dX9_takeNewName_25 f_X9_27 rfl rfl ?_
      refine J_aload_n (pc := 28) C dX9_takeNewName_28 rfl rfl ?_
      refine J_get (pc := 29) C dX9_takeNewName_29 f_X9_18 rfl rfl ?_
      try dsimp only [tt]
      refine J_aload_n (pc := 32) C dX9_takeNewName_32 rfl rfl ?_
      refine J_get (pc := 33) C dX9_takeNewName_33 f_X9_21 rfl rfl ?_
      try dsimp only [tt]
      refine J_callV1 (pc := 36) C dX9_takeNewName_36 m_X9_73 (x_find l G _ 13 60 720 B.2.2.2.2 A.2.1 _ _ rfl rfl rfl rfl rfl hnB hA8 (by omega) (by omega)) ⟨jle rfl, jle rfl⟩ rfl rfl rfl rfl rfl (jle rfl) ⟨Nat.zero_le _, Nat.zero_le _⟩ ?_
      try dsimp only [tt]
      rw [hfd]
      refine J_if_lt (pc := 39) (tgt := 50) C dX9_takeNewName_39 (by decide) (fun h39 => ?_) (fun h39 => ?_)
      · refine J_aload_n (pc := 50) C dX9_takeNewName_50 rfl rfl ?_
        refine J_aload_n (pc := 51) C dX9_takeNewName_51 rfl rfl ?_
        refine J_get (pc := 52) C dX9_takeNewName_52 f_X9_27 rfl rfl ?_
        refine J_aload_n (pc := 55) C dX9_takeNewName_55 rfl rfl ?_
        refine J_get (pc := 56) C dX9_takeNewName_56 f_X9_18 rfl rfl ?_
        try dsimp only [tt]
        refine J_aload_n (pc := 59) C dX9_takeNewName_59 rfl rfl ?_
        refine J_get (pc := 60) C dX9_takeNewName_60 f_X9_21 rfl rfl ?_
        try dsimp only [tt]
        refine J_callV0 (pc := 63) C dX9_takeNewName_63 m_X9_79 (x_add l G _ _ _ _ 13 60 720 B.2.2.2.2 A.2.1 _ _ rfl rfl rfl rfl rfl hnB hA8 (by decide) (by omega) (by omega) hlt (by omega) (uX_onlen _) (uX_onlet _) (uX_onsize _)) ⟨jle rfl, jle rfl⟩ rfl rfl rfl rfl rfl (jle rfl) ⟨Nat.zero_le _, Nat.zero_le _⟩ ?_
        try dsimp only [tt]
        refine J_aload_n (pc := 66) C dX9_takeNewName_66 rfl rfl ?_
        refine J_callV0 (pc := 67) C dX9_takeNewName_67 m_X9_70 (x_advance l G A S wr _ Z P _ V L T hx hk) ⟨jle rfl, jle rfl⟩ rfl rfl rfl rfl rfl (jle rfl) ⟨Nat.zero_le _, Nat.zero_le _⟩ ?_
        try dsimp only [tt]
        exact J_vret (pc := 70) C dX9_takeNewName_70 rfl (rfl) (Nat.zero_le _) (Nat.zero_le _)
      · exact absurd (by decide) h39
set_option maxHeartbeats 4000000 in
set_option maxRecDepth 100000 in
theorem x_tnn_o_x (l : Launch) (G : jG) {X : Nat × (Nat → Nat)} {ix : Nat} {K : Nat × Nat × Nat} (A : xA) (S : xS) (wr : Int32) (B : xB) (Z : xZ) (P : xC) (Q : xN) (V : xV) (L : xL) (T : jMem) (nm9 : Nat → Nat) (m9 lo9 : Nat) (hst : l.stackTraces = false) (hx : xcx X A S) (hk : xtk X S ix K) (hA8 : ∀ k, A.2.1 k < 256) (hnB : nB B.2.2.2.2 60) (hnR : nR B.2.2.2.2 nm9 m9) (hlo : lo9 ≤ 12) (hq : ¬ (isNameF X K = true ∧ K.2.2 - K.2.1 ≤ lo9 ∧ findF X K nm9 m9 0 = 1000)) : jCp l G yX9_takeNewName cX9_takeNewName 3 none 7 103 1 6 [.ref 3, .ref 13, .int (nI lo9)] (encX A S (tt X ix K) wr B Z P Q V L T) ((fun o => o = .inr (eIA, jno (encX A S (tt X ix K) (nI K.2.1) B Z P Q V L T)))) := by
  refine jCp.of (by decide) 0 rfl [some (.ref 3), some (.ref 13), some (.int (nI lo9))] rfl (fun p e s m args below meth c C hT9 hz9 => ?_)
  have hX1 := hx.1
  have hX2 := hx.2.1
  have hoc := hx.2.2.1
  have hS := hx.2.2.2.1
  have hok := hx.2.2.2.2
  have hn := hk.n
  have hg := hn.g
  have hg1 := hg.1
  have hg2 := hg1.1
  have hg3 := hg1.2.1
  have hkl := kcl_lt hX2 (K := K)
  have hix := hk.lt hS
  have hat := hk.at hS
  have hfe := hg1.1
  have hfd := nR_find hnR hn hoc 0
  refine E_aload_n (pc := 0) C dX9_takeNewName_0 rfl rfl ?_
  refine E_get (pc := 1) C dX9_takeNewName_1 f_X9_15 rfl rfl ?_
  try dsimp only [tt]
  refine E_sipush (pc := 4) (v := nI 129) C dX9_takeNewName_4 (by decide) ?_
  refine E_icmp_neN (pc := 7) (tgt := 42) C dX9_takeNewName_7 (by decide) (by omega) (by omega) (fun h7 => ?_) (fun h7 => ?_)
  · refine E_aload_n (pc := 42) C dX9_takeNewName_42 rfl rfl ?_
    refine E_aload_n (pc := 43) C dX9_takeNewName_43 rfl rfl ?_
    refine E_get (pc := 44) C dX9_takeNewName_44 f_X9_18 rfl rfl ?_
    try dsimp only [tt]
    exact E_callVx (pc := 47) C hT9 dX9_takeNewName_47 m_X9_44 (x_refuse l G A S _ wr B Z P Q V L T _ hst) ⟨jle rfl, jle rfl⟩ rfl rfl rfl rfl rfl (jle rfl) ⟨jle rfl, jle rfl⟩ (jle rfl) (jle rfl) (rfl)
  · refine E_aload_n (pc := 10) C dX9_takeNewName_10 rfl rfl ?_
    refine E_get (pc := 11) C dX9_takeNewName_11 f_X9_21 rfl rfl ?_
    try dsimp only [tt]
    refine E_aload_n (pc := 14) C dX9_takeNewName_14 rfl rfl ?_
    refine E_get (pc := 15) C dX9_takeNewName_15 f_X9_18 rfl rfl ?_
    try dsimp only [tt]
    refine E_isubN (pc := 18) C dX9_takeNewName_18 (by omega) ?_
    refine E_iload_n (pc := 19) C dX9_takeNewName_19 rfl rfl ?_
    refine E_icmp_gtN (pc := 20) (tgt := 42) C dX9_takeNewName_20 (by decide) (by omega) (by omega) (fun h20 => ?_) (fun h20 => ?_)
    · refine E_aload_n (pc := 42) C dX9_takeNewName_42 rfl rfl ?_
      refine E_aload_n (pc := 43) C dX9_takeNewName_43 rfl rfl ?_
      refine E_get (pc := 44) C dX9_takeNewName_44 f_X9_18 rfl rfl ?_
      try dsimp only [tt]
      exact E_callVx (pc := 47) C hT9 dX9_takeNewName_47 m_X9_44 (x_refuse l G A S _ wr B Z P Q V L T _ hst) ⟨jle rfl, jle rfl⟩ rfl rfl rfl rfl rfl (jle rfl) ⟨jle rfl, jle rfl⟩ (jle rfl) (jle rfl) (rfl)
    · refine E_aload_n (pc := 23) C dX9_takeNewName_23 rfl rfl ?_
      refine E_aload_n (pc := 24) C dX9_takeNewName_24 rfl rfl ?_
      refine E_get (pc := 25) C dX9_takeNewName_25 f_X9_27 rfl rfl ?_
      refine E_aload_n (pc := 28) C dX9_takeNewName_28 rfl rfl ?_
      refine E_get (pc := 29) C dX9_takeNewName_29 f_X9_18 rfl rfl ?_
      try dsimp only [tt]
      refine E_aload_n (pc := 32) C dX9_takeNewName_32 rfl rfl ?_
      refine E_get (pc := 33) C dX9_takeNewName_33 f_X9_21 rfl rfl ?_
      try dsimp only [tt]
      refine E_callV1 (pc := 36) C dX9_takeNewName_36 m_X9_73 (x_find l G _ 13 60 720 B.2.2.2.2 A.2.1 _ _ rfl rfl rfl rfl rfl hnB hA8 (by omega) (by omega)) ⟨jle rfl, jle rfl⟩ rfl rfl rfl rfl rfl (jle rfl) ⟨Nat.zero_le _, Nat.zero_le _⟩ ?_
      try dsimp only [tt]
      have hnm := (kcl_n hn hok).mp h7
      rw [if_pos hnm] at hfd
      rw [hfd]
      have hfl := findF_lt (X := X) (K := K) (nm := nm9) (m := m9) (j := 0)
      have hm9 := hnR.1
      have hm8 := hnB.1
      refine E_if_lt (pc := 39) (tgt := 50) C dX9_takeNewName_39 (by decide) (fun h39 => ?_) (fun h39 => ?_)
      · exact absurd ⟨hnm, by omega, lI_lt0 (by omega) h39⟩ hq
      · refine E_aload_n (pc := 42) C dX9_takeNewName_42 rfl rfl ?_
        refine E_aload_n (pc := 43) C dX9_takeNewName_43 rfl rfl ?_
        refine E_get (pc := 44) C dX9_takeNewName_44 f_X9_18 rfl rfl ?_
        try dsimp only [tt]
        exact E_callVx (pc := 47) C hT9 dX9_takeNewName_47 m_X9_44 (x_refuse l G A S _ wr B Z P Q V L T _ hst) ⟨jle rfl, jle rfl⟩ rfl rfl rfl rfl rfl (jle rfl) ⟨jle rfl, jle rfl⟩ (jle rfl) (jle rfl) (rfl)
set_option maxHeartbeats 4000000 in
set_option maxRecDepth 100000 in
theorem x_tnn_q (l : Launch) (G : jG) {X : Nat × (Nat → Nat)} {ix : Nat} {K : Nat × Nat × Nat} (A : xA) (S : xS) (wr : Int32) (B : xB) (Z : xZ) (P : xC) (Q : xN) (V : xV) (L : xL) (T : jMem) (nm9 : Nat → Nat) (m9 lo9 : Nat) (hx : xcx X A S) (hk : xtk X S ix K) (hA8 : ∀ k, A.2.1 k < 256) (hnB : nB Q 6) (hnR : nR Q nm9 m9) (hlo : lo9 ≤ 12) (hlt : Q.1 < 6) (hq : isNameF X K = true ∧ K.2.2 - K.2.1 ≤ lo9 ∧ findF X K nm9 m9 0 = 1000) : jC l G yX9_takeNewName cX9_takeNewName 3 none 7 103 0 0 [.ref 3, .ref 864, .int (nI lo9)] (encX A S (tt X ix K) wr B Z P Q V L T) (.inl (none, encX A S (tt X (axF ix K) (nextF X K.2.2)) wr B Z P (nAdd A.2.1 Q K.2.1 K.2.2) V L T)) := by
  refine jC.of (by decide) 0 rfl [some (.ref 3), some (.ref 864), some (.int (nI lo9))] rfl (fun p e s m args below meth c C hT9 hNm9 => ?_)
  have hX1 := hx.1
  have hX2 := hx.2.1
  have hoc := hx.2.2.1
  have hS := hx.2.2.2.1
  have hok := hx.2.2.2.2
  have hn := hk.n
  have hg := hn.g
  have hg1 := hg.1
  have hg2 := hg1.1
  have hg3 := hg1.2.1
  have hkl := kcl_lt hX2 (K := K)
  have hix := hk.lt hS
  have hat := hk.at hS
  have hfe := hg1.1
  have hfd := nR_find hnR hn hoc 0
  rw [if_pos hq.1, hq.2.2] at hfd
  refine J_aload_n (pc := 0) C dX9_takeNewName_0 rfl rfl ?_
  refine J_get (pc := 1) C dX9_takeNewName_1 f_X9_15 rfl rfl ?_
  try dsimp only [tt]
  refine J_sipush (pc := 4) (v := nI 129) C dX9_takeNewName_4 (by decide) ?_
  refine J_icmp_neN (pc := 7) (tgt := 42) C dX9_takeNewName_7 (by decide) (by omega) (by omega) (fun h7 => ?_) (fun h7 => ?_)
  · exact absurd ((kcl_n hn hok).mpr hq.1) h7
  · refine J_aload_n (pc := 10) C dX9_takeNewName_10 rfl rfl ?_
    refine J_get (pc := 11) C dX9_takeNewName_11 f_X9_21 rfl rfl ?_
    try dsimp only [tt]
    refine J_aload_n (pc := 14) C dX9_takeNewName_14 rfl rfl ?_
    refine J_get (pc := 15) C dX9_takeNewName_15 f_X9_18 rfl rfl ?_
    try dsimp only [tt]
    refine J_isubN (pc := 18) C dX9_takeNewName_18 (by omega) ?_
    refine J_iload_n (pc := 19) C dX9_takeNewName_19 rfl rfl ?_
    refine J_icmp_gtN (pc := 20) (tgt := 42) C dX9_takeNewName_20 (by decide) (by omega) (by omega) (fun h20 => ?_) (fun h20 => ?_)
    · omega
    · refine J_aload_n (pc := 23) C dX9_takeNewName_23 rfl rfl ?_
      refine J_aload_n (pc := 24) C dX9_takeNewName_24 rfl rfl ?_
      refine J_get (pc := 25) C dX9_takeNewName_25 f_X9_27 rfl rfl ?_
      refine J_aload_n (pc := 28) C dX9_takeNewName_28 rfl rfl ?_
      refine J_get (pc := 29) C dX9_takeNewName_29 f_X9_18 rfl rfl ?_
      try dsimp only [tt]
      refine J_aload_n (pc := 32) C dX9_takeNewName_32 rfl rfl ?_
      refine J_get (pc := 33) C dX9_takeNewName_33 f_X9_21 rfl rfl ?_
      try dsimp only [tt]
      refine J_callV1 (pc := 36) C dX9_takeNewName_36 m_X9_73 (x_find l G _ 864 6 72 Q A.2.1 _ _ rfl rfl rfl rfl rfl hnB hA8 (by omega) (by omega)) ⟨jle rfl, jle rfl⟩ rfl rfl rfl rfl rfl (jle rfl) ⟨Nat.zero_le _, Nat.zero_le _⟩ ?_
      try dsimp only [tt]
      rw [hfd]
      refine J_if_lt (pc := 39) (tgt := 50) C dX9_takeNewName_39 (by decide) (fun h39 => ?_) (fun h39 => ?_)
      · refine J_aload_n (pc := 50) C dX9_takeNewName_50 rfl rfl ?_
        refine J_aload_n (pc := 51) C dX9_takeNewName_51 rfl rfl ?_
        refine J_get (pc := 52) C dX9_takeNewName_52 f_X9_27 rfl rfl ?_
        refine J_aload_n (pc := 55) C dX9_takeNewName_55 rfl rfl ?_
        refine J_get (pc := 56) C dX9_takeNewName_56 f_X9_18 rfl rfl ?_
        try dsimp only [tt]
        refine J_aload_n (pc := 59) C dX9_takeNewName_59 rfl rfl ?_
        refine J_get (pc := 60) C dX9_takeNewName_60 f_X9_21 rfl rfl ?_
        try dsimp only [tt]
        refine J_callV0 (pc := 63) C dX9_takeNewName_63 m_X9_79 (x_add l G _ _ _ _ 864 6 72 Q A.2.1 _ _ rfl rfl rfl rfl rfl hnB hA8 (by decide) (by omega) (by omega) hlt (by omega) (uX_qnlen _) (uX_qnlet _) (uX_qnsize _)) ⟨jle rfl, jle rfl⟩ rfl rfl rfl rfl rfl (jle rfl) ⟨Nat.zero_le _, Nat.zero_le _⟩ ?_
        try dsimp only [tt]
        refine J_aload_n (pc := 66) C dX9_takeNewName_66 rfl rfl ?_
        refine J_callV0 (pc := 67) C dX9_takeNewName_67 m_X9_70 (x_advance l G A S wr _ Z P _ V L T hx hk) ⟨jle rfl, jle rfl⟩ rfl rfl rfl rfl rfl (jle rfl) ⟨Nat.zero_le _, Nat.zero_le _⟩ ?_
        try dsimp only [tt]
        exact J_vret (pc := 70) C dX9_takeNewName_70 rfl (rfl) (Nat.zero_le _) (Nat.zero_le _)
      · exact absurd (by decide) h39
set_option maxHeartbeats 4000000 in
set_option maxRecDepth 100000 in
theorem x_tnn_q_x (l : Launch) (G : jG) {X : Nat × (Nat → Nat)} {ix : Nat} {K : Nat × Nat × Nat} (A : xA) (S : xS) (wr : Int32) (B : xB) (Z : xZ) (P : xC) (Q : xN) (V : xV) (L : xL) (T : jMem) (nm9 : Nat → Nat) (m9 lo9 : Nat) (hst : l.stackTraces = false) (hx : xcx X A S) (hk : xtk X S ix K) (hA8 : ∀ k, A.2.1 k < 256) (hnB : nB Q 6) (hnR : nR Q nm9 m9) (hlo : lo9 ≤ 12) (hq : ¬ (isNameF X K = true ∧ K.2.2 - K.2.1 ≤ lo9 ∧ findF X K nm9 m9 0 = 1000)) : jCp l G yX9_takeNewName cX9_takeNewName 3 none 7 103 1 6 [.ref 3, .ref 864, .int (nI lo9)] (encX A S (tt X ix K) wr B Z P Q V L T) ((fun o => o = .inr (eIA, jno (encX A S (tt X ix K) (nI K.2.1) B Z P Q V L T)))) := by
  refine jCp.of (by decide) 0 rfl [some (.ref 3), some (.ref 864), some (.int (nI lo9))] rfl (fun p e s m args below meth c C hT9 hz9 => ?_)
  have hX1 := hx.1
  have hX2 := hx.2.1
  have hoc := hx.2.2.1
  have hS := hx.2.2.2.1
  have hok := hx.2.2.2.2
  have hn := hk.n
  have hg := hn.g
  have hg1 := hg.1
  have hg2 := hg1.1
  have hg3 := hg1.2.1
  have hkl := kcl_lt hX2 (K := K)
  have hix := hk.lt hS
  have hat := hk.at hS
  have hfe := hg1.1
  have hfd := nR_find hnR hn hoc 0
  refine E_aload_n (pc := 0) C dX9_takeNewName_0 rfl rfl ?_
  refine E_get (pc := 1) C dX9_takeNewName_1 f_X9_15 rfl rfl ?_
  try dsimp only [tt]
  refine E_sipush (pc := 4) (v := nI 129) C dX9_takeNewName_4 (by decide) ?_
  refine E_icmp_neN (pc := 7) (tgt := 42) C dX9_takeNewName_7 (by decide) (by omega) (by omega) (fun h7 => ?_) (fun h7 => ?_)
  · refine E_aload_n (pc := 42) C dX9_takeNewName_42 rfl rfl ?_
    refine E_aload_n (pc := 43) C dX9_takeNewName_43 rfl rfl ?_
    refine E_get (pc := 44) C dX9_takeNewName_44 f_X9_18 rfl rfl ?_
    try dsimp only [tt]
    exact E_callVx (pc := 47) C hT9 dX9_takeNewName_47 m_X9_44 (x_refuse l G A S _ wr B Z P Q V L T _ hst) ⟨jle rfl, jle rfl⟩ rfl rfl rfl rfl rfl (jle rfl) ⟨jle rfl, jle rfl⟩ (jle rfl) (jle rfl) (rfl)
  · refine E_aload_n (pc := 10) C dX9_takeNewName_10 rfl rfl ?_
    refine E_get (pc := 11) C dX9_takeNewName_11 f_X9_21 rfl rfl ?_
    try dsimp only [tt]
    refine E_aload_n (pc := 14) C dX9_takeNewName_14 rfl rfl ?_
    refine E_get (pc := 15) C dX9_takeNewName_15 f_X9_18 rfl rfl ?_
    try dsimp only [tt]
    refine E_isubN (pc := 18) C dX9_takeNewName_18 (by omega) ?_
    refine E_iload_n (pc := 19) C dX9_takeNewName_19 rfl rfl ?_
    refine E_icmp_gtN (pc := 20) (tgt := 42) C dX9_takeNewName_20 (by decide) (by omega) (by omega) (fun h20 => ?_) (fun h20 => ?_)
    · refine E_aload_n (pc := 42) C dX9_takeNewName_42 rfl rfl ?_
      refine E_aload_n (pc := 43) C dX9_takeNewName_43 rfl rfl ?_
      refine E_get (pc := 44) C dX9_takeNewName_44 f_X9_18 rfl rfl ?_
      try dsimp only [tt]
      exact E_callVx (pc := 47) C hT9 dX9_takeNewName_47 m_X9_44 (x_refuse l G A S _ wr B Z P Q V L T _ hst) ⟨jle rfl, jle rfl⟩ rfl rfl rfl rfl rfl (jle rfl) ⟨jle rfl, jle rfl⟩ (jle rfl) (jle rfl) (rfl)
    · refine E_aload_n (pc := 23) C dX9_takeNewName_23 rfl rfl ?_
      refine E_aload_n (pc := 24) C dX9_takeNewName_24 rfl rfl ?_
      refine E_get (pc := 25) C dX9_takeNewName_25 f_X9_27 rfl rfl ?_
      refine E_aload_n (pc := 28) C dX9_takeNewName_28 rfl rfl ?_
      refine E_get (pc := 29) C dX9_takeNewName_29 f_X9_18 rfl rfl ?_
      try dsimp only [tt]
      refine E_aload_n (pc := 32) C dX9_takeNewName_32 rfl rfl ?_
      refine E_get (pc := 33) C dX9_takeNewName_33 f_X9_21 rfl rfl ?_
      try dsimp only [tt]
      refine E_callV1 (pc := 36) C dX9_takeNewName_36 m_X9_73 (x_find l G _ 864 6 72 Q A.2.1 _ _ rfl rfl rfl rfl rfl hnB hA8 (by omega) (by omega)) ⟨jle rfl, jle rfl⟩ rfl rfl rfl rfl rfl (jle rfl) ⟨Nat.zero_le _, Nat.zero_le _⟩ ?_
      try dsimp only [tt]
      have hnm := (kcl_n hn hok).mp h7
      rw [if_pos hnm] at hfd
      rw [hfd]
      have hfl := findF_lt (X := X) (K := K) (nm := nm9) (m := m9) (j := 0)
      have hm9 := hnR.1
      have hm8 := hnB.1
      refine E_if_lt (pc := 39) (tgt := 50) C dX9_takeNewName_39 (by decide) (fun h39 => ?_) (fun h39 => ?_)
      · exact absurd ⟨hnm, by omega, lI_lt0 (by omega) h39⟩ hq
      · refine E_aload_n (pc := 42) C dX9_takeNewName_42 rfl rfl ?_
        refine E_aload_n (pc := 43) C dX9_takeNewName_43 rfl rfl ?_
        refine E_get (pc := 44) C dX9_takeNewName_44 f_X9_18 rfl rfl ?_
        try dsimp only [tt]
        exact E_callVx (pc := 47) C hT9 dX9_takeNewName_47 m_X9_44 (x_refuse l G A S _ wr B Z P Q V L T _ hst) ⟨jle rfl, jle rfl⟩ rfl rfl rfl rfl rfl (jle rfl) ⟨jle rfl, jle rfl⟩ (jle rfl) (jle rfl) (rfl)
set_option maxHeartbeats 4000000 in
set_option maxRecDepth 100000 in
theorem x_count (l : Launch) (G : jG) {X : Nat × (Nat → Nat)} {ix : Nat} {K : Nat × Nat × Nat} (A : xA) (S : xS) (wr : Int32) (B : xB) (Z : xZ) (P : xC) (Q : xN) (V : xV) (L : xL) (T : jMem) (a9 b9 : Nat) (hx : xcx X A S) (hk : xtk X S ix K) (ha9 : a9 < 100000) (hb9 : b9 < 100000) (hq : (K.1 = 2 ∧ K.2.2 - K.2.1 ≤ 4 ∧ a9 ≤ decF X K.2.2 K.2.1 0 ∧ decF X K.2.2 K.2.1 0 ≤ b9)) : jC l G yX9_takeCount cX9_takeCount 4 (some .int) 7 103 0 0 [.ref 3, .int (nI a9), .int (nI b9)] (encX A S (tt X ix K) wr B Z P Q V L T) (.inl (some (.int (nI (decF X K.2.2 K.2.1 0))), encX A S (tt X (axF ix K) (nextF X K.2.2)) wr B Z P Q V L T)) := by
  refine jC.of (by decide) 1 rfl [some (.ref 3), some (.int (nI a9)), some (.int (nI b9)), none] rfl (fun p e s m args below meth c C hT9 hNm9 => ?_)
  have hX1 := hx.1
  have hX2 := hx.2.1
  have hoc := hx.2.2.1
  have hS := hx.2.2.2.1
  have hok := hx.2.2.2.2
  have hn := hk.n
  have hg := hn.g
  have hg1 := hg.1
  have hg2 := hg1.1
  have hg3 := hg1.2.1
  have hkl := kcl_lt hX2 (K := K)
  have hix := hk.lt hS
  have hat := hk.at hS
  have hfe := hg1.1
  have hdl := small_lt (hg.2 hq.1) hq.2.1
  refine J_aload_n (pc := 0) C dX9_takeCount_0 rfl rfl ?_
  refine J_get (pc := 1) C dX9_takeCount_1 f_X9_15 rfl rfl ?_
  try dsimp only [tt]
  refine J_sipush (pc := 4) (v := nI 130) C dX9_takeCount_4 (by decide) ?_
  refine J_icmp_neN (pc := 7) (tgt := 23) C dX9_takeCount_7 (by decide) (by omega) (by omega) (fun h7 => ?_) (fun h7 => ?_)
  · exact absurd ((kcl_2 hn hok).mpr hq.1) h7
  · refine J_aload_n (pc := 10) C dX9_takeCount_10 rfl rfl ?_
    refine J_get (pc := 11) C dX9_takeCount_11 f_X9_21 rfl rfl ?_
    try dsimp only [tt]
    refine J_aload_n (pc := 14) C dX9_takeCount_14 rfl rfl ?_
    refine J_get (pc := 15) C dX9_takeCount_15 f_X9_18 rfl rfl ?_
    try dsimp only [tt]
    refine J_isubN (pc := 18) C dX9_takeCount_18 (by omega) ?_
    refine J_iconst (pc := 19) (v := nI 4) C dX9_takeCount_19 (by decide) ?_
    refine J_icmp_leN (pc := 20) (tgt := 31) C dX9_takeCount_20 (by decide) (by omega) (by omega) (fun h20 => ?_) (fun h20 => ?_)
    · refine J_aload_n (pc := 31) C dX9_takeCount_31 rfl rfl ?_
      refine J_callV1 (pc := 32) C dX9_takeCount_32 m_X9_83 (x_decimal l G _ X A.2.1 _ _ K.2.1 K.2.2 _ rfl rfl (by omega) hX2 (fun k hk => hoc k (by omega)) hg1.1 (hg.2 ((kcl_2 hn hok).mp h7))) ⟨jle rfl, jle rfl⟩ rfl rfl rfl rfl rfl (jle rfl) ⟨Nat.zero_le _, Nat.zero_le _⟩ ?_
      try dsimp only [tt]
      refine J_l2i (pc := 35) C dX9_takeCount_35 rfl ?_
      rw [lN_i]
      refine J_istore_n (pc := 36) C dX9_takeCount_36 rfl (by decide) rfl ?_
      dsimp only [List.set]
      refine J_iload_n (pc := 37) C dX9_takeCount_37 rfl rfl ?_
      refine J_iload_n (pc := 38) C dX9_takeCount_38 rfl rfl ?_
      refine J_icmp_ltN (pc := 39) (tgt := 47) C dX9_takeCount_39 (by decide) (by omega) (by omega) (fun h39 => ?_) (fun h39 => ?_)
      · omega
      · refine J_iload_n (pc := 42) C dX9_takeCount_42 rfl rfl ?_
        refine J_iload_n (pc := 43) C dX9_takeCount_43 rfl rfl ?_
        refine J_icmp_leN (pc := 44) (tgt := 55) C dX9_takeCount_44 (by decide) (by omega) (by omega) (fun h44 => ?_) (fun h44 => ?_)
        · refine J_aload_n (pc := 55) C dX9_takeCount_55 rfl rfl ?_
          refine J_callV0 (pc := 56) C dX9_takeCount_56 m_X9_70 (x_advance l G A S wr _ Z P _ V L T hx hk) ⟨jle rfl, jle rfl⟩ rfl rfl rfl rfl rfl (jle rfl) ⟨Nat.zero_le _, Nat.zero_le _⟩ ?_
          try dsimp only [tt]
          refine J_iload_n (pc := 59) C dX9_takeCount_59 rfl rfl ?_
          exact J_iret (pc := 60) C dX9_takeCount_60 rfl (rfl) (Nat.zero_le _) (Nat.zero_le _)
        · omega
    · omega
set_option maxHeartbeats 4000000 in
set_option maxRecDepth 100000 in
theorem x_count_x (l : Launch) (G : jG) {X : Nat × (Nat → Nat)} {ix : Nat} {K : Nat × Nat × Nat} (A : xA) (S : xS) (wr : Int32) (B : xB) (Z : xZ) (P : xC) (Q : xN) (V : xV) (L : xL) (T : jMem) (a9 b9 : Nat) (hst : l.stackTraces = false) (hx : xcx X A S) (hk : xtk X S ix K) (ha9 : a9 < 100000) (hb9 : b9 < 100000) (hq : ¬ (K.1 = 2 ∧ K.2.2 - K.2.1 ≤ 4 ∧ a9 ≤ decF X K.2.2 K.2.1 0 ∧ decF X K.2.2 K.2.1 0 ≤ b9)) : jCp l G yX9_takeCount cX9_takeCount 4 (some .int) 7 103 1 6 [.ref 3, .int (nI a9), .int (nI b9)] (encX A S (tt X ix K) wr B Z P Q V L T) ((fun o => o = .inr (eIA, jno (encX A S (tt X ix K) (nI K.2.1) B Z P Q V L T)))) := by
  refine jCp.of (by decide) 1 rfl [some (.ref 3), some (.int (nI a9)), some (.int (nI b9)), none] rfl (fun p e s m args below meth c C hT9 hz9 => ?_)
  have hX1 := hx.1
  have hX2 := hx.2.1
  have hoc := hx.2.2.1
  have hS := hx.2.2.2.1
  have hok := hx.2.2.2.2
  have hn := hk.n
  have hg := hn.g
  have hg1 := hg.1
  have hg2 := hg1.1
  have hg3 := hg1.2.1
  have hkl := kcl_lt hX2 (K := K)
  have hix := hk.lt hS
  have hat := hk.at hS
  have hfe := hg1.1
  refine E_aload_n (pc := 0) C dX9_takeCount_0 rfl rfl ?_
  refine E_get (pc := 1) C dX9_takeCount_1 f_X9_15 rfl rfl ?_
  try dsimp only [tt]
  refine E_sipush (pc := 4) (v := nI 130) C dX9_takeCount_4 (by decide) ?_
  refine E_icmp_neN (pc := 7) (tgt := 23) C dX9_takeCount_7 (by decide) (by omega) (by omega) (fun h7 => ?_) (fun h7 => ?_)
  · refine E_aload_n (pc := 23) C dX9_takeCount_23 rfl rfl ?_
    refine E_aload_n (pc := 24) C dX9_takeCount_24 rfl rfl ?_
    refine E_get (pc := 25) C dX9_takeCount_25 f_X9_18 rfl rfl ?_
    try dsimp only [tt]
    exact E_callVx (pc := 28) C hT9 dX9_takeCount_28 m_X9_44 (x_refuse l G A S _ wr B Z P Q V L T _ hst) ⟨jle rfl, jle rfl⟩ rfl rfl rfl rfl rfl (jle rfl) ⟨jle rfl, jle rfl⟩ (jle rfl) (jle rfl) (rfl)
  · refine E_aload_n (pc := 10) C dX9_takeCount_10 rfl rfl ?_
    refine E_get (pc := 11) C dX9_takeCount_11 f_X9_21 rfl rfl ?_
    try dsimp only [tt]
    refine E_aload_n (pc := 14) C dX9_takeCount_14 rfl rfl ?_
    refine E_get (pc := 15) C dX9_takeCount_15 f_X9_18 rfl rfl ?_
    try dsimp only [tt]
    refine E_isubN (pc := 18) C dX9_takeCount_18 (by omega) ?_
    refine E_iconst (pc := 19) (v := nI 4) C dX9_takeCount_19 (by decide) ?_
    refine E_icmp_leN (pc := 20) (tgt := 31) C dX9_takeCount_20 (by decide) (by omega) (by omega) (fun h20 => ?_) (fun h20 => ?_)
    · have h2 := (kcl_2 hn hok).mp h7
      have hdl := small_lt (hg.2 h2) (by omega)
      refine E_aload_n (pc := 31) C dX9_takeCount_31 rfl rfl ?_
      refine E_callV1 (pc := 32) C dX9_takeCount_32 m_X9_83 (x_decimal l G _ X A.2.1 _ _ K.2.1 K.2.2 _ rfl rfl (by omega) hX2 (fun k hk => hoc k (by omega)) hg1.1 (hg.2 ((kcl_2 hn hok).mp h7))) ⟨jle rfl, jle rfl⟩ rfl rfl rfl rfl rfl (jle rfl) ⟨Nat.zero_le _, Nat.zero_le _⟩ ?_
      try dsimp only [tt]
      refine E_l2i (pc := 35) C dX9_takeCount_35 rfl ?_
      rw [lN_i]
      refine E_istore_n (pc := 36) C dX9_takeCount_36 rfl (by decide) rfl ?_
      dsimp only [List.set]
      refine E_iload_n (pc := 37) C dX9_takeCount_37 rfl rfl ?_
      refine E_iload_n (pc := 38) C dX9_takeCount_38 rfl rfl ?_
      refine E_icmp_ltN (pc := 39) (tgt := 47) C dX9_takeCount_39 (by decide) (by omega) (by omega) (fun h39 => ?_) (fun h39 => ?_)
      · refine E_aload_n (pc := 47) C dX9_takeCount_47 rfl rfl ?_
        refine E_aload_n (pc := 48) C dX9_takeCount_48 rfl rfl ?_
        refine E_get (pc := 49) C dX9_takeCount_49 f_X9_18 rfl rfl ?_
        try dsimp only [tt]
        exact E_callVx (pc := 52) C hT9 dX9_takeCount_52 m_X9_44 (x_refuse l G A S _ wr B Z P Q V L T _ hst) ⟨jle rfl, jle rfl⟩ rfl rfl rfl rfl rfl (jle rfl) ⟨jle rfl, jle rfl⟩ (jle rfl) (jle rfl) (rfl)
      · refine E_iload_n (pc := 42) C dX9_takeCount_42 rfl rfl ?_
        refine E_iload_n (pc := 43) C dX9_takeCount_43 rfl rfl ?_
        refine E_icmp_leN (pc := 44) (tgt := 55) C dX9_takeCount_44 (by decide) (by omega) (by omega) (fun h44 => ?_) (fun h44 => ?_)
        · exact absurd ⟨h2, by omega, by omega, by omega⟩ hq
        · refine E_aload_n (pc := 47) C dX9_takeCount_47 rfl rfl ?_
          refine E_aload_n (pc := 48) C dX9_takeCount_48 rfl rfl ?_
          refine E_get (pc := 49) C dX9_takeCount_49 f_X9_18 rfl rfl ?_
          try dsimp only [tt]
          exact E_callVx (pc := 52) C hT9 dX9_takeCount_52 m_X9_44 (x_refuse l G A S _ wr B Z P Q V L T _ hst) ⟨jle rfl, jle rfl⟩ rfl rfl rfl rfl rfl (jle rfl) ⟨jle rfl, jle rfl⟩ (jle rfl) (jle rfl) (rfl)
    · refine E_aload_n (pc := 23) C dX9_takeCount_23 rfl rfl ?_
      refine E_aload_n (pc := 24) C dX9_takeCount_24 rfl rfl ?_
      refine E_get (pc := 25) C dX9_takeCount_25 f_X9_18 rfl rfl ?_
      try dsimp only [tt]
      exact E_callVx (pc := 28) C hT9 dX9_takeCount_28 m_X9_44 (x_refuse l G A S _ wr B Z P Q V L T _ hst) ⟨jle rfl, jle rfl⟩ rfl rfl rfl rfl rfl (jle rfl) ⟨jle rfl, jle rfl⟩ (jle rfl) (jle rfl) (rfl)
set_option maxHeartbeats 4000000 in
set_option maxRecDepth 100000 in
theorem l_tv (l : Launch) (G : jG) {p : Program} {e : Env} {s : State} {m : MethodId} {args : Array Value} {below : List Frame} {meth : Method} {c : Code} {X : Nat × (Nat → Nat)} {ix : Nat} {K : Nat × Nat × Nat} (A : xA) (S : xS) (wr : Int32) (B : xB) (Z : xZ) (P : xC) (Q : xN) (V : xV) (L : xL) (T : jMem) (a9 b9 : Int64) (q : Nat) (ng : Bool) (C : jX0 p l (jR 7 103 0 0) s m args meth c G cX9_takeValue 11 RX9 (some .long)) (hx : xcx X A S) (hk : xtk X S ix K) (hq1 : (K.1 = 3 ∨ (K.1 = 2 ∧ K.2.2 - K.2.1 ≤ 10))) (hq2 : jin2 a9 b9 (sgn ng (lN (numN X K))) = true) : J p l e (jR 7 103 0 0) s m args below meth c G 11 0 0 (.inl (some (.long (sgn ng (lN (numN X K)))), encX A S (tt X (axF ix K) (nextF X K.2.2)) wr B Z P Q V L T)) 31 [some (.ref 3), some (.long a9), none, some (.long b9), none, some (.int (nI q)), some (.int (bI ng)), none, none, none, none] [] (encX A S (tt X ix K) wr B Z P Q V L T) 0 0 := by
  have hX1 := hx.1
  have hX2 := hx.2.1
  have hoc := hx.2.2.1
  have hS := hx.2.2.2.1
  have hok := hx.2.2.2.2
  have hn := hk.n
  have hg := hn.g
  have hg1 := hg.1
  have hg2 := hg1.1
  have hg3 := hg1.2.1
  have hkl := kcl_lt hX2 (K := K)
  have hix := hk.lt hS
  have hat := hk.at hS
  have hfe := hg1.1
  have hj : a9 ≤ sgn ng (lN (numN X K)) ∧ sgn ng (lN (numN X K)) ≤ b9 := by simpa [jin2] using hq2
  have hnum : (K.1 = 3 → hexF X K.2.2 (K.2.1 + 2) 0 = numN X K) ∧ (K.1 ≠ 3 → decF X K.2.2 K.2.1 0 = numN X K) := ⟨fun z => by rw [numN, if_pos z], fun z => by rw [numN, if_neg z]⟩
  have hsg : (ng = true → -(lN (numN X K)) = sgn ng (lN (numN X K))) ∧ (ng = false → lN (numN X K) = sgn ng (lN (numN X K))) := ⟨fun z => by rw [sgn, if_pos z], fun z => by rw [sgn, if_neg (by rw [z]; decide)]⟩
  refine J_aload_n (pc := 31) C dX9_takeValue_31 rfl rfl ?_
  refine J_get (pc := 32) C dX9_takeValue_32 f_X9_15 rfl rfl ?_
  try dsimp only [tt]
  refine J_sipush (pc := 35) (v := nI 131) C dX9_takeValue_35 (by decide) ?_
  refine J_icmp_eqN (pc := 38) (tgt := 73) C dX9_takeValue_38 (by decide) (by omega) (by omega) (fun h38 => ?_) (fun h38 => ?_)
  · refine J_aload_n (pc := 73) C dX9_takeValue_73 rfl rfl ?_
    refine J_get (pc := 74) C dX9_takeValue_74 f_X9_15 rfl rfl ?_
    try dsimp only [tt]
    refine J_sipush (pc := 77) (v := nI 131) C dX9_takeValue_77 (by decide) ?_
    refine J_icmp_neN (pc := 80) (tgt := 90) C dX9_takeValue_80 (by decide) (by omega) (by omega) (fun h80 => ?_) (fun h80 => ?_)
    · have h2 : K.1 = 2 := by
        rcases hq1 with z | z
        · exact absurd ((kcl_3 hn hok).mpr z) h80
        · exact z.1
      refine J_aload_n (pc := 90) C dX9_takeValue_90 rfl rfl ?_
      refine J_callV1 (pc := 91) C dX9_takeValue_91 m_X9_83 (x_decimal l G _ X A.2.1 _ _ K.2.1 K.2.2 _ rfl rfl (by omega) hX2 (fun k hk => hoc k (by omega)) hg1.1 (hg.2 h2)) ⟨jle rfl, jle rfl⟩ rfl rfl rfl rfl rfl (jle rfl) ⟨Nat.zero_le _, Nat.zero_le _⟩ ?_
      try dsimp only [tt]
      try rw [hnum.2 (by omega)]
      refine J_lstore (pc := 94) C dX9_takeValue_94 (by decide) rfl ?_
      dsimp only [List.set]
      refine J_iload (pc := 96) C dX9_takeValue_96 rfl ?_
      refine J_if_eq (pc := 98) (tgt := 107) C dX9_takeValue_98 (by decide) (fun h98 => ?_) (fun h98 => ?_)
      · refine J_lload (pc := 107) C dX9_takeValue_107 rfl ?_
        refine J_lstore (pc := 109) C dX9_takeValue_109 (by decide) rfl ?_
        dsimp only [List.set]
        try rw [hsg.2 (bI_f h98)]
        refine J_lload (pc := 111) C dX9_takeValue_111 rfl ?_
        refine J_lload_n (pc := 113) C dX9_takeValue_113 rfl rfl ?_
        refine J_lcmp (pc := 114) C dX9_takeValue_114 ?_
        refine J_if_lt (pc := 115) (tgt := 125) C dX9_takeValue_115 (by decide) (fun h115 => ?_) (fun h115 => ?_)
        · exact absurd hj.1 (Int64.not_le.mpr ((lg_cmp_lt _ _).mp h115))
        · refine J_lload (pc := 118) C dX9_takeValue_118 rfl ?_
          refine J_lload_n (pc := 120) C dX9_takeValue_120 rfl rfl ?_
          refine J_lcmp (pc := 121) C dX9_takeValue_121 ?_
          refine J_if_le (pc := 122) (tgt := 131) C dX9_takeValue_122 (by decide) (fun h122 => ?_) (fun h122 => ?_)
          · refine J_aload_n (pc := 131) C dX9_takeValue_131 rfl rfl ?_
            refine J_callV0 (pc := 132) C dX9_takeValue_132 m_X9_70 (x_advance l G A S wr _ Z P _ V L T hx hk) ⟨jle rfl, jle rfl⟩ rfl rfl rfl rfl rfl (jle rfl) ⟨Nat.zero_le _, Nat.zero_le _⟩ ?_
            try dsimp only [tt]
            refine J_lload (pc := 135) C dX9_takeValue_135 rfl ?_
            exact J_lret (pc := 137) C dX9_takeValue_137 rfl (jol (by first | rfl | (rw [bI_f h98]; rfl))) (Nat.zero_le _) (Nat.zero_le _)
          · exact absurd hj.2 (Int64.not_le.mpr ((lg_cmp_gt _ _).mp (Int32.not_le.mp h122)))
      · refine J_lload (pc := 101) C dX9_takeValue_101 rfl ?_
        refine J_lneg (pc := 103) C dX9_takeValue_103 ?_
        rw [hsg.1 (bI_t h98)]
        refine J_goto (pc := 104) (tgt := 109) C dX9_takeValue_104 (by decide) ?_
        refine J_lstore (pc := 109) C dX9_takeValue_109 (by decide) rfl ?_
        dsimp only [List.set]
        try rw [hsg.2 (bI_f h98)]
        refine J_lload (pc := 111) C dX9_takeValue_111 rfl ?_
        refine J_lload_n (pc := 113) C dX9_takeValue_113 rfl rfl ?_
        refine J_lcmp (pc := 114) C dX9_takeValue_114 ?_
        refine J_if_lt (pc := 115) (tgt := 125) C dX9_takeValue_115 (by decide) (fun h115 => ?_) (fun h115 => ?_)
        · exact absurd hj.1 (Int64.not_le.mpr ((lg_cmp_lt _ _).mp h115))
        · refine J_lload (pc := 118) C dX9_takeValue_118 rfl ?_
          refine J_lload_n (pc := 120) C dX9_takeValue_120 rfl rfl ?_
          refine J_lcmp (pc := 121) C dX9_takeValue_121 ?_
          refine J_if_le (pc := 122) (tgt := 131) C dX9_takeValue_122 (by decide) (fun h122 => ?_) (fun h122 => ?_)
          · refine J_aload_n (pc := 131) C dX9_takeValue_131 rfl rfl ?_
            refine J_callV0 (pc := 132) C dX9_takeValue_132 m_X9_70 (x_advance l G A S wr _ Z P _ V L T hx hk) ⟨jle rfl, jle rfl⟩ rfl rfl rfl rfl rfl (jle rfl) ⟨Nat.zero_le _, Nat.zero_le _⟩ ?_
            try dsimp only [tt]
            refine J_lload (pc := 135) C dX9_takeValue_135 rfl ?_
            exact J_lret (pc := 137) C dX9_takeValue_137 rfl (jol (by first | rfl | (rw [bI_f h98]; rfl))) (Nat.zero_le _) (Nat.zero_le _)
          · exact absurd hj.2 (Int64.not_le.mpr ((lg_cmp_gt _ _).mp (Int32.not_le.mp h122)))
    · refine J_aload_n (pc := 83) C dX9_takeValue_83 rfl rfl ?_
      refine J_callV1 (pc := 84) C dX9_takeValue_84 m_X9_87 (x_hexadecimal l G _ X A.2.1 _ _ K.2.1 K.2.2 _ rfl rfl (by omega) hX2 (fun k hk => hoc k (by omega)) (tk_hex hX2 hn ((kcl_3 hn hok).mp h80)).1 (tk_hex hX2 hn ((kcl_3 hn hok).mp h80)).2) ⟨jle rfl, jle rfl⟩ rfl rfl rfl rfl rfl (jle rfl) ⟨Nat.zero_le _, Nat.zero_le _⟩ ?_
      try dsimp only [tt]
      rw [hnum.1 ((kcl_3 hn hok).mp h80)]
      refine J_goto (pc := 87) (tgt := 94) C dX9_takeValue_87 (by decide) ?_
      try rw [hnum.2 (by omega)]
      refine J_lstore (pc := 94) C dX9_takeValue_94 (by decide) rfl ?_
      dsimp only [List.set]
      refine J_iload (pc := 96) C dX9_takeValue_96 rfl ?_
      refine J_if_eq (pc := 98) (tgt := 107) C dX9_takeValue_98 (by decide) (fun h98 => ?_) (fun h98 => ?_)
      · refine J_lload (pc := 107) C dX9_takeValue_107 rfl ?_
        refine J_lstore (pc := 109) C dX9_takeValue_109 (by decide) rfl ?_
        dsimp only [List.set]
        try rw [hsg.2 (bI_f h98)]
        refine J_lload (pc := 111) C dX9_takeValue_111 rfl ?_
        refine J_lload_n (pc := 113) C dX9_takeValue_113 rfl rfl ?_
        refine J_lcmp (pc := 114) C dX9_takeValue_114 ?_
        refine J_if_lt (pc := 115) (tgt := 125) C dX9_takeValue_115 (by decide) (fun h115 => ?_) (fun h115 => ?_)
        · exact absurd hj.1 (Int64.not_le.mpr ((lg_cmp_lt _ _).mp h115))
        · refine J_lload (pc := 118) C dX9_takeValue_118 rfl ?_
          refine J_lload_n (pc := 120) C dX9_takeValue_120 rfl rfl ?_
          refine J_lcmp (pc := 121) C dX9_takeValue_121 ?_
          refine J_if_le (pc := 122) (tgt := 131) C dX9_takeValue_122 (by decide) (fun h122 => ?_) (fun h122 => ?_)
          · refine J_aload_n (pc := 131) C dX9_takeValue_131 rfl rfl ?_
            refine J_callV0 (pc := 132) C dX9_takeValue_132 m_X9_70 (x_advance l G A S wr _ Z P _ V L T hx hk) ⟨jle rfl, jle rfl⟩ rfl rfl rfl rfl rfl (jle rfl) ⟨Nat.zero_le _, Nat.zero_le _⟩ ?_
            try dsimp only [tt]
            refine J_lload (pc := 135) C dX9_takeValue_135 rfl ?_
            exact J_lret (pc := 137) C dX9_takeValue_137 rfl (jol (by first | rfl | (rw [bI_f h98]; rfl))) (Nat.zero_le _) (Nat.zero_le _)
          · exact absurd hj.2 (Int64.not_le.mpr ((lg_cmp_gt _ _).mp (Int32.not_le.mp h122)))
      · refine J_lload (pc := 101) C dX9_takeValue_101 rfl ?_
        refine J_lneg (pc := 103) C dX9_takeValue_103 ?_
        rw [hsg.1 (bI_t h98)]
        refine J_goto (pc := 104) (tgt := 109) C dX9_takeValue_104 (by decide) ?_
        refine J_lstore (pc := 109) C dX9_takeValue_109 (by decide) rfl ?_
        dsimp only [List.set]
        try rw [hsg.2 (bI_f h98)]
        refine J_lload (pc := 111) C dX9_takeValue_111 rfl ?_
        refine J_lload_n (pc := 113) C dX9_takeValue_113 rfl rfl ?_
        refine J_lcmp (pc := 114) C dX9_takeValue_114 ?_
        refine J_if_lt (pc := 115) (tgt := 125) C dX9_takeValue_115 (by decide) (fun h115 => ?_) (fun h115 => ?_)
        · exact absurd hj.1 (Int64.not_le.mpr ((lg_cmp_lt _ _).mp h115))
        · refine J_lload (pc := 118) C dX9_takeValue_118 rfl ?_
          refine J_lload_n (pc := 120) C dX9_takeValue_120 rfl rfl ?_
          refine J_lcmp (pc := 121) C dX9_takeValue_121 ?_
          refine J_if_le (pc := 122) (tgt := 131) C dX9_takeValue_122 (by decide) (fun h122 => ?_) (fun h122 => ?_)
          · refine J_aload_n (pc := 131) C dX9_takeValue_131 rfl rfl ?_
            refine J_callV0 (pc := 132) C dX9_takeValue_132 m_X9_70 (x_advance l G A S wr _ Z P _ V L T hx hk) ⟨jle rfl, jle rfl⟩ rfl rfl rfl rfl rfl (jle rfl) ⟨Nat.zero_le _, Nat.zero_le _⟩ ?_
            try dsimp only [tt]
            refine J_lload (pc := 135) C dX9_takeValue_135 rfl ?_
            exact J_lret (pc := 137) C dX9_takeValue_137 rfl (jol (by first | rfl | (rw [bI_f h98]; rfl))) (Nat.zero_le _) (Nat.zero_le _)
          · exact absurd hj.2 (Int64.not_le.mpr ((lg_cmp_gt _ _).mp (Int32.not_le.mp h122)))
  · refine J_aload_n (pc := 41) C dX9_takeValue_41 rfl rfl ?_
    refine J_get (pc := 42) C dX9_takeValue_42 f_X9_15 rfl rfl ?_
    try dsimp only [tt]
    refine J_sipush (pc := 45) (v := nI 130) C dX9_takeValue_45 (by decide) ?_
    refine J_icmp_neN (pc := 48) (tgt := 65) C dX9_takeValue_48 (by decide) (by omega) (by omega) (fun h48 => ?_) (fun h48 => ?_)
    · (rcases hq1 with z | z <;> first | exact absurd ((kcl_3 hn hok).mpr z) h38 | exact absurd ((kcl_2 hn hok).mpr z.1) h48)
    · refine J_aload_n (pc := 51) C dX9_takeValue_51 rfl rfl ?_
      refine J_get (pc := 52) C dX9_takeValue_52 f_X9_21 rfl rfl ?_
      try dsimp only [tt]
      refine J_aload_n (pc := 55) C dX9_takeValue_55 rfl rfl ?_
      refine J_get (pc := 56) C dX9_takeValue_56 f_X9_18 rfl rfl ?_
      try dsimp only [tt]
      refine J_isubN (pc := 59) C dX9_takeValue_59 (by omega) ?_
      refine J_bipush (pc := 60) (v := nI 10) C dX9_takeValue_60 (by decide) ?_
      refine J_icmp_leN (pc := 62) (tgt := 73) C dX9_takeValue_62 (by decide) (by omega) (by omega) (fun h62 => ?_) (fun h62 => ?_)
      · refine J_aload_n (pc := 73) C dX9_takeValue_73 rfl rfl ?_
        refine J_get (pc := 74) C dX9_takeValue_74 f_X9_15 rfl rfl ?_
        try dsimp only [tt]
        refine J_sipush (pc := 77) (v := nI 131) C dX9_takeValue_77 (by decide) ?_
        refine J_icmp_neN (pc := 80) (tgt := 90) C dX9_takeValue_80 (by decide) (by omega) (by omega) (fun h80 => ?_) (fun h80 => ?_)
        · have h2 : K.1 = 2 := by
            rcases hq1 with z | z
            · exact absurd ((kcl_3 hn hok).mpr z) h80
            · exact z.1
          refine J_aload_n (pc := 90) C dX9_takeValue_90 rfl rfl ?_
          refine J_callV1 (pc := 91) C dX9_takeValue_91 m_X9_83 (x_decimal l G _ X A.2.1 _ _ K.2.1 K.2.2 _ rfl rfl (by omega) hX2 (fun k hk => hoc k (by omega)) hg1.1 (hg.2 h2)) ⟨jle rfl, jle rfl⟩ rfl rfl rfl rfl rfl (jle rfl) ⟨Nat.zero_le _, Nat.zero_le _⟩ ?_
          try dsimp only [tt]
          try rw [hnum.2 (by omega)]
          refine J_lstore (pc := 94) C dX9_takeValue_94 (by decide) rfl ?_
          dsimp only [List.set]
          refine J_iload (pc := 96) C dX9_takeValue_96 rfl ?_
          refine J_if_eq (pc := 98) (tgt := 107) C dX9_takeValue_98 (by decide) (fun h98 => ?_) (fun h98 => ?_)
          · refine J_lload (pc := 107) C dX9_takeValue_107 rfl ?_
            refine J_lstore (pc := 109) C dX9_takeValue_109 (by decide) rfl ?_
            dsimp only [List.set]
            try rw [hsg.2 (bI_f h98)]
            refine J_lload (pc := 111) C dX9_takeValue_111 rfl ?_
            refine J_lload_n (pc := 113) C dX9_takeValue_113 rfl rfl ?_
            refine J_lcmp (pc := 114) C dX9_takeValue_114 ?_
            refine J_if_lt (pc := 115) (tgt := 125) C dX9_takeValue_115 (by decide) (fun h115 => ?_) (fun h115 => ?_)
            · exact absurd hj.1 (Int64.not_le.mpr ((lg_cmp_lt _ _).mp h115))
            · refine J_lload (pc := 118) C dX9_takeValue_118 rfl ?_
              refine J_lload_n (pc := 120) C dX9_takeValue_120 rfl rfl ?_
              refine J_lcmp (pc := 121) C dX9_takeValue_121 ?_
              refine J_if_le (pc := 122) (tgt := 131) C dX9_takeValue_122 (by decide) (fun h122 => ?_) (fun h122 => ?_)
              · refine J_aload_n (pc := 131) C dX9_takeValue_131 rfl rfl ?_
                refine J_callV0 (pc := 132) C dX9_takeValue_132 m_X9_70 (x_advance l G A S wr _ Z P _ V L T hx hk) ⟨jle rfl, jle rfl⟩ rfl rfl rfl rfl rfl (jle rfl) ⟨Nat.zero_le _, Nat.zero_le _⟩ ?_
                try dsimp only [tt]
                refine J_lload (pc := 135) C dX9_takeValue_135 rfl ?_
                exact J_lret (pc := 137) C dX9_takeValue_137 rfl (jol (by first | rfl | (rw [bI_f h98]; rfl))) (Nat.zero_le _) (Nat.zero_le _)
              · exact absurd hj.2 (Int64.not_le.mpr ((lg_cmp_gt _ _).mp (Int32.not_le.mp h122)))
          · refine J_lload (pc := 101) C dX9_takeValue_101 rfl ?_
            refine J_lneg (pc := 103) C dX9_takeValue_103 ?_
            rw [hsg.1 (bI_t h98)]
            refine J_goto (pc := 104) (tgt := 109) C dX9_takeValue_104 (by decide) ?_
            refine J_lstore (pc := 109) C dX9_takeValue_109 (by decide) rfl ?_
            dsimp only [List.set]
            try rw [hsg.2 (bI_f h98)]
            refine J_lload (pc := 111) C dX9_takeValue_111 rfl ?_
            refine J_lload_n (pc := 113) C dX9_takeValue_113 rfl rfl ?_
            refine J_lcmp (pc := 114) C dX9_takeValue_114 ?_
            refine J_if_lt (pc := 115) (tgt := 125) C dX9_takeValue_115 (by decide) (fun h115 => ?_) (fun h115 => ?_)
            · exact absurd hj.1 (Int64.not_le.mpr ((lg_cmp_lt _ _).mp h115))
            · refine J_lload (pc := 118) C dX9_takeValue_118 rfl ?_
              refine J_lload_n (pc := 120) C dX9_takeValue_120 rfl rfl ?_
              refine J_lcmp (pc := 121) C dX9_takeValue_121 ?_
              refine J_if_le (pc := 122) (tgt := 131) C dX9_takeValue_122 (by decide) (fun h122 => ?_) (fun h122 => ?_)
              · refine J_aload_n (pc := 131) C dX9_takeValue_131 rfl rfl ?_
                refine J_callV0 (pc := 132) C dX9_takeValue_132 m_X9_70 (x_advance l G A S wr _ Z P _ V L T hx hk) ⟨jle rfl, jle rfl⟩ rfl rfl rfl rfl rfl (jle rfl) ⟨Nat.zero_le _, Nat.zero_le _⟩ ?_
                try dsimp only [tt]
                refine J_lload (pc := 135) C dX9_takeValue_135 rfl ?_
                exact J_lret (pc := 137) C dX9_takeValue_137 rfl (jol (by first | rfl | (rw [bI_f h98]; rfl))) (Nat.zero_le _) (Nat.zero_le _)
              · exact absurd hj.2 (Int64.not_le.mpr ((lg_cmp_gt _ _).mp (Int32.not_le.mp h122)))
        · refine J_aload_n (pc := 83) C dX9_takeValue_83 rfl rfl ?_
          refine J_callV1 (pc := 84) C dX9_takeValue_84 m_X9_87 (x_hexadecimal l G _ X A.2.1 _ _ K.2.1 K.2.2 _ rfl rfl (by omega) hX2 (fun k hk => hoc k (by omega)) (tk_hex hX2 hn ((kcl_3 hn hok).mp h80)).1 (tk_hex hX2 hn ((kcl_3 hn hok).mp h80)).2) ⟨jle rfl, jle rfl⟩ rfl rfl rfl rfl rfl (jle rfl) ⟨Nat.zero_le _, Nat.zero_le _⟩ ?_
          try dsimp only [tt]
          rw [hnum.1 ((kcl_3 hn hok).mp h80)]
          refine J_goto (pc := 87) (tgt := 94) C dX9_takeValue_87 (by decide) ?_
          try rw [hnum.2 (by omega)]
          refine J_lstore (pc := 94) C dX9_takeValue_94 (by decide) rfl ?_
          dsimp only [List.set]
          refine J_iload (pc := 96) C dX9_takeValue_96 rfl ?_
          refine J_if_eq (pc := 98) (tgt := 107) C dX9_takeValue_98 (by decide) (fun h98 => ?_) (fun h98 => ?_)
          · refine J_lload (pc := 107) C dX9_takeValue_107 rfl ?_
            refine J_lstore (pc := 109) C dX9_takeValue_109 (by decide) rfl ?_
            dsimp only [List.set]
            try rw [hsg.2 (bI_f h98)]
            refine J_lload (pc := 111) C dX9_takeValue_111 rfl ?_
            refine J_lload_n (pc := 113) C dX9_takeValue_113 rfl rfl ?_
            refine J_lcmp (pc := 114) C dX9_takeValue_114 ?_
            refine J_if_lt (pc := 115) (tgt := 125) C dX9_takeValue_115 (by decide) (fun h115 => ?_) (fun h115 => ?_)
            · exact absurd hj.1 (Int64.not_le.mpr ((lg_cmp_lt _ _).mp h115))
            · refine J_lload (pc := 118) C dX9_takeValue_118 rfl ?_
              refine J_lload_n (pc := 120) C dX9_takeValue_120 rfl rfl ?_
              refine J_lcmp (pc := 121) C dX9_takeValue_121 ?_
              refine J_if_le (pc := 122) (tgt := 131) C dX9_takeValue_122 (by decide) (fun h122 => ?_) (fun h122 => ?_)
              · refine J_aload_n (pc := 131) C dX9_takeValue_131 rfl rfl ?_
                refine J_callV0 (pc := 132) C dX9_takeValue_132 m_X9_70 (x_advance l G A S wr _ Z P _ V L T hx hk) ⟨jle rfl, jle rfl⟩ rfl rfl rfl rfl rfl (jle rfl) ⟨Nat.zero_le _, Nat.zero_le _⟩ ?_
                try dsimp only [tt]
                refine J_lload (pc := 135) C dX9_takeValue_135 rfl ?_
                exact J_lret (pc := 137) C dX9_takeValue_137 rfl (jol (by first | rfl | (rw [bI_f h98]; rfl))) (Nat.zero_le _) (Nat.zero_le _)
              · exact absurd hj.2 (Int64.not_le.mpr ((lg_cmp_gt _ _).mp (Int32.not_le.mp h122)))
          · refine J_lload (pc := 101) C dX9_takeValue_101 rfl ?_
            refine J_lneg (pc := 103) C dX9_takeValue_103 ?_
            rw [hsg.1 (bI_t h98)]
            refine J_goto (pc := 104) (tgt := 109) C dX9_takeValue_104 (by decide) ?_
            refine J_lstore (pc := 109) C dX9_takeValue_109 (by decide) rfl ?_
            dsimp only [List.set]
            try rw [hsg.2 (bI_f h98)]
            refine J_lload (pc := 111) C dX9_takeValue_111 rfl ?_
            refine J_lload_n (pc := 113) C dX9_takeValue_113 rfl rfl ?_
            refine J_lcmp (pc := 114) C dX9_takeValue_114 ?_
            refine J_if_lt (pc := 115) (tgt := 125) C dX9_takeValue_115 (by decide) (fun h115 => ?_) (fun h115 => ?_)
            · exact absurd hj.1 (Int64.not_le.mpr ((lg_cmp_lt _ _).mp h115))
            · refine J_lload (pc := 118) C dX9_takeValue_118 rfl ?_
              refine J_lload_n (pc := 120) C dX9_takeValue_120 rfl rfl ?_
              refine J_lcmp (pc := 121) C dX9_takeValue_121 ?_
              refine J_if_le (pc := 122) (tgt := 131) C dX9_takeValue_122 (by decide) (fun h122 => ?_) (fun h122 => ?_)
              · refine J_aload_n (pc := 131) C dX9_takeValue_131 rfl rfl ?_
                refine J_callV0 (pc := 132) C dX9_takeValue_132 m_X9_70 (x_advance l G A S wr _ Z P _ V L T hx hk) ⟨jle rfl, jle rfl⟩ rfl rfl rfl rfl rfl (jle rfl) ⟨Nat.zero_le _, Nat.zero_le _⟩ ?_
                try dsimp only [tt]
                refine J_lload (pc := 135) C dX9_takeValue_135 rfl ?_
                exact J_lret (pc := 137) C dX9_takeValue_137 rfl (jol (by first | rfl | (rw [bI_f h98]; rfl))) (Nat.zero_le _) (Nat.zero_le _)
              · exact absurd hj.2 (Int64.not_le.mpr ((lg_cmp_gt _ _).mp (Int32.not_le.mp h122)))
      · (rcases hq1 with z | z <;> first | exact absurd ((kcl_3 hn hok).mpr z) h38 | omega)
set_option maxHeartbeats 4000000 in
set_option maxRecDepth 100000 in
theorem l_tv_x (l : Launch) (G : jG) {p : Program} {e : Env} {s : State} {m : MethodId} {args : Array Value} {below : List Frame} {meth : Method} {c : Code} {X : Nat × (Nat → Nat)} {ix : Nat} {K : Nat × Nat × Nat} (A : xA) (S : xS) (wr : Int32) (B : xB) (Z : xZ) (P : xC) (Q : xN) (V : xV) (L : xL) (T : jMem) (a9 b9 : Int64) (q w9 : Nat) (ng : Bool) (C : jX0 p l (jR 7 103 1 6) s m args meth c G cX9_takeValue 11 RX9 (some .long)) (hT9 : ∀ x ∈ c.exceptionTable.toList, False) (hst : l.stackTraces = false) (hx : xcx X A S) (hk : xtk X S ix K) (hq : (¬ (K.1 = 3 ∨ (K.1 = 2 ∧ K.2.2 - K.2.1 ≤ 10)) ∧ w9 = K.2.1) ∨ ((K.1 = 3 ∨ (K.1 = 2 ∧ K.2.2 - K.2.1 ≤ 10)) ∧ ¬ jin2 a9 b9 (sgn ng (lN (numN X K))) = true ∧ w9 = q)) : Jp p l e (jR 7 103 1 6) s m args below meth c G 11 1 6 ((fun o => o = .inr (eIA, jno (encX A S (tt X ix K) (nI w9) B Z P Q V L T)))) 31 [some (.ref 3), some (.long a9), none, some (.long b9), none, some (.int (nI q)), some (.int (bI ng)), none, none, none, none] [] (encX A S (tt X ix K) wr B Z P Q V L T) 0 0 := by
  have hX1 := hx.1
  have hX2 := hx.2.1
  have hoc := hx.2.2.1
  have hS := hx.2.2.2.1
  have hok := hx.2.2.2.2
  have hn := hk.n
  have hg := hn.g
  have hg1 := hg.1
  have hg2 := hg1.1
  have hg3 := hg1.2.1
  have hkl := kcl_lt hX2 (K := K)
  have hix := hk.lt hS
  have hat := hk.at hS
  have hfe := hg1.1
  have hnum : (K.1 = 3 → hexF X K.2.2 (K.2.1 + 2) 0 = numN X K) ∧ (K.1 ≠ 3 → decF X K.2.2 K.2.1 0 = numN X K) := ⟨fun z => by rw [numN, if_pos z], fun z => by rw [numN, if_neg z]⟩
  have hsg : (ng = true → -(lN (numN X K)) = sgn ng (lN (numN X K))) ∧ (ng = false → lN (numN X K) = sgn ng (lN (numN X K))) := ⟨fun z => by rw [sgn, if_pos z], fun z => by rw [sgn, if_neg (by rw [z]; decide)]⟩
  refine E_aload_n (pc := 31) C dX9_takeValue_31 rfl rfl ?_
  refine E_get (pc := 32) C dX9_takeValue_32 f_X9_15 rfl rfl ?_
  try dsimp only [tt]
  refine E_sipush (pc := 35) (v := nI 131) C dX9_takeValue_35 (by decide) ?_
  refine E_icmp_eqN (pc := 38) (tgt := 73) C dX9_takeValue_38 (by decide) (by omega) (by omega) (fun h38 => ?_) (fun h38 => ?_)
  · have hq1 : (K.1 = 3 ∨ (K.1 = 2 ∧ K.2.2 - K.2.1 ≤ 10)) := by
      first
      | exact Or.inl ((kcl_3 hn hok).mp h38)
      | exact Or.inr ⟨(kcl_2 hn hok).mp h48, by omega⟩
    have hq3 : ¬ jin2 a9 b9 (sgn ng (lN (numN X K))) = true ∧ w9 = q := by
      rcases hq with z | z
      · exact absurd hq1 z.1
      · exact z.2
    refine E_aload_n (pc := 73) C dX9_takeValue_73 rfl rfl ?_
    refine E_get (pc := 74) C dX9_takeValue_74 f_X9_15 rfl rfl ?_
    try dsimp only [tt]
    refine E_sipush (pc := 77) (v := nI 131) C dX9_takeValue_77 (by decide) ?_
    refine E_icmp_neN (pc := 80) (tgt := 90) C dX9_takeValue_80 (by decide) (by omega) (by omega) (fun h80 => ?_) (fun h80 => ?_)
    · have h2 : K.1 = 2 := by
        rcases hq1 with z | z
        · exact absurd ((kcl_3 hn hok).mpr z) h80
        · exact z.1
      refine E_aload_n (pc := 90) C dX9_takeValue_90 rfl rfl ?_
      refine E_callV1 (pc := 91) C dX9_takeValue_91 m_X9_83 (x_decimal l G _ X A.2.1 _ _ K.2.1 K.2.2 _ rfl rfl (by omega) hX2 (fun k hk => hoc k (by omega)) hg1.1 (hg.2 h2)) ⟨jle rfl, jle rfl⟩ rfl rfl rfl rfl rfl (jle rfl) ⟨Nat.zero_le _, Nat.zero_le _⟩ ?_
      try dsimp only [tt]
      try rw [hnum.2 (by omega)]
      refine E_lstore (pc := 94) C dX9_takeValue_94 (by decide) rfl ?_
      dsimp only [List.set]
      refine E_iload (pc := 96) C dX9_takeValue_96 rfl ?_
      refine E_if_eq (pc := 98) (tgt := 107) C dX9_takeValue_98 (by decide) (fun h98 => ?_) (fun h98 => ?_)
      · refine E_lload (pc := 107) C dX9_takeValue_107 rfl ?_
        refine E_lstore (pc := 109) C dX9_takeValue_109 (by decide) rfl ?_
        dsimp only [List.set]
        try rw [hsg.2 (bI_f h98)]
        refine E_lload (pc := 111) C dX9_takeValue_111 rfl ?_
        refine E_lload_n (pc := 113) C dX9_takeValue_113 rfl rfl ?_
        refine E_lcmp (pc := 114) C dX9_takeValue_114 ?_
        refine E_if_lt (pc := 115) (tgt := 125) C dX9_takeValue_115 (by decide) (fun h115 => ?_) (fun h115 => ?_)
        · obtain ⟨-, hw⟩ := hq3
          subst hw
          refine E_aload_n (pc := 125) C dX9_takeValue_125 rfl rfl ?_
          refine E_iload (pc := 126) C dX9_takeValue_126 rfl ?_
          exact E_callVx (pc := 128) C hT9 dX9_takeValue_128 m_X9_44 (x_refuse l G A S _ wr B Z P Q V L T _ hst) ⟨jle rfl, jle rfl⟩ rfl rfl rfl rfl rfl (jle rfl) ⟨jle rfl, jle rfl⟩ (jle rfl) (jle rfl) (rfl)
        · refine E_lload (pc := 118) C dX9_takeValue_118 rfl ?_
          refine E_lload_n (pc := 120) C dX9_takeValue_120 rfl rfl ?_
          refine E_lcmp (pc := 121) C dX9_takeValue_121 ?_
          refine E_if_le (pc := 122) (tgt := 131) C dX9_takeValue_122 (by decide) (fun h122 => ?_) (fun h122 => ?_)
          · (refine absurd ?_ hq3.1; have z1 := Int64.not_lt.mp (mt (lg_cmp_lt _ _).mpr h115); have z2 := Int64.not_lt.mp (mt (lg_cmp_gt _ _).mpr (Int32.not_lt.mpr h122)); simp [jin2]; exact ⟨z1, z2⟩)
          · obtain ⟨-, hw⟩ := hq3
            subst hw
            refine E_aload_n (pc := 125) C dX9_takeValue_125 rfl rfl ?_
            refine E_iload (pc := 126) C dX9_takeValue_126 rfl ?_
            exact E_callVx (pc := 128) C hT9 dX9_takeValue_128 m_X9_44 (x_refuse l G A S _ wr B Z P Q V L T _ hst) ⟨jle rfl, jle rfl⟩ rfl rfl rfl rfl rfl (jle rfl) ⟨jle rfl, jle rfl⟩ (jle rfl) (jle rfl) (rfl)
      · refine E_lload (pc := 101) C dX9_takeValue_101 rfl ?_
        refine E_lneg (pc := 103) C dX9_takeValue_103 ?_
        rw [hsg.1 (bI_t h98)]
        refine E_goto (pc := 104) (tgt := 109) C dX9_takeValue_104 (by decide) ?_
        refine E_lstore (pc := 109) C dX9_takeValue_109 (by decide) rfl ?_
        dsimp only [List.set]
        try rw [hsg.2 (bI_f h98)]
        refine E_lload (pc := 111) C dX9_takeValue_111 rfl ?_
        refine E_lload_n (pc := 113) C dX9_takeValue_113 rfl rfl ?_
        refine E_lcmp (pc := 114) C dX9_takeValue_114 ?_
        refine E_if_lt (pc := 115) (tgt := 125) C dX9_takeValue_115 (by decide) (fun h115 => ?_) (fun h115 => ?_)
        · obtain ⟨-, hw⟩ := hq3
          subst hw
          refine E_aload_n (pc := 125) C dX9_takeValue_125 rfl rfl ?_
          refine E_iload (pc := 126) C dX9_takeValue_126 rfl ?_
          exact E_callVx (pc := 128) C hT9 dX9_takeValue_128 m_X9_44 (x_refuse l G A S _ wr B Z P Q V L T _ hst) ⟨jle rfl, jle rfl⟩ rfl rfl rfl rfl rfl (jle rfl) ⟨jle rfl, jle rfl⟩ (jle rfl) (jle rfl) (rfl)
        · refine E_lload (pc := 118) C dX9_takeValue_118 rfl ?_
          refine E_lload_n (pc := 120) C dX9_takeValue_120 rfl rfl ?_
          refine E_lcmp (pc := 121) C dX9_takeValue_121 ?_
          refine E_if_le (pc := 122) (tgt := 131) C dX9_takeValue_122 (by decide) (fun h122 => ?_) (fun h122 => ?_)
          · (refine absurd ?_ hq3.1; have z1 := Int64.not_lt.mp (mt (lg_cmp_lt _ _).mpr h115); have z2 := Int64.not_lt.mp (mt (lg_cmp_gt _ _).mpr (Int32.not_lt.mpr h122)); simp [jin2]; exact ⟨z1, z2⟩)
          · obtain ⟨-, hw⟩ := hq3
            subst hw
            refine E_aload_n (pc := 125) C dX9_takeValue_125 rfl rfl ?_
            refine E_iload (pc := 126) C dX9_takeValue_126 rfl ?_
            exact E_callVx (pc := 128) C hT9 dX9_takeValue_128 m_X9_44 (x_refuse l G A S _ wr B Z P Q V L T _ hst) ⟨jle rfl, jle rfl⟩ rfl rfl rfl rfl rfl (jle rfl) ⟨jle rfl, jle rfl⟩ (jle rfl) (jle rfl) (rfl)
    · refine E_aload_n (pc := 83) C dX9_takeValue_83 rfl rfl ?_
      refine E_callV1 (pc := 84) C dX9_takeValue_84 m_X9_87 (x_hexadecimal l G _ X A.2.1 _ _ K.2.1 K.2.2 _ rfl rfl (by omega) hX2 (fun k hk => hoc k (by omega)) (tk_hex hX2 hn ((kcl_3 hn hok).mp h80)).1 (tk_hex hX2 hn ((kcl_3 hn hok).mp h80)).2) ⟨jle rfl, jle rfl⟩ rfl rfl rfl rfl rfl (jle rfl) ⟨Nat.zero_le _, Nat.zero_le _⟩ ?_
      try dsimp only [tt]
      rw [hnum.1 ((kcl_3 hn hok).mp h80)]
      refine E_goto (pc := 87) (tgt := 94) C dX9_takeValue_87 (by decide) ?_
      try rw [hnum.2 (by omega)]
      refine E_lstore (pc := 94) C dX9_takeValue_94 (by decide) rfl ?_
      dsimp only [List.set]
      refine E_iload (pc := 96) C dX9_takeValue_96 rfl ?_
      refine E_if_eq (pc := 98) (tgt := 107) C dX9_takeValue_98 (by decide) (fun h98 => ?_) (fun h98 => ?_)
      · refine E_lload (pc := 107) C dX9_takeValue_107 rfl ?_
        refine E_lstore (pc := 109) C dX9_takeValue_109 (by decide) rfl ?_
        dsimp only [List.set]
        try rw [hsg.2 (bI_f h98)]
        refine E_lload (pc := 111) C dX9_takeValue_111 rfl ?_
        refine E_lload_n (pc := 113) C dX9_takeValue_113 rfl rfl ?_
        refine E_lcmp (pc := 114) C dX9_takeValue_114 ?_
        refine E_if_lt (pc := 115) (tgt := 125) C dX9_takeValue_115 (by decide) (fun h115 => ?_) (fun h115 => ?_)
        · obtain ⟨-, hw⟩ := hq3
          subst hw
          refine E_aload_n (pc := 125) C dX9_takeValue_125 rfl rfl ?_
          refine E_iload (pc := 126) C dX9_takeValue_126 rfl ?_
          exact E_callVx (pc := 128) C hT9 dX9_takeValue_128 m_X9_44 (x_refuse l G A S _ wr B Z P Q V L T _ hst) ⟨jle rfl, jle rfl⟩ rfl rfl rfl rfl rfl (jle rfl) ⟨jle rfl, jle rfl⟩ (jle rfl) (jle rfl) (rfl)
        · refine E_lload (pc := 118) C dX9_takeValue_118 rfl ?_
          refine E_lload_n (pc := 120) C dX9_takeValue_120 rfl rfl ?_
          refine E_lcmp (pc := 121) C dX9_takeValue_121 ?_
          refine E_if_le (pc := 122) (tgt := 131) C dX9_takeValue_122 (by decide) (fun h122 => ?_) (fun h122 => ?_)
          · (refine absurd ?_ hq3.1; have z1 := Int64.not_lt.mp (mt (lg_cmp_lt _ _).mpr h115); have z2 := Int64.not_lt.mp (mt (lg_cmp_gt _ _).mpr (Int32.not_lt.mpr h122)); simp [jin2]; exact ⟨z1, z2⟩)
          · obtain ⟨-, hw⟩ := hq3
            subst hw
            refine E_aload_n (pc := 125) C dX9_takeValue_125 rfl rfl ?_
            refine E_iload (pc := 126) C dX9_takeValue_126 rfl ?_
            exact E_callVx (pc := 128) C hT9 dX9_takeValue_128 m_X9_44 (x_refuse l G A S _ wr B Z P Q V L T _ hst) ⟨jle rfl, jle rfl⟩ rfl rfl rfl rfl rfl (jle rfl) ⟨jle rfl, jle rfl⟩ (jle rfl) (jle rfl) (rfl)
      · refine E_lload (pc := 101) C dX9_takeValue_101 rfl ?_
        refine E_lneg (pc := 103) C dX9_takeValue_103 ?_
        rw [hsg.1 (bI_t h98)]
        refine E_goto (pc := 104) (tgt := 109) C dX9_takeValue_104 (by decide) ?_
        refine E_lstore (pc := 109) C dX9_takeValue_109 (by decide) rfl ?_
        dsimp only [List.set]
        try rw [hsg.2 (bI_f h98)]
        refine E_lload (pc := 111) C dX9_takeValue_111 rfl ?_
        refine E_lload_n (pc := 113) C dX9_takeValue_113 rfl rfl ?_
        refine E_lcmp (pc := 114) C dX9_takeValue_114 ?_
        refine E_if_lt (pc := 115) (tgt := 125) C dX9_takeValue_115 (by decide) (fun h115 => ?_) (fun h115 => ?_)
        · obtain ⟨-, hw⟩ := hq3
          subst hw
          refine E_aload_n (pc := 125) C dX9_takeValue_125 rfl rfl ?_
          refine E_iload (pc := 126) C dX9_takeValue_126 rfl ?_
          exact E_callVx (pc := 128) C hT9 dX9_takeValue_128 m_X9_44 (x_refuse l G A S _ wr B Z P Q V L T _ hst) ⟨jle rfl, jle rfl⟩ rfl rfl rfl rfl rfl (jle rfl) ⟨jle rfl, jle rfl⟩ (jle rfl) (jle rfl) (rfl)
        · refine E_lload (pc := 118) C dX9_takeValue_118 rfl ?_
          refine E_lload_n (pc := 120) C dX9_takeValue_120 rfl rfl ?_
          refine E_lcmp (pc := 121) C dX9_takeValue_121 ?_
          refine E_if_le (pc := 122) (tgt := 131) C dX9_takeValue_122 (by decide) (fun h122 => ?_) (fun h122 => ?_)
          · (refine absurd ?_ hq3.1; have z1 := Int64.not_lt.mp (mt (lg_cmp_lt _ _).mpr h115); have z2 := Int64.not_lt.mp (mt (lg_cmp_gt _ _).mpr (Int32.not_lt.mpr h122)); simp [jin2]; exact ⟨z1, z2⟩)
          · obtain ⟨-, hw⟩ := hq3
            subst hw
            refine E_aload_n (pc := 125) C dX9_takeValue_125 rfl rfl ?_
            refine E_iload (pc := 126) C dX9_takeValue_126 rfl ?_
            exact E_callVx (pc := 128) C hT9 dX9_takeValue_128 m_X9_44 (x_refuse l G A S _ wr B Z P Q V L T _ hst) ⟨jle rfl, jle rfl⟩ rfl rfl rfl rfl rfl (jle rfl) ⟨jle rfl, jle rfl⟩ (jle rfl) (jle rfl) (rfl)
  · refine E_aload_n (pc := 41) C dX9_takeValue_41 rfl rfl ?_
    refine E_get (pc := 42) C dX9_takeValue_42 f_X9_15 rfl rfl ?_
    try dsimp only [tt]
    refine E_sipush (pc := 45) (v := nI 130) C dX9_takeValue_45 (by decide) ?_
    refine E_icmp_neN (pc := 48) (tgt := 65) C dX9_takeValue_48 (by decide) (by omega) (by omega) (fun h48 => ?_) (fun h48 => ?_)
    · have hw : w9 = K.2.1 := by
        rcases hq with z | z
        · exact z.2
        · exfalso
          rcases z.1 with z1 | z1
          · exact absurd ((kcl_3 hn hok).mpr z1) h38
          · first
            | exact absurd ((kcl_2 hn hok).mpr z1.1) h48
            | omega
      subst hw
      refine E_aload_n (pc := 65) C dX9_takeValue_65 rfl rfl ?_
      refine E_aload_n (pc := 66) C dX9_takeValue_66 rfl rfl ?_
      refine E_get (pc := 67) C dX9_takeValue_67 f_X9_18 rfl rfl ?_
      try dsimp only [tt]
      exact E_callVx (pc := 70) C hT9 dX9_takeValue_70 m_X9_44 (x_refuse l G A S _ wr B Z P Q V L T _ hst) ⟨jle rfl, jle rfl⟩ rfl rfl rfl rfl rfl (jle rfl) ⟨jle rfl, jle rfl⟩ (jle rfl) (jle rfl) (rfl)
    · refine E_aload_n (pc := 51) C dX9_takeValue_51 rfl rfl ?_
      refine E_get (pc := 52) C dX9_takeValue_52 f_X9_21 rfl rfl ?_
      try dsimp only [tt]
      refine E_aload_n (pc := 55) C dX9_takeValue_55 rfl rfl ?_
      refine E_get (pc := 56) C dX9_takeValue_56 f_X9_18 rfl rfl ?_
      try dsimp only [tt]
      refine E_isubN (pc := 59) C dX9_takeValue_59 (by omega) ?_
      refine E_bipush (pc := 60) (v := nI 10) C dX9_takeValue_60 (by decide) ?_
      refine E_icmp_leN (pc := 62) (tgt := 73) C dX9_takeValue_62 (by decide) (by omega) (by omega) (fun h62 => ?_) (fun h62 => ?_)
      · have hq1 : (K.1 = 3 ∨ (K.1 = 2 ∧ K.2.2 - K.2.1 ≤ 10)) := by
          first
          | exact Or.inl ((kcl_3 hn hok).mp h38)
          | exact Or.inr ⟨(kcl_2 hn hok).mp h48, by omega⟩
        have hq3 : ¬ jin2 a9 b9 (sgn ng (lN (numN X K))) = true ∧ w9 = q := by
          rcases hq with z | z
          · exact absurd hq1 z.1
          · exact z.2
        refine E_aload_n (pc := 73) C dX9_takeValue_73 rfl rfl ?_
        refine E_get (pc := 74) C dX9_takeValue_74 f_X9_15 rfl rfl ?_
        try dsimp only [tt]
        refine E_sipush (pc := 77) (v := nI 131) C dX9_takeValue_77 (by decide) ?_
        refine E_icmp_neN (pc := 80) (tgt := 90) C dX9_takeValue_80 (by decide) (by omega) (by omega) (fun h80 => ?_) (fun h80 => ?_)
        · have h2 : K.1 = 2 := by
            rcases hq1 with z | z
            · exact absurd ((kcl_3 hn hok).mpr z) h80
            · exact z.1
          refine E_aload_n (pc := 90) C dX9_takeValue_90 rfl rfl ?_
          refine E_callV1 (pc := 91) C dX9_takeValue_91 m_X9_83 (x_decimal l G _ X A.2.1 _ _ K.2.1 K.2.2 _ rfl rfl (by omega) hX2 (fun k hk => hoc k (by omega)) hg1.1 (hg.2 h2)) ⟨jle rfl, jle rfl⟩ rfl rfl rfl rfl rfl (jle rfl) ⟨Nat.zero_le _, Nat.zero_le _⟩ ?_
          try dsimp only [tt]
          try rw [hnum.2 (by omega)]
          refine E_lstore (pc := 94) C dX9_takeValue_94 (by decide) rfl ?_
          dsimp only [List.set]
          refine E_iload (pc := 96) C dX9_takeValue_96 rfl ?_
          refine E_if_eq (pc := 98) (tgt := 107) C dX9_takeValue_98 (by decide) (fun h98 => ?_) (fun h98 => ?_)
          · refine E_lload (pc := 107) C dX9_takeValue_107 rfl ?_
            refine E_lstore (pc := 109) C dX9_takeValue_109 (by decide) rfl ?_
            dsimp only [List.set]
            try rw [hsg.2 (bI_f h98)]
            refine E_lload (pc := 111) C dX9_takeValue_111 rfl ?_
            refine E_lload_n (pc := 113) C dX9_takeValue_113 rfl rfl ?_
            refine E_lcmp (pc := 114) C dX9_takeValue_114 ?_
            refine E_if_lt (pc := 115) (tgt := 125) C dX9_takeValue_115 (by decide) (fun h115 => ?_) (fun h115 => ?_)
            · obtain ⟨-, hw⟩ := hq3
              subst hw
              refine E_aload_n (pc := 125) C dX9_takeValue_125 rfl rfl ?_
              refine E_iload (pc := 126) C dX9_takeValue_126 rfl ?_
              exact E_callVx (pc := 128) C hT9 dX9_takeValue_128 m_X9_44 (x_refuse l G A S _ wr B Z P Q V L T _ hst) ⟨jle rfl, jle rfl⟩ rfl rfl rfl rfl rfl (jle rfl) ⟨jle rfl, jle rfl⟩ (jle rfl) (jle rfl) (rfl)
            · refine E_lload (pc := 118) C dX9_takeValue_118 rfl ?_
              refine E_lload_n (pc := 120) C dX9_takeValue_120 rfl rfl ?_
              refine E_lcmp (pc := 121) C dX9_takeValue_121 ?_
              refine E_if_le (pc := 122) (tgt := 131) C dX9_takeValue_122 (by decide) (fun h122 => ?_) (fun h122 => ?_)
              · (refine absurd ?_ hq3.1; have z1 := Int64.not_lt.mp (mt (lg_cmp_lt _ _).mpr h115); have z2 := Int64.not_lt.mp (mt (lg_cmp_gt _ _).mpr (Int32.not_lt.mpr h122)); simp [jin2]; exact ⟨z1, z2⟩)
              · obtain ⟨-, hw⟩ := hq3
                subst hw
                refine E_aload_n (pc := 125) C dX9_takeValue_125 rfl rfl ?_
                refine E_iload (pc := 126) C dX9_takeValue_126 rfl ?_
                exact E_callVx (pc := 128) C hT9 dX9_takeValue_128 m_X9_44 (x_refuse l G A S _ wr B Z P Q V L T _ hst) ⟨jle rfl, jle rfl⟩ rfl rfl rfl rfl rfl (jle rfl) ⟨jle rfl, jle rfl⟩ (jle rfl) (jle rfl) (rfl)
          · refine E_lload (pc := 101) C dX9_takeValue_101 rfl ?_
            refine E_lneg (pc := 103) C dX9_takeValue_103 ?_
            rw [hsg.1 (bI_t h98)]
            refine E_goto (pc := 104) (tgt := 109) C dX9_takeValue_104 (by decide) ?_
            refine E_lstore (pc := 109) C dX9_takeValue_109 (by decide) rfl ?_
            dsimp only [List.set]
            try rw [hsg.2 (bI_f h98)]
            refine E_lload (pc := 111) C dX9_takeValue_111 rfl ?_
            refine E_lload_n (pc := 113) C dX9_takeValue_113 rfl rfl ?_
            refine E_lcmp (pc := 114) C dX9_takeValue_114 ?_
            refine E_if_lt (pc := 115) (tgt := 125) C dX9_takeValue_115 (by decide) (fun h115 => ?_) (fun h115 => ?_)
            · obtain ⟨-, hw⟩ := hq3
              subst hw
              refine E_aload_n (pc := 125) C dX9_takeValue_125 rfl rfl ?_
              refine E_iload (pc := 126) C dX9_takeValue_126 rfl ?_
              exact E_callVx (pc := 128) C hT9 dX9_takeValue_128 m_X9_44 (x_refuse l G A S _ wr B Z P Q V L T _ hst) ⟨jle rfl, jle rfl⟩ rfl rfl rfl rfl rfl (jle rfl) ⟨jle rfl, jle rfl⟩ (jle rfl) (jle rfl) (rfl)
            · refine E_lload (pc := 118) C dX9_takeValue_118 rfl ?_
              refine E_lload_n (pc := 120) C dX9_takeValue_120 rfl rfl ?_
              refine E_lcmp (pc := 121) C dX9_takeValue_121 ?_
              refine E_if_le (pc := 122) (tgt := 131) C dX9_takeValue_122 (by decide) (fun h122 => ?_) (fun h122 => ?_)
              · (refine absurd ?_ hq3.1; have z1 := Int64.not_lt.mp (mt (lg_cmp_lt _ _).mpr h115); have z2 := Int64.not_lt.mp (mt (lg_cmp_gt _ _).mpr (Int32.not_lt.mpr h122)); simp [jin2]; exact ⟨z1, z2⟩)
              · obtain ⟨-, hw⟩ := hq3
                subst hw
                refine E_aload_n (pc := 125) C dX9_takeValue_125 rfl rfl ?_
                refine E_iload (pc := 126) C dX9_takeValue_126 rfl ?_
                exact E_callVx (pc := 128) C hT9 dX9_takeValue_128 m_X9_44 (x_refuse l G A S _ wr B Z P Q V L T _ hst) ⟨jle rfl, jle rfl⟩ rfl rfl rfl rfl rfl (jle rfl) ⟨jle rfl, jle rfl⟩ (jle rfl) (jle rfl) (rfl)
        · refine E_aload_n (pc := 83) C dX9_takeValue_83 rfl rfl ?_
          refine E_callV1 (pc := 84) C dX9_takeValue_84 m_X9_87 (x_hexadecimal l G _ X A.2.1 _ _ K.2.1 K.2.2 _ rfl rfl (by omega) hX2 (fun k hk => hoc k (by omega)) (tk_hex hX2 hn ((kcl_3 hn hok).mp h80)).1 (tk_hex hX2 hn ((kcl_3 hn hok).mp h80)).2) ⟨jle rfl, jle rfl⟩ rfl rfl rfl rfl rfl (jle rfl) ⟨Nat.zero_le _, Nat.zero_le _⟩ ?_
          try dsimp only [tt]
          rw [hnum.1 ((kcl_3 hn hok).mp h80)]
          refine E_goto (pc := 87) (tgt := 94) C dX9_takeValue_87 (by decide) ?_
          try rw [hnum.2 (by omega)]
          refine E_lstore (pc := 94) C dX9_takeValue_94 (by decide) rfl ?_
          dsimp only [List.set]
          refine E_iload (pc := 96) C dX9_takeValue_96 rfl ?_
          refine E_if_eq (pc := 98) (tgt := 107) C dX9_takeValue_98 (by decide) (fun h98 => ?_) (fun h98 => ?_)
          · refine E_lload (pc := 107) C dX9_takeValue_107 rfl ?_
            refine E_lstore (pc := 109) C dX9_takeValue_109 (by decide) rfl ?_
            dsimp only [List.set]
            try rw [hsg.2 (bI_f h98)]
            refine E_lload (pc := 111) C dX9_takeValue_111 rfl ?_
            refine E_lload_n (pc := 113) C dX9_takeValue_113 rfl rfl ?_
            refine E_lcmp (pc := 114) C dX9_takeValue_114 ?_
            refine E_if_lt (pc := 115) (tgt := 125) C dX9_takeValue_115 (by decide) (fun h115 => ?_) (fun h115 => ?_)
            · obtain ⟨-, hw⟩ := hq3
              subst hw
              refine E_aload_n (pc := 125) C dX9_takeValue_125 rfl rfl ?_
              refine E_iload (pc := 126) C dX9_takeValue_126 rfl ?_
              exact E_callVx (pc := 128) C hT9 dX9_takeValue_128 m_X9_44 (x_refuse l G A S _ wr B Z P Q V L T _ hst) ⟨jle rfl, jle rfl⟩ rfl rfl rfl rfl rfl (jle rfl) ⟨jle rfl, jle rfl⟩ (jle rfl) (jle rfl) (rfl)
            · refine E_lload (pc := 118) C dX9_takeValue_118 rfl ?_
              refine E_lload_n (pc := 120) C dX9_takeValue_120 rfl rfl ?_
              refine E_lcmp (pc := 121) C dX9_takeValue_121 ?_
              refine E_if_le (pc := 122) (tgt := 131) C dX9_takeValue_122 (by decide) (fun h122 => ?_) (fun h122 => ?_)
              · (refine absurd ?_ hq3.1; have z1 := Int64.not_lt.mp (mt (lg_cmp_lt _ _).mpr h115); have z2 := Int64.not_lt.mp (mt (lg_cmp_gt _ _).mpr (Int32.not_lt.mpr h122)); simp [jin2]; exact ⟨z1, z2⟩)
              · obtain ⟨-, hw⟩ := hq3
                subst hw
                refine E_aload_n (pc := 125) C dX9_takeValue_125 rfl rfl ?_
                refine E_iload (pc := 126) C dX9_takeValue_126 rfl ?_
                exact E_callVx (pc := 128) C hT9 dX9_takeValue_128 m_X9_44 (x_refuse l G A S _ wr B Z P Q V L T _ hst) ⟨jle rfl, jle rfl⟩ rfl rfl rfl rfl rfl (jle rfl) ⟨jle rfl, jle rfl⟩ (jle rfl) (jle rfl) (rfl)
          · refine E_lload (pc := 101) C dX9_takeValue_101 rfl ?_
            refine E_lneg (pc := 103) C dX9_takeValue_103 ?_
            rw [hsg.1 (bI_t h98)]
            refine E_goto (pc := 104) (tgt := 109) C dX9_takeValue_104 (by decide) ?_
            refine E_lstore (pc := 109) C dX9_takeValue_109 (by decide) rfl ?_
            dsimp only [List.set]
            try rw [hsg.2 (bI_f h98)]
            refine E_lload (pc := 111) C dX9_takeValue_111 rfl ?_
            refine E_lload_n (pc := 113) C dX9_takeValue_113 rfl rfl ?_
            refine E_lcmp (pc := 114) C dX9_takeValue_114 ?_
            refine E_if_lt (pc := 115) (tgt := 125) C dX9_takeValue_115 (by decide) (fun h115 => ?_) (fun h115 => ?_)
            · obtain ⟨-, hw⟩ := hq3
              subst hw
              refine E_aload_n (pc := 125) C dX9_takeValue_125 rfl rfl ?_
              refine E_iload (pc := 126) C dX9_takeValue_126 rfl ?_
              exact E_callVx (pc := 128) C hT9 dX9_takeValue_128 m_X9_44 (x_refuse l G A S _ wr B Z P Q V L T _ hst) ⟨jle rfl, jle rfl⟩ rfl rfl rfl rfl rfl (jle rfl) ⟨jle rfl, jle rfl⟩ (jle rfl) (jle rfl) (rfl)
            · refine E_lload (pc := 118) C dX9_takeValue_118 rfl ?_
              refine E_lload_n (pc := 120) C dX9_takeValue_120 rfl rfl ?_
              refine E_lcmp (pc := 121) C dX9_takeValue_121 ?_
              refine E_if_le (pc := 122) (tgt := 131) C dX9_takeValue_122 (by decide) (fun h122 => ?_) (fun h122 => ?_)
              · (refine absurd ?_ hq3.1; have z1 := Int64.not_lt.mp (mt (lg_cmp_lt _ _).mpr h115); have z2 := Int64.not_lt.mp (mt (lg_cmp_gt _ _).mpr (Int32.not_lt.mpr h122)); simp [jin2]; exact ⟨z1, z2⟩)
              · obtain ⟨-, hw⟩ := hq3
                subst hw
                refine E_aload_n (pc := 125) C dX9_takeValue_125 rfl rfl ?_
                refine E_iload (pc := 126) C dX9_takeValue_126 rfl ?_
                exact E_callVx (pc := 128) C hT9 dX9_takeValue_128 m_X9_44 (x_refuse l G A S _ wr B Z P Q V L T _ hst) ⟨jle rfl, jle rfl⟩ rfl rfl rfl rfl rfl (jle rfl) ⟨jle rfl, jle rfl⟩ (jle rfl) (jle rfl) (rfl)
      · have hw : w9 = K.2.1 := by
          rcases hq with z | z
          · exact z.2
          · exfalso
            rcases z.1 with z1 | z1
            · exact absurd ((kcl_3 hn hok).mpr z1) h38
            · first
              | exact absurd ((kcl_2 hn hok).mpr z1.1) h48
              | omega
        subst hw
        refine E_aload_n (pc := 65) C dX9_takeValue_65 rfl rfl ?_
        refine E_aload_n (pc := 66) C dX9_takeValue_66 rfl rfl ?_
        refine E_get (pc := 67) C dX9_takeValue_67 f_X9_18 rfl rfl ?_
        try dsimp only [tt]
        exact E_callVx (pc := 70) C hT9 dX9_takeValue_70 m_X9_44 (x_refuse l G A S _ wr B Z P Q V L T _ hst) ⟨jle rfl, jle rfl⟩ rfl rfl rfl rfl rfl (jle rfl) ⟨jle rfl, jle rfl⟩ (jle rfl) (jle rfl) (rfl)
set_option maxHeartbeats 4000000 in
set_option maxRecDepth 100000 in
theorem x_tv (l : Launch) (G : jG) {X : Nat × (Nat → Nat)} {ix : Nat} {K : Nat × Nat × Nat} (A : xA) (S : xS) (wr : Int32) (B : xB) (Z : xZ) (P : xC) (Q : xN) (V : xV) (L : xL) (T : jMem) (a9 b9 : Int64) (hx : xcx X A S) (hk : xtk X S ix K) (hs9 : isSignF X K 45 = false) (hq1 : (K.1 = 3 ∨ (K.1 = 2 ∧ K.2.2 - K.2.1 ≤ 10))) (hq2 : jin2 a9 b9 (sgn false (lN (numN X K))) = true) : jC l G yX9_takeValue cX9_takeValue 11 (some .long) 7 103 0 0 [.ref 3, .long a9, .long b9] (encX A S (tt X ix K) wr B Z P Q V L T) (.inl (some (.long (sgn false (lN (numN X K)))), encX A S (tt X (axF ix K) (nextF X K.2.2)) wr B Z P Q V L T)) := by
  refine jC.of (by decide) 6 rfl [some (.ref 3), some (.long a9), none, some (.long b9), none, none, none, none, none, none, none] rfl (fun p e s m args below meth c C hT9 hNm9 => ?_)
  have hX1 := hx.1
  have hX2 := hx.2.1
  have hoc := hx.2.2.1
  have hS := hx.2.2.2.1
  have hok := hx.2.2.2.2
  have hn := hk.n
  have hg := hn.g
  have hg1 := hg.1
  have hg2 := hg1.1
  have hg3 := hg1.2.1
  have hkl := kcl_lt hX2 (K := K)
  have hix := hk.lt hS
  have hat := hk.at hS
  refine J_aload_n (pc := 0) C dX9_takeValue_0 rfl rfl ?_
  refine J_get (pc := 1) C dX9_takeValue_1 f_X9_18 rfl rfl ?_
  try dsimp only [tt]
  refine J_istore (pc := 4) C dX9_takeValue_4 (by decide) rfl ?_
  dsimp only [List.set]
  refine J_aload_n (pc := 6) C dX9_takeValue_6 rfl rfl ?_
  refine J_get (pc := 7) C dX9_takeValue_7 f_X9_15 rfl rfl ?_
  try dsimp only [tt]
  refine J_bipush (pc := 10) (v := nI 45) C dX9_takeValue_10 (by decide) ?_
  refine J_icmp_neN (pc := 12) (tgt := 19) C dX9_takeValue_12 (by decide) (by omega) (by omega) (fun h12 => ?_) (fun h12 => ?_)
  · refine J_iconst (pc := 19) (v := nI 0) C dX9_takeValue_19 (by decide) ?_
    refine J_istore (pc := 20) C dX9_takeValue_20 (by decide) rfl ?_
    dsimp only [List.set]
    refine J_iload (pc := 22) C dX9_takeValue_22 rfl ?_
    refine J_if_eqN (pc := 24) (tgt := 31) C dX9_takeValue_24 (by decide) (by omega) (fun _ => ?_) (fun h24 => absurd h24 (by decide))
    exact l_tv l G A S wr B Z P Q V L T a9 b9 K.2.1 false C hx hk hq1 hq2
  · exact absurd ((kcl_sg hn hok (by decide) (by decide)).mp h12) (by rw [hs9]; decide)
set_option maxHeartbeats 4000000 in
set_option maxRecDepth 100000 in
theorem x_tv_x (l : Launch) (G : jG) {X : Nat × (Nat → Nat)} {ix : Nat} {K : Nat × Nat × Nat} (A : xA) (S : xS) (wr : Int32) (B : xB) (Z : xZ) (P : xC) (Q : xN) (V : xV) (L : xL) (T : jMem) (a9 b9 : Int64) (w9 : Nat) (hst : l.stackTraces = false) (hx : xcx X A S) (hk : xtk X S ix K) (hs9 : isSignF X K 45 = false) (hq : (¬ (K.1 = 3 ∨ (K.1 = 2 ∧ K.2.2 - K.2.1 ≤ 10)) ∧ w9 = K.2.1) ∨ ((K.1 = 3 ∨ (K.1 = 2 ∧ K.2.2 - K.2.1 ≤ 10)) ∧ ¬ jin2 a9 b9 (sgn false (lN (numN X K))) = true ∧ w9 = K.2.1)) : jCp l G yX9_takeValue cX9_takeValue 11 (some .long) 7 103 1 6 [.ref 3, .long a9, .long b9] (encX A S (tt X ix K) wr B Z P Q V L T) ((fun o => o = .inr (eIA, jno (encX A S (tt X ix K) (nI w9) B Z P Q V L T)))) := by
  refine jCp.of (by decide) 6 rfl [some (.ref 3), some (.long a9), none, some (.long b9), none, none, none, none, none, none, none] rfl (fun p e s m args below meth c C hT9 hz9 => ?_)
  have hX1 := hx.1
  have hX2 := hx.2.1
  have hoc := hx.2.2.1
  have hS := hx.2.2.2.1
  have hok := hx.2.2.2.2
  have hn := hk.n
  have hg := hn.g
  have hg1 := hg.1
  have hg2 := hg1.1
  have hg3 := hg1.2.1
  have hkl := kcl_lt hX2 (K := K)
  have hix := hk.lt hS
  have hat := hk.at hS
  refine E_aload_n (pc := 0) C dX9_takeValue_0 rfl rfl ?_
  refine E_get (pc := 1) C dX9_takeValue_1 f_X9_18 rfl rfl ?_
  try dsimp only [tt]
  refine E_istore (pc := 4) C dX9_takeValue_4 (by decide) rfl ?_
  dsimp only [List.set]
  refine E_aload_n (pc := 6) C dX9_takeValue_6 rfl rfl ?_
  refine E_get (pc := 7) C dX9_takeValue_7 f_X9_15 rfl rfl ?_
  try dsimp only [tt]
  refine E_bipush (pc := 10) (v := nI 45) C dX9_takeValue_10 (by decide) ?_
  refine E_icmp_neN (pc := 12) (tgt := 19) C dX9_takeValue_12 (by decide) (by omega) (by omega) (fun h12 => ?_) (fun h12 => ?_)
  · refine E_iconst (pc := 19) (v := nI 0) C dX9_takeValue_19 (by decide) ?_
    refine E_istore (pc := 20) C dX9_takeValue_20 (by decide) rfl ?_
    dsimp only [List.set]
    refine E_iload (pc := 22) C dX9_takeValue_22 rfl ?_
    refine E_if_eqN (pc := 24) (tgt := 31) C dX9_takeValue_24 (by decide) (by omega) (fun _ => ?_) (fun h24 => absurd h24 (by decide))
    exact l_tv_x l G A S wr B Z P Q V L T a9 b9 K.2.1 w9 false C hT9 hst hx hk hq
  · exact absurd ((kcl_sg hn hok (by decide) (by decide)).mp h12) (by rw [hs9]; decide)
set_option maxHeartbeats 4000000 in
set_option maxRecDepth 100000 in
theorem x_tvm (l : Launch) (G : jG) {X : Nat × (Nat → Nat)} {ix : Nat} {K : Nat × Nat × Nat} (A : xA) (S : xS) (wr : Int32) (B : xB) (Z : xZ) (P : xC) (Q : xN) (V : xV) (L : xL) (T : jMem) (a9 b9 : Int64) (hx : xcx X A S) (hk : xtk X S ix K) (hs9 : isSignF X K 45 = true) (hq1 : ((nextF X K.2.2).1 = 3 ∨ ((nextF X K.2.2).1 = 2 ∧ (nextF X K.2.2).2.2 - (nextF X K.2.2).2.1 ≤ 10))) (hq2 : jin2 a9 b9 (sgn true (lN (numN X (nextF X K.2.2)))) = true) : jC l G yX9_takeValue cX9_takeValue 11 (some .long) 7 103 0 0 [.ref 3, .long a9, .long b9] (encX A S (tt X ix K) wr B Z P Q V L T) (.inl (some (.long (sgn true (lN (numN X (nextF X K.2.2))))), encX A S (tt X (axF (axF ix K) (nextF X K.2.2)) (nextF X (nextF X K.2.2).2.2)) wr B Z P Q V L T)) := by
  refine jC.of (by decide) 6 rfl [some (.ref 3), some (.long a9), none, some (.long b9), none, none, none, none, none, none, none] rfl (fun p e s m args below meth c C hT9 hNm9 => ?_)
  have hX1 := hx.1
  have hX2 := hx.2.1
  have hoc := hx.2.2.1
  have hS := hx.2.2.2.1
  have hok := hx.2.2.2.2
  have hn := hk.n
  have hg := hn.g
  have hg1 := hg.1
  have hg2 := hg1.1
  have hg3 := hg1.2.1
  have hkl := kcl_lt hX2 (K := K)
  have hix := hk.lt hS
  have hat := hk.at hS
  refine J_aload_n (pc := 0) C dX9_takeValue_0 rfl rfl ?_
  refine J_get (pc := 1) C dX9_takeValue_1 f_X9_18 rfl rfl ?_
  try dsimp only [tt]
  refine J_istore (pc := 4) C dX9_takeValue_4 (by decide) rfl ?_
  dsimp only [List.set]
  refine J_aload_n (pc := 6) C dX9_takeValue_6 rfl rfl ?_
  refine J_get (pc := 7) C dX9_takeValue_7 f_X9_15 rfl rfl ?_
  try dsimp only [tt]
  refine J_bipush (pc := 10) (v := nI 45) C dX9_takeValue_10 (by decide) ?_
  refine J_icmp_neN (pc := 12) (tgt := 19) C dX9_takeValue_12 (by decide) (by omega) (by omega) (fun h12 => ?_) (fun h12 => ?_)
  · exact absurd ((kcl_sg hn hok (by decide) (by decide)).mpr hs9) h12
  · refine J_iconst (pc := 15) (v := nI 1) C dX9_takeValue_15 (by decide) ?_
    refine J_goto (pc := 16) (tgt := 20) C dX9_takeValue_16 (by decide) ?_
    refine J_istore (pc := 20) C dX9_takeValue_20 (by decide) rfl ?_
    dsimp only [List.set]
    refine J_iload (pc := 22) C dX9_takeValue_22 rfl ?_
    refine J_if_eqN (pc := 24) (tgt := 31) C dX9_takeValue_24 (by decide) (by omega) (fun h24 => absurd h24 (by decide)) (fun _ => ?_)
    refine J_aload_n (pc := 27) C dX9_takeValue_27 rfl rfl ?_
    refine J_callV0 (pc := 28) C dX9_takeValue_28 m_X9_70 (x_advance l G A S wr _ Z P _ V L T hx hk) ⟨jle rfl, jle rfl⟩ rfl rfl rfl rfl rfl (jle rfl) ⟨Nat.zero_le _, Nat.zero_le _⟩ ?_
    try dsimp only [tt]
    exact l_tv l G A S wr B Z P Q V L T a9 b9 K.2.1 true C hx (hk.adv hS) hq1 hq2
set_option maxHeartbeats 4000000 in
set_option maxRecDepth 100000 in
theorem x_tvm_x (l : Launch) (G : jG) {X : Nat × (Nat → Nat)} {ix : Nat} {K : Nat × Nat × Nat} (A : xA) (S : xS) (wr : Int32) (B : xB) (Z : xZ) (P : xC) (Q : xN) (V : xV) (L : xL) (T : jMem) (a9 b9 : Int64) (w9 : Nat) (hst : l.stackTraces = false) (hx : xcx X A S) (hk : xtk X S ix K) (hs9 : isSignF X K 45 = true) (hq : (¬ ((nextF X K.2.2).1 = 3 ∨ ((nextF X K.2.2).1 = 2 ∧ (nextF X K.2.2).2.2 - (nextF X K.2.2).2.1 ≤ 10)) ∧ w9 = (nextF X K.2.2).2.1) ∨ (((nextF X K.2.2).1 = 3 ∨ ((nextF X K.2.2).1 = 2 ∧ (nextF X K.2.2).2.2 - (nextF X K.2.2).2.1 ≤ 10)) ∧ ¬ jin2 a9 b9 (sgn true (lN (numN X (nextF X K.2.2)))) = true ∧ w9 = K.2.1)) : jCp l G yX9_takeValue cX9_takeValue 11 (some .long) 7 103 1 6 [.ref 3, .long a9, .long b9] (encX A S (tt X ix K) wr B Z P Q V L T) ((fun o => o = .inr (eIA, jno (encX A S (tt X (axF ix K) (nextF X K.2.2)) (nI w9) B Z P Q V L T)))) := by
  refine jCp.of (by decide) 6 rfl [some (.ref 3), some (.long a9), none, some (.long b9), none, none, none, none, none, none, none] rfl (fun p e s m args below meth c C hT9 hz9 => ?_)
  have hX1 := hx.1
  have hX2 := hx.2.1
  have hoc := hx.2.2.1
  have hS := hx.2.2.2.1
  have hok := hx.2.2.2.2
  have hn := hk.n
  have hg := hn.g
  have hg1 := hg.1
  have hg2 := hg1.1
  have hg3 := hg1.2.1
  have hkl := kcl_lt hX2 (K := K)
  have hix := hk.lt hS
  have hat := hk.at hS
  refine E_aload_n (pc := 0) C dX9_takeValue_0 rfl rfl ?_
  refine E_get (pc := 1) C dX9_takeValue_1 f_X9_18 rfl rfl ?_
  try dsimp only [tt]
  refine E_istore (pc := 4) C dX9_takeValue_4 (by decide) rfl ?_
  dsimp only [List.set]
  refine E_aload_n (pc := 6) C dX9_takeValue_6 rfl rfl ?_
  refine E_get (pc := 7) C dX9_takeValue_7 f_X9_15 rfl rfl ?_
  try dsimp only [tt]
  refine E_bipush (pc := 10) (v := nI 45) C dX9_takeValue_10 (by decide) ?_
  refine E_icmp_neN (pc := 12) (tgt := 19) C dX9_takeValue_12 (by decide) (by omega) (by omega) (fun h12 => ?_) (fun h12 => ?_)
  · exact absurd ((kcl_sg hn hok (by decide) (by decide)).mpr hs9) h12
  · refine E_iconst (pc := 15) (v := nI 1) C dX9_takeValue_15 (by decide) ?_
    refine E_goto (pc := 16) (tgt := 20) C dX9_takeValue_16 (by decide) ?_
    refine E_istore (pc := 20) C dX9_takeValue_20 (by decide) rfl ?_
    dsimp only [List.set]
    refine E_iload (pc := 22) C dX9_takeValue_22 rfl ?_
    refine E_if_eqN (pc := 24) (tgt := 31) C dX9_takeValue_24 (by decide) (by omega) (fun h24 => absurd h24 (by decide)) (fun _ => ?_)
    refine E_aload_n (pc := 27) C dX9_takeValue_27 rfl rfl ?_
    refine E_callV0 (pc := 28) C dX9_takeValue_28 m_X9_70 (x_advance l G A S wr _ Z P _ V L T hx hk) ⟨jle rfl, jle rfl⟩ rfl rfl rfl rfl rfl (jle rfl) ⟨Nat.zero_le _, Nat.zero_le _⟩ ?_
    try dsimp only [tt]
    exact l_tv_x l G A S wr B Z P Q V L T a9 b9 K.2.1 w9 true C hT9 hst hx (hk.adv hS) hq
