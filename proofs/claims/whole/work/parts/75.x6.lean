set_option maxHeartbeats 4000000 in
set_option maxRecDepth 100000 in
theorem x_obegin (l : Launch) (G : jG) (A : xA) (S : xS) (t : xT) (wr : Int32) (B : xB) (Z : xZ) (P : xC) (Q : xN) (V : xV) (L : xL) (T : jMem) (i : Nat) (hi : i < 60) : jC l G yX5_begin cX5_begin 1 none 1 12 0 0 [.ref (17 + 14 * i)] (encX A S t wr B Z P Q V L T) (.inl (none, encX A S t wr B (zO Z i (0, 0, 0, 0)) P Q V L T)) := by
  refine jC.of (by decide) 0 rfl [some (.ref (17 + 14 * i))] rfl (fun p e s m args below meth c C hT9 hNm9 => ?_)
  refine J_aload_n (pc := 0) C dX5_begin_0 rfl rfl ?_
  refine J_iconst (pc := 1) (v := nI 0) C dX5_begin_1 (by decide) ?_
  refine J_putU (pc := 2) C dX5_begin_2 p_X5_17 (gX_op hi) (jlt rfl) rfl rfl (uX_osize hi _) ?_
  try dsimp only [tt]
  refine J_aload_n (pc := 5) C dX5_begin_5 rfl rfl ?_
  refine J_iconst (pc := 6) (v := nI 0) C dX5_begin_6 (by decide) ?_
  refine J_putU (pc := 7) C dX5_begin_7 p_X5_21 (gX_op hi) (jlt rfl) rfl rfl (uX_olaid hi _) ?_
  try dsimp only [tt]
  refine J_aload_n (pc := 10) C dX5_begin_10 rfl rfl ?_
  refine J_iconst (pc := 11) (v := 0) C dX5_begin_11 (by decide) ?_
  refine J_putU (pc := 12) C dX5_begin_12 p_X5_24 (gX_op hi) (jlt rfl) rfl rfl (uX_omask hi _) ?_
  try dsimp only [tt]
  refine J_aload_n (pc := 15) C dX5_begin_15 rfl rfl ?_
  refine J_iconst (pc := 16) (v := 0) C dX5_begin_16 (by decide) ?_
  refine J_putU (pc := 17) C dX5_begin_17 p_X5_27 (gX_op hi) (jlt rfl) rfl rfl (uX_opat hi _) ?_
  try dsimp only [tt]
  exact J_vret (pc := 20) C dX5_begin_20 rfl (jo2 (by simp only [zO_self, zO_zO])) (Nat.zero_le _) (Nat.zero_le _)
set_option maxHeartbeats 4000000 in
set_option maxRecDepth 100000 in
theorem x_pbegin (l : Launch) (G : jG) (A : xA) (S : xS) (t : xT) (wr : Int32) (B : xB) (Z : xZ) (P : xC) (Q : xN) (V : xV) (L : xL) (T : jMem) (i k kd sz : Nat) (st : Int32) (hi : i < 60) (hk : k < 6) : jC l G yX6_begin cX6_begin 4 none 2 35 0 0 [.ref (19 + 14 * i + 2 * k), .int (nI kd), .int (nI sz), .int st] (encX A S t wr B Z P Q V L T) (.inl (none, encX A S t wr B (zL (zP Z (6 * i + k) (kd, sz, st)) (6 * i + k) (flF (Z.2.2 (6 * i + k)) (-1) 32)) P Q V L T)) := by
  refine jC.of (by decide) 0 rfl [some (.ref (19 + 14 * i + 2 * k)), some (.int (nI kd)), some (.int (nI sz)), some (.int st)] rfl (fun p e s m args below meth c C hT9 hNm9 => ?_)
  refine J_aload_n (pc := 0) C dX6_begin_0 rfl rfl ?_
  refine J_iload_n (pc := 1) C dX6_begin_1 rfl rfl ?_
  refine J_putU (pc := 2) C dX6_begin_2 p_X6_15 (gX_opd hi hk) (jlt rfl) rfl rfl (uX_pkind hi hk _) ?_
  try dsimp only [tt]
  refine J_aload_n (pc := 5) C dX6_begin_5 rfl rfl ?_
  refine J_iload_n (pc := 6) C dX6_begin_6 rfl rfl ?_
  refine J_putU (pc := 7) C dX6_begin_7 p_X6_19 (gX_opd hi hk) (jlt rfl) rfl rfl (uX_psz hi hk _) ?_
  try dsimp only [tt]
  refine J_aload_n (pc := 10) C dX6_begin_10 rfl rfl ?_
  refine J_iload_n (pc := 11) C dX6_begin_11 rfl rfl ?_
  refine J_putU (pc := 12) C dX6_begin_12 p_X6_22 (gX_opd hi hk) (jlt rfl) rfl rfl (uX_pset hi hk _) ?_
  try dsimp only [tt]
  refine J_aload_n (pc := 15) C dX6_begin_15 rfl rfl ?_
  refine J_get (pc := 16) C dX6_begin_16 f_X6_9 (gX_opd hi hk) rfl ?_
  refine J_iconst (pc := 19) (v := -1) C dX6_begin_19 (by decide) ?_
  refine J_callS0 (pc := 20) C dX6_begin_20 m_X6_25 (x_fill l G _ _ _ _ (gX_opl hi hk)) ⟨jle rfl, jle rfl⟩ rfl rfl (jle rfl) ⟨Nat.zero_le _, Nat.zero_le _⟩ ?_
  refine J.to (uX_opl hi hk _) ?_
  try dsimp only [tt]
  exact J_vret (pc := 23) C dX6_begin_23 rfl (jo2 (by simp only [zP_self, zP_zP]; rfl)) (Nat.zero_le _) (Nat.zero_le _)
set_option maxHeartbeats 4000000 in
set_option maxRecDepth 100000 in
theorem l_isWhole (l : Launch) (G : jG) {p : Program} {e : Env} {s : State} {m : MethodId} {args : Array Value} {below : List Frame} {meth : Method} {c : Code} (A : xA) (S : xS) (t : xT) (wr : Int32) (B : xB) (Z : xZ) (P : xC) (Q : xN) (V : xV) (L : xL) (T : jMem) (i W9 k : Nat) (C : jX0 p l (jR 2 33 0 0) s m args meth c G cX5_isWhole 3 RX5 (some .boolean)) (hi : i < 60) (hu : oU Z i) (hW : W9 < 100) (hl : (Z.1 i).2.1 < 100) (hk : k ≤ (Z.1 i).1) : J p l e (jR 2 33 0 0) s m args below meth c G 3 0 0 (.inl (some (.int (bI (allF (iwF Z i) (Z.1 i).1 k && decide ((Z.1 i).2.1 = W9)))), encX A S t wr B Z P Q V L T)) 2 [some (.ref (17 + 14 * i)), some (.int (nI W9)), some (.int (nI k))] [] (encX A S t wr B Z P Q V L T) 0 0 := by
  have hu1 := hu.1
  induction hm : (Z.1 i).1 - k generalizing k with
  | zero =>
    rw [allF_e (by omega), Bool.true_and]
    refine J_iload_n (pc := 2) C dX5_isWhole_2 rfl rfl ?_
    refine J_aload_n (pc := 3) C dX5_isWhole_3 rfl rfl ?_
    refine J_get (pc := 4) C dX5_isWhole_4 f_X5_17 (gX_op hi) rfl ?_
    try dsimp only [tt]
    refine J_icmp_geN (pc := 7) (tgt := 30) C dX5_isWhole_7 (by decide) (by omega) (by omega) (fun h7 => ?_) (fun h7 => ?_)
    · refine J_aload_n (pc := 30) C dX5_isWhole_30 rfl rfl ?_
      refine J_get (pc := 31) C dX5_isWhole_31 f_X5_21 (gX_op hi) rfl ?_
      try dsimp only [tt]
      refine J_iload_n (pc := 34) C dX5_isWhole_34 rfl rfl ?_
      refine J_icmp_neN (pc := 35) (tgt := 42) C dX5_isWhole_35 (by decide) (by omega) (by omega) (fun h35 => ?_) (fun h35 => ?_)
      · refine J_iconst (pc := 42) (v := nI 0) C dX5_isWhole_42 (by decide) ?_
        exact J_zret (pc := 43) C dX5_isWhole_43 rfl (by first | rfl | decide) (jo (by first | exact bI_1 (decide_eq_true h35) | exact bI_0 (decide_eq_false h35))) (Nat.zero_le _) (Nat.zero_le _)
      · refine J_iconst (pc := 38) (v := nI 1) C dX5_isWhole_38 (by decide) ?_
        refine J_goto (pc := 39) (tgt := 43) C dX5_isWhole_39 (by decide) ?_
        exact J_zret (pc := 43) C dX5_isWhole_43 rfl (by first | rfl | decide) (jo (by first | exact bI_1 (decide_eq_true h35) | exact bI_0 (decide_eq_false h35))) (Nat.zero_le _) (Nat.zero_le _)
    · omega
  | succ d ih =>
    obtain ⟨kd, u1, u2, u3⟩ := hu.2 k (by omega)
    rw [allF_st (by omega)]
    refine J_iload_n (pc := 2) C dX5_isWhole_2 rfl rfl ?_
    refine J_aload_n (pc := 3) C dX5_isWhole_3 rfl rfl ?_
    refine J_get (pc := 4) C dX5_isWhole_4 f_X5_17 (gX_op hi) rfl ?_
    try dsimp only [tt]
    refine J_icmp_geN (pc := 7) (tgt := 30) C dX5_isWhole_7 (by decide) (by omega) (by omega) (fun h7 => ?_) (fun h7 => ?_)
    · omega
    · refine J_aload_n (pc := 10) C dX5_isWhole_10 rfl rfl ?_
      refine J_get (pc := 11) C dX5_isWhole_11 f_X5_11 (gX_op hi) rfl ?_
      refine J_iload_n (pc := 14) C dX5_isWhole_14 rfl rfl ?_
      refine J_aaldN (pc := 15) C dX5_isWhole_15 (gX_ops hi) (by decide) (by omega) (by decide) rfl ?_
      refine J_callV1 (pc := 16) C dX5_isWhole_16 m_X5_31 (x_sw l G _ _ _ _ _ _ _ (gX_pd hi (by omega) u2) (gX_opl hi (by omega)) u1 u3) ⟨jle rfl, jle rfl⟩ (gX_pd hi (by omega) u2) rfl rfl rfl rfl (jle rfl) ⟨Nat.zero_le _, Nat.zero_le _⟩ ?_
      try dsimp only [tt]
      refine J_if_ne (pc := 19) (tgt := 24) C dX5_isWhole_19 (by decide) (fun h19 => ?_) (fun h19 => ?_)
      · refine J_iincN (pc := 24) C dX5_isWhole_24 rfl (by decide) rfl ?_
        dsimp only [List.set]
        refine J_goto (pc := 27) (tgt := 2) C dX5_isWhole_27 (by decide) ?_
        rw [show iwF Z i k = true from bI_t h19, Bool.true_and]
        exact ih (k + 1) (by omega) (by omega)
      · refine J_iconst (pc := 22) (v := nI 0) C dX5_isWhole_22 (by decide) ?_
        exact J_zret (pc := 23) C dX5_isWhole_23 rfl (by first | rfl | decide) (jo (by rw [show iwF Z i k = false from bI_f h19]; rfl)) (Nat.zero_le _) (Nat.zero_le _)
set_option maxHeartbeats 4000000 in
set_option maxRecDepth 100000 in
theorem x_isWhole (l : Launch) (G : jG) (A : xA) (S : xS) (t : xT) (wr : Int32) (B : xB) (Z : xZ) (P : xC) (Q : xN) (V : xV) (L : xL) (T : jMem) (i W9 : Nat) (hi : i < 60) (hu : oU Z i) (hW : W9 < 100) (hl : (Z.1 i).2.1 < 100) : jC l G yX5_isWhole cX5_isWhole 3 (some .boolean) 2 33 0 0 [.ref (17 + 14 * i), .int (nI W9)] (encX A S t wr B Z P Q V L T) (.inl (some (.int (bI (allF (iwF Z i) (Z.1 i).1 0 && decide ((Z.1 i).2.1 = W9)))), encX A S t wr B Z P Q V L T)) := by
  refine jC.of (by decide) 1 rfl [some (.ref (17 + 14 * i)), some (.int (nI W9)), none] rfl (fun p e s m args below meth c C hT9 hNm9 => ?_)
  refine J_iconst (pc := 0) (v := nI 0) C dX5_isWhole_0 (by decide) ?_
  refine J_istore_n (pc := 1) C dX5_isWhole_1 rfl (by decide) rfl ?_
  dsimp only [List.set]
  exact l_isWhole l G A S t wr B Z P Q V L T i W9 0 C hi hu hW hl (Nat.zero_le _)
set_option maxHeartbeats 4000000 in
set_option maxRecDepth 100000 in
theorem l_shares (l : Launch) (G : jG) {p : Program} {e : Env} {s : State} {m : MethodId} {args : Array Value} {below : List Frame} {meth : Method} {c : Code} (A : xA) (S : xS) (t : xT) (wr : Int32) (B : xB) (Z : xZ) (P : xC) (Q : xN) (V : xV) (L : xL) (T : jMem) (o i : Nat) (C : jX0 p l (jR 2 33 0 0) s m args meth c G cX1_sharesWordWithEarlier 3 RX1 (some .boolean)) (ho : o < 60) (hi : i ≤ o) : J p l e (jR 2 33 0 0) s m args below meth c G 3 0 0 (.inl (some (.int (bI (anyF (fun i => shZ Z i o) o i))), encX A S t wr B Z P Q V L T)) 2 [some (.ref 863), some (.int (nI o)), some (.int (nI i))] [] (encX A S t wr B Z P Q V L T) 0 0 := by
  induction hm : o - i generalizing i with
  | zero =>
    rw [anyF_e (by omega)]
    refine J_iload_n (pc := 2) C dX1_sharesWordWithEarlier_2 rfl rfl ?_
    refine J_iload_n (pc := 3) C dX1_sharesWordWithEarlier_3 rfl rfl ?_
    refine J_icmp_geN (pc := 4) (tgt := 39) C dX1_sharesWordWithEarlier_4 (by decide) (by omega) (by omega) (fun h4 => ?_) (fun h4 => ?_)
    · refine J_iconst (pc := 39) (v := nI 0) C dX1_sharesWordWithEarlier_39 (by decide) ?_
      exact J_zret (pc := 40) C dX1_sharesWordWithEarlier_40 rfl (by first | rfl | decide) (rfl) (Nat.zero_le _) (Nat.zero_le _)
    · omega
  | succ d ih =>
    rw [anyF_st (by omega)]
    have hi9 : i < 60 := by omega
    refine J_iload_n (pc := 2) C dX1_sharesWordWithEarlier_2 rfl rfl ?_
    refine J_iload_n (pc := 3) C dX1_sharesWordWithEarlier_3 rfl rfl ?_
    refine J_icmp_geN (pc := 4) (tgt := 39) C dX1_sharesWordWithEarlier_4 (by decide) (by omega) (by omega) (fun h4 => ?_) (fun h4 => ?_)
    · omega
    · refine J_aload_n (pc := 7) C dX1_sharesWordWithEarlier_7 rfl rfl ?_
      refine J_get (pc := 8) C dX1_sharesWordWithEarlier_8 f_X1_24 rfl rfl ?_
      refine J_get (pc := 11) C dX1_sharesWordWithEarlier_11 f_X1_81 rfl rfl ?_
      refine J_iload_n (pc := 14) C dX1_sharesWordWithEarlier_14 rfl rfl ?_
      refine J_aaldN (pc := 15) C dX1_sharesWordWithEarlier_15 rfl (by decide) (by omega) (by decide) rfl ?_
      refine J_aload_n (pc := 16) C dX1_sharesWordWithEarlier_16 rfl rfl ?_
      refine J_get (pc := 17) C dX1_sharesWordWithEarlier_17 f_X1_24 rfl rfl ?_
      refine J_get (pc := 20) C dX1_sharesWordWithEarlier_20 f_X1_81 rfl rfl ?_
      refine J_iload_n (pc := 23) C dX1_sharesWordWithEarlier_23 rfl rfl ?_
      refine J_aaldN (pc := 24) C dX1_sharesWordWithEarlier_24 rfl (by decide) (by omega) (by decide) rfl ?_
      refine J_callV1 (pc := 25) C dX1_sharesWordWithEarlier_25 m_X1_104 (x_shares l G _ _ _ _ _ _ _ _ _ _ _ _ _ (gX_op hi9) (gX_op ho)) ⟨jle rfl, jle rfl⟩ (gX_op hi9) rfl rfl rfl rfl (jle rfl) ⟨Nat.zero_le _, Nat.zero_le _⟩ ?_
      try dsimp only [tt]
      refine J_if_eq (pc := 28) (tgt := 33) C dX1_sharesWordWithEarlier_28 (by decide) (fun h28 => ?_) (fun h28 => ?_)
      · refine J_iincN (pc := 33) C dX1_sharesWordWithEarlier_33 rfl (by decide) rfl ?_
        dsimp only [List.set]
        refine J_goto (pc := 36) (tgt := 2) C dX1_sharesWordWithEarlier_36 (by decide) ?_
        rw [show shZ Z i o = false from bI_f h28, Bool.false_or]
        exact ih (i + 1) (by omega) (by omega)
      · refine J_iconst (pc := 31) (v := nI 1) C dX1_sharesWordWithEarlier_31 (by decide) ?_
        exact J_zret (pc := 32) C dX1_sharesWordWithEarlier_32 rfl (by first | rfl | decide) (jo (by rw [show shZ Z i o = true from bI_t h28]; rfl)) (Nat.zero_le _) (Nat.zero_le _)
set_option maxHeartbeats 4000000 in
set_option maxRecDepth 100000 in
theorem x_sharesE (l : Launch) (G : jG) (A : xA) (S : xS) (t : xT) (wr : Int32) (B : xB) (Z : xZ) (P : xC) (Q : xN) (V : xV) (L : xL) (T : jMem) (o : Nat) (ho : o < 60) : jC l G yX1_sharesWordWithEarlier cX1_sharesWordWithEarlier 3 (some .boolean) 2 33 0 0 [.ref 863, .int (nI o)] (encX A S t wr B Z P Q V L T) (.inl (some (.int (bI (anyF (fun i => shZ Z i o) o 0))), encX A S t wr B Z P Q V L T)) := by
  refine jC.of (by decide) 1 rfl [some (.ref 863), some (.int (nI o)), none] rfl (fun p e s m args below meth c C hT9 hNm9 => ?_)
  refine J_iconst (pc := 0) (v := nI 0) C dX1_sharesWordWithEarlier_0 (by decide) ?_
  refine J_istore_n (pc := 1) C dX1_sharesWordWithEarlier_1 rfl (by decide) rfl ?_
  dsimp only [List.set]
  exact l_shares l G A S t wr B Z P Q V L T o 0 C ho (Nat.zero_le _)
set_option maxHeartbeats 4000000 in
set_option maxRecDepth 100000 in
theorem l_opOf (l : Launch) (G : jG) {p : Program} {e : Env} {s : State} {m : MethodId} {args : Array Value} {below : List Frame} {meth : Method} {c : Code} (A : xA) (S : xS) (t : xT) (wr : Int32) (B : xB) (Z : xZ) (P : xC) (Q : xN) (V : xV) (L : xL) (T : jMem) (w : Int32) (i : Nat) (C : jX0 p l (jR 2 33 0 0) s m args meth c G cX2_opOf 3 RX2 (some .int)) (hm9 : B.2.2.2.2.1 ≤ 60) (hi : i ≤ B.2.2.2.2.1) : J p l e (jR 2 33 0 0) s m args below meth c G 3 0 0 (.inl (some (.int (lI (xoF Z w B.2.2.2.2.1 i))), encX A S t wr B Z P Q V L T)) 2 [some (.ref 8), some (.int w), some (.int (nI i))] [] (encX A S t wr B Z P Q V L T) 0 0 := by
  induction hm : B.2.2.2.2.1 - i generalizing i with
  | zero =>
    rw [xoF, if_neg (by omega)]
    refine J_iload_n (pc := 2) C dX2_opOf_2 rfl rfl ?_
    refine J_aload_n (pc := 3) C dX2_opOf_3 rfl rfl ?_
    refine J_get (pc := 4) C dX2_opOf_4 f_X2_24 rfl rfl ?_
    refine J_get (pc := 7) C dX2_opOf_7 f_X2_42 rfl rfl ?_
    try dsimp only [tt]
    refine J_icmp_geN (pc := 10) (tgt := 34) C dX2_opOf_10 (by decide) (by omega) (by omega) (fun h10 => ?_) (fun h10 => ?_)
    · refine J_iconst (pc := 34) (v := -1) C dX2_opOf_34 (by decide) ?_
      exact J_iret (pc := 35) C dX2_opOf_35 rfl (rfl) (Nat.zero_le _) (Nat.zero_le _)
    · omega
  | succ d ih =>
    have h1 : xoF Z w B.2.2.2.2.1 i = if owF (Z.1 i).2.2.1 (Z.1 i).2.2.2 w = true then i else xoF Z w B.2.2.2.2.1 (i + 1) := by
      conv => lhs; rw [xoF]
      rw [if_pos (by omega)]
    rw [h1]
    have hi9 : i < 60 := by omega
    refine J_iload_n (pc := 2) C dX2_opOf_2 rfl rfl ?_
    refine J_aload_n (pc := 3) C dX2_opOf_3 rfl rfl ?_
    refine J_get (pc := 4) C dX2_opOf_4 f_X2_24 rfl rfl ?_
    refine J_get (pc := 7) C dX2_opOf_7 f_X2_42 rfl rfl ?_
    try dsimp only [tt]
    refine J_icmp_geN (pc := 10) (tgt := 34) C dX2_opOf_10 (by decide) (by omega) (by omega) (fun h10 => ?_) (fun h10 => ?_)
    · omega
    · refine J_aload_n (pc := 13) C dX2_opOf_13 rfl rfl ?_
      refine J_get (pc := 14) C dX2_opOf_14 f_X2_29 rfl rfl ?_
      refine J_iload_n (pc := 17) C dX2_opOf_17 rfl rfl ?_
      refine J_aaldN (pc := 18) C dX2_opOf_18 rfl (by decide) (by omega) (by decide) rfl ?_
      refine J_iload_n (pc := 19) C dX2_opOf_19 rfl rfl ?_
      refine J_callV1 (pc := 20) C dX2_opOf_20 m_X2_45 (x_owns l G _ _ _ _ _ _ _ _ (gX_op hi9)) ⟨jle rfl, jle rfl⟩ (gX_op hi9) rfl rfl rfl rfl (jle rfl) ⟨Nat.zero_le _, Nat.zero_le _⟩ ?_
      try dsimp only [tt]
      refine J_if_eq (pc := 23) (tgt := 28) C dX2_opOf_23 (by decide) (fun h23 => ?_) (fun h23 => ?_)
      · refine J_iincN (pc := 28) C dX2_opOf_28 rfl (by decide) rfl ?_
        dsimp only [List.set]
        refine J_goto (pc := 31) (tgt := 2) C dX2_opOf_31 (by decide) ?_
        rw [if_neg (by rw [bI_f h23]; decide)]
        exact ih (i + 1) (by omega) (by omega)
      · refine J_iload_n (pc := 26) C dX2_opOf_26 rfl rfl ?_
        exact J_iret (pc := 27) C dX2_opOf_27 rfl (jo (by rw [if_pos (bI_t h23), lI, if_neg (by omega)])) (Nat.zero_le _) (Nat.zero_le _)
set_option maxHeartbeats 4000000 in
set_option maxRecDepth 100000 in
theorem x_opOf (l : Launch) (G : jG) (A : xA) (S : xS) (t : xT) (wr : Int32) (B : xB) (Z : xZ) (P : xC) (Q : xN) (V : xV) (L : xL) (T : jMem) (w : Int32) (hm9 : B.2.2.2.2.1 ≤ 60) : jC l G yX2_opOf cX2_opOf 3 (some .int) 2 33 0 0 [.ref 8, .int w] (encX A S t wr B Z P Q V L T) (.inl (some (.int (lI (xoF Z w B.2.2.2.2.1 0))), encX A S t wr B Z P Q V L T)) := by
  refine jC.of (by decide) 1 rfl [some (.ref 8), some (.int w), none] rfl (fun p e s m args below meth c C hT9 hNm9 => ?_)
  refine J_iconst (pc := 0) (v := nI 0) C dX2_opOf_0 (by decide) ?_
  refine J_istore_n (pc := 1) C dX2_opOf_1 rfl (by decide) rfl ?_
  dsimp only [List.set]
  exact l_opOf l G A S t wr B Z P Q V L T w 0 C hm9 (Nat.zero_le _)
set_option maxHeartbeats 4000000 in
set_option maxRecDepth 100000 in
theorem x_addToken (l : Launch) (G : jG) (A : xA) (S : xS) (t : xT) (wr : Int32) (B : xB) (Z : xZ) (P : xC) (Q : xN) (V : xV) (L : xL) (T : jMem) (k a b : Nat) (hs : S.2.1 < 4001) : jC l G yX8_addToken cX8_addToken 4 none 1 12 0 0 [.ref 4, .int (nI k), .int (nI a), .int (nI b)] (encX A S t wr B Z P Q V L T) (.inl (none, encX A (sAdd S k a b) t wr B Z P Q V L T)) := by
  refine jC.of (by decide) 0 rfl [some (.ref 4), some (.int (nI k)), some (.int (nI a)), some (.int (nI b))] rfl (fun p e s m args below meth c C hT9 hNm9 => ?_)
  refine J_aload_n (pc := 0) C dX8_addToken_0 rfl rfl ?_
  refine J_get (pc := 1) C dX8_addToken_1 f_X8_9 rfl rfl ?_
  refine J_aload_n (pc := 4) C dX8_addToken_4 rfl rfl ?_
  refine J_get (pc := 5) C dX8_addToken_5 f_X8_25 rfl rfl ?_
  try dsimp only [tt]
  refine J_iload_n (pc := 8) C dX8_addToken_8 rfl rfl ?_
  refine J_iastN (pc := 9) C dX8_addToken_9 rfl (by omega) (by decide) (uX_kinds _) ?_
  refine J_aload_n (pc := 10) C dX8_addToken_10 rfl rfl ?_
  refine J_get (pc := 11) C dX8_addToken_11 f_X8_15 rfl rfl ?_
  refine J_aload_n (pc := 14) C dX8_addToken_14 rfl rfl ?_
  refine J_get (pc := 15) C dX8_addToken_15 f_X8_25 rfl rfl ?_
  try dsimp only [tt]
  refine J_iload_n (pc := 18) C dX8_addToken_18 rfl rfl ?_
  refine J_iastN (pc := 19) C dX8_addToken_19 rfl (by omega) (by decide) (uX_starts _) ?_
  refine J_aload_n (pc := 20) C dX8_addToken_20 rfl rfl ?_
  refine J_get (pc := 21) C dX8_addToken_21 f_X8_18 rfl rfl ?_
  refine J_aload_n (pc := 24) C dX8_addToken_24 rfl rfl ?_
  refine J_get (pc := 25) C dX8_addToken_25 f_X8_25 rfl rfl ?_
  try dsimp only [tt]
  refine J_iload_n (pc := 28) C dX8_addToken_28 rfl rfl ?_
  refine J_iastN (pc := 29) C dX8_addToken_29 rfl (by omega) (by decide) (uX_ends _) ?_
  refine J_aload_n (pc := 30) C dX8_addToken_30 rfl rfl ?_
  refine J_dup (pc := 31) C dX8_addToken_31 rfl ?_
  refine J_get (pc := 32) C dX8_addToken_32 f_X8_25 rfl rfl ?_
  try dsimp only [tt]
  refine J_iconst (pc := 35) (v := nI 1) C dX8_addToken_35 (by decide) ?_
  refine J_iaddN (pc := 36) C dX8_addToken_36 ?_
  refine J_putU (pc := 37) C dX8_addToken_37 p_X8_25 rfl (jlt rfl) rfl rfl (uX_ssize _) ?_
  try dsimp only [tt]
  exact J_vret (pc := 40) C dX8_addToken_40 rfl (rfl) (Nat.zero_le _) (Nat.zero_le _)
set_option maxHeartbeats 4000000 in
set_option maxRecDepth 100000 in
theorem l_split9 (l : Launch) (G : jG) {p : Program} {e : Env} {s : State} {m : MethodId} {args : Array Value} {below : List Frame} {meth : Method} {c : Code} {X : Nat × (Nat → Nat)} (A : xA) (S : xS) (t : xT) (wr : Int32) (B : xB) (Z : xZ) (P : xC) (Q : xN) (V : xV) (L : xL) (T : jMem) (c9 b a : Nat) (C : jX0 p l (jR 9 186 0 0) s m args meth c G cX8_split 4 RX8 none) (hT9 : ∀ x ∈ c.exceptionTable.toList, False) (hX1 : X.1 ≤ 4000) (hX2 : ∀ k, X.2 k < 256) (hoc : ∀ k, k < X.1 → A.2.1 k = X.2 k) (hs : spI X S c9 a b) (ha : a ≤ X.1) : Jp p l e (jR 9 186 0 0) s m args below meth c G 4 0 0 ((fun o => ∃ S9, (sOK X S9 ∧ 0 < S9.2.1) ∧ o = .inl (none, encX A S9 t wr B Z P Q V L T))) 14 [some (.ref 4), some (.int (nI X.1)), some (.int (nI b)), some (.int (nI a))] [] (encX A S t wr B Z P Q V L T) 0 0 := by
  induction hm : X.1 - a generalizing a b c9 S with
  | zero =>
    have ha9 : a = X.1 := by omega
    subst ha9
    have hc9 : S.2.1 = c9 := hs.2.1
    have hc8 := hs.2.2.1
    have hc7 := hs.2.2.2.1
    refine E_iload_n (pc := 14) C dX8_split_14 rfl rfl ?_
    refine E_iload_n (pc := 15) C dX8_split_15 rfl rfl ?_
    refine E_icmp_geN (pc := 16) (tgt := 60) C dX8_split_16 (by decide) (by omega) (by omega) (fun h16 => ?_) (fun h16 => ?_)
    · refine E_aload_n (pc := 60) C dX8_split_60 rfl rfl ?_
      refine E_sipush (pc := 61) (v := nI 128) C dX8_split_61 (by decide) ?_
      refine E_iload_n (pc := 64) C dX8_split_64 rfl rfl ?_
      refine E_iload_n (pc := 65) C dX8_split_65 rfl rfl ?_
      refine E_callV0 (pc := 66) C dX8_split_66 m_X8_43 (x_addToken l G _ _ _ _ _ _ _ _ _ _ _ _ _ _ (by omega)) ⟨jle rfl, jle rfl⟩ rfl rfl rfl rfl rfl (jle rfl) ⟨Nat.zero_le _, Nat.zero_le _⟩ ?_
      try dsimp only [tt]
      exact E_vret (pc := 69) C dX8_split_69 rfl (⟨_, ⟨spI.fin hX1 hs, Nat.succ_pos _⟩, rfl⟩) (Nat.zero_le _) (Nat.zero_le _)
    · omega
  | succ d ih =>
    have hc9 : S.2.1 = c9 := hs.2.1
    have hc8 := hs.2.2.1
    have hc7 := hs.2.2.2.1
    have hx4 := hX2 a
    have ho := hoc a (by omega)
    have hlt : a < X.1 := by omega
    have hto := nextK_to (Nat.le_of_lt hlt)
    have hl0 : S.1 = X.1 := hs.1
    refine E_iload_n (pc := 14) C dX8_split_14 rfl rfl ?_
    refine E_iload_n (pc := 15) C dX8_split_15 rfl rfl ?_
    refine E_icmp_geN (pc := 16) (tgt := 60) C dX8_split_16 (by decide) (by omega) (by omega) (fun h16 => ?_) (fun h16 => ?_)
    · omega
    · refine E_iload_n (pc := 19) C dX8_split_19 rfl rfl ?_
      refine E_iload_n (pc := 20) C dX8_split_20 rfl rfl ?_
      refine E_icmp_ltN (pc := 21) (tgt := 54) C dX8_split_21 (by decide) (by omega) (by omega) (fun h21 => ?_) (fun h21 => ?_)
      · refine E_iincN (pc := 54) C dX8_split_54 rfl (by decide) rfl ?_
        dsimp only [List.set]
        refine E_goto (pc := 57) (tgt := 14) C dX8_split_57 (by decide) ?_
        first
        | exact ih _ (c9 + 1) _ (a + 1) (hs.add (by omega) hlt (bI_f h33)) (by omega) (by omega)
        | exact ih _ c9 b (a + 1) (hs.none (Or.inl h21)) (by omega) (by omega)
        | exact ih _ c9 b (a + 1) (hs.none (Or.inr ⟨hlt, bI_t h33⟩)) (by omega) (by omega)
      · refine E_aload_n (pc := 24) C dX8_split_24 rfl rfl ?_
        refine E_get (pc := 25) C dX8_split_25 f_X8_28 rfl rfl ?_
        refine E_iload_n (pc := 28) C dX8_split_28 rfl rfl ?_
        refine E_ialdN (pc := 29) C dX8_split_29 rfl (by omega) (by decide) ?_
        try dsimp only [tt]
        rw [ho]
        refine E_callSN (pc := 30) C dX8_split_30 k_X10_isBlank n_X8_31 ns_X8_31 (x_isBlank l G _ _ (by omega)) ⟨jle rfl, jle rfl⟩ rfl rfl (jle rfl) ⟨Nat.zero_le _, Nat.zero_le _⟩ ?_
        try dsimp only [tt]
        refine E_if_ne (pc := 33) (tgt := 54) C dX8_split_33 (by decide) (fun h33 => ?_) (fun h33 => ?_)
        · refine E_iincN (pc := 54) C dX8_split_54 rfl (by decide) rfl ?_
          dsimp only [List.set]
          refine E_goto (pc := 57) (tgt := 14) C dX8_split_57 (by decide) ?_
          first
          | exact ih _ (c9 + 1) _ (a + 1) (hs.add (by omega) hlt (bI_f h33)) (by omega) (by omega)
          | exact ih _ c9 b (a + 1) (hs.none (Or.inl h21)) (by omega) (by omega)
          | exact ih _ c9 b (a + 1) (hs.none (Or.inr ⟨hlt, bI_t h33⟩)) (by omega) (by omega)
        · refine E_aload_n (pc := 36) C dX8_split_36 rfl rfl ?_
          refine E_iload_n (pc := 37) C dX8_split_37 rfl rfl ?_
          refine E_callV1 (pc := 38) C dX8_split_38 m_X8_35 (x_endOfToken l G _ X _ _ _ (by show some (Sum.inr (8, [Value.ref 1, Value.ref 5, Value.ref 6, Value.ref 7, Value.int (nI S.1), Value.int (nI S.2.1)])) = _; rw [hl0]) rfl hX1 hX2 hoc hlt) ⟨jle rfl, jle rfl⟩ rfl rfl rfl rfl rfl (jle rfl) ⟨Nat.zero_le _, Nat.zero_le _⟩ ?_
          try dsimp only [tt]
          refine E_istore_n (pc := 41) C dX8_split_41 rfl (by decide) rfl ?_
          dsimp only [List.set]
          refine E_aload_n (pc := 42) C dX8_split_42 rfl rfl ?_
          refine E_aload_n (pc := 43) C dX8_split_43 rfl rfl ?_
          refine E_iload_n (pc := 44) C dX8_split_44 rfl rfl ?_
          refine E_iload_n (pc := 45) C dX8_split_45 rfl rfl ?_
          refine E_callV1 (pc := 46) C dX8_split_46 m_X8_39 (x_kindOfToken l G _ X _ _ _ (by show some (Sum.inr (8, [Value.ref 1, Value.ref 5, Value.ref 6, Value.ref 7, Value.int (nI S.1), Value.int (nI S.2.1)])) = _; rw [hl0]) rfl hX1 hX2 hoc hlt) ⟨jle rfl, jle rfl⟩ rfl rfl rfl rfl rfl (jle rfl) ⟨Nat.zero_le _, Nat.zero_le _⟩ ?_
          try dsimp only [tt]
          refine E_iload_n (pc := 49) C dX8_split_49 rfl rfl ?_
          refine E_iload_n (pc := 50) C dX8_split_50 rfl rfl ?_
          refine E_callV0 (pc := 51) C dX8_split_51 m_X8_43 (x_addToken l G _ _ _ _ _ _ _ _ _ _ _ _ _ _ (by omega)) ⟨jle rfl, jle rfl⟩ rfl rfl rfl rfl rfl (jle rfl) ⟨Nat.zero_le _, Nat.zero_le _⟩ ?_
          try dsimp only [tt]
          refine E_iincN (pc := 54) C dX8_split_54 rfl (by decide) rfl ?_
          dsimp only [List.set]
          refine E_goto (pc := 57) (tgt := 14) C dX8_split_57 (by decide) ?_
          first
          | exact ih _ (c9 + 1) _ (a + 1) (hs.add (by omega) hlt (bI_f h33)) (by omega) (by omega)
          | exact ih _ c9 b (a + 1) (hs.none (Or.inl h21)) (by omega) (by omega)
          | exact ih _ c9 b (a + 1) (hs.none (Or.inr ⟨hlt, bI_t h33⟩)) (by omega) (by omega)
set_option maxHeartbeats 4000000 in
set_option maxRecDepth 100000 in
theorem x_split (l : Launch) (G : jG) {X : Nat × (Nat → Nat)} (A : xA) (S : xS) (t : xT) (wr : Int32) (B : xB) (Z : xZ) (P : xC) (Q : xN) (V : xV) (L : xL) (T : jMem) (hX1 : X.1 ≤ 4000) (hX2 : ∀ k, X.2 k < 256) (hoc : ∀ k, k < X.1 → A.2.1 k = X.2 k) : jCp l G yX8_split cX8_split 4 none 9 186 0 0 [.ref 4, .int (nI X.1)] (encX A S t wr B Z P Q V L T) ((fun o => ∃ S9, (sOK X S9 ∧ 0 < S9.2.1) ∧ o = .inl (none, encX A S9 t wr B Z P Q V L T))) := by
  refine jCp.of (by decide) 2 rfl [some (.ref 4), some (.int (nI X.1)), none, none] rfl (fun p e s m args below meth c C hT9 hz9 => ?_)
  refine E_aload_n (pc := 0) C dX8_split_0 rfl rfl ?_
  refine E_iload_n (pc := 1) C dX8_split_1 rfl rfl ?_
  refine E_putU (pc := 2) C dX8_split_2 p_X8_21 rfl (jlt rfl) rfl rfl (uX_length _) ?_
  try dsimp only [tt]
  refine E_aload_n (pc := 5) C dX8_split_5 rfl rfl ?_
  refine E_iconst (pc := 6) (v := nI 0) C dX8_split_6 (by decide) ?_
  refine E_putU (pc := 7) C dX8_split_7 p_X8_25 rfl (jlt rfl) rfl rfl (uX_ssize _) ?_
  try dsimp only [tt]
  refine E_iconst (pc := 10) (v := nI 0) C dX8_split_10 (by decide) ?_
  refine E_istore_n (pc := 11) C dX8_split_11 rfl (by decide) rfl ?_
  dsimp only [List.set]
  refine E_iconst (pc := 12) (v := nI 0) C dX8_split_12 (by decide) ?_
  refine E_istore_n (pc := 13) C dX8_split_13 rfl (by decide) rfl ?_
  dsimp only [List.set]
  exact l_split9 l G A _ t wr B Z P Q V L T 0 0 0 C hT9 hX1 hX2 hoc ⟨rfl, rfl, Nat.le_refl _, Nat.zero_le _, fun i hi => by omega, rfl, Or.inl (Nat.le_refl _)⟩ (Nat.zero_le _)
set_option maxHeartbeats 4000000 in
set_option maxRecDepth 100000 in
theorem x_open (l : Launch) (G : jG) {X : Nat × (Nat → Nat)} (A : xA) (S : xS) (t : xT) (wr : Int32) (B : xB) (Z : xZ) (P : xC) (Q : xN) (V : xV) (L : xL) (T : jMem) (hX1 : X.1 ≤ 4000) (hX2 : ∀ k, X.2 k < 256) (hoc : ∀ k, k < X.1 → A.2.1 k = X.2 k) (hf : fbF X 0 = none) : jCp l G yX9_open cX9_open 3 none 10 209 0 0 [.ref 3, .int (nI X.1)] (encX A S t wr B Z P Q V L T) ((fun o => ∃ S9, (sOK X S9 ∧ 0 < S9.2.1) ∧ o = .inl (none, encX A S9 (tt X 0 (nextF X 0)) (-1) B Z P Q V L T))) := by
  refine jCp.of (by decide) 1 rfl [some (.ref 3), some (.int (nI X.1)), none] rfl (fun p e s m args below meth c C hT9 hz9 => ?_)
  refine E_aload_n (pc := 0) C dX9_open_0 rfl rfl ?_
  refine E_iconst (pc := 1) (v := -1) C dX9_open_1 (by decide) ?_
  refine E_putU (pc := 2) C dX9_open_2 p_X9_24 rfl (jlt rfl) rfl rfl (uX_wrongAt _) ?_
  try dsimp only [tt]
  refine E_aload_n (pc := 5) C dX9_open_5 rfl rfl ?_
  refine E_get (pc := 6) C dX9_open_6 f_X9_36 rfl rfl ?_
  refine E_iload_n (pc := 9) C dX9_open_9 rfl rfl ?_
  refine E_callV1 (pc := 10) C dX9_open_10 m_X9_40 (x_ff l G _ X _ _ _ rfl rfl hX1 hX2 hoc) ⟨jle rfl, jle rfl⟩ rfl rfl rfl rfl rfl (jle rfl) ⟨Nat.zero_le _, Nat.zero_le _⟩ ?_
  try dsimp only [tt]
  rw [hf]
  refine E_istore_n (pc := 13) C dX9_open_13 rfl (by decide) rfl ?_
  dsimp only [List.set]
  refine E_iload_n (pc := 14) C dX9_open_14 rfl rfl ?_
  refine E_if_lt (pc := 15) (tgt := 23) C dX9_open_15 (by decide) (fun h15 => ?_) (fun h15 => ?_)
  · refine E_aload_n (pc := 23) C dX9_open_23 rfl rfl ?_
    refine E_get (pc := 24) C dX9_open_24 f_X9_36 rfl rfl ?_
    refine E_iload_n (pc := 27) C dX9_open_27 rfl rfl ?_
    refine E_callVp (pc := 28) C hT9 dX9_open_28 m_X9_48 (x_split l G (X := X) _ _ _ _ _ _ _ _ _ _ _ hX1 hX2 hoc) ⟨jle rfl, jle rfl⟩ rfl rfl rfl rfl rfl (jle rfl) ⟨jle rfl, jle rfl⟩ (jle rfl) (jle rfl) (fun E9 M9 h9 => by obtain ⟨S9, -, z⟩ := h9; cases z) (fun v9 M9 h9 => ?_)
    obtain ⟨S9, hS9, z⟩ := h9
    injection z with z
    injection z with z1 z2
    subst z1 z2
    have hk0 : xtk X S9 0 (nextF X 0) := ⟨hS9.2, rfl⟩
    have hat := hk0.at hS9.1
    try dsimp only [tt]
    refine E_aload_n (pc := 31) C dX9_open_31 rfl rfl ?_
    refine E_iconst (pc := 32) (v := nI 0) C dX9_open_32 (by decide) ?_
    refine E_putU (pc := 33) C dX9_open_33 p_X9_9 rfl (jlt rfl) rfl rfl (uX_index _) ?_
    try dsimp only [tt]
    refine E_aload_n (pc := 36) C dX9_open_36 rfl rfl ?_
    refine E_callV0 (pc := 37) C dX9_open_37 m_X9_51 (x_look l G _ _ _ _ _ _ _ _ _ _ _ (by show 0 < 4001; omega)) ⟨jle rfl, jle rfl⟩ rfl rfl rfl rfl rfl (jle rfl) ⟨Nat.zero_le _, Nat.zero_le _⟩ ?_
    try dsimp only [tt]
    exact E_vret (pc := 40) C dX9_open_40 rfl (⟨S9, hS9, jo2 (by show encX A S9 (0, S9.2.2.1 0, S9.2.2.2.1 0, S9.2.2.2.2 0) _ B Z P Q V L T = _; rw [hat.1, hat.2.1, hat.2.2])⟩) (Nat.zero_le _) (Nat.zero_le _)
  · exact absurd (by decide) h15
set_option maxHeartbeats 4000000 in
set_option maxRecDepth 100000 in
theorem x_open_x (l : Launch) (G : jG) {X : Nat × (Nat → Nat)} (A : xA) (S : xS) (t : xT) (wr : Int32) (B : xB) (Z : xZ) (P : xC) (Q : xN) (V : xV) (L : xL) (T : jMem) (q9 : Nat) (hst : l.stackTraces = false) (hX1 : X.1 ≤ 4000) (hX2 : ∀ k, X.2 k < 256) (hoc : ∀ k, k < X.1 → A.2.1 k = X.2 k) (hf : fbF X 0 = some q9) (hq9 : q9 < 4001) : jCp l G yX9_open cX9_open 3 none 10 209 1 6 [.ref 3, .int (nI X.1)] (encX A S t wr B Z P Q V L T) ((fun o => o = .inr (eIA, jno (encX A S t (nI q9) B Z P Q V L T)))) := by
  refine jCp.of (by decide) 1 rfl [some (.ref 3), some (.int (nI X.1)), none] rfl (fun p e s m args below meth c C hT9 hz9 => ?_)
  refine E_aload_n (pc := 0) C dX9_open_0 rfl rfl ?_
  refine E_iconst (pc := 1) (v := -1) C dX9_open_1 (by decide) ?_
  refine E_putU (pc := 2) C dX9_open_2 p_X9_24 rfl (jlt rfl) rfl rfl (uX_wrongAt _) ?_
  try dsimp only [tt]
  refine E_aload_n (pc := 5) C dX9_open_5 rfl rfl ?_
  refine E_get (pc := 6) C dX9_open_6 f_X9_36 rfl rfl ?_
  refine E_iload_n (pc := 9) C dX9_open_9 rfl rfl ?_
  refine E_callV1 (pc := 10) C dX9_open_10 m_X9_40 (x_ff l G _ X _ _ _ rfl rfl hX1 hX2 hoc) ⟨jle rfl, jle rfl⟩ rfl rfl rfl rfl rfl (jle rfl) ⟨Nat.zero_le _, Nat.zero_le _⟩ ?_
  try dsimp only [tt]
  rw [hf]
  refine E_istore_n (pc := 13) C dX9_open_13 rfl (by decide) rfl ?_
  dsimp only [List.set]
  refine E_iload_n (pc := 14) C dX9_open_14 rfl rfl ?_
  refine E_if_lt (pc := 15) (tgt := 23) C dX9_open_15 (by decide) (fun h15 => ?_) (fun h15 => ?_)
  · exact absurd h15 (nI_pos (by omega))
  · refine E_aload_n (pc := 18) C dX9_open_18 rfl rfl ?_
    refine E_iload_n (pc := 19) C dX9_open_19 rfl rfl ?_
    exact E_callVx (pc := 20) C hT9 dX9_open_20 m_X9_44 (x_refuse l G _ _ _ _ _ _ _ _ _ _ _ _ hst) ⟨jle rfl, jle rfl⟩ rfl rfl rfl rfl rfl (jle rfl) ⟨jle rfl, jle rfl⟩ (jle rfl) (jle rfl) (rfl)
