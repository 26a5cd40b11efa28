set_option maxHeartbeats 4000000 in
set_option maxRecDepth 100000 in
theorem l_comp (l : Launch) (G : jG) {p : Program} {e : Env} {s : State} {m : MethodId} {args : Array Value} {below : List Frame} {meth : Method} {c : Code} (A : xA) (S : xS) (t : xT) (wr : Int32) (B : xB) (Z : xZ) (P : xC) (Q : xN) (V : xV) (L : xL) (T : jMem) {D : mD} (o k : Nat) (C : jX0 p l (jR 6 82 0 0) s m args meth c G cX10_compose 4 RX10 (some .int)) (hd : dR D B Z D.2.2.1) (hb : nB B.2.2.2.2 60) (ho : o < D.2.2.1) (hk : k ≤ mOpds D o) (he : efF D o A.2.2 (mOpds D o) k = mOpds D o) : J p l e (jR 6 82 0 0) s m args below meth c G 4 0 0 (.inl (some (.int (cwF Z o A.2.2 (mOpds D o))), encX A S t wr B Z P Q V L T)) 7 [some (.ref 0), some (.ref (17 + 14 * o)), some (.int (cwF Z o A.2.2 k)), some (.int (nI k))] [] (encX A S t wr B Z P Q V L T) 0 0 := by
  have hm1 := hd.2.2.2.1.1
  have hm2 := hb.1
  have ho6 : o < 60 := by omega
  obtain ⟨hR, hW⟩ := hd.2.2.2.2 o ho
  have hsz := hR.1.1
  have hs6 := hR.1.2.1
  induction hm : mOpds D o - k generalizing k with
  | zero =>
    have e9 : k = mOpds D o := by omega
    subst e9
    refine J_iload_n (pc := 7) C dX10_compose_7 rfl rfl ?_
    refine J_aload_n (pc := 8) C dX10_compose_8 rfl rfl ?_
    refine J_get (pc := 9) C dX10_compose_9 f_X10_126 (gX_op ho6) rfl ?_
    try dsimp only
    refine J_icmp_geN (pc := 12) (tgt := 67) C dX10_compose_12 (by decide) (by omega) (by omega) (fun h12 => ?_) (fun h12 => ?_)
    · refine J_iload_n (pc := 67) C dX10_compose_67 rfl rfl ?_
      exact J_iret (pc := 68) C dX10_compose_68 rfl (rfl) (Nat.zero_le _) (Nat.zero_le _)
    · omega
  | succ d ih =>
    have hk6 : k < mOpds D o := by omega
    have hk7 : k < 6 := by omega
    have hpd := hR.2.1 k hk6
    have hbits := hpd.bits
    rw [efF_st hk6, hbits] at he
    refine J_iload_n (pc := 7) C dX10_compose_7 rfl rfl ?_
    refine J_aload_n (pc := 8) C dX10_compose_8 rfl rfl ?_
    refine J_get (pc := 9) C dX10_compose_9 f_X10_126 (gX_op ho6) rfl ?_
    try dsimp only
    refine J_icmp_geN (pc := 12) (tgt := 67) C dX10_compose_12 (by decide) (by omega) (by omega) (fun h12 => ?_) (fun h12 => ?_)
    · omega
    · refine J_aload_n (pc := 15) C dX10_compose_15 rfl rfl ?_
      refine J_get (pc := 16) C dX10_compose_16 f_X10_131 (gX_op ho6) rfl ?_
      refine J_iload_n (pc := 19) C dX10_compose_19 rfl rfl ?_
      refine J_aaldN (pc := 20) C dX10_compose_20 (gX_ops ho6) (by decide) (by omega) (by decide) rfl ?_
      refine J_aload_n (pc := 21) C dX10_compose_21 rfl rfl ?_
      refine J_get (pc := 22) C dX10_compose_22 f_X10_13 rfl rfl ?_
      refine J_iload_n (pc := 25) C dX10_compose_25 rfl rfl ?_
      refine J_laldN (pc := 26) C dX10_compose_26 rfl (by omega) (by decide) ?_
      refine J_callV1 (pc := 27) C dX10_compose_27 m_X10_181 (x_canBe l G _ _ _ _ _ _ _ (A.2.2 k) (gX_pd ho6 hk7 hpd.2.1) (gX_opl ho6 hk7) hpd.1 hpd.2.2.1) ⟨jle rfl, jle rfl⟩ (gX_pd ho6 hk7 hpd.2.1) rfl rfl rfl rfl (jle rfl) ⟨Nat.zero_le _, Nat.zero_le _⟩ ?_
      try dsimp only
      refine J_if_ne (pc := 30) (tgt := 43) C dX10_compose_30 (by decide) (fun h30 => ?_) (fun h30 => ?_)
      · refine J_iload_n (pc := 43) C dX10_compose_43 rfl rfl ?_
        refine J_aload_n (pc := 44) C dX10_compose_44 rfl rfl ?_
        refine J_get (pc := 45) C dX10_compose_45 f_X10_131 (gX_op ho6) rfl ?_
        refine J_iload_n (pc := 48) C dX10_compose_48 rfl rfl ?_
        refine J_aaldN (pc := 49) C dX10_compose_49 (gX_ops ho6) (by decide) (by omega) (by decide) rfl ?_
        refine J_aload_n (pc := 50) C dX10_compose_50 rfl rfl ?_
        refine J_get (pc := 51) C dX10_compose_51 f_X10_13 rfl rfl ?_
        refine J_iload_n (pc := 54) C dX10_compose_54 rfl rfl ?_
        refine J_laldN (pc := 55) C dX10_compose_55 rfl (by omega) (by decide) ?_
        refine J_callV1 (pc := 56) C dX10_compose_56 m_X10_187 (x_spread l G _ _ _ _ _ _ _ (A.2.2 k) (gX_pd ho6 hk7 hpd.2.1) (gX_opl ho6 hk7) hpd.1 hpd.2.2.1) ⟨jle rfl, jle rfl⟩ (gX_pd ho6 hk7 hpd.2.1) rfl rfl rfl rfl (jle rfl) ⟨Nat.zero_le _, Nat.zero_le _⟩ ?_
        try dsimp only
        refine J_ior (pc := 59) C dX10_compose_59 ?_
        refine J_istore_n (pc := 60) C dX10_compose_60 rfl (by decide) rfl ?_
        dsimp only [List.set]
        refine J_iincN (pc := 61) C dX10_compose_61 rfl (by decide) rfl ?_
        dsimp only [List.set]
        refine J_goto (pc := 64) (tgt := 7) C dX10_compose_64 (by decide) ?_
        rw [if_pos (bI_t h30)] at he
        exact ih (k + 1) (by omega) he (by omega)
      · (rw [if_neg (by rw [bI_f h30]; decide)] at he; omega)
set_option maxHeartbeats 4000000 in
set_option maxRecDepth 100000 in
theorem l_comp_x (l : Launch) (G : jG) {p : Program} {e : Env} {s : State} {m : MethodId} {args : Array Value} {below : List Frame} {meth : Method} {c : Code} (A : xA) (S : xS) (t : xT) (wr : Int32) (B : xB) (Z : xZ) (P : xC) (Q : xN) (V : xV) (L : xL) (T : jMem) {D : mD} (o k : Nat) (C : jX0 p l (jR 6 82 1 6) s m args meth c G cX10_compose 4 RX10 (some .int)) (hT9 : ∀ x ∈ c.exceptionTable.toList, False) (hst : l.stackTraces = false) (hd : dR D B Z D.2.2.1) (hb : nB B.2.2.2.2 60) (ho : o < D.2.2.1) (hk : k ≤ mOpds D o) (he : efF D o A.2.2 (mOpds D o) k < mOpds D o) : Jp p l e (jR 6 82 1 6) s m args below meth c G 4 1 6 ((fun o => o = .inr (eIA, jno (encX A S t wr B Z P Q V L T)))) 7 [some (.ref 0), some (.ref (17 + 14 * o)), some (.int (cwF Z o A.2.2 k)), some (.int (nI k))] [] (encX A S t wr B Z P Q V L T) 0 0 := by
  have hm1 := hd.2.2.2.1.1
  have hm2 := hb.1
  have ho6 : o < 60 := by omega
  obtain ⟨hR, hW⟩ := hd.2.2.2.2 o ho
  have hsz := hR.1.1
  have hs6 := hR.1.2.1
  induction hm : mOpds D o - k generalizing k with
  | zero =>
    exfalso
    rw [efF_e (by omega)] at he
    omega
  | succ d ih =>
    have hk6 : k < mOpds D o := by omega
    have hk7 : k < 6 := by omega
    have hpd := hR.2.1 k hk6
    have hbits := hpd.bits
    rw [efF_st hk6, hbits] at he
    refine E_iload_n (pc := 7) C dX10_compose_7 rfl rfl ?_
    refine E_aload_n (pc := 8) C dX10_compose_8 rfl rfl ?_
    refine E_get (pc := 9) C dX10_compose_9 f_X10_126 (gX_op ho6) rfl ?_
    try dsimp only
    refine E_icmp_geN (pc := 12) (tgt := 67) C dX10_compose_12 (by decide) (by omega) (by omega) (fun h12 => ?_) (fun h12 => ?_)
    · omega
    · refine E_aload_n (pc := 15) C dX10_compose_15 rfl rfl ?_
      refine E_get (pc := 16) C dX10_compose_16 f_X10_131 (gX_op ho6) rfl ?_
      refine E_iload_n (pc := 19) C dX10_compose_19 rfl rfl ?_
      refine E_aaldN (pc := 20) C dX10_compose_20 (gX_ops ho6) (by decide) (by omega) (by decide) rfl ?_
      refine E_aload_n (pc := 21) C dX10_compose_21 rfl rfl ?_
      refine E_get (pc := 22) C dX10_compose_22 f_X10_13 rfl rfl ?_
      refine E_iload_n (pc := 25) C dX10_compose_25 rfl rfl ?_
      refine E_laldN (pc := 26) C dX10_compose_26 rfl (by omega) (by decide) ?_
      refine E_callV1 (pc := 27) C dX10_compose_27 m_X10_181 (x_canBe l G _ _ _ _ _ _ _ (A.2.2 k) (gX_pd ho6 hk7 hpd.2.1) (gX_opl ho6 hk7) hpd.1 hpd.2.2.1) ⟨jle rfl, jle rfl⟩ (gX_pd ho6 hk7 hpd.2.1) rfl rfl rfl rfl (jle rfl) ⟨Nat.zero_le _, Nat.zero_le _⟩ ?_
      try dsimp only
      refine E_if_ne (pc := 30) (tgt := 43) C dX10_compose_30 (by decide) (fun h30 => ?_) (fun h30 => ?_)
      · refine E_iload_n (pc := 43) C dX10_compose_43 rfl rfl ?_
        refine E_aload_n (pc := 44) C dX10_compose_44 rfl rfl ?_
        refine E_get (pc := 45) C dX10_compose_45 f_X10_131 (gX_op ho6) rfl ?_
        refine E_iload_n (pc := 48) C dX10_compose_48 rfl rfl ?_
        refine E_aaldN (pc := 49) C dX10_compose_49 (gX_ops ho6) (by decide) (by omega) (by decide) rfl ?_
        refine E_aload_n (pc := 50) C dX10_compose_50 rfl rfl ?_
        refine E_get (pc := 51) C dX10_compose_51 f_X10_13 rfl rfl ?_
        refine E_iload_n (pc := 54) C dX10_compose_54 rfl rfl ?_
        refine E_laldN (pc := 55) C dX10_compose_55 rfl (by omega) (by decide) ?_
        refine E_callV1 (pc := 56) C dX10_compose_56 m_X10_187 (x_spread l G _ _ _ _ _ _ _ (A.2.2 k) (gX_pd ho6 hk7 hpd.2.1) (gX_opl ho6 hk7) hpd.1 hpd.2.2.1) ⟨jle rfl, jle rfl⟩ (gX_pd ho6 hk7 hpd.2.1) rfl rfl rfl rfl (jle rfl) ⟨Nat.zero_le _, Nat.zero_le _⟩ ?_
        try dsimp only
        refine E_ior (pc := 59) C dX10_compose_59 ?_
        refine E_istore_n (pc := 60) C dX10_compose_60 rfl (by decide) rfl ?_
        dsimp only [List.set]
        refine E_iincN (pc := 61) C dX10_compose_61 rfl (by decide) rfl ?_
        dsimp only [List.set]
        refine E_goto (pc := 64) (tgt := 7) C dX10_compose_64 (by decide) ?_
        rw [if_pos (bI_t h30)] at he
        exact ih (k + 1) (by omega) he (by omega)
      · exact E_throw (pc := 33) (ik := 166) (is := 185) (ic := 170) (i := 14) (names := eUp) C hst hT9 (by decide) (by decide) kl_X10_166 in_IA rfl at_X10_166 ot_X10_166 dX10_compose_33 dX10_compose_36 dX10_compose_37 dX10_compose_39 dX10_compose_42 ⟨by decide, jle rfl, jle rfl, jle rfl⟩ rfl (jle rfl) (jle rfl)
set_option maxHeartbeats 4000000 in
set_option maxRecDepth 100000 in
theorem x_comp (l : Launch) (G : jG) (A : xA) (S : xS) (t : xT) (wr : Int32) (B : xB) (Z : xZ) (P : xC) (Q : xN) (V : xV) (L : xL) (T : jMem) {D : mD} (o : Nat) (hd : dR D B Z D.2.2.1) (hb : nB B.2.2.2.2 60) (ho : o < D.2.2.1) (he : efF D o A.2.2 (mOpds D o) 0 = mOpds D o) : jC l G yX10_compose cX10_compose 4 (some .int) 6 82 0 0 [.ref 0, .ref (17 + 14 * o)] (encX A S t wr B Z P Q V L T) (.inl (some (.int (cwF Z o A.2.2 (mOpds D o))), encX A S t wr B Z P Q V L T)) := by
  refine jC.of (by decide) 2 rfl [some (.ref 0), some (.ref (17 + 14 * o)), none, none] rfl (fun p e s m args below meth c C hT9 hNm9 => ?_)
  have hm1 := hd.2.2.2.1.1
  have hm2 := hb.1
  have ho6 : o < 60 := by omega
  refine J_aload_n (pc := 0) C dX10_compose_0 rfl rfl ?_
  refine J_get (pc := 1) C dX10_compose_1 f_X10_178 (gX_op ho6) rfl ?_
  try dsimp only
  refine J_istore_n (pc := 4) C dX10_compose_4 rfl (by decide) rfl ?_
  dsimp only [List.set]
  refine J_iconst (pc := 5) (v := nI 0) C dX10_compose_5 (by decide) ?_
  refine J_istore_n (pc := 6) C dX10_compose_6 rfl (by decide) rfl ?_
  dsimp only [List.set]
  exact l_comp l G A S t wr B Z P Q V L T o 0 C hd hb ho (Nat.zero_le _) he
set_option maxHeartbeats 4000000 in
set_option maxRecDepth 100000 in
theorem x_comp_x (l : Launch) (G : jG) (A : xA) (S : xS) (t : xT) (wr : Int32) (B : xB) (Z : xZ) (P : xC) (Q : xN) (V : xV) (L : xL) (T : jMem) {D : mD} (o : Nat) (hst : l.stackTraces = false) (hd : dR D B Z D.2.2.1) (hb : nB B.2.2.2.2 60) (ho : o < D.2.2.1) (he : efF D o A.2.2 (mOpds D o) 0 < mOpds D o) : jCp l G yX10_compose cX10_compose 4 (some .int) 6 82 1 6 [.ref 0, .ref (17 + 14 * o)] (encX A S t wr B Z P Q V L T) ((fun o => o = .inr (eIA, jno (encX A S t wr B Z P Q V L T)))) := by
  refine jCp.of (by decide) 2 rfl [some (.ref 0), some (.ref (17 + 14 * o)), none, none] rfl (fun p e s m args below meth c C hT9 hz9 => ?_)
  have hm1 := hd.2.2.2.1.1
  have hm2 := hb.1
  have ho6 : o < 60 := by omega
  refine E_aload_n (pc := 0) C dX10_compose_0 rfl rfl ?_
  refine E_get (pc := 1) C dX10_compose_1 f_X10_178 (gX_op ho6) rfl ?_
  try dsimp only
  refine E_istore_n (pc := 4) C dX10_compose_4 rfl (by decide) rfl ?_
  dsimp only [List.set]
  refine E_iconst (pc := 5) (v := nI 0) C dX10_compose_5 (by decide) ?_
  refine E_istore_n (pc := 6) C dX10_compose_6 rfl (by decide) rfl ?_
  dsimp only [List.set]
  exact l_comp_x l G A S t wr B Z P Q V L T o 0 C hT9 hst hd hb ho (Nat.zero_le _) he
set_option maxHeartbeats 4000000 in
set_option maxRecDepth 100000 in
theorem x_enc_x (l : Launch) (G : jG) (A : xA) (S : xS) (t : xT) (wr : Int32) (B : xB) (Z : xZ) (P : xC) (Q : xN) (V : xV) (L : xL) (T : jMem) (v : Int32) (a9 b9 c9 d9 e9 f9 : Int64) (hst : l.stackTraces = false) (hs : B.2.1 = 0) : jCp l G yX10_encode cX10_encode 14 (some .int) 7 105 1 6 [.ref 0, .int v, .long a9, .long b9, .long c9, .long d9, .long e9, .long f9] (encX A S t wr B Z P Q V L T) ((fun o => o = .inr (eIS, jno (encX A S t wr B Z P Q V L T)))) := by
  refine jCp.of (by decide) 0 rfl [some (.ref 0), some (.int v), some (.long a9), none, some (.long b9), none, some (.long c9), none, some (.long d9), none, some (.long e9), none, some (.long f9), none] rfl (fun p e s m args below meth c C hT9 hz9 => ?_)
  refine E_aload_n (pc := 0) C dX10_encode_0 rfl rfl ?_
  exact E_callVx (pc := 1) C hT9 dX10_encode_1 m_X10_103 (x_needD_x l G _ _ _ _ _ _ _ _ _ _ _ hst hs) ⟨jle rfl, jle rfl⟩ rfl rfl rfl rfl rfl (jle rfl) ⟨jle rfl, jle rfl⟩ (jle rfl) (jle rfl) (rfl)
set_option maxHeartbeats 4000000 in
set_option maxRecDepth 100000 in
theorem x_enc_2 (l : Launch) (G : jG) (A : xA) (S : xS) (t : xT) (wr : Int32) (B : xB) (Z : xZ) (P : xC) (Q : xN) (V : xV) (L : xL) (T : jMem) {D : mD} (v : Int32) (a9 b9 c9 d9 e9 f9 : Int64) (hst : l.stackTraces = false) (hd : dR D B Z D.2.2.1) (hb : nB B.2.2.1 12 ∧ nB B.2.2.2.2 60) (hs : B.2.1 = 1) (hv : v < 0 ∨ nI D.2.2.1 ≤ v) : jCp l G yX10_encode cX10_encode 14 (some .int) 7 105 1 6 [.ref 0, .int v, .long a9, .long b9, .long c9, .long d9, .long e9, .long f9] (encX A S t wr B Z P Q V L T) ((fun o => o = .inr (eIO, jno (encX A S t wr B Z P Q V L T)))) := by
  refine jCp.of (by decide) 0 rfl [some (.ref 0), some (.int v), some (.long a9), none, some (.long b9), none, some (.long c9), none, some (.long d9), none, some (.long e9), none, some (.long f9), none] rfl (fun p e s m args below meth c C hT9 hz9 => ?_)
  have hm1 := hd.2.2.2.1.1
  refine E_aload_n (pc := 0) C dX10_encode_0 rfl rfl ?_
  refine E_callV0 (pc := 1) C dX10_encode_1 m_X10_103 (x_needD l G _ _ _ _ _ _ _ _ _ _ _ hs) ⟨jle rfl, jle rfl⟩ rfl rfl rfl rfl rfl (jle rfl) ⟨Nat.zero_le _, Nat.zero_le _⟩ ?_
  try dsimp only
  refine E_iload_n (pc := 4) C dX10_encode_4 rfl rfl ?_
  refine E_if_lt (pc := 5) (tgt := 22) C dX10_encode_5 (by decide) (fun h5 => ?_) (fun h5 => ?_)
  · exact E_throw (pc := 22) (ik := 69) (is := 141) (ic := 73) (i := 13) (names := eUp) C hst hT9 (by decide) (by decide) kl_X10_69 in_IO rfl at_X10_69 ot_X10_69 dX10_encode_22 dX10_encode_25 dX10_encode_26 dX10_encode_28 dX10_encode_31 ⟨by decide, jle rfl, jle rfl, jle rfl⟩ rfl (jle rfl) (jle rfl)
  · refine E_iload_n (pc := 8) C dX10_encode_8 rfl rfl ?_
    refine E_aload_n (pc := 9) C dX10_encode_9 rfl rfl ?_
    refine E_get (pc := 10) C dX10_encode_10 f_X10_29 rfl rfl ?_
    refine E_get (pc := 13) C dX10_encode_13 f_X10_94 rfl rfl ?_
    refine E_get (pc := 16) C dX10_encode_16 f_X10_98 rfl rfl ?_
    try dsimp only
    rw [hm1]
    refine E_icmp_lt (pc := 19) (tgt := 32) C dX10_encode_19 (by decide) (fun h19 => ?_) (fun h19 => ?_)
    · (rcases hv with z | z; exact absurd z h5; exact absurd h19 (Int32.not_lt.mpr z))
    · exact E_throw (pc := 22) (ik := 69) (is := 141) (ic := 73) (i := 13) (names := eUp) C hst hT9 (by decide) (by decide) kl_X10_69 in_IO rfl at_X10_69 ot_X10_69 dX10_encode_22 dX10_encode_25 dX10_encode_26 dX10_encode_28 dX10_encode_31 ⟨by decide, jle rfl, jle rfl, jle rfl⟩ rfl (jle rfl) (jle rfl)
set_option maxHeartbeats 4000000 in
set_option maxRecDepth 100000 in
theorem x_enc (l : Launch) (G : jG) (A : xA) (S : xS) (t : xT) (wr : Int32) (B : xB) (Z : xZ) (P : xC) (Q : xN) (V : xV) (L : xL) (T : jMem) {D : mD} (o : Nat) (a9 b9 c9 d9 e9 f9 : Int64) (hd : dR D B Z D.2.2.1) (hb : nB B.2.2.1 12 ∧ nB B.2.2.2.2 60) (hs : B.2.1 = 1) (ho : o < D.2.2.1) (he : efF D o (eV a9 b9 c9 d9 e9 f9) (mOpds D o) 0 = mOpds D o) : jC l G yX10_encode cX10_encode 14 (some .int) 7 105 0 0 [.ref 0, .int (nI o), .long a9, .long b9, .long c9, .long d9, .long e9, .long f9] (encX A S t wr B Z P Q V L T) (.inl (some (.int (madeF D (eV a9 b9 c9 d9 e9 f9) o)), encX (A.1, A.2.1, vS A.2.2 a9 b9 c9 d9 e9 f9) S t wr B Z P Q V L T)) := by
  refine jC.of (by decide) 0 rfl [some (.ref 0), some (.int (nI o)), some (.long a9), none, some (.long b9), none, some (.long c9), none, some (.long d9), none, some (.long e9), none, some (.long f9), none] rfl (fun p e s m args below meth c C hT9 hNm9 => ?_)
  have hm1 := hd.2.2.2.1.1
  have hm2 := hb.2.1
  have ho6 : o < 60 := by omega
  obtain ⟨hR, hW⟩ := hd.2.2.2.2 o ho
  have hs6 := hR.1.2.1
  have hev : ∀ k, k < mOpds D o → vS A.2.2 a9 b9 c9 d9 e9 f9 k = eV a9 b9 c9 d9 e9 f9 k := fun k hk => vS_eV (by omega)
  rw [← efF_cong hev] at he
  refine J_aload_n (pc := 0) C dX10_encode_0 rfl rfl ?_
  refine J_callV0 (pc := 1) C dX10_encode_1 m_X10_103 (x_needD l G _ _ _ _ _ _ _ _ _ _ _ hs) ⟨jle rfl, jle rfl⟩ rfl rfl rfl rfl rfl (jle rfl) ⟨Nat.zero_le _, Nat.zero_le _⟩ ?_
  try dsimp only
  refine J_iload_n (pc := 4) C dX10_encode_4 rfl rfl ?_
  refine J_if_ltN (pc := 5) (tgt := 22) C dX10_encode_5 (by decide) (by omega) ?_
  refine J_iload_n (pc := 8) C dX10_encode_8 rfl rfl ?_
  refine J_aload_n (pc := 9) C dX10_encode_9 rfl rfl ?_
  refine J_get (pc := 10) C dX10_encode_10 f_X10_29 rfl rfl ?_
  refine J_get (pc := 13) C dX10_encode_13 f_X10_94 rfl rfl ?_
  refine J_get (pc := 16) C dX10_encode_16 f_X10_98 rfl rfl ?_
  try dsimp only
  refine J_icmp_ltN (pc := 19) (tgt := 32) C dX10_encode_19 (by decide) (by omega) (by omega) (fun h19 => ?_) (fun h19 => ?_)
  · refine J_aload_n (pc := 32) C dX10_encode_32 rfl rfl ?_
    refine J_get (pc := 33) C dX10_encode_33 f_X10_13 rfl rfl ?_
    refine J_iconst (pc := 36) (v := nI 0) C dX10_encode_36 (by decide) ?_
    refine J_lload_n (pc := 37) C dX10_encode_37 rfl rfl ?_
    refine J_lastN (pc := 38) C dX10_encode_38 rfl (by omega) (by decide) (uX_values _) ?_
    refine J_aload_n (pc := 39) C dX10_encode_39 rfl rfl ?_
    refine J_get (pc := 40) C dX10_encode_40 f_X10_13 rfl rfl ?_
    refine J_iconst (pc := 43) (v := nI 1) C dX10_encode_43 (by decide) ?_
    refine J_lload (pc := 44) C dX10_encode_44 rfl ?_
    refine J_lastN (pc := 46) C dX10_encode_46 rfl (by omega) (by decide) (uX_values _) ?_
    refine J_aload_n (pc := 47) C dX10_encode_47 rfl rfl ?_
    refine J_get (pc := 48) C dX10_encode_48 f_X10_13 rfl rfl ?_
    refine J_iconst (pc := 51) (v := nI 2) C dX10_encode_51 (by decide) ?_
    refine J_lload (pc := 52) C dX10_encode_52 rfl ?_
    refine J_lastN (pc := 54) C dX10_encode_54 rfl (by omega) (by decide) (uX_values _) ?_
    refine J_aload_n (pc := 55) C dX10_encode_55 rfl rfl ?_
    refine J_get (pc := 56) C dX10_encode_56 f_X10_13 rfl rfl ?_
    refine J_iconst (pc := 59) (v := nI 3) C dX10_encode_59 (by decide) ?_
    refine J_lload (pc := 60) C dX10_encode_60 rfl ?_
    refine J_lastN (pc := 62) C dX10_encode_62 rfl (by omega) (by decide) (uX_values _) ?_
    refine J_aload_n (pc := 63) C dX10_encode_63 rfl rfl ?_
    refine J_get (pc := 64) C dX10_encode_64 f_X10_13 rfl rfl ?_
    refine J_iconst (pc := 67) (v := nI 4) C dX10_encode_67 (by decide) ?_
    refine J_lload (pc := 68) C dX10_encode_68 rfl ?_
    refine J_lastN (pc := 70) C dX10_encode_70 rfl (by omega) (by decide) (uX_values _) ?_
    refine J_aload_n (pc := 71) C dX10_encode_71 rfl rfl ?_
    refine J_get (pc := 72) C dX10_encode_72 f_X10_13 rfl rfl ?_
    refine J_iconst (pc := 75) (v := nI 5) C dX10_encode_75 (by decide) ?_
    refine J_lload (pc := 76) C dX10_encode_76 rfl ?_
    refine J_lastN (pc := 78) C dX10_encode_78 rfl (by omega) (by decide) (uX_values _) ?_
    refine J_aload_n (pc := 79) C dX10_encode_79 rfl rfl ?_
    refine J_aload_n (pc := 80) C dX10_encode_80 rfl rfl ?_
    refine J_get (pc := 81) C dX10_encode_81 f_X10_29 rfl rfl ?_
    refine J_get (pc := 84) C dX10_encode_84 f_X10_122 rfl rfl ?_
    refine J_iload_n (pc := 87) C dX10_encode_87 rfl rfl ?_
    refine J_aaldN (pc := 88) C dX10_encode_88 rfl (by decide) (by omega) (by decide) rfl ?_
    refine J_callV1 (pc := 89) C dX10_encode_89 m_X10_143 (x_comp l G (A.1, A.2.1, vS A.2.2 a9 b9 c9 d9 e9 f9) _ _ _ _ _ _ _ _ _ _ o hd hb.2 ho he) ⟨jle rfl, jle rfl⟩ rfl rfl rfl rfl rfl (jle rfl) ⟨Nat.zero_le _, Nat.zero_le _⟩ ?_
    try dsimp only
    exact J_iret (pc := 92) C dX10_encode_92 rfl (jo (by rw [hR.made hW]; exact (hR.mcong (fun k b hk _ => by rw [hev k hk])).symm)) (Nat.zero_le _) (Nat.zero_le _)
  · omega
set_option maxHeartbeats 4000000 in
set_option maxRecDepth 100000 in
theorem x_enc_3 (l : Launch) (G : jG) (A : xA) (S : xS) (t : xT) (wr : Int32) (B : xB) (Z : xZ) (P : xC) (Q : xN) (V : xV) (L : xL) (T : jMem) {D : mD} (o : Nat) (a9 b9 c9 d9 e9 f9 : Int64) (hst : l.stackTraces = false) (hd : dR D B Z D.2.2.1) (hb : nB B.2.2.1 12 ∧ nB B.2.2.2.2 60) (hs : B.2.1 = 1) (ho : o < D.2.2.1) (he : efF D o (eV a9 b9 c9 d9 e9 f9) (mOpds D o) 0 < mOpds D o) : jCp l G yX10_encode cX10_encode 14 (some .int) 7 105 1 6 [.ref 0, .int (nI o), .long a9, .long b9, .long c9, .long d9, .long e9, .long f9] (encX A S t wr B Z P Q V L T) ((fun o => o = .inr (eIA, jno (encX (A.1, A.2.1, vS A.2.2 a9 b9 c9 d9 e9 f9) S t wr B Z P Q V L T)))) := by
  refine jCp.of (by decide) 0 rfl [some (.ref 0), some (.int (nI o)), some (.long a9), none, some (.long b9), none, some (.long c9), none, some (.long d9), none, some (.long e9), none, some (.long f9), none] rfl (fun p e s m args below meth c C hT9 hz9 => ?_)
  have hm1 := hd.2.2.2.1.1
  have hm2 := hb.2.1
  have ho6 : o < 60 := by omega
  obtain ⟨hR, hW⟩ := hd.2.2.2.2 o ho
  have hs6 := hR.1.2.1
  have hev : ∀ k, k < mOpds D o → vS A.2.2 a9 b9 c9 d9 e9 f9 k = eV a9 b9 c9 d9 e9 f9 k := fun k hk => vS_eV (by omega)
  rw [← efF_cong hev] at he
  refine E_aload_n (pc := 0) C dX10_encode_0 rfl rfl ?_
  refine E_callV0 (pc := 1) C dX10_encode_1 m_X10_103 (x_needD l G _ _ _ _ _ _ _ _ _ _ _ hs) ⟨jle rfl, jle rfl⟩ rfl rfl rfl rfl rfl (jle rfl) ⟨Nat.zero_le _, Nat.zero_le _⟩ ?_
  try dsimp only
  refine E_iload_n (pc := 4) C dX10_encode_4 rfl rfl ?_
  refine E_if_ltN (pc := 5) (tgt := 22) C dX10_encode_5 (by decide) (by omega) ?_
  refine E_iload_n (pc := 8) C dX10_encode_8 rfl rfl ?_
  refine E_aload_n (pc := 9) C dX10_encode_9 rfl rfl ?_
  refine E_get (pc := 10) C dX10_encode_10 f_X10_29 rfl rfl ?_
  refine E_get (pc := 13) C dX10_encode_13 f_X10_94 rfl rfl ?_
  refine E_get (pc := 16) C dX10_encode_16 f_X10_98 rfl rfl ?_
  try dsimp only
  refine E_icmp_ltN (pc := 19) (tgt := 32) C dX10_encode_19 (by decide) (by omega) (by omega) (fun h19 => ?_) (fun h19 => ?_)
  · refine E_aload_n (pc := 32) C dX10_encode_32 rfl rfl ?_
    refine E_get (pc := 33) C dX10_encode_33 f_X10_13 rfl rfl ?_
    refine E_iconst (pc := 36) (v := nI 0) C dX10_encode_36 (by decide) ?_
    refine E_lload_n (pc := 37) C dX10_encode_37 rfl rfl ?_
    refine E_lastN (pc := 38) C dX10_encode_38 rfl (by omega) (by decide) (uX_values _) ?_
    refine E_aload_n (pc := 39) C dX10_encode_39 rfl rfl ?_
    refine E_get (pc := 40) C dX10_encode_40 f_X10_13 rfl rfl ?_
    refine E_iconst (pc := 43) (v := nI 1) C dX10_encode_43 (by decide) ?_
    refine E_lload (pc := 44) C dX10_encode_44 rfl ?_
    refine E_lastN (pc := 46) C dX10_encode_46 rfl (by omega) (by decide) (uX_values _) ?_
    refine E_aload_n (pc := 47) C dX10_encode_47 rfl rfl ?_
    refine E_get (pc := 48) C dX10_encode_48 f_X10_13 rfl rfl ?_
    refine E_iconst (pc := 51) (v := nI 2) C dX10_encode_51 (by decide) ?_
    refine E_lload (pc := 52) C dX10_encode_52 rfl ?_
    refine E_lastN (pc := 54) C dX10_encode_54 rfl (by omega) (by decide) (uX_values _) ?_
    refine E_aload_n (pc := 55) C dX10_encode_55 rfl rfl ?_
    refine E_get (pc := 56) C dX10_encode_56 f_X10_13 rfl rfl ?_
    refine E_iconst (pc := 59) (v := nI 3) C dX10_encode_59 (by decide) ?_
    refine E_lload (pc := 60) C dX10_encode_60 rfl ?_
    refine E_lastN (pc := 62) C dX10_encode_62 rfl (by omega) (by decide) (uX_values _) ?_
    refine E_aload_n (pc := 63) C dX10_encode_63 rfl rfl ?_
    refine E_get (pc := 64) C dX10_encode_64 f_X10_13 rfl rfl ?_
    refine E_iconst (pc := 67) (v := nI 4) C dX10_encode_67 (by decide) ?_
    refine E_lload (pc := 68) C dX10_encode_68 rfl ?_
    refine E_lastN (pc := 70) C dX10_encode_70 rfl (by omega) (by decide) (uX_values _) ?_
    refine E_aload_n (pc := 71) C dX10_encode_71 rfl rfl ?_
    refine E_get (pc := 72) C dX10_encode_72 f_X10_13 rfl rfl ?_
    refine E_iconst (pc := 75) (v := nI 5) C dX10_encode_75 (by decide) ?_
    refine E_lload (pc := 76) C dX10_encode_76 rfl ?_
    refine E_lastN (pc := 78) C dX10_encode_78 rfl (by omega) (by decide) (uX_values _) ?_
    refine E_aload_n (pc := 79) C dX10_encode_79 rfl rfl ?_
    refine E_aload_n (pc := 80) C dX10_encode_80 rfl rfl ?_
    refine E_get (pc := 81) C dX10_encode_81 f_X10_29 rfl rfl ?_
    refine E_get (pc := 84) C dX10_encode_84 f_X10_122 rfl rfl ?_
    refine E_iload_n (pc := 87) C dX10_encode_87 rfl rfl ?_
    refine E_aaldN (pc := 88) C dX10_encode_88 rfl (by decide) (by omega) (by decide) rfl ?_
    exact E_callVx (pc := 89) C hT9 dX10_encode_89 m_X10_143 (x_comp_x l G (A.1, A.2.1, vS A.2.2 a9 b9 c9 d9 e9 f9) _ _ _ _ _ _ _ _ _ _ o hst hd hb.2 ho he) ⟨jle rfl, jle rfl⟩ rfl rfl rfl rfl rfl (jle rfl) ⟨jle rfl, jle rfl⟩ (jle rfl) (jle rfl) (rfl)
  · omega
set_option maxHeartbeats 4000000 in
set_option maxRecDepth 100000 in
theorem x_count0 (l : Launch) (G : jG) (A : xA) (S : xS) (t : xT) (wr : Int32) (B : xB) (Z : xZ) (P : xC) (Q : xN) (V : xV) (L : xL) (T : jMem) (hd1 : B.2.1 ≤ 1) (hp1 : P.2.1 ≤ 1) : jC l G yX10_count cX10_count 2 (some .int) 6 82 0 0 [.ref 0, .int (nI 0)] (encX A S t wr B Z P Q V L T) (.inl (some (.int (nI (if B.2.1 = 0 then 0 else B.1))), encX A S t wr B Z P Q V L T)) := by
  refine jC.of (by decide) 0 rfl [some (.ref 0), some (.int (nI 0))] rfl (fun p e s m args below meth c C hT9 hNm9 => ?_)
  refine J_iload_n (pc := 0) C dX10_count_0 rfl rfl ?_
  refine J_tabIn (pc := 1) (tgt := 40) C dX10_count_1 (by decide) (by decide) rfl (by decide) ?_
  refine J_aload_n (pc := 40) C dX10_count_40 rfl rfl ?_
  refine J_get (pc := 41) C dX10_count_41 f_X10_29 rfl rfl ?_
  refine J_get (pc := 44) C dX10_count_44 f_X10_87 rfl rfl ?_
  try dsimp only
  refine J_if_eqN (pc := 47) (tgt := 60) C dX10_count_47 (by decide) (by omega) (fun h47 => ?_) (fun h47 => ?_)
  · refine J_iconst (pc := 60) (v := nI 0) C dX10_count_60 (by decide) ?_
    exact J_iret (pc := 61) C dX10_count_61 rfl (jo (by first | rw [if_pos h47] | rw [if_neg h47])) (Nat.zero_le _) (Nat.zero_le _)
  · refine J_aload_n (pc := 50) C dX10_count_50 rfl rfl ?_
    refine J_get (pc := 51) C dX10_count_51 f_X10_29 rfl rfl ?_
    refine J_get (pc := 54) C dX10_count_54 f_X10_157 rfl rfl ?_
    try dsimp only
    refine J_goto (pc := 57) (tgt := 61) C dX10_count_57 (by decide) ?_
    exact J_iret (pc := 61) C dX10_count_61 rfl (jo (by first | rw [if_pos h47] | rw [if_neg h47])) (Nat.zero_le _) (Nat.zero_le _)
set_option maxHeartbeats 4000000 in
set_option maxRecDepth 100000 in
theorem x_count1 (l : Launch) (G : jG) (A : xA) (S : xS) (t : xT) (wr : Int32) (B : xB) (Z : xZ) (P : xC) (Q : xN) (V : xV) (L : xL) (T : jMem) (hd1 : B.2.1 ≤ 1) (hp1 : P.2.1 ≤ 1) : jC l G yX10_count cX10_count 2 (some .int) 6 82 0 0 [.ref 0, .int (nI 1)] (encX A S t wr B Z P Q V L T) (.inl (some (.int (nI (if B.2.1 = 0 then 0 else B.2.2.1.1))), encX A S t wr B Z P Q V L T)) := by
  refine jC.of (by decide) 0 rfl [some (.ref 0), some (.int (nI 1))] rfl (fun p e s m args below meth c C hT9 hNm9 => ?_)
  refine J_iload_n (pc := 0) C dX10_count_0 rfl rfl ?_
  refine J_tabIn (pc := 1) (tgt := 62) C dX10_count_1 (by decide) (by decide) rfl (by decide) ?_
  refine J_aload_n (pc := 62) C dX10_count_62 rfl rfl ?_
  refine J_get (pc := 63) C dX10_count_63 f_X10_29 rfl rfl ?_
  refine J_get (pc := 66) C dX10_count_66 f_X10_87 rfl rfl ?_
  try dsimp only
  refine J_if_eqN (pc := 69) (tgt := 85) C dX10_count_69 (by decide) (by omega) (fun h69 => ?_) (fun h69 => ?_)
  · refine J_iconst (pc := 85) (v := nI 0) C dX10_count_85 (by decide) ?_
    exact J_iret (pc := 86) C dX10_count_86 rfl (jo (by first | rw [if_pos h69] | rw [if_neg h69])) (Nat.zero_le _) (Nat.zero_le _)
  · refine J_aload_n (pc := 72) C dX10_count_72 rfl rfl ?_
    refine J_get (pc := 73) C dX10_count_73 f_X10_29 rfl rfl ?_
    refine J_get (pc := 76) C dX10_count_76 f_X10_160 rfl rfl ?_
    refine J_get (pc := 79) C dX10_count_79 f_X10_98 rfl rfl ?_
    try dsimp only
    refine J_goto (pc := 82) (tgt := 86) C dX10_count_82 (by decide) ?_
    exact J_iret (pc := 86) C dX10_count_86 rfl (jo (by first | rw [if_pos h69] | rw [if_neg h69])) (Nat.zero_le _) (Nat.zero_le _)
set_option maxHeartbeats 4000000 in
set_option maxRecDepth 100000 in
theorem x_count2 (l : Launch) (G : jG) (A : xA) (S : xS) (t : xT) (wr : Int32) (B : xB) (Z : xZ) (P : xC) (Q : xN) (V : xV) (L : xL) (T : jMem) (hd1 : B.2.1 ≤ 1) (hp1 : P.2.1 ≤ 1) : jC l G yX10_count cX10_count 2 (some .int) 6 82 0 0 [.ref 0, .int (nI 2)] (encX A S t wr B Z P Q V L T) (.inl (some (.int (nI (if B.2.1 = 0 then 0 else B.2.2.2.2.1))), encX A S t wr B Z P Q V L T)) := by
  refine jC.of (by decide) 0 rfl [some (.ref 0), some (.int (nI 2))] rfl (fun p e s m args below meth c C hT9 hNm9 => ?_)
  refine J_iload_n (pc := 0) C dX10_count_0 rfl rfl ?_
  refine J_tabIn (pc := 1) (tgt := 87) C dX10_count_1 (by decide) (by decide) rfl (by decide) ?_
  refine J_aload_n (pc := 87) C dX10_count_87 rfl rfl ?_
  refine J_get (pc := 88) C dX10_count_88 f_X10_29 rfl rfl ?_
  refine J_get (pc := 91) C dX10_count_91 f_X10_87 rfl rfl ?_
  try dsimp only
  refine J_if_eqN (pc := 94) (tgt := 110) C dX10_count_94 (by decide) (by omega) (fun h94 => ?_) (fun h94 => ?_)
  · refine J_iconst (pc := 110) (v := nI 0) C dX10_count_110 (by decide) ?_
    exact J_iret (pc := 111) C dX10_count_111 rfl (jo (by first | rw [if_pos h94] | rw [if_neg h94])) (Nat.zero_le _) (Nat.zero_le _)
  · refine J_aload_n (pc := 97) C dX10_count_97 rfl rfl ?_
    refine J_get (pc := 98) C dX10_count_98 f_X10_29 rfl rfl ?_
    refine J_get (pc := 101) C dX10_count_101 f_X10_94 rfl rfl ?_
    refine J_get (pc := 104) C dX10_count_104 f_X10_98 rfl rfl ?_
    try dsimp only
    refine J_goto (pc := 107) (tgt := 111) C dX10_count_107 (by decide) ?_
    exact J_iret (pc := 111) C dX10_count_111 rfl (jo (by first | rw [if_pos h94] | rw [if_neg h94])) (Nat.zero_le _) (Nat.zero_le _)
set_option maxHeartbeats 4000000 in
set_option maxRecDepth 100000 in
theorem x_count3 (l : Launch) (G : jG) (A : xA) (S : xS) (t : xT) (wr : Int32) (B : xB) (Z : xZ) (P : xC) (Q : xN) (V : xV) (L : xL) (T : jMem) (hd1 : B.2.1 ≤ 1) (hp1 : P.2.1 ≤ 1) : jC l G yX10_count cX10_count 2 (some .int) 6 82 0 0 [.ref 0, .int (nI 3)] (encX A S t wr B Z P Q V L T) (.inl (some (.int (nI (if P.2.1 = 0 then 0 else P.1))), encX A S t wr B Z P Q V L T)) := by
  refine jC.of (by decide) 0 rfl [some (.ref 0), some (.int (nI 3))] rfl (fun p e s m args below meth c C hT9 hNm9 => ?_)
  refine J_iload_n (pc := 0) C dX10_count_0 rfl rfl ?_
  refine J_tabIn (pc := 1) (tgt := 112) C dX10_count_1 (by decide) (by decide) rfl (by decide) ?_
  refine J_aload_n (pc := 112) C dX10_count_112 rfl rfl ?_
  refine J_get (pc := 113) C dX10_count_113 f_X10_36 rfl rfl ?_
  refine J_get (pc := 116) C dX10_count_116 f_X10_83 rfl rfl ?_
  try dsimp only
  refine J_if_eqN (pc := 119) (tgt := 132) C dX10_count_119 (by decide) (by omega) (fun h119 => ?_) (fun h119 => ?_)
  · refine J_iconst (pc := 132) (v := nI 0) C dX10_count_132 (by decide) ?_
    exact J_iret (pc := 133) C dX10_count_133 rfl (jo (by first | rw [if_pos h119] | rw [if_neg h119])) (Nat.zero_le _) (Nat.zero_le _)
  · refine J_aload_n (pc := 122) C dX10_count_122 rfl rfl ?_
    refine J_get (pc := 123) C dX10_count_123 f_X10_36 rfl rfl ?_
    refine J_get (pc := 126) C dX10_count_126 f_X10_109 rfl rfl ?_
    try dsimp only
    refine J_goto (pc := 129) (tgt := 133) C dX10_count_129 (by decide) ?_
    exact J_iret (pc := 133) C dX10_count_133 rfl (jo (by first | rw [if_pos h119] | rw [if_neg h119])) (Nat.zero_le _) (Nat.zero_le _)
set_option maxHeartbeats 4000000 in
set_option maxRecDepth 100000 in
theorem x_count4 (l : Launch) (G : jG) (A : xA) (S : xS) (t : xT) (wr : Int32) (B : xB) (Z : xZ) (P : xC) (Q : xN) (V : xV) (L : xL) (T : jMem) (hd1 : B.2.1 ≤ 1) (hp1 : P.2.1 ≤ 1) : jC l G yX10_count cX10_count 2 (some .int) 6 82 0 0 [.ref 0, .int (nI 4)] (encX A S t wr B Z P Q V L T) (.inl (some (.int (nI (if P.2.1 = 0 then 0 else P.2.2.2.1.1))), encX A S t wr B Z P Q V L T)) := by
  refine jC.of (by decide) 0 rfl [some (.ref 0), some (.int (nI 4))] rfl (fun p e s m args below meth c C hT9 hNm9 => ?_)
  refine J_iload_n (pc := 0) C dX10_count_0 rfl rfl ?_
  refine J_tabIn (pc := 1) (tgt := 134) C dX10_count_1 (by decide) (by decide) rfl (by decide) ?_
  refine J_aload_n (pc := 134) C dX10_count_134 rfl rfl ?_
  refine J_get (pc := 135) C dX10_count_135 f_X10_36 rfl rfl ?_
  refine J_get (pc := 138) C dX10_count_138 f_X10_83 rfl rfl ?_
  try dsimp only
  refine J_if_eqN (pc := 141) (tgt := 157) C dX10_count_141 (by decide) (by omega) (fun h141 => ?_) (fun h141 => ?_)
  · refine J_iconst (pc := 157) (v := nI 0) C dX10_count_157 (by decide) ?_
    exact J_iret (pc := 158) C dX10_count_158 rfl (jo (by first | rw [if_pos h141] | rw [if_neg h141])) (Nat.zero_le _) (Nat.zero_le _)
  · refine J_aload_n (pc := 144) C dX10_count_144 rfl rfl ?_
    refine J_get (pc := 145) C dX10_count_145 f_X10_36 rfl rfl ?_
    refine J_get (pc := 148) C dX10_count_148 f_X10_163 rfl rfl ?_
    refine J_get (pc := 151) C dX10_count_151 f_X10_98 rfl rfl ?_
    try dsimp only
    refine J_goto (pc := 154) (tgt := 158) C dX10_count_154 (by decide) ?_
    exact J_iret (pc := 158) C dX10_count_158 rfl (jo (by first | rw [if_pos h141] | rw [if_neg h141])) (Nat.zero_le _) (Nat.zero_le _)
set_option maxHeartbeats 4000000 in
set_option maxRecDepth 100000 in
theorem x_count5 (l : Launch) (G : jG) (A : xA) (S : xS) (t : xT) (wr : Int32) (B : xB) (Z : xZ) (P : xC) (Q : xN) (V : xV) (L : xL) (T : jMem) (hd1 : B.2.1 ≤ 1) (hp1 : P.2.1 ≤ 1) : jC l G yX10_count cX10_count 2 (some .int) 6 82 0 0 [.ref 0, .int (nI 5)] (encX A S t wr B Z P Q V L T) (.inl (some (.int (nI (A.1))), encX A S t wr B Z P Q V L T)) := by
  refine jC.of (by decide) 0 rfl [some (.ref 0), some (.int (nI 5))] rfl (fun p e s m args below meth c C hT9 hNm9 => ?_)
  refine J_iload_n (pc := 0) C dX10_count_0 rfl rfl ?_
  refine J_tabIn (pc := 1) (tgt := 159) C dX10_count_1 (by decide) (by decide) rfl (by decide) ?_
  refine J_aload_n (pc := 159) C dX10_count_159 rfl rfl ?_
  refine J_get (pc := 160) C dX10_count_160 f_X10_65 rfl rfl ?_
  try dsimp only
  exact J_iret (pc := 163) C dX10_count_163 rfl (rfl) (Nat.zero_le _) (Nat.zero_le _)
set_option maxHeartbeats 4000000 in
set_option maxRecDepth 100000 in
theorem x_count_x9 (l : Launch) (G : jG) (A : xA) (S : xS) (t : xT) (wr : Int32) (B : xB) (Z : xZ) (P : xC) (Q : xN) (V : xV) (L : xL) (T : jMem) (v : Int32) (hst : l.stackTraces = false) (hv : v < 0 ∨ nI 6 ≤ v) : jCp l G yX10_count cX10_count 2 (some .int) 6 82 1 6 [.ref 0, .int v] (encX A S t wr B Z P Q V L T) ((fun o => o = .inr (eIA, jno (encX A S t wr B Z P Q V L T)))) := by
  refine jCp.of (by decide) 0 rfl [some (.ref 0), some (.int v)] rfl (fun p e s m args below meth c C hT9 hz9 => ?_)
  refine E_iload_n (pc := 0) C dX10_count_0 rfl rfl ?_
  refine E_tabOut (pc := 1) (tgt := 164) C dX10_count_1 (by
    have h6 : (nI 6).toInt = 6 := by decide
    rcases hv with z | z
    · left; rw [Int32.lt_iff_toInt_lt] at z; exact z
    · right; rw [Int32.le_iff_toInt_le, h6] at z; omega) (by decide) ?_
  exact E_throw (pc := 164) (ik := 166) (is := 168) (ic := 170) (i := 19) (names := eUp) C hst hT9 (by decide) (by decide) kl_X10_166 in_IA rfl at_X10_166 ot_X10_166 dX10_count_164 dX10_count_167 dX10_count_168 dX10_count_170 dX10_count_173 ⟨by decide, jle rfl, jle rfl, jle rfl⟩ rfl (jle rfl) (jle rfl)
