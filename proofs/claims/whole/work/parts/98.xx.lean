set_option maxHeartbeats 4000000 in
set_option maxRecDepth 100000 in
theorem x_describe (l : Launch) (G : jG) {X : Nat × (Nat → Nat)} {D : mD} {nz : Nat} (A : xA) (S : xS) (t : xT) (wr : Int32) (B : xB) (Z : xZ) (P : xC) (Q : xN) (V : xV) (L : xL) (T : jMem) (hst : l.stackTraces = false) (hT2 : T.2 = some nz) (hX1 : X.1 ≤ 4000) (hX2 : ∀ k, X.2 k < 256) (hoc : ∀ k, k < X.1 → A.2.1 k = X.2 k) (hA8 : ∀ k, A.2.1 k < 256) (hnf : X.1 ≤ A.1) (hf : A.1 ≤ 4000) (hb : nB B.2.2.1 12 ∧ nB B.2.2.2.2 60 ∧ nB Q 6) (h0 : D.2.1 = 0 ∧ D.2.2.1 = 0) (hdG : dG D) : jCp l G yX10_describe cX10_describe 2 (some .int) 12 231 1 6 [.ref 0, .int (nI X.1)] (encX A S t wr B Z P Q V L T) (deP A (P.1, 0, P.2.2.1, P.2.2.2.1, P.2.2.2.2) V L T (dsR X D)) := by
  refine jCp.of (by decide) 0 rfl [some (.ref 0), some (.int (nI X.1))] rfl (fun p e s m args below meth c C hT9 hz9 => ?_)
  have hz9 := hz9 _ hT2
  have hg0 : gB (B.1, 0, B.2.2.1, B.2.2.2.1, B.2.2.2.2) Q := ⟨hb.1, hb.2.1, hb.2.2, rfl⟩
  refine E_aload_n (pc := 0) C dX10_describe_0 rfl rfl ?_
  refine E_iload_n (pc := 1) C dX10_describe_1 rfl rfl ?_
  refine E_callV0 (pc := 2) C dX10_describe_2 m_X10_80 (x_needFed l G _ _ _ _ _ _ _ _ _ _ _ _ hnf hf) ⟨jle rfl, jle rfl⟩ rfl rfl rfl rfl rfl (jle rfl) ⟨Nat.zero_le _, Nat.zero_le _⟩ ?_
  try dsimp only
  refine E_aload_n (pc := 5) C dX10_describe_5 rfl rfl ?_
  refine E_iconst (pc := 6) (v := nI 0) C dX10_describe_6 (by decide) ?_
  refine E_putU (pc := 7) C dX10_describe_7 p_X10_65 rfl (jlt rfl) rfl rfl (uX_fed _) ?_
  try dsimp only
  refine E_aload_n (pc := 10) C dX10_describe_10 rfl rfl ?_
  refine E_get (pc := 11) C dX10_describe_11 f_X10_36 rfl rfl ?_
  refine E_iconst (pc := 14) (v := nI 0) C dX10_describe_14 (by decide) ?_
  refine E_putU (pc := 15) C dX10_describe_15 p_X10_83 rfl (jlt rfl) rfl rfl (uX_pstands _) ?_
  try dsimp only
  refine E_aload_n (pc := 18) C dX10_describe_18 rfl rfl ?_
  refine E_get (pc := 19) C dX10_describe_19 f_X10_29 rfl rfl ?_
  refine E_iconst (pc := 22) (v := nI 0) C dX10_describe_22 (by decide) ?_
  refine E_putU (pc := 23) C dX10_describe_23 p_X10_87 rfl (jlt rfl) rfl rfl (uX_dstands _) ?_
  try dsimp only
  refine E_aload_n (pc := 26) C dX10_describe_26 rfl rfl ?_
  refine E_get (pc := 27) C dX10_describe_27 f_X10_22 rfl rfl ?_
  refine E_iload_n (pc := 30) C dX10_describe_30 rfl rfl ?_
  cases hfb : fbF X 0 with
  | some q9 =>
    exact E_callVx (pc := 31) C hT9 dX10_describe_31 m_X10_88 (x_open_x l G (X := X) _ _ _ _ _ _ _ _ _ _ _ q9 hst hX1 hX2 hoc hfb (by have := fbF_lt hfb; omega)) ⟨jle rfl, jle rfl⟩ rfl rfl rfl rfl rfl (jle rfl) ⟨jle rfl, jle rfl⟩ (jle rfl) (jle rfl) (Or.inr ⟨q9, _, _, _, _, _, by unfold dsR; rw [if_neg (by rw [hfb]; exact fun z => nomatch z)]; exact hfb, hg0, rfl⟩)
  | none =>
    refine E_callVp (pc := 31) C hT9 dX10_describe_31 m_X10_88 (x_open l G (X := X) _ _ _ _ _ _ _ _ _ _ _ hX1 hX2 hoc hfb) ⟨jle rfl, jle rfl⟩ rfl rfl rfl rfl rfl (jle rfl) ⟨jle rfl, jle rfl⟩ (jle rfl) (jle rfl) (fun E9 M9 h9 => by obtain ⟨S9, -, z⟩ := h9; cases z) (fun v9 M9 h9 => ?_)
    obtain ⟨S9, hS9, z⟩ := h9
    injection z with z
    injection z with z1 z2
    subst z1 z2
    have hk0 : xtk X S9 0 (nextF X 0) := ⟨hS9.2, rfl⟩
    have hx : xcx X (0, A.2) S9 := ⟨hX1, hX2, hoc, hS9.1, fun k hk => fbF_ok hfb k (Nat.zero_le _) hk⟩
    have r0 : dsR X D = dsF X (nextF X 0) D := if_pos hfb
    refine E_aload_n (pc := 34) C dX10_describe_34 rfl rfl ?_
    refine E_get (pc := 35) C dX10_describe_35 f_X10_45 rfl rfl ?_
    refine E_callVp (pc := 38) C hT9 dX10_describe_38 m_X10_91 (x_readDescription l G (0, A.2) S9 _ V L T _ _ _ hst hT2 hx hA8 hk0 hg0 h0 hdG) ⟨jle rfl, jle rfl⟩ rfl rfl rfl rfl rfl (jle rfl) ⟨jle rfl, jle rfl⟩ (jle rfl) (jle rfl) (fun E9 M9 h9 => by
      rcases h9 with ⟨-, ix, B9, Z9, Q9, -, -, -, z⟩ | ⟨p9, t9, B9, Z9, Q9, z1, z2, z3⟩
      · cases z
      · injection z3 with z3
        injection z3 with a b
        subst a b
        exact Or.inr ⟨p9, _, _, _, _, _, by rw [r0]; exact z1, z2, rfl⟩) (fun v9 M9 h9 => ?_)
    obtain ⟨e0, ev, ix2, B2, Z2, Q2, hk2, hg2, hR2, eM⟩ := dP.ret h9
    subst ev eM
    refine E_low hz9 hT2 ?_
    try dsimp only
    refine E_aload_n (pc := 41) C dX10_describe_41 rfl rfl ?_
    refine E_get (pc := 42) C dX10_describe_42 f_X10_29 rfl rfl ?_
    refine E_iconst (pc := 45) (v := nI 1) C dX10_describe_45 (by decide) ?_
    refine E_putU (pc := 46) C dX10_describe_46 p_X10_87 rfl (jlt rfl) rfl rfl (uX_dstands _) ?_
    try dsimp only
    refine E_aload_n (pc := 49) C dX10_describe_49 rfl rfl ?_
    refine E_get (pc := 50) C dX10_describe_50 f_X10_29 rfl rfl ?_
    refine E_get (pc := 53) C dX10_describe_53 f_X10_94 rfl rfl ?_
    refine E_get (pc := 56) C dX10_describe_56 f_X10_98 rfl rfl ?_
    try dsimp only
    exact E_iret (pc := 59) C dX10_describe_59 rfl (Or.inl ⟨by rw [r0]; exact e0, S9, tt X ix2 (dsF X (nextF X 0) D).2.1, (B2.1, 1, B2.2.2.1, B2.2.2.2.1, B2.2.2.2.2), Z2, Q2, by rw [r0]; exact hR2, ⟨hg2.1, hg2.2.1, hg2.2.2.1, rfl⟩, rfl, by rw [r0, ← hR2.2.2.2.1.1]⟩) (Nat.zero_le _) (Nat.zero_le _)
set_option maxHeartbeats 4000000 in
set_option maxRecDepth 100000 in
theorem x_describe_x (l : Launch) (G : jG) (A : xA) (S : xS) (t : xT) (wr : Int32) (B : xB) (Z : xZ) (P : xC) (Q : xN) (V : xV) (L : xL) (T : jMem) (v : Int32) (hst : l.stackTraces = false) (hv : v < 0 ∨ nI A.1 < v) : jCp l G yX10_describe cX10_describe 2 (some .int) 12 231 1 6 [.ref 0, .int v] (encX A S t wr B Z P Q V L T) ((fun o => o = .inr (eIO, jno (encX A S t wr B Z P Q V L T)))) := by
  refine jCp.of (by decide) 0 rfl [some (.ref 0), some (.int v)] rfl (fun p e s m args below meth c C hT9 hz9 => ?_)
  refine E_aload_n (pc := 0) C dX10_describe_0 rfl rfl ?_
  refine E_iload_n (pc := 1) C dX10_describe_1 rfl rfl ?_
  exact E_callVx (pc := 2) C hT9 dX10_describe_2 m_X10_80 (x_needFed_x l G _ _ _ _ _ _ _ _ _ _ _ _ hst hv) ⟨jle rfl, jle rfl⟩ rfl rfl rfl rfl rfl (jle rfl) ⟨jle rfl, jle rfl⟩ (jle rfl) (jle rfl) (rfl)
set_option maxHeartbeats 4000000 in
set_option maxRecDepth 100000 in
theorem x_assemble (l : Launch) (G : jG) {X : Nat × (Nat → Nat)} {D : mD} {Pm : mP} {gv : Nat → Int64} {nz : Nat} (A : xA) (S : xS) (t : xT) (wr : Int32) (B : xB) (Z : xZ) (P : xC) (Q : xN) (V : xV) (L : xL) (T : jMem) (hst : l.stackTraces = false) (hT2 : T.2 = some nz) (hX1 : X.1 ≤ 4000) (hX2 : ∀ k, X.2 k < 256) (hoc : ∀ k, k < X.1 → A.2.1 k = X.2 k) (hA8 : ∀ k, A.2.1 k < 256) (hnf : X.1 ≤ A.1) (hf : A.1 ≤ 4000) (hd : dR D B Z D.2.2.1) (hb : nB B.2.2.1 12 ∧ nB B.2.2.2.2 60) (hs : B.2.1 = 1) (hc : nB P.2.2.2.1 60) (h0 : Pm.1 = 0 ∧ Pm.2.1 = 0 ∧ Pm.2.2.1 = 0) (hlb : ∀ k, Pm.2.2.2.1 k < 256) : jCp l G yX10_assemble cX10_assemble 2 (some .int) 12 231 1 6 [.ref 0, .int (nI X.1)] (encX A S t wr B Z P Q V L T) (asP X D A B Z Q L T (asR X D Pm gv)) := by
  refine jCp.of (by decide) 0 rfl [some (.ref 0), some (.int (nI X.1))] rfl (fun p e s m args below meth c C hT9 hz9 => ?_)
  have hz9 := hz9 _ hT2
  have hg0 : gC (P.1, 0, P.2.2.1, P.2.2.2.1, P.2.2.2.2) := ⟨hc, rfl⟩
  have hpI : ∀ a, pI X D a Pm := fun a => ⟨by omega, by omega, by omega, hlb, fun j hj => by omega, fun u hu => by omega⟩
  refine E_aload_n (pc := 0) C dX10_assemble_0 rfl rfl ?_
  refine E_iload_n (pc := 1) C dX10_assemble_1 rfl rfl ?_
  refine E_callV0 (pc := 2) C dX10_assemble_2 m_X10_80 (x_needFed l G _ _ _ _ _ _ _ _ _ _ _ _ hnf hf) ⟨jle rfl, jle rfl⟩ rfl rfl rfl rfl rfl (jle rfl) ⟨Nat.zero_le _, Nat.zero_le _⟩ ?_
  try dsimp only
  refine E_aload_n (pc := 5) C dX10_assemble_5 rfl rfl ?_
  refine E_callV0 (pc := 6) C dX10_assemble_6 m_X10_103 (x_needD l G _ _ _ _ _ _ _ _ _ _ _ hs) ⟨jle rfl, jle rfl⟩ rfl rfl rfl rfl rfl (jle rfl) ⟨Nat.zero_le _, Nat.zero_le _⟩ ?_
  try dsimp only
  refine E_aload_n (pc := 9) C dX10_assemble_9 rfl rfl ?_
  refine E_iconst (pc := 10) (v := nI 0) C dX10_assemble_10 (by decide) ?_
  refine E_putU (pc := 11) C dX10_assemble_11 p_X10_65 rfl (jlt rfl) rfl rfl (uX_fed _) ?_
  try dsimp only
  refine E_aload_n (pc := 14) C dX10_assemble_14 rfl rfl ?_
  refine E_get (pc := 15) C dX10_assemble_15 f_X10_36 rfl rfl ?_
  refine E_iconst (pc := 18) (v := nI 0) C dX10_assemble_18 (by decide) ?_
  refine E_putU (pc := 19) C dX10_assemble_19 p_X10_83 rfl (jlt rfl) rfl rfl (uX_pstands _) ?_
  try dsimp only
  refine E_aload_n (pc := 22) C dX10_assemble_22 rfl rfl ?_
  refine E_get (pc := 23) C dX10_assemble_23 f_X10_22 rfl rfl ?_
  refine E_iload_n (pc := 26) C dX10_assemble_26 rfl rfl ?_
  cases hfb : fbF X 0 with
  | some q9 =>
    exact E_callVx (pc := 27) C hT9 dX10_assemble_27 m_X10_88 (x_open_x l G (X := X) _ _ _ _ _ _ _ _ _ _ _ q9 hst hX1 hX2 hoc hfb (by have := fbF_lt hfb; omega)) ⟨jle rfl, jle rfl⟩ rfl rfl rfl rfl rfl (jle rfl) ⟨jle rfl, jle rfl⟩ (jle rfl) (jle rfl) (Or.inr ⟨q9, _, _, _, _, by unfold asR; rw [if_neg (by rw [hfb]; exact fun z => nomatch z)]; exact hfb, hg0, rfl⟩)
  | none =>
    refine E_callVp (pc := 27) C hT9 dX10_assemble_27 m_X10_88 (x_open l G (X := X) _ _ _ _ _ _ _ _ _ _ _ hX1 hX2 hoc hfb) ⟨jle rfl, jle rfl⟩ rfl rfl rfl rfl rfl (jle rfl) ⟨jle rfl, jle rfl⟩ (jle rfl) (jle rfl) (fun E9 M9 h9 => by obtain ⟨S9, -, z⟩ := h9; cases z) (fun v9 M9 h9 => ?_)
    obtain ⟨S9, hS9, z⟩ := h9
    injection z with z
    injection z with z1 z2
    subst z1 z2
    have hk0 : xtk X S9 0 (nextF X 0) := ⟨hS9.2, rfl⟩
    have hx : xcx X (0, A.2) S9 := ⟨hX1, hX2, hoc, hS9.1, fun k hk => fbF_ok hfb k (Nat.zero_le _) hk⟩
    have r0 : asR X D Pm gv = vB (pgL X D (X.1 + 1) (nextF X 0) Pm gv) (fun K P gv => lkL X D P.2.2.1 0 K P gv) := if_pos hfb
    refine E_aload_n (pc := 30) C dX10_assemble_30 rfl rfl ?_
    refine E_get (pc := 31) C dX10_assemble_31 f_X10_54 rfl rfl ?_
    refine E_callVp (pc := 34) C hT9 dX10_assemble_34 m_X10_106 (x_readProgram l G (P := Pm) (gv := gv) (0, A.2) S9 _ _ _ L T _ _ hst hT2 hx hA8 hk0 hg0 hd hb h0 (hpI _)) ⟨jle rfl, jle rfl⟩ rfl rfl rfl rfl rfl (jle rfl) ⟨jle rfl, jle rfl⟩ (jle rfl) (jle rfl) (fun E9 M9 h9 => by
      rcases h9 with ⟨-, t9, C9, V9, -, -, z⟩ | ⟨p9, t9, C9, V9, z1, z2, z3⟩
      · cases z
      · injection z3 with z3
        injection z3 with a b
        subst a b
        exact Or.inr ⟨p9, _, _, _, _, by rw [r0]; exact z1, z2, rfl⟩) (fun v9 M9 h9 => ?_)
    obtain ⟨e0, ev, t2, C2, V2, hg2, hR2, eM⟩ := vQ.ret h9
    subst ev eM
    refine E_low hz9 hT2 ?_
    try dsimp only
    refine E_aload_n (pc := 37) C dX10_assemble_37 rfl rfl ?_
    refine E_get (pc := 38) C dX10_assemble_38 f_X10_36 rfl rfl ?_
    refine E_iconst (pc := 41) (v := nI 1) C dX10_assemble_41 (by decide) ?_
    refine E_putU (pc := 42) C dX10_assemble_42 p_X10_83 rfl (jlt rfl) rfl rfl (uX_pstands _) ?_
    try dsimp only
    refine E_aload_n (pc := 45) C dX10_assemble_45 rfl rfl ?_
    refine E_get (pc := 46) C dX10_assemble_46 f_X10_36 rfl rfl ?_
    refine E_get (pc := 49) C dX10_assemble_49 f_X10_109 rfl rfl ?_
    try dsimp only
    exact E_iret (pc := 52) C dX10_assemble_52 rfl (Or.inl ⟨by rw [r0]; exact e0, S9, t2, (C2.1, 1, C2.2.2.1, C2.2.2.2.1, C2.2.2.2.2), V2, ⟨hg2.1, rfl⟩, rfl, by rw [r0]; exact ⟨hR2.1, hR2.2.1, hR2.2.2.1, hR2.2.2.2.1, hR2.2.2.2.2.1, hR2.2.2.2.2.2⟩, by rw [r0, ← hR2.1.1]⟩) (Nat.zero_le _) (Nat.zero_le _)
set_option maxHeartbeats 4000000 in
set_option maxRecDepth 100000 in
theorem x_assemble_x (l : Launch) (G : jG) (A : xA) (S : xS) (t : xT) (wr : Int32) (B : xB) (Z : xZ) (P : xC) (Q : xN) (V : xV) (L : xL) (T : jMem) (v : Int32) (hst : l.stackTraces = false) (hv : v < 0 ∨ nI A.1 < v) : jCp l G yX10_assemble cX10_assemble 2 (some .int) 12 231 1 6 [.ref 0, .int v] (encX A S t wr B Z P Q V L T) ((fun o => o = .inr (eIO, jno (encX A S t wr B Z P Q V L T)))) := by
  refine jCp.of (by decide) 0 rfl [some (.ref 0), some (.int v)] rfl (fun p e s m args below meth c C hT9 hz9 => ?_)
  refine E_aload_n (pc := 0) C dX10_assemble_0 rfl rfl ?_
  refine E_iload_n (pc := 1) C dX10_assemble_1 rfl rfl ?_
  exact E_callVx (pc := 2) C hT9 dX10_assemble_2 m_X10_80 (x_needFed_x l G _ _ _ _ _ _ _ _ _ _ _ _ hst hv) ⟨jle rfl, jle rfl⟩ rfl rfl rfl rfl rfl (jle rfl) ⟨jle rfl, jle rfl⟩ (jle rfl) (jle rfl) (rfl)
set_option maxHeartbeats 4000000 in
set_option maxRecDepth 100000 in
theorem x_assemble_n (l : Launch) (G : jG) (A : xA) (S : xS) (t : xT) (wr : Int32) (B : xB) (Z : xZ) (P : xC) (Q : xN) (V : xV) (L : xL) (T : jMem) (n : Nat) (hst : l.stackTraces = false) (hnf : n ≤ A.1) (hf : A.1 ≤ 4000) (hs : B.2.1 = 0) : jCp l G yX10_assemble cX10_assemble 2 (some .int) 12 231 1 6 [.ref 0, .int (nI n)] (encX A S t wr B Z P Q V L T) ((fun o => o = .inr (eIS, jno (encX A S t wr B Z P Q V L T)))) := by
  refine jCp.of (by decide) 0 rfl [some (.ref 0), some (.int (nI n))] rfl (fun p e s m args below meth c C hT9 hz9 => ?_)
  refine E_aload_n (pc := 0) C dX10_assemble_0 rfl rfl ?_
  refine E_iload_n (pc := 1) C dX10_assemble_1 rfl rfl ?_
  refine E_callV0 (pc := 2) C dX10_assemble_2 m_X10_80 (x_needFed l G _ _ _ _ _ _ _ _ _ _ _ _ hnf hf) ⟨jle rfl, jle rfl⟩ rfl rfl rfl rfl rfl (jle rfl) ⟨Nat.zero_le _, Nat.zero_le _⟩ ?_
  try dsimp only
  refine E_aload_n (pc := 5) C dX10_assemble_5 rfl rfl ?_
  exact E_callVx (pc := 6) C hT9 dX10_assemble_6 m_X10_103 (x_needD_x l G _ _ _ _ _ _ _ _ _ _ _ hst hs) ⟨jle rfl, jle rfl⟩ rfl rfl rfl rfl rfl (jle rfl) ⟨jle rfl, jle rfl⟩ (jle rfl) (jle rfl) (rfl)
