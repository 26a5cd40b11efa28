set_option maxHeartbeats 4000000 in
set_option maxRecDepth 100000 in
theorem x_put (l : Launch) (G : jG) (A : xA) (S : xS) (t : xT) (wr : Int32) (B : xB) (Z : xZ) (P : xC) (Q : xN) (V : xV) (L : xL) (T : jMem) (x : Nat) (h4 : L.1 < 96) : jC l G yX3_put cX3_put 2 none 1 12 0 0 [.ref 873, .int (nI x)] (encX A S t wr B Z P Q V L T) (.inl (none, encX A S t wr B Z P Q V (apO L ([x])) T)) := by
  refine jC.of (by decide) 0 rfl [some (.ref 873), some (.int (nI x))] rfl (fun p e s m args below meth c C hT9 hNm9 => ?_)
  refine J_aload_n (pc := 0) C dX3_put_0 rfl rfl ?_
  refine J_get (pc := 1) C dX3_put_1 f_X3_15 rfl rfl ?_
  try dsimp only
  refine J_aload_n (pc := 4) C dX3_put_4 rfl rfl ?_
  refine J_get (pc := 5) C dX3_put_5 f_X3_9 rfl rfl ?_
  refine J_alen (pc := 8) C dX3_put_8 rfl (by decide) ?_
  refine J_icmp_geN (pc := 9) (tgt := 32) C dX3_put_9 (by decide) (by omega) (by omega) (fun h9 => ?_) (fun h9 => ?_)
  · omega
  · refine J_aload_n (pc := 12) C dX3_put_12 rfl rfl ?_
    refine J_get (pc := 13) C dX3_put_13 f_X3_9 rfl rfl ?_
    refine J_aload_n (pc := 16) C dX3_put_16 rfl rfl ?_
    refine J_get (pc := 17) C dX3_put_17 f_X3_15 rfl rfl ?_
    try dsimp only
    refine J_iload_n (pc := 20) C dX3_put_20 rfl rfl ?_
    refine J_iastN (pc := 21) C dX3_put_21 rfl (by omega) (by decide) (uX_lletters _) ?_
    refine J_aload_n (pc := 22) C dX3_put_22 rfl rfl ?_
    refine J_dup (pc := 23) C dX3_put_23 rfl ?_
    refine J_get (pc := 24) C dX3_put_24 f_X3_15 rfl rfl ?_
    try dsimp only
    refine J_iconst (pc := 27) (v := nI 1) C dX3_put_27 (by decide) ?_
    refine J_iaddN (pc := 28) C dX3_put_28 ?_
    refine J_putU (pc := 29) C dX3_put_29 p_X3_15 rfl (jlt rfl) rfl rfl (uX_lsize _) ?_
    try dsimp only
    exact J_vret (pc := 32) C dX3_put_32 rfl (rfl) (Nat.zero_le _) (Nat.zero_le _)
set_option maxHeartbeats 4000000 in
set_option maxRecDepth 100000 in
theorem l_putAll (l : Launch) (G : jG) {p : Program} {e : Env} {s : State} {m : MethodId} {args : Array Value} {below : List Frame} {meth : Method} {c : Code} (A : xA) (S : xS) (t : xT) (wr : Int32) (B : xB) (Z : xZ) (P : xC) (Q : xN) (V : xV) (L : xL) (T : jMem) {i : Nat} {q : String × Nat × String × List Nat} (k : Nat) (C : jX0 p l (jR 6 118 0 0) s m args meth c G cX3_putAll 3 RX3 none) (hs : jStr[i]? = some q) (hk : k ≤ q.2.2.2.length) (h4 : L.1 + (q.2.2.2.length - k) ≤ 96) : J p l e (jR 6 118 0 0) s m args below meth c G 3 0 0 (.inl (none, encX A S t wr B Z P Q V (apO L (q.2.2.2.drop k)) T)) 2 [some (.ref 873), some (.ref (2000 + i)), some (.int (nI k))] [] (encX A S t wr B Z P Q V L T) 0 0 := by
  have hq : q.2.2.2.length < 100 := jStr_len hs
  induction hm : q.2.2.2.length - k generalizing k L with
  | zero =>
    rw [List.drop_eq_nil_of_le (by omega)]
    refine J_iload_n (pc := 2) C dX3_putAll_2 rfl rfl ?_
    refine J_aload_n (pc := 3) C dX3_putAll_3 rfl rfl ?_
    refine J_callVS (pc := 4) C dX3_putAll_4 m_X3_48 rfl hs (c_length l G _ hs) ⟨jle rfl, jle rfl⟩ rfl rfl (jle rfl) ⟨Nat.zero_le _, Nat.zero_le _⟩ ?_
    refine J_icmp_geN (pc := 7) (tgt := 25) C dX3_putAll_7 (by decide) (by omega) (by omega) (fun h7 => ?_) (fun h7 => ?_)
    · exact J_vret (pc := 25) C dX3_putAll_25 rfl (rfl) (Nat.zero_le _) (Nat.zero_le _)
    · omega
  | succ d ih =>
    rw [drop_c (by omega)]
    refine J_iload_n (pc := 2) C dX3_putAll_2 rfl rfl ?_
    refine J_aload_n (pc := 3) C dX3_putAll_3 rfl rfl ?_
    refine J_callVS (pc := 4) C dX3_putAll_4 m_X3_48 rfl hs (c_length l G _ hs) ⟨jle rfl, jle rfl⟩ rfl rfl (jle rfl) ⟨Nat.zero_le _, Nat.zero_le _⟩ ?_
    refine J_icmp_geN (pc := 7) (tgt := 25) C dX3_putAll_7 (by decide) (by omega) (by omega) (fun h7 => ?_) (fun h7 => ?_)
    · omega
    · refine J_aload_n (pc := 10) C dX3_putAll_10 rfl rfl ?_
      refine J_aload_n (pc := 11) C dX3_putAll_11 rfl rfl ?_
      refine J_iload_n (pc := 12) C dX3_putAll_12 rfl rfl ?_
      refine J_callVS (pc := 13) C dX3_putAll_13 m_X3_54 rfl hs (c_charAt l G _ hs _ (by omega)) ⟨jle rfl, jle rfl⟩ rfl rfl (jle rfl) ⟨Nat.zero_le _, Nat.zero_le _⟩ ?_
      refine J_callV0 (pc := 16) C dX3_putAll_16 m_X3_44 (x_put l G _ _ _ _ _ _ _ _ _ _ _ _ (by omega)) ⟨jle rfl, jle rfl⟩ rfl rfl rfl rfl rfl (jle rfl) ⟨Nat.zero_le _, Nat.zero_le _⟩ ?_
      try dsimp only
      refine J_iincN (pc := 19) C dX3_putAll_19 rfl (by decide) rfl ?_
      dsimp only [List.set]
      refine J_goto (pc := 22) (tgt := 2) C dX3_putAll_22 (by decide) ?_
      exact ih (L := apO L [q.2.2.2.getD k 0]) (k + 1) (by omega) (by rw [apO_1]; simp only [List.length_cons, List.length_nil]; omega) (by omega)
set_option maxHeartbeats 4000000 in
set_option maxRecDepth 100000 in
theorem x_putAll (l : Launch) (G : jG) (A : xA) (S : xS) (t : xT) (wr : Int32) (B : xB) (Z : xZ) (P : xC) (Q : xN) (V : xV) (L : xL) (T : jMem) {i : Nat} {q : String × Nat × String × List Nat} (hs : jStr[i]? = some q) (h4 : L.1 + q.2.2.2.length ≤ 96) : jC l G yX3_putAll cX3_putAll 3 none 6 118 0 0 [.ref 873, .ref (2000 + i)] (encX A S t wr B Z P Q V L T) (.inl (none, encX A S t wr B Z P Q V (apO L (q.2.2.2)) T)) := by
  refine jC.of (by decide) 1 rfl [some (.ref 873), some (.ref (2000 + i)), none] rfl (fun p e s m args below meth c C hT9 hNm9 => ?_)
  refine J_iconst (pc := 0) (v := nI 0) C dX3_putAll_0 (by decide) ?_
  refine J_istore_n (pc := 1) C dX3_putAll_1 rfl (by decide) rfl ?_
  dsimp only [List.set]
  exact l_putAll l G A S t wr B Z P Q V L T 0 C hs (Nat.zero_le _) (by omega)
set_option maxHeartbeats 4000000 in
set_option maxRecDepth 100000 in
theorem l_putName (l : Launch) (G : jG) {p : Program} {e : Env} {s : State} {m : MethodId} {args : Array Value} {below : List Frame} {meth : Method} {c : Code} (A : xA) (S : xS) (t : xT) (wr : Int32) (B : xB) (Z : xZ) (P : xC) (Q : xN) (V : xV) (L : xL) (T : jMem) {a ml nl : Nat} {N : xN} (j k : Nat) (C : jX0 p l (jR 2 33 0 0) s m args meth c G cX3_putName 4 RX3 none) (hN : ∀ L, (encX A S t wr B Z P Q V L T).1 a = some (.inr (4, [.ref (a + 1), .ref (a + 2), .int (nI N.1)]))) (hA : ∀ L, (encX A S t wr B Z P Q V L T).1 (a + 1) = some (nA nl N.2.1)) (hB : ∀ L, (encX A S t wr B Z P Q V L T).1 (a + 2) = some (nA ml N.2.2)) (hnl : nl = 12 * ml) (hnB : nB N ml) (hj : j < ml) (hk : k ≤ N.2.2 j) (h4 : L.1 + (N.2.2 j - k) ≤ 96) : J p l e (jR 2 33 0 0) s m args below meth c G 4 0 0 (.inl (none, encX A S t wr B Z P Q V (apO L (xnL N j k)) T)) 2 [some (.ref 873), some (.ref a), some (.int (nI j)), some (.int (nI k))] [] (encX A S t wr B Z P Q V L T) 0 0 := by
  have hm6 := hnB.1
  have hl9 := hnB.2.2 j
  induction hm : N.2.2 j - k generalizing k L with
  | zero =>
    rw [xnL_e (by omega)]
    refine J_iload_n (pc := 2) C dX3_putName_2 rfl rfl ?_
    refine J_aload_n (pc := 3) C dX3_putName_3 rfl rfl ?_
    refine J_get (pc := 4) C dX3_putName_4 f_X3_58 (hN _) rfl ?_
    refine J_iload_n (pc := 7) C dX3_putName_7 rfl rfl ?_
    refine J_ialdN (pc := 8) C dX3_putName_8 (hB _) (by omega) (by omega) ?_
    try dsimp only
    refine J_icmp_geN (pc := 9) (tgt := 33) C dX3_putName_9 (by decide) (by omega) (by omega) (fun h9 => ?_) (fun h9 => ?_)
    · exact J_vret (pc := 33) C dX3_putName_33 rfl (rfl) (Nat.zero_le _) (Nat.zero_le _)
    · omega
  | succ d ih =>
    rw [xnL_st (by omega)]
    refine J_iload_n (pc := 2) C dX3_putName_2 rfl rfl ?_
    refine J_aload_n (pc := 3) C dX3_putName_3 rfl rfl ?_
    refine J_get (pc := 4) C dX3_putName_4 f_X3_58 (hN _) rfl ?_
    refine J_iload_n (pc := 7) C dX3_putName_7 rfl rfl ?_
    refine J_ialdN (pc := 8) C dX3_putName_8 (hB _) (by omega) (by omega) ?_
    try dsimp only
    refine J_icmp_geN (pc := 9) (tgt := 33) C dX3_putName_9 (by decide) (by omega) (by omega) (fun h9 => ?_) (fun h9 => ?_)
    · omega
    · refine J_aload_n (pc := 12) C dX3_putName_12 rfl rfl ?_
      refine J_aload_n (pc := 13) C dX3_putName_13 rfl rfl ?_
      refine J_get (pc := 14) C dX3_putName_14 f_X3_63 (hN _) rfl ?_
      refine J_iload_n (pc := 17) C dX3_putName_17 rfl rfl ?_
      refine J_bipush (pc := 18) (v := nI 12) C dX3_putName_18 (by decide) ?_
      refine J_imulN (pc := 20) C dX3_putName_20 ?_
      refine J_iload_n (pc := 21) C dX3_putName_21 rfl rfl ?_
      refine J_iaddN (pc := 22) C dX3_putName_22 ?_
      refine J_ialdN (pc := 23) C dX3_putName_23 (hA _) (by omega) (by omega) ?_
      try dsimp only
      rw [show j * 12 + k = 12 * j + k by omega]
      refine J_callV0 (pc := 24) C dX3_putName_24 m_X3_44 (x_put l G _ _ _ _ _ _ _ _ _ _ _ _ (by omega)) ⟨jle rfl, jle rfl⟩ rfl rfl rfl rfl rfl (jle rfl) ⟨Nat.zero_le _, Nat.zero_le _⟩ ?_
      try dsimp only
      refine J_iincN (pc := 27) C dX3_putName_27 rfl (by decide) rfl ?_
      dsimp only [List.set]
      refine J_goto (pc := 30) (tgt := 2) C dX3_putName_30 (by decide) ?_
      exact ih (L := apO L [N.2.1 (12 * j + k)]) (k + 1) (by omega) (by rw [apO_1]; simp only [List.length_cons, List.length_nil]; omega) (by omega)
set_option maxHeartbeats 4000000 in
set_option maxRecDepth 100000 in
theorem x_putName (l : Launch) (G : jG) (A : xA) (S : xS) (t : xT) (wr : Int32) (B : xB) (Z : xZ) (P : xC) (Q : xN) (V : xV) (L : xL) (T : jMem) {a ml nl : Nat} {N : xN} (j : Nat) (hN : ∀ L, (encX A S t wr B Z P Q V L T).1 a = some (.inr (4, [.ref (a + 1), .ref (a + 2), .int (nI N.1)]))) (hA : ∀ L, (encX A S t wr B Z P Q V L T).1 (a + 1) = some (nA nl N.2.1)) (hB : ∀ L, (encX A S t wr B Z P Q V L T).1 (a + 2) = some (nA ml N.2.2)) (hnl : nl = 12 * ml) (hnB : nB N ml) (hj : j < ml) (h4 : L.1 + N.2.2 j ≤ 96) : jC l G yX3_putName cX3_putName 4 none 2 33 0 0 [.ref 873, .ref a, .int (nI j)] (encX A S t wr B Z P Q V L T) (.inl (none, encX A S t wr B Z P Q V (apO L (xnL N j 0)) T)) := by
  refine jC.of (by decide) 1 rfl [some (.ref 873), some (.ref a), some (.int (nI j)), none] rfl (fun p e s m args below meth c C hT9 hNm9 => ?_)
  refine J_iconst (pc := 0) (v := nI 0) C dX3_putName_0 (by decide) ?_
  refine J_istore_n (pc := 1) C dX3_putName_1 rfl (by decide) rfl ?_
  dsimp only [List.set]
  exact l_putName l G A S t wr B Z P Q V L T j 0 C hN hA hB hnl hnB hj (Nat.zero_le _) (by omega)
set_option maxHeartbeats 4000000 in
set_option maxRecDepth 100000 in
theorem l_xhx (l : Launch) (G : jG) {p : Program} {e : Env} {s : State} {m : MethodId} {args : Array Value} {below : List Frame} {meth : Method} {c : Code} (A : xA) (S : xS) (t : xT) (wr : Int32) (B : xB) (Z : xZ) (P : xC) (Q : xN) (V : xV) (L : xL) (T : jMem) (w : Int32) (W9 cn : Nat) (v4 : Option Value) (C : jX0 p l (jR 7 140 0 0) s m args meth c G cX3_putPlainWord 5 RX3 none) (hc : cn ≤ 8) (h4 : L.1 + cn < 96) : J p l e (jR 7 140 0 0) s m args below meth c G 5 0 0 (.inl (none, encX A S t wr B Z P Q V (apO L (hxL w cn)) T)) 10 [some (.ref 873), some (.int w), some (.int (nI W9)), some (.int (nI (4 * cn) - nI 4)), v4] [] (encX A S t wr B Z P Q V L T) 0 0 := by
  induction cn generalizing L v4 with
  | zero =>
    refine J_iload_n (pc := 10) C dX3_putPlainWord_10 rfl rfl ?_
    refine J_if_lt (pc := 11) (tgt := 55) C dX3_putPlainWord_11 (by decide) (fun h11 => ?_) (fun h11 => ?_)
    · exact J_vret (pc := 55) C dX3_putPlainWord_55 rfl (rfl) (Nat.zero_le _) (Nat.zero_le _)
    · exact absurd (pk_sneg (by decide) (by decide)) h11
  | succ cn ih =>
    have hnb : nibN w (4 * cn) < 16 := Nat.mod_lt _ (by decide)
    rw [show nI (4 * (cn + 1)) - nI 4 = nI (4 * cn) by rw [pk_sub (by omega)]; rfl]
    refine J_iload_n (pc := 10) C dX3_putPlainWord_10 rfl rfl ?_
    refine J_if_ltN (pc := 11) (tgt := 55) C dX3_putPlainWord_11 (by decide) (by omega) ?_
    refine J_iload_n (pc := 14) C dX3_putPlainWord_14 rfl rfl ?_
    refine J_iload_n (pc := 15) C dX3_putPlainWord_15 rfl rfl ?_
    refine J_iushr (pc := 16) C dX3_putPlainWord_16 rfl ?_
    refine J_bipush (pc := 17) (v := nI 15) C dX3_putPlainWord_17 (by decide) ?_
    refine J_iand (pc := 19) C dX3_putPlainWord_19 ?_
    rw [nib_u w (by omega)]
    refine J_istore (pc := 20) C dX3_putPlainWord_20 (by decide) rfl ?_
    dsimp only [List.set]
    refine J_aload_n (pc := 22) C dX3_putPlainWord_22 rfl rfl ?_
    refine J_iload (pc := 23) C dX3_putPlainWord_23 rfl ?_
    refine J_bipush (pc := 25) (v := nI 10) C dX3_putPlainWord_25 (by decide) ?_
    refine J_icmp_geN (pc := 27) (tgt := 38) C dX3_putPlainWord_27 (by decide) (by omega) (by omega) (fun h27 => ?_) (fun h27 => ?_)
    · refine J_bipush (pc := 38) (v := nI 97) C dX3_putPlainWord_38 (by decide) ?_
      refine J_iload (pc := 40) C dX3_putPlainWord_40 rfl ?_
      refine J_iaddN (pc := 42) C dX3_putPlainWord_42 ?_
      refine J_bipush (pc := 43) (v := nI 10) C dX3_putPlainWord_43 (by decide) ?_
      refine J_isubN (pc := 45) C dX3_putPlainWord_45 (by omega) ?_
      rw [show 97 + nibN w (4 * cn) - 10 = hdL (nibN w (4 * cn)) by unfold hdL; rw [if_neg (by omega)]]
      refine J_callV0 (pc := 46) C dX3_putPlainWord_46 m_X3_44 (x_put l G _ _ _ _ _ _ _ _ _ _ _ _ (by omega)) ⟨jle rfl, jle rfl⟩ rfl rfl rfl rfl rfl (jle rfl) ⟨Nat.zero_le _, Nat.zero_le _⟩ ?_
      try dsimp only
      refine J_iinc (pc := 49) C dX3_putPlainWord_49 rfl (im4 _) (by decide) rfl ?_
      dsimp only [List.set]
      refine J_goto (pc := 52) (tgt := 10) C dX3_putPlainWord_52 (by decide) ?_
      exact ih (L := apO L [hdL (nibN w (4 * cn))]) _ (by omega) (by rw [apO_1]; simp only [List.length_cons, List.length_nil]; omega)
    · refine J_bipush (pc := 30) (v := nI 48) C dX3_putPlainWord_30 (by decide) ?_
      refine J_iload (pc := 32) C dX3_putPlainWord_32 rfl ?_
      refine J_iaddN (pc := 34) C dX3_putPlainWord_34 ?_
      refine J_goto (pc := 35) (tgt := 46) C dX3_putPlainWord_35 (by decide) ?_
      rw [show 48 + nibN w (4 * cn) = hdL (nibN w (4 * cn)) by unfold hdL; rw [if_pos (by omega)]]
      refine J_callV0 (pc := 46) C dX3_putPlainWord_46 m_X3_44 (x_put l G _ _ _ _ _ _ _ _ _ _ _ _ (by omega)) ⟨jle rfl, jle rfl⟩ rfl rfl rfl rfl rfl (jle rfl) ⟨Nat.zero_le _, Nat.zero_le _⟩ ?_
      try dsimp only
      refine J_iinc (pc := 49) C dX3_putPlainWord_49 rfl (im4 _) (by decide) rfl ?_
      dsimp only [List.set]
      refine J_goto (pc := 52) (tgt := 10) C dX3_putPlainWord_52 (by decide) ?_
      exact ih (L := apO L [hdL (nibN w (4 * cn))]) _ (by omega) (by rw [apO_1]; simp only [List.length_cons, List.length_nil]; omega)
set_option maxHeartbeats 4000000 in
set_option maxRecDepth 100000 in
theorem x_putPlainWord (l : Launch) (G : jG) (A : xA) (S : xS) (t : xT) (wr : Int32) (B : xB) (Z : xZ) (P : xC) (Q : xN) (V : xV) (L : xL) (T : jMem) (w : Int32) (cn : Nat) (hc : cn ≤ 8) (h4 : L.1 + 7 + cn < 96) : jC l G yX3_putPlainWord cX3_putPlainWord 5 none 7 140 0 0 [.ref 873, .int w, .int (nI (4 * cn))] (encX A S t wr B Z P Q V L T) (.inl (none, encX A S t wr B Z P Q V (apO L ([119, 111, 114, 100, 32, 48, 120] ++ hxL w cn)) T)) := by
  refine jC.of (by decide) 2 rfl [some (.ref 873), some (.int w), some (.int (nI (4 * cn))), none, none] rfl (fun p e s m args below meth c C hT9 hNm9 => ?_)
  rw [apO_app]
  refine J_aload_n (pc := 0) C dX3_putPlainWord_0 rfl rfl ?_
  refine J_ldcS (pc := 1) (i := 15) C dX3_putPlainWord_1 rfl ?_
  refine J_callV0 (pc := 3) C dX3_putPlainWord_3 m_X3_66 (x_putAll l G _ _ _ _ _ _ _ _ _ _ _ (i := 15) rfl (by show L.1 + 7 ≤ 96; omega)) ⟨jle rfl, jle rfl⟩ rfl rfl rfl rfl rfl (jle rfl) ⟨Nat.zero_le _, Nat.zero_le _⟩ ?_
  try dsimp only
  refine J_iload_n (pc := 6) C dX3_putPlainWord_6 rfl rfl ?_
  refine J_iconst (pc := 7) (v := nI 4) C dX3_putPlainWord_7 (by decide) ?_
  refine J_isub (pc := 8) C dX3_putPlainWord_8 ?_
  refine J_istore_n (pc := 9) C dX3_putPlainWord_9 rfl (by decide) rfl ?_
  dsimp only [List.set]
  exact l_xhx l G A S t wr B Z P Q V (apO L [119, 111, 114, 100, 32, 48, 120]) T w (4 * cn) cn none C hc (by rw [apO_1]; simp only [List.length_cons, List.length_nil]; omega)
set_option maxHeartbeats 4000000 in
set_option maxRecDepth 100000 in
theorem l_xdg (l : Launch) (G : jG) {p : Program} {e : Env} {s : State} {m : MethodId} {args : Array Value} {below : List Frame} {meth : Method} {c : Code} (A : xA) (S : xS) (t : xT) (wr : Int32) (B : xB) (Z : xZ) (P : xC) (Q : xN) (V : xV) (L : xL) (T : jMem) (v : Int64) (n u m9 : Nat) (l5 : Option Value) (C : jX0 p l (jR 2 33 0 0) s m args meth c G cX3_putNumber 9 RX3 none) (hn : n < 2 ^ 40) (hu : u < 2 ^ 40) (hm9 : u < 10 ^ m9) (h4 : L.1 + (dgL n u).length ≤ 96) : J p l e (jR 2 33 0 0) s m args below meth c G 9 0 0 (.inl (none, encX A S t wr B Z P Q V (apO L (dgL n u)) T)) 59 [some (.ref 873), some (.long v), none, some (.long (lN n)), none, l5, none, some (.long (lN u)), none] [] (encX A S t wr B Z P Q V L T) 0 0 := by
  induction m9 generalizing u L with
  | zero =>
    have h0 : u = 0 := by simp at hm9; omega
    rw [show dgL n u = [] by rw [dgL, if_neg (by omega)]]
    refine J_lload (pc := 59) C dX3_putNumber_59 rfl ?_
    refine J_lconst (pc := 61) (v := 0) C dX3_putNumber_61 (by decide) ?_
    refine J_lcmp (pc := 62) C dX3_putNumber_62 ?_
    refine J_if_le (pc := 63) (tgt := 93) C dX3_putNumber_63 (by decide) (fun h63 => ?_) (fun h63 => ?_)
    · exact J_vret (pc := 93) C dX3_putNumber_93 rfl (rfl) (Nat.zero_le _) (Nat.zero_le _)
    · exact absurd ((cmp_0 (by omega)).mpr h0) h63
  | succ m9 ih =>
    by_cases h0 : u = 0
    · rw [show dgL n u = [] by rw [dgL, if_neg (by omega)]]
      refine J_lload (pc := 59) C dX3_putNumber_59 rfl ?_
      refine J_lconst (pc := 61) (v := 0) C dX3_putNumber_61 (by decide) ?_
      refine J_lcmp (pc := 62) C dX3_putNumber_62 ?_
      refine J_if_le (pc := 63) (tgt := 93) C dX3_putNumber_63 (by decide) (fun h63 => ?_) (fun h63 => ?_)
      · exact J_vret (pc := 93) C dX3_putNumber_93 rfl (rfl) (Nat.zero_le _) (Nat.zero_le _)
      · exact absurd ((cmp_0 (by omega)).mpr h0) h63
    · have hdg : dgL n u = (48 + n / u % 10) :: dgL n (u / 10) := by rw [dgL, if_pos (by omega)]
      rw [hdg] at h4 ⊢
      rw [List.length_cons] at h4
      have hd : n / u ≤ n := Nat.div_le_self n u
      refine J_lload (pc := 59) C dX3_putNumber_59 rfl ?_
      refine J_lconst (pc := 61) (v := 0) C dX3_putNumber_61 (by decide) ?_
      refine J_lcmp (pc := 62) C dX3_putNumber_62 ?_
      refine J_if_le (pc := 63) (tgt := 93) C dX3_putNumber_63 (by decide) (fun h63 => ?_) (fun h63 => ?_)
      · exact absurd ((cmp_0 (by omega)).mp h63) h0
      · refine J_aload_n (pc := 66) C dX3_putNumber_66 rfl rfl ?_
        refine J_bipush (pc := 67) (v := nI 48) C dX3_putNumber_67 (by decide) ?_
        refine J_lload_n (pc := 69) C dX3_putNumber_69 rfl rfl ?_
        refine J_lload (pc := 70) C dX3_putNumber_70 rfl ?_
        refine J_ldiv (pc := 72) C dX3_putNumber_72 (lN_ne0 (by omega) (by omega)) ?_
        rw [div_l (by omega) (by omega) (by omega)]
        refine J_ldc2 (pc := 73) C dX3_putNumber_73 l_X3_110 ?_
        refine J_lrem (pc := 76) C dX3_putNumber_76 (by decide) ?_
        rw [rem_10 (by omega)]
        refine J_l2i (pc := 77) C dX3_putNumber_77 rfl ?_
        rw [lN_i]
        refine J_iaddN (pc := 78) C dX3_putNumber_78 ?_
        refine J_callV0 (pc := 79) C dX3_putNumber_79 m_X3_44 (x_put l G _ _ _ _ _ _ _ _ _ _ _ _ (by omega)) ⟨jle rfl, jle rfl⟩ rfl rfl rfl rfl rfl (jle rfl) ⟨Nat.zero_le _, Nat.zero_le _⟩ ?_
        try dsimp only
        refine J_lload (pc := 82) C dX3_putNumber_82 rfl ?_
        refine J_ldc2 (pc := 84) C dX3_putNumber_84 l_X3_110 ?_
        refine J_ldiv (pc := 87) C dX3_putNumber_87 (by decide) ?_
        rw [div_10 (by omega)]
        refine J_lstore (pc := 88) C dX3_putNumber_88 (by decide) rfl ?_
        dsimp only [List.set]
        refine J_goto (pc := 90) (tgt := 59) C dX3_putNumber_90 (by decide) ?_
        exact ih (u := u / 10) (L := apO L [48 + n / u % 10]) (by omega) (by rw [Nat.div_lt_iff_lt_mul (by decide)]; rw [Nat.pow_succ] at hm9; exact hm9) (by rw [apO_1]; simp only [List.length_cons, List.length_nil]; omega)
set_option maxHeartbeats 4000000 in
set_option maxRecDepth 100000 in
theorem l_xby (l : Launch) (G : jG) {p : Program} {e : Env} {s : State} {m : MethodId} {args : Array Value} {below : List Frame} {meth : Method} {c : Code} (A : xA) (S : xS) (t : xT) (wr : Int32) (B : xB) (Z : xZ) (P : xC) (Q : xN) (V : xV) (L : xL) (T : jMem) (v : Int64) (n u dg : Nat) (C : jX0 p l (jR 2 33 0 0) s m args meth c G cX3_putNumber 9 RX3 none) (hn : n < 10 ^ 10) (hd1 : 1 ≤ dg ∧ dg ≤ 10) (hu : u = 10 ^ (dg - 1)) (h4 : L.1 + (dgL n (byF n u)).length ≤ 96) : J p l e (jR 2 33 0 0) s m args below meth c G 9 0 0 (.inl (none, encX A S t wr B Z P Q V (apO L (dgL n (byF n u))) T)) 23 [some (.ref 873), some (.long v), none, some (.long (lN n)), none, some (.long (lN u)), none, some (.int (nI dg)), none] [] (encX A S t wr B Z P Q V L T) 0 0 := by
  have h40 : (10 : Nat) ^ 10 < 2 ^ 40 := by decide
  induction hm : 10 - dg generalizing dg u with
  | zero =>
    have hdg : dg = 10 := by omega
    subst hdg
    have hu2 : u = 1000000000 := hu
    have hn2 : n < 10000000000 := hn
    have h1 : byF n u = u := by rw [byF, if_neg (fun z => by have := Nat.div_lt_of_lt_mul (m := n) (n := u) (k := 10) (by omega); omega)]
    rw [h1] at h4 ⊢
    refine J_iload (pc := 23) C dX3_putNumber_23 rfl ?_
    refine J_bipush (pc := 25) (v := nI 10) C dX3_putNumber_25 (by decide) ?_
    refine J_icmp_geN (pc := 27) (tgt := 55) C dX3_putNumber_27 (by decide) (by omega) (by omega) (fun h27 => ?_) (fun h27 => ?_)
    · refine J_lload (pc := 55) C dX3_putNumber_55 rfl ?_
      refine J_lstore (pc := 57) C dX3_putNumber_57 (by decide) rfl ?_
      dsimp only [List.set]
      exact l_xdg l G A S t wr B Z P Q V L T v n u 10 _ C (by omega) (by omega) (by omega) h4
    · omega
  | succ d ih =>
    have hdl : dg < 10 := by omega
    have hup : u ≤ 10 ^ 8 := by rw [hu]; exact Nat.pow_le_pow_right (by decide) (by omega)
    have hu0 : 0 < u := by rw [hu]; exact Nat.pow_pos (by decide)
    have hdv : n / u ≤ n := Nat.div_le_self n u
    have h8 : (10 : Nat) ^ 8 < 10 ^ 10 := by decide
    have h1 : byF n u = if 9 < n / u ∧ 0 < u then byF n (u * 10) else u := by
      conv => lhs; rw [byF]
    rw [h1] at h4 ⊢
    refine J_iload (pc := 23) C dX3_putNumber_23 rfl ?_
    refine J_bipush (pc := 25) (v := nI 10) C dX3_putNumber_25 (by decide) ?_
    refine J_icmp_geN (pc := 27) (tgt := 55) C dX3_putNumber_27 (by decide) (by omega) (by omega) (fun h27 => ?_) (fun h27 => ?_)
    · omega
    · refine J_lload_n (pc := 30) C dX3_putNumber_30 rfl rfl ?_
      refine J_lload (pc := 31) C dX3_putNumber_31 rfl ?_
      refine J_ldiv (pc := 33) C dX3_putNumber_33 (lN_ne0 hu0 (by omega)) ?_
      rw [div_l (by omega) hu0 (by omega)]
      refine J_ldc2 (pc := 34) C dX3_putNumber_34 l_X3_110 ?_
      refine J_lcmp (pc := 37) C dX3_putNumber_37 ?_
      refine J_if_lt (pc := 38) (tgt := 55) C dX3_putNumber_38 (by decide) (fun h38 => ?_) (fun h38 => ?_)
      · refine J_lload (pc := 55) C dX3_putNumber_55 rfl ?_
        refine J_lstore (pc := 57) C dX3_putNumber_57 (by decide) rfl ?_
        dsimp only [List.set]
        have h2 := (cmp_10 (by omega)).mp h38
        rw [if_neg (by omega)] at h4 ⊢
        exact l_xdg l G A S t wr B Z P Q V L T v n u 10 _ C (by omega) (by omega) (by omega) h4
      · refine J_lload (pc := 41) C dX3_putNumber_41 rfl ?_
        refine J_ldc2 (pc := 43) C dX3_putNumber_43 l_X3_110 ?_
        refine J_lmul (pc := 46) C dX3_putNumber_46 ?_
        rw [mul_10]
        refine J_lstore (pc := 47) C dX3_putNumber_47 (by decide) rfl ?_
        dsimp only [List.set]
        refine J_iincN (pc := 49) C dX3_putNumber_49 rfl (by decide) rfl ?_
        dsimp only [List.set]
        refine J_goto (pc := 52) (tgt := 23) C dX3_putNumber_52 (by decide) ?_
        have h2 : ¬ n / u < 10 := fun z => h38 ((cmp_10 (by omega)).mpr z)
        rw [if_pos ⟨by omega, hu0⟩] at h4 ⊢
        exact ih (u * 10) (dg + 1) (by omega) (by rw [hu, show dg + 1 - 1 = dg - 1 + 1 by omega, Nat.pow_succ]) h4 (by omega)
set_option maxHeartbeats 4000000 in
set_option maxRecDepth 100000 in
theorem x_putNumber (l : Launch) (G : jG) (A : xA) (S : xS) (t : xT) (wr : Int32) (B : xB) (Z : xZ) (P : xC) (Q : xN) (V : xV) (L : xL) (T : jMem) (v : Int64) (hv : v.toInt.natAbs < 10 ^ 10) (h4 : L.1 + (nuL v).length ≤ 96) : jC l G yX3_putNumber cX3_putNumber 9 none 2 33 0 0 [.ref 873, .long v] (encX A S t wr B Z P Q V L T) (.inl (none, encX A S t wr B Z P Q V (apO L (nuL v)) T)) := by
  refine jC.of (by decide) 6 rfl [some (.ref 873), some (.long v), none, none, none, none, none, none, none] rfl (fun p e s m args below meth c C hT9 hNm9 => ?_)
  have h40 : (10 : Nat) ^ 10 < 2 ^ 62 := by decide
  have hab := absl (v := v) (by omega)
  refine J_lload_n (pc := 0) C dX3_putNumber_0 rfl rfl ?_
  refine J_lconst (pc := 1) (v := 0) C dX3_putNumber_1 (by decide) ?_
  refine J_lcmp (pc := 2) C dX3_putNumber_2 ?_
  refine J_if_ge (pc := 3) (tgt := 12) C dX3_putNumber_3 (by decide) (fun h3 => ?_) (fun h3 => ?_)
  · refine J_lload_n (pc := 12) C dX3_putNumber_12 rfl rfl ?_
    refine J_absl (pc := 13) C dX3_putNumber_13 m_X3_104 (jle rfl) (jle rfl) (Nat.zero_le _) (Nat.zero_le _) ?_
    rw [hab]
    refine J_lstore_n (pc := 16) C dX3_putNumber_16 rfl (by decide) rfl ?_
    dsimp only [List.set]
    refine J_lconst (pc := 17) (v := lN 1) C dX3_putNumber_17 (by decide) ?_
    refine J_lstore (pc := 18) C dX3_putNumber_18 (by decide) rfl ?_
    dsimp only [List.set]
    refine J_iconst (pc := 20) (v := nI 1) C dX3_putNumber_20 (by decide) ?_
    refine J_istore (pc := 21) C dX3_putNumber_21 (by decide) rfl ?_
    dsimp only [List.set]
    have hpos : ¬ v < 0 := Int64.not_lt.mpr ((lg_cmp_ge _ _).mp h3)
    rw [nuL_p hpos] at h4 ⊢
    exact l_xby l G A S t wr B Z P Q V L T v v.toInt.natAbs 1 1 C hv (by omega) rfl h4
  · have hneg : v < 0 := by rw [lg_cmp_ge] at h3; exact Int64.not_le.mp h3
    rw [nuL_n hneg] at h4 ⊢
    rw [List.length_cons] at h4
    refine J_aload_n (pc := 6) C dX3_putNumber_6 rfl rfl ?_
    refine J_bipush (pc := 7) (v := nI 45) C dX3_putNumber_7 (by decide) ?_
    refine J_callV0 (pc := 9) C dX3_putNumber_9 m_X3_44 (x_put l G _ _ _ _ _ _ _ _ _ _ _ _ (by omega)) ⟨jle rfl, jle rfl⟩ rfl rfl rfl rfl rfl (jle rfl) ⟨Nat.zero_le _, Nat.zero_le _⟩ ?_
    try dsimp only
    refine J_lload_n (pc := 12) C dX3_putNumber_12 rfl rfl ?_
    refine J_absl (pc := 13) C dX3_putNumber_13 m_X3_104 (jle rfl) (jle rfl) (Nat.zero_le _) (Nat.zero_le _) ?_
    rw [hab]
    refine J_lstore_n (pc := 16) C dX3_putNumber_16 rfl (by decide) rfl ?_
    dsimp only [List.set]
    refine J_lconst (pc := 17) (v := lN 1) C dX3_putNumber_17 (by decide) ?_
    refine J_lstore (pc := 18) C dX3_putNumber_18 (by decide) rfl ?_
    dsimp only [List.set]
    refine J_iconst (pc := 20) (v := nI 1) C dX3_putNumber_20 (by decide) ?_
    refine J_istore (pc := 21) C dX3_putNumber_21 (by decide) rfl ?_
    dsimp only [List.set]
    exact l_xby l G A S t wr B Z P Q V (apO L [45]) T v v.toInt.natAbs 1 1 C hv (by omega) rfl (by rw [apO_1]; simp only [List.length_cons, List.length_nil]; show L.1 + 1 + (numL v.toInt.natAbs).length ≤ 96; omega)
