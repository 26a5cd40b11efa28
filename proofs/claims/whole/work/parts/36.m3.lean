set_option maxHeartbeats 4000000 in
set_option maxRecDepth 100000 in
theorem l_stands (l : Launch) (G : jG) {p : Program} {e : Env} {s : State} {m : MethodId} {args : Array Value} {below : List Frame} {meth : Method} {c : Code} (er : Nat) (F X : Nat × (Nat → Nat)) (K : Nat × Nat × Nat) (wr : Int32) (D : mD) (P : mP) (gv : Nat → Int64) (O : Nat × (Nat → Nat)) (T : jMem) (o n x k : Nat) (C : jX0 p l (jR 1 12 0 0) s m args meth c G cX11_stands 5 RX11 (some .boolean)) (ho : o < 60) (hn9 : n ≤ 32) (hk : k ≤ n) : J p l e (jR 1 12 0 0) s m args below meth c G 5 0 0 (.inl (some (.int (bI (standsF D.2.2.2.2.2.2.2.2.2.2.2.2 o n x k))), encM er F X K wr D P gv O T)) 3 [some (.ref 1000), some (.int (nI o)), some (.int (nI n)), some (.int (nI x)), some (.int (nI k))] [] (encM er F X K wr D P gv O T) 0 0 := by
  induction hm : n - k generalizing k with
  | zero =>
    refine J_iload (pc := 3) C dX11_stands_3 rfl ?_
    refine J_iload_n (pc := 5) C dX11_stands_5 rfl rfl ?_
    refine J_icmp_geN (pc := 6) (tgt := 33) C dX11_stands_6 (by decide) (by omega) (by omega) (fun h6 => ?_) (fun h6 => ?_)
    · refine J_iconst (pc := 33) (v := nI 0) C dX11_stands_33 (by decide) ?_
      exact J_zret (pc := 34) C dX11_stands_34 rfl (by first | rfl | decide) (jo (bI_0 (by rw [standsF, if_neg (by omega)]))) (Nat.zero_le _) (Nat.zero_le _)
    · omega
  | succ d ih =>
    refine J_iload (pc := 3) C dX11_stands_3 rfl ?_
    refine J_iload_n (pc := 5) C dX11_stands_5 rfl rfl ?_
    refine J_icmp_geN (pc := 6) (tgt := 33) C dX11_stands_6 (by decide) (by omega) (by omega) (fun h6 => ?_) (fun h6 => ?_)
    · omega
    · refine J_aload_n (pc := 9) C dX11_stands_9 rfl rfl ?_
      refine J_get (pc := 10) C dX11_stands_10 f_X11_53 rfl rfl ?_
      refine J_bipush (pc := 13) (v := nI 32) C dX11_stands_13 (by decide) ?_
      refine J_iload_n (pc := 15) C dX11_stands_15 rfl rfl ?_
      refine J_imulN (pc := 16) C dX11_stands_16 ?_
      refine J_iload (pc := 17) C dX11_stands_17 rfl ?_
      refine J_iaddN (pc := 19) C dX11_stands_19 ?_
      refine J_ialdR (pc := 20) C dX11_stands_20 rfl (by omega) (by decide) ?_
      try dsimp only
      refine J_iload_n (pc := 21) C dX11_stands_21 rfl rfl ?_
      refine J_icmp_ne (pc := 22) (tgt := 27) C dX11_stands_22 (by decide) (fun h22 => ?_) (fun h22 => ?_)
      · refine J_iincN (pc := 27) C dX11_stands_27 rfl (by decide) rfl ?_
        dsimp only [List.set]
        refine J_goto (pc := 30) (tgt := 3) C dX11_stands_30 (by decide) ?_
        have h1 : standsF D.2.2.2.2.2.2.2.2.2.2.2.2 o n x k = standsF D.2.2.2.2.2.2.2.2.2.2.2.2 o n x (k + 1) := by
          conv => lhs; rw [standsF]
          rw [if_pos (by omega), if_neg h22]
        rw [h1]
        exact ih (k + 1) (by omega) (by omega)
      · refine J_iconst (pc := 25) (v := nI 1) C dX11_stands_25 (by decide) ?_
        exact J_zret (pc := 26) C dX11_stands_26 rfl (by first | rfl | decide) (jo (bI_1 (by rw [standsF, if_pos (by omega), if_pos h22]))) (Nat.zero_le _) (Nat.zero_le _)
set_option maxHeartbeats 4000000 in
set_option maxRecDepth 100000 in
theorem c_stands (l : Launch) (G : jG) (er : Nat) (F X : Nat × (Nat → Nat)) (K : Nat × Nat × Nat) (wr : Int32) (D : mD) (P : mP) (gv : Nat → Int64) (O : Nat × (Nat → Nat)) (T : jMem) (o n x : Nat) (ho : o < 60) (hn9 : n ≤ 32) : jC l G yX11_stands cX11_stands 5 (some .boolean) 1 12 0 0 [.ref 1000, .int (nI o), .int (nI n), .int (nI x)] (encM er F X K wr D P gv O T) (.inl (some (.int (bI (standsF D.2.2.2.2.2.2.2.2.2.2.2.2 o n x 0))), encM er F X K wr D P gv O T)) := by
  refine jC.of (by decide) 1 rfl [some (.ref 1000), some (.int (nI o)), some (.int (nI n)), some (.int (nI x)), none] rfl (fun p e s m args below meth c C hT9 hNm9 => ?_)
  refine J_iconst (pc := 0) (v := nI 0) C dX11_stands_0 (by decide) ?_
  refine J_istore (pc := 1) C dX11_stands_1 (by decide) rfl ?_
  dsimp only [List.set]
  exact l_stands l G er F X K wr D P gv O T o n x 0 C ho hn9 (Nat.zero_le _)
set_option maxHeartbeats 4000000 in
set_option maxRecDepth 100000 in
theorem l_copy (l : Launch) (G : jG) {p : Program} {e : Env} {s : State} {m : MethodId} {args : Array Value} {below : List Frame} {meth : Method} {c : Code} (er : Nat) (F X : Nat × (Nat → Nat)) (K : Nat × Nat × Nat) (wr : Int32) (D : mD) (P : mP) (gv : Nat → Int64) (O : Nat × (Nat → Nat)) (T : jMem) {o : jO} (n k : Nat) (C : jX0 p l (jR 5 98 0 0) s m args meth c G cX11_begin 3 RX11 none) (hn : n ≤ 4000) (hk : k ≤ n) (kk : J p l e (jR 5 98 0 0) s m args below meth c G 3 0 0 (o) 35 [some (.ref 1000), some (.int (nI n)), some (.int (nI n))] [] (encM er F (n, cpF F.2 X.2 n) K wr D P gv O T) 0 0) : J p l e (jR 5 98 0 0) s m args below meth c G 3 0 0 (o) 12 [some (.ref 1000), some (.int (nI n)), some (.int (nI k))] [] (encM er F (n, cpF F.2 X.2 k) K wr D P gv O T) 0 0 := by
  induction hm : n - k generalizing k with
  | zero =>
    have h9 : k = n := by omega
    subst h9
    refine J_iload_n (pc := 12) C dX11_begin_12 rfl rfl ?_
    refine J_iload_n (pc := 13) C dX11_begin_13 rfl rfl ?_
    refine J_icmp_geN (pc := 14) (tgt := 35) C dX11_begin_14 (by decide) (by omega) (by omega) (fun h14 => ?_) (fun h14 => ?_)
    · exact kk
    · omega
  | succ d ih =>
    refine J_iload_n (pc := 12) C dX11_begin_12 rfl rfl ?_
    refine J_iload_n (pc := 13) C dX11_begin_13 rfl rfl ?_
    refine J_icmp_geN (pc := 14) (tgt := 35) C dX11_begin_14 (by decide) (by omega) (by omega) (fun h14 => ?_) (fun h14 => ?_)
    · omega
    · refine J_aload_n (pc := 17) C dX11_begin_17 rfl rfl ?_
      refine J_get (pc := 18) C dX11_begin_18 f_X11_17 rfl rfl ?_
      refine J_iload_n (pc := 21) C dX11_begin_21 rfl rfl ?_
      refine J_aload_n (pc := 22) C dX11_begin_22 rfl rfl ?_
      refine J_get (pc := 23) C dX11_begin_23 f_X11_13 rfl rfl ?_
      refine J_iload_n (pc := 26) C dX11_begin_26 rfl rfl ?_
      refine J_ialdN (pc := 27) C dX11_begin_27 rfl (by omega) (by decide) ?_
      try dsimp only
      refine J_iastN (pc := 28) C dX11_begin_28 rfl (by omega) (by decide) (uM_text _) ?_
      refine J_iincN (pc := 29) C dX11_begin_29 rfl (by decide) rfl ?_
      dsimp only [List.set]
      refine J_goto (pc := 32) (tgt := 12) C dX11_begin_32 (by decide) ?_
      rw [cpF_s]
      exact ih (k + 1) (by omega) (by omega)
set_option maxHeartbeats 4000000 in
set_option maxRecDepth 100000 in
theorem l_look (l : Launch) (G : jG) {p : Program} {e : Env} {s : State} {m : MethodId} {args : Array Value} {below : List Frame} {meth : Method} {c : Code} (er : Nat) (F X : Nat × (Nat → Nat)) (K : Nat × Nat × Nat) (wr : Int32) (D : mD) (P : mP) (gv : Nat → Int64) (O : Nat × (Nat → Nat)) (T : jMem) {o : jO} (n k : Nat) (C : jX0 p l (jR 5 98 0 0) s m args meth c G cX11_begin 3 RX11 none) (hn : X.1 ≤ 4000) (hX : ∀ k, X.2 k < 256) (he : n = X.1) (hk : k ≤ X.1) (kk : J p l e (jR 5 98 0 0) s m args below meth c G 3 0 0 (o) 89 [some (.ref 1000), some (.int (nI n)), some (.int (nI X.1))] [] (encM er F X K (wrF X k wr) D P gv O T) 0 0) : J p l e (jR 5 98 0 0) s m args below meth c G 3 0 0 (o) 42 [some (.ref 1000), some (.int (nI n)), some (.int (nI k))] [] (encM er F X K wr D P gv O T) 0 0 := by
  induction hm : X.1 - k generalizing k wr with
  | zero =>
    have h9 : k = X.1 := by omega
    rw [wrF, if_neg (by omega)] at kk
    subst h9
    refine J_iload_n (pc := 42) C dX11_begin_42 rfl rfl ?_
    refine J_iload_n (pc := 43) C dX11_begin_43 rfl rfl ?_
    refine J_icmp_geN (pc := 44) (tgt := 89) C dX11_begin_44 (by decide) (by omega) (by omega) (fun h44 => ?_) (fun h44 => ?_)
    · exact kk
    · omega
  | succ d ih =>
    have hv := hX k
    rw [wrF, if_pos (by omega)] at kk
    refine J_iload_n (pc := 42) C dX11_begin_42 rfl rfl ?_
    refine J_iload_n (pc := 43) C dX11_begin_43 rfl rfl ?_
    refine J_icmp_geN (pc := 44) (tgt := 89) C dX11_begin_44 (by decide) (by omega) (by omega) (fun h44 => ?_) (fun h44 => ?_)
    · omega
    · refine J_aload_n (pc := 47) C dX11_begin_47 rfl rfl ?_
      refine J_get (pc := 48) C dX11_begin_48 f_X11_17 rfl rfl ?_
      refine J_iload_n (pc := 51) C dX11_begin_51 rfl rfl ?_
      refine J_ialdN (pc := 52) C dX11_begin_52 rfl (by omega) (by decide) ?_
      try dsimp only
      refine J_bipush (pc := 53) (v := nI 10) C dX11_begin_53 (by decide) ?_
      refine J_icmp_eqN (pc := 55) (tgt := 83) C dX11_begin_55 (by decide) (by omega) (by omega) (fun h55 => ?_) (fun h55 => ?_)
      · refine J_iincN (pc := 83) C dX11_begin_83 rfl (by decide) rfl ?_
        dsimp only [List.set]
        refine J_goto (pc := 86) (tgt := 42) C dX11_begin_86 (by decide) ?_
        first
          | (rw [if_pos (by simp [okL]; omega)] at kk; exact ih _ (k + 1) (by omega) kk (by omega))
          | (have h8 := bI_t h74
             rw [show (nI (X.2 k)).toInt64 = (lI (X.2 k)).toInt64 by rw [lI_n (by omega)], i64_32, i64_126, jin2_L (by omega) (by decide) (by decide) (by decide)] at h8
             simp at h8
             rw [if_pos (by simp [okL]; omega)] at kk; exact ih _ (k + 1) (by omega) kk (by omega))
          | (have h8 := bI_f h74
             rw [show (nI (X.2 k)).toInt64 = (lI (X.2 k)).toInt64 by rw [lI_n (by omega)], i64_32, i64_126, jin2_L (by omega) (by decide) (by decide) (by decide)] at h8
             simp at h8
             rw [if_neg (by simp [okL]; omega)] at kk; exact ih _ (k + 1) (by omega) kk (by omega))
      · refine J_aload_n (pc := 58) C dX11_begin_58 rfl rfl ?_
        refine J_get (pc := 59) C dX11_begin_59 f_X11_17 rfl rfl ?_
        refine J_iload_n (pc := 62) C dX11_begin_62 rfl rfl ?_
        refine J_ialdN (pc := 63) C dX11_begin_63 rfl (by omega) (by decide) ?_
        try dsimp only
        refine J_i2l (pc := 64) C dX11_begin_64 rfl ?_
        refine J_ldc2 (pc := 65) C dX11_begin_65 l_X11_169 ?_
        refine J_ldc2 (pc := 68) C dX11_begin_68 l_X11_171 ?_
        refine J_callS1 (pc := 71) C dX11_begin_71 m_X11_89 (c_in l G _ _ _ _) ⟨jle rfl, jle rfl⟩ rfl rfl (jle rfl) ⟨Nat.zero_le _, Nat.zero_le _⟩ ?_
        skip
        refine J_if_ne (pc := 74) (tgt := 83) C dX11_begin_74 (by decide) (fun h74 => ?_) (fun h74 => ?_)
        · refine J_iincN (pc := 83) C dX11_begin_83 rfl (by decide) rfl ?_
          dsimp only [List.set]
          refine J_goto (pc := 86) (tgt := 42) C dX11_begin_86 (by decide) ?_
          first
            | (rw [if_pos (by simp [okL]; omega)] at kk; exact ih _ (k + 1) (by omega) kk (by omega))
            | (have h8 := bI_t h74
               rw [show (nI (X.2 k)).toInt64 = (lI (X.2 k)).toInt64 by rw [lI_n (by omega)], i64_32, i64_126, jin2_L (by omega) (by decide) (by decide) (by decide)] at h8
               simp at h8
               rw [if_pos (by simp [okL]; omega)] at kk; exact ih _ (k + 1) (by omega) kk (by omega))
            | (have h8 := bI_f h74
               rw [show (nI (X.2 k)).toInt64 = (lI (X.2 k)).toInt64 by rw [lI_n (by omega)], i64_32, i64_126, jin2_L (by omega) (by decide) (by decide) (by decide)] at h8
               simp at h8
               rw [if_neg (by simp [okL]; omega)] at kk; exact ih _ (k + 1) (by omega) kk (by omega))
        · refine J_aload_n (pc := 77) C dX11_begin_77 rfl rfl ?_
          refine J_iload_n (pc := 78) C dX11_begin_78 rfl rfl ?_
          refine J_callV1 (pc := 79) C dX11_begin_79 m_X11_142 (c_bad l G _ _ _ _ _ _ _ _ _ _ _) ⟨jle rfl, jle rfl⟩ rfl rfl rfl rfl rfl (jle rfl) ⟨Nat.zero_le _, Nat.zero_le _⟩ ?_
          refine J_pop (pc := 82) C dX11_begin_82 rfl ?_
          refine J_iincN (pc := 83) C dX11_begin_83 rfl (by decide) rfl ?_
          dsimp only [List.set]
          refine J_goto (pc := 86) (tgt := 42) C dX11_begin_86 (by decide) ?_
          first
            | (rw [if_pos (by simp [okL]; omega)] at kk; exact ih _ (k + 1) (by omega) kk (by omega))
            | (have h8 := bI_t h74
               rw [show (nI (X.2 k)).toInt64 = (lI (X.2 k)).toInt64 by rw [lI_n (by omega)], i64_32, i64_126, jin2_L (by omega) (by decide) (by decide) (by decide)] at h8
               simp at h8
               rw [if_pos (by simp [okL]; omega)] at kk; exact ih _ (k + 1) (by omega) kk (by omega))
            | (have h8 := bI_f h74
               rw [show (nI (X.2 k)).toInt64 = (lI (X.2 k)).toInt64 by rw [lI_n (by omega)], i64_32, i64_126, jin2_L (by omega) (by decide) (by decide) (by decide)] at h8
               simp at h8
               rw [if_neg (by simp [okL]; omega)] at kk; exact ih _ (k + 1) (by omega) kk (by omega))
set_option maxHeartbeats 4000000 in
set_option maxRecDepth 100000 in
theorem c_begin (l : Launch) (G : jG) (er : Nat) (F X : Nat × (Nat → Nat)) (K : Nat × Nat × Nat) (wr : Int32) (D : mD) (P : mP) (gv : Nat → Int64) (O : Nat × (Nat → Nat)) (T : jMem) (n : Nat) (hn : n ≤ 4000) (hF : ∀ k, F.2 k < 256) (hX : ∀ k, X.2 k < 256) : jC l G yX11_begin cX11_begin 3 none 5 98 0 0 [.ref 1000, .int (nI n)] (encM er F X K wr D P gv O T) (.inl (none, encM er (0, F.2) (n, cpF F.2 X.2 n) (nextF (n, cpF F.2 X.2 n) 0) (wrF (n, cpF F.2 X.2 n) 0 (-1)) D P gv O T)) := by
  refine jC.of (by decide) 1 rfl [some (.ref 1000), some (.int (nI n)), none] rfl (fun p e s m args below meth c C hT9 hNm9 => ?_)
  have hX9 : ∀ k, (n, cpF F.2 X.2 n).2 k < 256 := by
    intro k
    show cpF F.2 X.2 n k < 256
    unfold cpF
    split
    · exact hF k
    · exact hX k
  refine J_aload_n (pc := 0) C dX11_begin_0 rfl rfl ?_
  refine J_iconst (pc := 1) (v := nI 0) C dX11_begin_1 (by decide) ?_
  refine J_putU (pc := 2) C dX11_begin_2 p_X11_78 rfl (jlt rfl) rfl rfl (uM_fed _) ?_
  try dsimp only
  refine J_aload_n (pc := 5) C dX11_begin_5 rfl rfl ?_
  refine J_iload_n (pc := 6) C dX11_begin_6 rfl rfl ?_
  refine J_putU (pc := 7) C dX11_begin_7 p_X11_101 rfl (jlt rfl) rfl rfl (uM_letters _) ?_
  try dsimp only
  refine J_iconst (pc := 10) (v := nI 0) C dX11_begin_10 (by decide) ?_
  refine J_istore_n (pc := 11) C dX11_begin_11 rfl (by decide) rfl ?_
  dsimp only [List.set]
  rw [show encM er (0, F.2) (n, X.2) K wr D P gv O T = encM er (0, F.2) (n, cpF F.2 X.2 0) K wr D P gv O T by rw [cpF_0]]
  refine l_copy l G er (0, F.2) X K wr D P gv O T n 0 C hn (Nat.zero_le _) ?_
  dsimp only
  refine J_aload_n (pc := 35) C dX11_begin_35 rfl rfl ?_
  refine J_iconst (pc := 36) (v := -1) C dX11_begin_36 (by decide) ?_
  refine J_putU (pc := 37) C dX11_begin_37 p_X11_7 rfl (jlt rfl) rfl rfl (uM_wrong _) ?_
  try dsimp only
  refine J_iconst (pc := 40) (v := nI 0) C dX11_begin_40 (by decide) ?_
  refine J_istore_n (pc := 41) C dX11_begin_41 rfl (by decide) rfl ?_
  dsimp only [List.set]
  refine l_look l G er (0, F.2) (n, cpF F.2 X.2 n) K (-1) D P gv O T n 0 C hn hX9 rfl (Nat.zero_le _) ?_
  dsimp only
  refine J_aload_n (pc := 89) C dX11_begin_89 rfl rfl ?_
  refine J_iconst (pc := 90) (v := nI 0) C dX11_begin_90 (by decide) ?_
  refine J_putU (pc := 91) C dX11_begin_91 p_X11_110 rfl (jlt rfl) rfl rfl (uM_to _) ?_
  try dsimp only
  refine J_aload_n (pc := 94) C dX11_begin_94 rfl rfl ?_
  refine J_callV0 (pc := 95) C dX11_begin_95 m_X11_145 (c_next l G _ _ _ _ _ _ _ _ _ _ hn hX9 (Nat.zero_le _)) ⟨jle rfl, jle rfl⟩ rfl rfl rfl rfl rfl (jle rfl) ⟨Nat.zero_le _, Nat.zero_le _⟩ ?_
  exact J_vret (pc := 98) C dX11_begin_98 rfl (rfl) (Nat.zero_le _) (Nat.zero_le _)
