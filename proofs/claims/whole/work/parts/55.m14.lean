set_option maxHeartbeats 4000000 in
set_option maxRecDepth 100000 in
theorem c_feed_x (l : Launch) (G : jG) (er : Nat) (F X : Nat × (Nat → Nat)) (K : Nat × Nat × Nat) (wr : Int32) (D : mD) (P : mP) (gv : Nat → Int64) (O : Nat × (Nat → Nat)) (T : jMem) (a9 b9 c9 d9 e9 : Int32) (hf : 4000 < F.1 + 20) (hf2 : F.1 ≤ 4000) : jC l G yX11_feed cX11_feed 8 (some .int) 2 34 0 0 [.ref 1000, .int a9, .int b9, .int c9, .int d9, .int e9] (encM er F X K wr D P gv O T) (.inl (some (.int (nI 0)), encM 1 F X K wr D P gv O T)) := by
  refine jC.of (by decide) 2 rfl [some (.ref 1000), some (.int a9), some (.int b9), some (.int c9), some (.int d9), some (.int e9), none, none] rfl (fun p e s m args below meth c C hT9 hNm9 => ?_)
  refine J_aload_n (pc := 0) C dX11_feed_0 rfl rfl ?_
  refine J_iconst (pc := 1) (v := nI 0) C dX11_feed_1 (by decide) ?_
  refine J_putU (pc := 2) C dX11_feed_2 p_X11_75 rfl (jlt rfl) rfl rfl (uM_err _) ?_
  try dsimp only
  refine J_aload_n (pc := 5) C dX11_feed_5 rfl rfl ?_
  refine J_aload_n (pc := 6) C dX11_feed_6 rfl rfl ?_
  refine J_get (pc := 7) C dX11_feed_7 f_X11_78 rfl rfl ?_
  try dsimp only
  refine J_bipush (pc := 10) (v := nI 20) C dX11_feed_10 (by decide) ?_
  refine J_iaddN (pc := 12) C dX11_feed_12 ?_
  refine J_sipush (pc := 13) (v := nI 4000) C dX11_feed_13 (by decide) ?_
  refine J_icmp_leN (pc := 16) (tgt := 23) C dX11_feed_16 (by decide) (by omega) (by omega) (fun h16 => ?_) (fun h16 => ?_)
  · omega
  · refine J_iconst (pc := 19) (v := nI 1) C dX11_feed_19 (by decide) ?_
    refine J_goto (pc := 20) (tgt := 24) C dX11_feed_20 (by decide) ?_
    refine J_iconst (pc := 24) (v := nI 1) C dX11_feed_24 (by decide) ?_
    refine J_callV1 (pc := 25) C dX11_feed_25 m_X11_81 (c_fails_t l G _ _ _ _ _ _ _ _ _ _ (by omega) (by decide)) ⟨jle rfl, jle rfl⟩ rfl rfl rfl rfl rfl (jle rfl) ⟨Nat.zero_le _, Nat.zero_le _⟩ ?_
    try dsimp only
    refine J_if_eqN (pc := 28) (tgt := 33) C dX11_feed_28 (by decide) (by omega) (fun h28 => absurd h28 (by decide)) (fun _ => ?_)
    refine J_iconst (pc := 31) (v := nI 0) C dX11_feed_31 (by decide) ?_
    exact J_iret (pc := 32) C dX11_feed_32 rfl (rfl) (Nat.zero_le _) (Nat.zero_le _)
set_option maxHeartbeats 4000000 in
set_option maxRecDepth 100000 in
theorem l_feed (l : Launch) (G : jG) {p : Program} {e : Env} {s : State} {m : MethodId} {args : Array Value} {below : List Frame} {meth : Method} {c : Code} (er : Nat) (F X : Nat × (Nat → Nat)) (K : Nat × Nat × Nat) (wr : Int32) (D : mD) (P : mP) (gv : Nat → Int64) (O : Nat × (Nat → Nat)) (T : jMem) (a9 b9 c9 d9 e9 : Int32) (k : Nat) (v7 : Option Value) (C : jX0 p l (jR 2 34 0 0) s m args meth c G cX11_feed 8 RX11 (some .int)) (hf : F.1 + 20 ≤ 4000) (hk : k ≤ 20) : J p l e (jR 2 34 0 0) s m args below meth c G 8 0 0 (.inl (some (.int (nI (F.1 + 20))), encM 0 (F.1 + 20, fdF F.2 F.1 a9 b9 c9 d9 e9 20) X K wr D P gv O T)) 36 [some (.ref 1000), some (.int a9), some (.int b9), some (.int c9), some (.int d9), some (.int e9), some (.int (nI k)), v7] [] (encM 0 (F.1 + k, fdF F.2 F.1 a9 b9 c9 d9 e9 k) X K wr D P gv O T) 0 0 := by
  induction hm : 20 - k generalizing k v7 with
  | zero =>
    have h9 : k = 20 := by omega
    subst h9
    refine J_iload (pc := 36) C dX11_feed_36 rfl ?_
    refine J_bipush (pc := 38) (v := nI 20) C dX11_feed_38 (by decide) ?_
    refine J_icmp_geN (pc := 40) (tgt := 130) C dX11_feed_40 (by decide) (by omega) (by omega) (fun h40 => ?_) (fun h40 => ?_)
    · refine J_aload_n (pc := 130) C dX11_feed_130 rfl rfl ?_
      refine J_get (pc := 131) C dX11_feed_131 f_X11_78 rfl rfl ?_
      try dsimp only
      exact J_iret (pc := 134) C dX11_feed_134 rfl (rfl) (Nat.zero_le _) (Nat.zero_le _)
    · omega
  | succ d ih =>
    refine J_iload (pc := 36) C dX11_feed_36 rfl ?_
    refine J_bipush (pc := 38) (v := nI 20) C dX11_feed_38 (by decide) ?_
    refine J_icmp_geN (pc := 40) (tgt := 130) C dX11_feed_40 (by decide) (by omega) (by omega) (fun h40 => ?_) (fun h40 => ?_)
    · omega
    · refine J_iload (pc := 43) C dX11_feed_43 rfl ?_
      refine J_iconst (pc := 45) (v := nI 4) C dX11_feed_45 (by decide) ?_
      refine J_icmp_geN (pc := 46) (tgt := 53) C dX11_feed_46 (by decide) (by omega) (by omega) (fun h46 => ?_) (fun h46 => ?_)
      · refine J_iload (pc := 53) C dX11_feed_53 rfl ?_
        refine J_bipush (pc := 55) (v := nI 8) C dX11_feed_55 (by decide) ?_
        refine J_icmp_geN (pc := 57) (tgt := 64) C dX11_feed_57 (by decide) (by omega) (by omega) (fun h57 => ?_) (fun h57 => ?_)
        · refine J_iload (pc := 64) C dX11_feed_64 rfl ?_
          refine J_bipush (pc := 66) (v := nI 12) C dX11_feed_66 (by decide) ?_
          refine J_icmp_geN (pc := 68) (tgt := 75) C dX11_feed_68 (by decide) (by omega) (by omega) (fun h68 => ?_) (fun h68 => ?_)
          · refine J_iload (pc := 75) C dX11_feed_75 rfl ?_
            refine J_bipush (pc := 77) (v := nI 16) C dX11_feed_77 (by decide) ?_
            refine J_icmp_geN (pc := 79) (tgt := 87) C dX11_feed_79 (by decide) (by omega) (by omega) (fun h79 => ?_) (fun h79 => ?_)
            · refine J_iload (pc := 87) C dX11_feed_87 rfl ?_
              refine J_istore (pc := 89) C dX11_feed_89 (by decide) rfl ?_
              dsimp only [List.set]
              refine J_aload_n (pc := 91) C dX11_feed_91 rfl rfl ?_
              refine J_get (pc := 92) C dX11_feed_92 f_X11_13 rfl rfl ?_
              refine J_aload_n (pc := 95) C dX11_feed_95 rfl rfl ?_
              refine J_dup (pc := 96) C dX11_feed_96 rfl ?_
              refine J_get (pc := 97) C dX11_feed_97 f_X11_78 rfl rfl ?_
              try dsimp only
              refine J_dup_x1 (pc := 100) C dX11_feed_100 rfl rfl ?_
              refine J_iconst (pc := 101) (v := nI 1) C dX11_feed_101 (by decide) ?_
              refine J_iaddN (pc := 102) C dX11_feed_102 ?_
              refine J_putU (pc := 103) C dX11_feed_103 p_X11_78 rfl (jlt rfl) rfl rfl (uM_fed _) ?_
              try dsimp only
              refine J_iload (pc := 106) C dX11_feed_106 rfl ?_
              refine J_bipush (pc := 108) (v := nI 24) C dX11_feed_108 (by decide) ?_
              refine J_bipush (pc := 110) (v := nI 8) C dX11_feed_110 (by decide) ?_
              refine J_iload (pc := 112) C dX11_feed_112 rfl ?_
              refine J_iconst (pc := 114) (v := nI 3) C dX11_feed_114 (by decide) ?_
              refine J_iand (pc := 115) C dX11_feed_115 ?_
              refine J_imul (pc := 116) C dX11_feed_116 ?_
              refine J_isub (pc := 117) C dX11_feed_117 ?_
              refine J_iushr (pc := 118) C dX11_feed_118 rfl ?_
              refine J_sipush (pc := 119) (v := nI 255) C dX11_feed_119 (by decide) ?_
              refine J_iand (pc := 122) C dX11_feed_122 ?_
              rw [oct_eq _ (show k < 20 by omega)]
              refine J_iastN (pc := 123) C dX11_feed_123 rfl (by omega) (by decide) (uM_octets _) ?_
              refine J_iincN (pc := 124) C dX11_feed_124 rfl (by decide) rfl ?_
              dsimp only [List.set]
              refine J_goto (pc := 127) (tgt := 36) C dX11_feed_127 (by decide) ?_
              have h2 : fdF F.2 F.1 a9 b9 c9 d9 e9 (k + 1) = va_up (fdF F.2 F.1 a9 b9 c9 d9 e9 k) (F.1 + k) (octN e9 (24 - 8 * (k % 4))) := by
                show va_up (fdF F.2 F.1 a9 b9 c9 d9 e9 k) (F.1 + k) (octN (fdV a9 b9 c9 d9 e9 k) (24 - 8 * (k % 4))) = _
                rw [show fdV a9 b9 c9 d9 e9 k = e9 by unfold fdV; rw [if_neg (by omega), if_neg (by omega), if_neg (by omega), if_neg (by omega)]]
              exact J.to (by rw [← h2]; rfl) (ih (k + 1) _ (by omega) (by omega))
            · refine J_iload (pc := 82) C dX11_feed_82 rfl ?_
              refine J_goto (pc := 84) (tgt := 89) C dX11_feed_84 (by decide) ?_
              refine J_istore (pc := 89) C dX11_feed_89 (by decide) rfl ?_
              dsimp only [List.set]
              refine J_aload_n (pc := 91) C dX11_feed_91 rfl rfl ?_
              refine J_get (pc := 92) C dX11_feed_92 f_X11_13 rfl rfl ?_
              refine J_aload_n (pc := 95) C dX11_feed_95 rfl rfl ?_
              refine J_dup (pc := 96) C dX11_feed_96 rfl ?_
              refine J_get (pc := 97) C dX11_feed_97 f_X11_78 rfl rfl ?_
              try dsimp only
              refine J_dup_x1 (pc := 100) C dX11_feed_100 rfl rfl ?_
              refine J_iconst (pc := 101) (v := nI 1) C dX11_feed_101 (by decide) ?_
              refine J_iaddN (pc := 102) C dX11_feed_102 ?_
              refine J_putU (pc := 103) C dX11_feed_103 p_X11_78 rfl (jlt rfl) rfl rfl (uM_fed _) ?_
              try dsimp only
              refine J_iload (pc := 106) C dX11_feed_106 rfl ?_
              refine J_bipush (pc := 108) (v := nI 24) C dX11_feed_108 (by decide) ?_
              refine J_bipush (pc := 110) (v := nI 8) C dX11_feed_110 (by decide) ?_
              refine J_iload (pc := 112) C dX11_feed_112 rfl ?_
              refine J_iconst (pc := 114) (v := nI 3) C dX11_feed_114 (by decide) ?_
              refine J_iand (pc := 115) C dX11_feed_115 ?_
              refine J_imul (pc := 116) C dX11_feed_116 ?_
              refine J_isub (pc := 117) C dX11_feed_117 ?_
              refine J_iushr (pc := 118) C dX11_feed_118 rfl ?_
              refine J_sipush (pc := 119) (v := nI 255) C dX11_feed_119 (by decide) ?_
              refine J_iand (pc := 122) C dX11_feed_122 ?_
              rw [oct_eq _ (show k < 20 by omega)]
              refine J_iastN (pc := 123) C dX11_feed_123 rfl (by omega) (by decide) (uM_octets _) ?_
              refine J_iincN (pc := 124) C dX11_feed_124 rfl (by decide) rfl ?_
              dsimp only [List.set]
              refine J_goto (pc := 127) (tgt := 36) C dX11_feed_127 (by decide) ?_
              have h2 : fdF F.2 F.1 a9 b9 c9 d9 e9 (k + 1) = va_up (fdF F.2 F.1 a9 b9 c9 d9 e9 k) (F.1 + k) (octN d9 (24 - 8 * (k % 4))) := by
                show va_up (fdF F.2 F.1 a9 b9 c9 d9 e9 k) (F.1 + k) (octN (fdV a9 b9 c9 d9 e9 k) (24 - 8 * (k % 4))) = _
                rw [show fdV a9 b9 c9 d9 e9 k = d9 by unfold fdV; rw [if_neg (by omega), if_neg (by omega), if_neg (by omega), if_pos (by omega)]]
              exact J.to (by rw [← h2]; rfl) (ih (k + 1) _ (by omega) (by omega))
          · refine J_iload_n (pc := 71) C dX11_feed_71 rfl rfl ?_
            refine J_goto (pc := 72) (tgt := 89) C dX11_feed_72 (by decide) ?_
            refine J_istore (pc := 89) C dX11_feed_89 (by decide) rfl ?_
            dsimp only [List.set]
            refine J_aload_n (pc := 91) C dX11_feed_91 rfl rfl ?_
            refine J_get (pc := 92) C dX11_feed_92 f_X11_13 rfl rfl ?_
            refine J_aload_n (pc := 95) C dX11_feed_95 rfl rfl ?_
            refine J_dup (pc := 96) C dX11_feed_96 rfl ?_
            refine J_get (pc := 97) C dX11_feed_97 f_X11_78 rfl rfl ?_
            try dsimp only
            refine J_dup_x1 (pc := 100) C dX11_feed_100 rfl rfl ?_
            refine J_iconst (pc := 101) (v := nI 1) C dX11_feed_101 (by decide) ?_
            refine J_iaddN (pc := 102) C dX11_feed_102 ?_
            refine J_putU (pc := 103) C dX11_feed_103 p_X11_78 rfl (jlt rfl) rfl rfl (uM_fed _) ?_
            try dsimp only
            refine J_iload (pc := 106) C dX11_feed_106 rfl ?_
            refine J_bipush (pc := 108) (v := nI 24) C dX11_feed_108 (by decide) ?_
            refine J_bipush (pc := 110) (v := nI 8) C dX11_feed_110 (by decide) ?_
            refine J_iload (pc := 112) C dX11_feed_112 rfl ?_
            refine J_iconst (pc := 114) (v := nI 3) C dX11_feed_114 (by decide) ?_
            refine J_iand (pc := 115) C dX11_feed_115 ?_
            refine J_imul (pc := 116) C dX11_feed_116 ?_
            refine J_isub (pc := 117) C dX11_feed_117 ?_
            refine J_iushr (pc := 118) C dX11_feed_118 rfl ?_
            refine J_sipush (pc := 119) (v := nI 255) C dX11_feed_119 (by decide) ?_
            refine J_iand (pc := 122) C dX11_feed_122 ?_
            rw [oct_eq _ (show k < 20 by omega)]
            refine J_iastN (pc := 123) C dX11_feed_123 rfl (by omega) (by decide) (uM_octets _) ?_
            refine J_iincN (pc := 124) C dX11_feed_124 rfl (by decide) rfl ?_
            dsimp only [List.set]
            refine J_goto (pc := 127) (tgt := 36) C dX11_feed_127 (by decide) ?_
            have h2 : fdF F.2 F.1 a9 b9 c9 d9 e9 (k + 1) = va_up (fdF F.2 F.1 a9 b9 c9 d9 e9 k) (F.1 + k) (octN c9 (24 - 8 * (k % 4))) := by
              show va_up (fdF F.2 F.1 a9 b9 c9 d9 e9 k) (F.1 + k) (octN (fdV a9 b9 c9 d9 e9 k) (24 - 8 * (k % 4))) = _
              rw [show fdV a9 b9 c9 d9 e9 k = c9 by unfold fdV; rw [if_neg (by omega), if_neg (by omega), if_pos (by omega)]]
            exact J.to (by rw [← h2]; rfl) (ih (k + 1) _ (by omega) (by omega))
        · refine J_iload_n (pc := 60) C dX11_feed_60 rfl rfl ?_
          refine J_goto (pc := 61) (tgt := 89) C dX11_feed_61 (by decide) ?_
          refine J_istore (pc := 89) C dX11_feed_89 (by decide) rfl ?_
          dsimp only [List.set]
          refine J_aload_n (pc := 91) C dX11_feed_91 rfl rfl ?_
          refine J_get (pc := 92) C dX11_feed_92 f_X11_13 rfl rfl ?_
          refine J_aload_n (pc := 95) C dX11_feed_95 rfl rfl ?_
          refine J_dup (pc := 96) C dX11_feed_96 rfl ?_
          refine J_get (pc := 97) C dX11_feed_97 f_X11_78 rfl rfl ?_
          try dsimp only
          refine J_dup_x1 (pc := 100) C dX11_feed_100 rfl rfl ?_
          refine J_iconst (pc := 101) (v := nI 1) C dX11_feed_101 (by decide) ?_
          refine J_iaddN (pc := 102) C dX11_feed_102 ?_
          refine J_putU (pc := 103) C dX11_feed_103 p_X11_78 rfl (jlt rfl) rfl rfl (uM_fed _) ?_
          try dsimp only
          refine J_iload (pc := 106) C dX11_feed_106 rfl ?_
          refine J_bipush (pc := 108) (v := nI 24) C dX11_feed_108 (by decide) ?_
          refine J_bipush (pc := 110) (v := nI 8) C dX11_feed_110 (by decide) ?_
          refine J_iload (pc := 112) C dX11_feed_112 rfl ?_
          refine J_iconst (pc := 114) (v := nI 3) C dX11_feed_114 (by decide) ?_
          refine J_iand (pc := 115) C dX11_feed_115 ?_
          refine J_imul (pc := 116) C dX11_feed_116 ?_
          refine J_isub (pc := 117) C dX11_feed_117 ?_
          refine J_iushr (pc := 118) C dX11_feed_118 rfl ?_
          refine J_sipush (pc := 119) (v := nI 255) C dX11_feed_119 (by decide) ?_
          refine J_iand (pc := 122) C dX11_feed_122 ?_
          rw [oct_eq _ (show k < 20 by omega)]
          refine J_iastN (pc := 123) C dX11_feed_123 rfl (by omega) (by decide) (uM_octets _) ?_
          refine J_iincN (pc := 124) C dX11_feed_124 rfl (by decide) rfl ?_
          dsimp only [List.set]
          refine J_goto (pc := 127) (tgt := 36) C dX11_feed_127 (by decide) ?_
          have h2 : fdF F.2 F.1 a9 b9 c9 d9 e9 (k + 1) = va_up (fdF F.2 F.1 a9 b9 c9 d9 e9 k) (F.1 + k) (octN b9 (24 - 8 * (k % 4))) := by
            show va_up (fdF F.2 F.1 a9 b9 c9 d9 e9 k) (F.1 + k) (octN (fdV a9 b9 c9 d9 e9 k) (24 - 8 * (k % 4))) = _
            rw [show fdV a9 b9 c9 d9 e9 k = b9 by unfold fdV; rw [if_neg (by omega), if_pos (by omega)]]
          exact J.to (by rw [← h2]; rfl) (ih (k + 1) _ (by omega) (by omega))
      · refine J_iload_n (pc := 49) C dX11_feed_49 rfl rfl ?_
        refine J_goto (pc := 50) (tgt := 89) C dX11_feed_50 (by decide) ?_
        refine J_istore (pc := 89) C dX11_feed_89 (by decide) rfl ?_
        dsimp only [List.set]
        refine J_aload_n (pc := 91) C dX11_feed_91 rfl rfl ?_
        refine J_get (pc := 92) C dX11_feed_92 f_X11_13 rfl rfl ?_
        refine J_aload_n (pc := 95) C dX11_feed_95 rfl rfl ?_
        refine J_dup (pc := 96) C dX11_feed_96 rfl ?_
        refine J_get (pc := 97) C dX11_feed_97 f_X11_78 rfl rfl ?_
        try dsimp only
        refine J_dup_x1 (pc := 100) C dX11_feed_100 rfl rfl ?_
        refine J_iconst (pc := 101) (v := nI 1) C dX11_feed_101 (by decide) ?_
        refine J_iaddN (pc := 102) C dX11_feed_102 ?_
        refine J_putU (pc := 103) C dX11_feed_103 p_X11_78 rfl (jlt rfl) rfl rfl (uM_fed _) ?_
        try dsimp only
        refine J_iload (pc := 106) C dX11_feed_106 rfl ?_
        refine J_bipush (pc := 108) (v := nI 24) C dX11_feed_108 (by decide) ?_
        refine J_bipush (pc := 110) (v := nI 8) C dX11_feed_110 (by decide) ?_
        refine J_iload (pc := 112) C dX11_feed_112 rfl ?_
        refine J_iconst (pc := 114) (v := nI 3) C dX11_feed_114 (by decide) ?_
        refine J_iand (pc := 115) C dX11_feed_115 ?_
        refine J_imul (pc := 116) C dX11_feed_116 ?_
        refine J_isub (pc := 117) C dX11_feed_117 ?_
        refine J_iushr (pc := 118) C dX11_feed_118 rfl ?_
        refine J_sipush (pc := 119) (v := nI 255) C dX11_feed_119 (by decide) ?_
        refine J_iand (pc := 122) C dX11_feed_122 ?_
        rw [oct_eq _ (show k < 20 by omega)]
        refine J_iastN (pc := 123) C dX11_feed_123 rfl (by omega) (by decide) (uM_octets _) ?_
        refine J_iincN (pc := 124) C dX11_feed_124 rfl (by decide) rfl ?_
        dsimp only [List.set]
        refine J_goto (pc := 127) (tgt := 36) C dX11_feed_127 (by decide) ?_
        have h2 : fdF F.2 F.1 a9 b9 c9 d9 e9 (k + 1) = va_up (fdF F.2 F.1 a9 b9 c9 d9 e9 k) (F.1 + k) (octN a9 (24 - 8 * (k % 4))) := by
          show va_up (fdF F.2 F.1 a9 b9 c9 d9 e9 k) (F.1 + k) (octN (fdV a9 b9 c9 d9 e9 k) (24 - 8 * (k % 4))) = _
          rw [show fdV a9 b9 c9 d9 e9 k = a9 by unfold fdV; rw [if_pos (by omega)]]
        exact J.to (by rw [← h2]; rfl) (ih (k + 1) _ (by omega) (by omega))
set_option maxHeartbeats 4000000 in
set_option maxRecDepth 100000 in
theorem c_feed (l : Launch) (G : jG) (er : Nat) (F X : Nat × (Nat → Nat)) (K : Nat × Nat × Nat) (wr : Int32) (D : mD) (P : mP) (gv : Nat → Int64) (O : Nat × (Nat → Nat)) (T : jMem) (a9 b9 c9 d9 e9 : Int32) (hf : F.1 + 20 ≤ 4000) : jC l G yX11_feed cX11_feed 8 (some .int) 2 34 0 0 [.ref 1000, .int a9, .int b9, .int c9, .int d9, .int e9] (encM er F X K wr D P gv O T) (.inl (some (.int (nI (F.1 + 20))), encM 0 (F.1 + 20, fdF F.2 F.1 a9 b9 c9 d9 e9 20) X K wr D P gv O T)) := by
  refine jC.of (by decide) 2 rfl [some (.ref 1000), some (.int a9), some (.int b9), some (.int c9), some (.int d9), some (.int e9), none, none] rfl (fun p e s m args below meth c C hT9 hNm9 => ?_)
  refine J_aload_n (pc := 0) C dX11_feed_0 rfl rfl ?_
  refine J_iconst (pc := 1) (v := nI 0) C dX11_feed_1 (by decide) ?_
  refine J_putU (pc := 2) C dX11_feed_2 p_X11_75 rfl (jlt rfl) rfl rfl (uM_err _) ?_
  try dsimp only
  refine J_aload_n (pc := 5) C dX11_feed_5 rfl rfl ?_
  refine J_aload_n (pc := 6) C dX11_feed_6 rfl rfl ?_
  refine J_get (pc := 7) C dX11_feed_7 f_X11_78 rfl rfl ?_
  try dsimp only
  refine J_bipush (pc := 10) (v := nI 20) C dX11_feed_10 (by decide) ?_
  refine J_iaddN (pc := 12) C dX11_feed_12 ?_
  refine J_sipush (pc := 13) (v := nI 4000) C dX11_feed_13 (by decide) ?_
  refine J_icmp_leN (pc := 16) (tgt := 23) C dX11_feed_16 (by decide) (by omega) (by omega) (fun h16 => ?_) (fun h16 => ?_)
  · refine J_iconst (pc := 23) (v := nI 0) C dX11_feed_23 (by decide) ?_
    refine J_iconst (pc := 24) (v := nI 1) C dX11_feed_24 (by decide) ?_
    refine J_callV1 (pc := 25) C dX11_feed_25 m_X11_81 (c_fails_f l G _ _ _ _ _ _ _ _ _ _) ⟨jle rfl, jle rfl⟩ rfl rfl rfl rfl rfl (jle rfl) ⟨Nat.zero_le _, Nat.zero_le _⟩ ?_
    try dsimp only
    refine J_if_eqN (pc := 28) (tgt := 33) C dX11_feed_28 (by decide) (by omega) (fun _ => ?_) (fun h28 => absurd h28 (by decide))
    refine J_iconst (pc := 33) (v := nI 0) C dX11_feed_33 (by decide) ?_
    refine J_istore (pc := 34) C dX11_feed_34 (by decide) rfl ?_
    dsimp only [List.set]
    exact l_feed l G er F X K wr D P gv O T a9 b9 c9 d9 e9 0 _ C hf (Nat.zero_le _)
  · omega
set_option maxHeartbeats 4000000 in
set_option maxRecDepth 100000 in
theorem c_wrong (l : Launch) (G : jG) (er : Nat) (F X : Nat × (Nat → Nat)) (K : Nat × Nat × Nat) (wr : Int32) (D : mD) (P : mP) (gv : Nat → Int64) (O : Nat × (Nat → Nat)) (T : jMem)  : jC l G yX11_wrong cX11_wrong 1 (some .int) 1 12 0 0 [.ref 1000] (encM er F X K wr D P gv O T) (.inl (some (.int wr), encM 0 F X K wr D P gv O T)) := by
  refine jC.of (by decide) 0 rfl [some (.ref 1000)] rfl (fun p e s m args below meth c C hT9 hNm9 => ?_)
  refine J_aload_n (pc := 0) C dX11_wrong_0 rfl rfl ?_
  refine J_iconst (pc := 1) (v := nI 0) C dX11_wrong_1 (by decide) ?_
  refine J_putU (pc := 2) C dX11_wrong_2 p_X11_75 rfl (jlt rfl) rfl rfl (uM_err _) ?_
  try dsimp only
  refine J_aload_n (pc := 5) C dX11_wrong_5 rfl rfl ?_
  refine J_get (pc := 6) C dX11_wrong_6 f_X11_7 rfl rfl ?_
  try dsimp only
  exact J_iret (pc := 9) C dX11_wrong_9 rfl (rfl) (Nat.zero_le _) (Nat.zero_le _)
set_option maxHeartbeats 4000000 in
set_option maxRecDepth 100000 in
theorem c_word (l : Launch) (G : jG) (er : Nat) (F X : Nat × (Nat → Nat)) (K : Nat × Nat × Nat) (wr : Int32) (D : mD) (P : mP) (gv : Nat → Int64) (O : Nat × (Nat → Nat)) (T : jMem) (k : Nat) (hk : k < P.1) (hp : P.1 ≤ 1000) : jC l G yX11_word cX11_word 2 (some .int) 2 37 0 0 [.ref 1000, .int (nI k)] (encM er F X K wr D P gv O T) (.inl (some (.int (P.2.2.2.2.2.1 k)), encM 0 F X K wr D P gv O T)) := by
  refine jC.of (by decide) 0 rfl [some (.ref 1000), some (.int (nI k))] rfl (fun p e s m args below meth c C hT9 hNm9 => ?_)
  refine J_aload_n (pc := 0) C dX11_word_0 rfl rfl ?_
  refine J_iconst (pc := 1) (v := nI 0) C dX11_word_1 (by decide) ?_
  refine J_putU (pc := 2) C dX11_word_2 p_X11_75 rfl (jlt rfl) rfl rfl (uM_err _) ?_
  try dsimp only
  refine J_aload_n (pc := 5) C dX11_word_5 rfl rfl ?_
  refine J_iload_n (pc := 6) C dX11_word_6 rfl rfl ?_
  refine J_i2l (pc := 7) C dX11_word_7 rfl ?_
  refine J_lconst (pc := 8) (v := 0) C dX11_word_8 (by decide) ?_
  refine J_aload_n (pc := 9) C dX11_word_9 rfl rfl ?_
  refine J_get (pc := 10) C dX11_word_10 f_X11_181 rfl rfl ?_
  try dsimp only
  refine J_iconst (pc := 13) (v := nI 1) C dX11_word_13 (by decide) ?_
  refine J_isub (pc := 14) C dX11_word_14 ?_
  refine J_i2l (pc := 15) C dX11_word_15 rfl ?_
  refine J_callS1 (pc := 16) C dX11_word_16 m_X11_89 (c_in l G _ _ _ _) ⟨jle rfl, jle rfl⟩ rfl rfl (jle rfl) ⟨Nat.zero_le _, Nat.zero_le _⟩ ?_
  try dsimp only
  rw [inX_t (by omega) rfl hk]
  refine J_if_ne (pc := 19) (tgt := 26) C dX11_word_19 (by decide) (fun h19 => ?_) (fun h19 => ?_)
  · refine J_iconst (pc := 26) (v := nI 0) C dX11_word_26 (by decide) ?_
    refine J_iconst (pc := 27) (v := nI 1) C dX11_word_27 (by decide) ?_
    refine J_callV1 (pc := 28) C dX11_word_28 m_X11_81 (c_fails_f l G _ _ _ _ _ _ _ _ _ _) ⟨jle rfl, jle rfl⟩ rfl rfl rfl rfl rfl (jle rfl) ⟨Nat.zero_le _, Nat.zero_le _⟩ ?_
    try dsimp only
    refine J_if_eqN (pc := 31) (tgt := 38) C dX11_word_31 (by decide) (by omega) (fun _ => ?_) (fun h31 => absurd h31 (by decide))
    refine J_aload_n (pc := 38) C dX11_word_38 rfl rfl ?_
    refine J_get (pc := 39) C dX11_word_39 f_X11_56 rfl rfl ?_
    refine J_iload_n (pc := 42) C dX11_word_42 rfl rfl ?_
    refine J_ialdR (pc := 43) C dX11_word_43 rfl (by omega) (by decide) ?_
    try dsimp only
    exact J_iret (pc := 44) C dX11_word_44 rfl (rfl) (Nat.zero_le _) (Nat.zero_le _)
  · exact absurd h19 (by decide)
set_option maxHeartbeats 4000000 in
set_option maxRecDepth 100000 in
theorem c_word_x (l : Launch) (G : jG) (er : Nat) (F X : Nat × (Nat → Nat)) (K : Nat × Nat × Nat) (wr : Int32) (D : mD) (P : mP) (gv : Nat → Int64) (O : Nat × (Nat → Nat)) (T : jMem) (v : Int32) (hv : v < 0 ∨ nI P.1 ≤ v) (hp : P.1 ≤ 1000) : jC l G yX11_word cX11_word 2 (some .int) 2 37 0 0 [.ref 1000, .int v] (encM er F X K wr D P gv O T) (.inl (some (.int (nI 0)), encM 1 F X K wr D P gv O T)) := by
  refine jC.of (by decide) 0 rfl [some (.ref 1000), some (.int v)] rfl (fun p e s m args below meth c C hT9 hNm9 => ?_)
  refine J_aload_n (pc := 0) C dX11_word_0 rfl rfl ?_
  refine J_iconst (pc := 1) (v := nI 0) C dX11_word_1 (by decide) ?_
  refine J_putU (pc := 2) C dX11_word_2 p_X11_75 rfl (jlt rfl) rfl rfl (uM_err _) ?_
  try dsimp only
  refine J_aload_n (pc := 5) C dX11_word_5 rfl rfl ?_
  refine J_iload_n (pc := 6) C dX11_word_6 rfl rfl ?_
  refine J_i2l (pc := 7) C dX11_word_7 rfl ?_
  refine J_lconst (pc := 8) (v := 0) C dX11_word_8 (by decide) ?_
  refine J_aload_n (pc := 9) C dX11_word_9 rfl rfl ?_
  refine J_get (pc := 10) C dX11_word_10 f_X11_181 rfl rfl ?_
  try dsimp only
  refine J_iconst (pc := 13) (v := nI 1) C dX11_word_13 (by decide) ?_
  refine J_isub (pc := 14) C dX11_word_14 ?_
  refine J_i2l (pc := 15) C dX11_word_15 rfl ?_
  refine J_callS1 (pc := 16) C dX11_word_16 m_X11_89 (c_in l G _ _ _ _) ⟨jle rfl, jle rfl⟩ rfl rfl (jle rfl) ⟨Nat.zero_le _, Nat.zero_le _⟩ ?_
  try dsimp only
  rw [inX_f (by omega) hv]
  refine J_if_ne (pc := 19) (tgt := 26) C dX11_word_19 (by decide) (fun h19 => ?_) (fun h19 => ?_)
  · exact absurd rfl h19
  · refine J_iconst (pc := 22) (v := nI 1) C dX11_word_22 (by decide) ?_
    refine J_goto (pc := 23) (tgt := 27) C dX11_word_23 (by decide) ?_
    refine J_iconst (pc := 27) (v := nI 1) C dX11_word_27 (by decide) ?_
    refine J_callV1 (pc := 28) C dX11_word_28 m_X11_81 (c_fails_t l G _ _ _ _ _ _ _ _ _ _ (by omega) (by decide)) ⟨jle rfl, jle rfl⟩ rfl rfl rfl rfl rfl (jle rfl) ⟨Nat.zero_le _, Nat.zero_le _⟩ ?_
    try dsimp only
    refine J_if_eqN (pc := 31) (tgt := 38) C dX11_word_31 (by decide) (by omega) (fun h31 => absurd h31 (by decide)) (fun _ => ?_)
    refine J_iconst (pc := 34) (v := nI 0) C dX11_word_34 (by decide) ?_
    refine J_goto (pc := 35) (tgt := 44) C dX11_word_35 (by decide) ?_
    exact J_iret (pc := 44) C dX11_word_44 rfl (rfl) (Nat.zero_le _) (Nat.zero_le _)
set_option maxHeartbeats 4000000 in
set_option maxRecDepth 100000 in
theorem c_opI_x (l : Launch) (G : jG) (er : Nat) (F X : Nat × (Nat → Nat)) (K : Nat × Nat × Nat) (wr : Int32) (D : mD) (P : mP) (gv : Nat → Int64) (O : Nat × (Nat → Nat)) (T : jMem) (w : Int32) (hds : D.2.2.2.1 = 0) : jC l G yX11_op_ cX11_op_ 2 (some .int) 2 36 0 0 [.ref 1000, .int w] (encM er F X K wr D P gv O T) (.inl (some (.int (nI 0)), encM 1 F X K wr D P gv O T)) := by
  refine jC.of (by decide) 0 rfl [some (.ref 1000), some (.int w)] rfl (fun p e s m args below meth c C hT9 hNm9 => ?_)
  refine J_aload_n (pc := 0) C dX11_op__0 rfl rfl ?_
  refine J_iconst (pc := 1) (v := nI 0) C dX11_op__1 (by decide) ?_
  refine J_putU (pc := 2) C dX11_op__2 p_X11_75 rfl (jlt rfl) rfl rfl (uM_err _) ?_
  try dsimp only
  refine J_aload_n (pc := 5) C dX11_op__5 rfl rfl ?_
  refine J_aload_n (pc := 6) C dX11_op__6 rfl rfl ?_
  refine J_get (pc := 7) C dX11_op__7 f_X11_177 rfl rfl ?_
  try dsimp only
  refine J_if_neN (pc := 10) (tgt := 17) C dX11_op__10 (by decide) (by omega) (fun h10 => ?_) (fun h10 => ?_)
  · omega
  · refine J_iconst (pc := 13) (v := nI 1) C dX11_op__13 (by decide) ?_
    refine J_goto (pc := 14) (tgt := 18) C dX11_op__14 (by decide) ?_
    refine J_iconst (pc := 18) (v := nI 1) C dX11_op__18 (by decide) ?_
    refine J_callV1 (pc := 19) C dX11_op__19 m_X11_81 (c_fails_t l G _ _ _ _ _ _ _ _ _ _ (by omega) (by decide)) ⟨jle rfl, jle rfl⟩ rfl rfl rfl rfl rfl (jle rfl) ⟨Nat.zero_le _, Nat.zero_le _⟩ ?_
    try dsimp only
    refine J_if_eqN (pc := 22) (tgt := 29) C dX11_op__22 (by decide) (by omega) (fun h22 => absurd h22 (by decide)) (fun _ => ?_)
    refine J_iconst (pc := 25) (v := nI 0) C dX11_op__25 (by decide) ?_
    refine J_goto (pc := 26) (tgt := 34) C dX11_op__26 (by decide) ?_
    exact J_iret (pc := 34) C dX11_op__34 rfl (rfl) (Nat.zero_le _) (Nat.zero_le _)
set_option maxHeartbeats 4000000 in
set_option maxRecDepth 100000 in
theorem c_opI (l : Launch) (G : jG) (er : Nat) (F X : Nat × (Nat → Nat)) (K : Nat × Nat × Nat) (wr : Int32) (D : mD) (P : mP) (gv : Nat → Int64) (O : Nat × (Nat → Nat)) (T : jMem) (w : Int32) (hds : D.2.2.2.1 = 1) (hw9 : D.1 ≤ 32) (h60 : D.2.2.1 ≤ 60) : jC l G yX11_op_ cX11_op_ 2 (some .int) 2 36 0 0 [.ref 1000, .int w] (encM er F X K wr D P gv O T) (.inl (some (.int (lI (opOfF D w))), encM 0 F X K wr D P gv O T)) := by
  refine jC.of (by decide) 0 rfl [some (.ref 1000), some (.int w)] rfl (fun p e s m args below meth c C hT9 hNm9 => ?_)
  refine J_aload_n (pc := 0) C dX11_op__0 rfl rfl ?_
  refine J_iconst (pc := 1) (v := nI 0) C dX11_op__1 (by decide) ?_
  refine J_putU (pc := 2) C dX11_op__2 p_X11_75 rfl (jlt rfl) rfl rfl (uM_err _) ?_
  try dsimp only
  refine J_aload_n (pc := 5) C dX11_op__5 rfl rfl ?_
  refine J_aload_n (pc := 6) C dX11_op__6 rfl rfl ?_
  refine J_get (pc := 7) C dX11_op__7 f_X11_177 rfl rfl ?_
  try dsimp only
  refine J_if_neN (pc := 10) (tgt := 17) C dX11_op__10 (by decide) (by omega) (fun h10 => ?_) (fun h10 => ?_)
  · refine J_iconst (pc := 17) (v := nI 0) C dX11_op__17 (by decide) ?_
    refine J_iconst (pc := 18) (v := nI 1) C dX11_op__18 (by decide) ?_
    refine J_callV1 (pc := 19) C dX11_op__19 m_X11_81 (c_fails_f l G _ _ _ _ _ _ _ _ _ _) ⟨jle rfl, jle rfl⟩ rfl rfl rfl rfl rfl (jle rfl) ⟨Nat.zero_le _, Nat.zero_le _⟩ ?_
    try dsimp only
    refine J_if_eqN (pc := 22) (tgt := 29) C dX11_op__22 (by decide) (by omega) (fun _ => ?_) (fun h22 => absurd h22 (by decide))
    refine J_aload_n (pc := 29) C dX11_op__29 rfl rfl ?_
    refine J_iload_n (pc := 30) C dX11_op__30 rfl rfl ?_
    refine J_callV1 (pc := 31) C dX11_op__31 m_X11_260 (c_opOf l G _ _ _ _ _ _ _ _ _ _ _ hw9 h60) ⟨jle rfl, jle rfl⟩ rfl rfl rfl rfl rfl (jle rfl) ⟨Nat.zero_le _, Nat.zero_le _⟩ ?_
    try dsimp only
    exact J_iret (pc := 34) C dX11_op__34 rfl (rfl) (Nat.zero_le _) (Nat.zero_le _)
  · omega
set_option maxHeartbeats 4000000 in
set_option maxRecDepth 100000 in
theorem c_opdI_x (l : Launch) (G : jG) (er : Nat) (F X : Nat × (Nat → Nat)) (K : Nat × Nat × Nat) (wr : Int32) (D : mD) (P : mP) (gv : Nat → Int64) (O : Nat × (Nat → Nat)) (T : jMem) (w kx : Int32) (hds : D.2.2.2.1 = 0) : jC l G yX11_operand_ cX11_operand_ 4 (some .long) 2 39 0 0 [.ref 1000, .int w, .int kx] (encM er F X K wr D P gv O T) (.inl (some (.long 0), encM 1 F X K wr D P gv O T)) := by
  refine jC.of (by decide) 1 rfl [some (.ref 1000), some (.int w), some (.int kx), none] rfl (fun p e s m args below meth c C hT9 hNm9 => ?_)
  refine J_aload_n (pc := 0) C dX11_operand__0 rfl rfl ?_
  refine J_iconst (pc := 1) (v := nI 0) C dX11_operand__1 (by decide) ?_
  refine J_putU (pc := 2) C dX11_operand__2 p_X11_75 rfl (jlt rfl) rfl rfl (uM_err _) ?_
  try dsimp only
  refine J_aload_n (pc := 5) C dX11_operand__5 rfl rfl ?_
  refine J_aload_n (pc := 6) C dX11_operand__6 rfl rfl ?_
  refine J_get (pc := 7) C dX11_operand__7 f_X11_177 rfl rfl ?_
  try dsimp only
  refine J_if_neN (pc := 10) (tgt := 17) C dX11_operand__10 (by decide) (by omega) (fun h10 => ?_) (fun h10 => ?_)
  · omega
  · refine J_iconst (pc := 13) (v := nI 1) C dX11_operand__13 (by decide) ?_
    refine J_goto (pc := 14) (tgt := 18) C dX11_operand__14 (by decide) ?_
    refine J_iconst (pc := 18) (v := nI 1) C dX11_operand__18 (by decide) ?_
    refine J_callV1 (pc := 19) C dX11_operand__19 m_X11_81 (c_fails_t l G _ _ _ _ _ _ _ _ _ _ (by omega) (by decide)) ⟨jle rfl, jle rfl⟩ rfl rfl rfl rfl rfl (jle rfl) ⟨Nat.zero_le _, Nat.zero_le _⟩ ?_
    try dsimp only
    refine J_if_eqN (pc := 22) (tgt := 27) C dX11_operand__22 (by decide) (by omega) (fun h22 => absurd h22 (by decide)) (fun _ => ?_)
    refine J_lconst (pc := 25) (v := 0) C dX11_operand__25 (by decide) ?_
    exact J_lret (pc := 26) C dX11_operand__26 rfl (rfl) (Nat.zero_le _) (Nat.zero_le _)
set_option maxHeartbeats 4000000 in
set_option maxRecDepth 100000 in
theorem c_opdI_0 (l : Launch) (G : jG) (er : Nat) (F X : Nat × (Nat → Nat)) (K : Nat × Nat × Nat) (wr : Int32) (D : mD) (P : mP) (gv : Nat → Int64) (O : Nat × (Nat → Nat)) (T : jMem) (w kx : Int32) (hds : D.2.2.2.1 = 1) (hw9 : D.1 ≤ 32) (h60 : D.2.2.1 ≤ 60) (ho : opOfF D w = 1000) : jC l G yX11_operand_ cX11_operand_ 4 (some .long) 2 39 0 0 [.ref 1000, .int w, .int kx] (encM er F X K wr D P gv O T) (.inl (some (.long 0), encM 2 F X K wr D P gv O T)) := by
  refine jC.of (by decide) 1 rfl [some (.ref 1000), some (.int w), some (.int kx), none] rfl (fun p e s m args below meth c C hT9 hNm9 => ?_)
  refine J_aload_n (pc := 0) C dX11_operand__0 rfl rfl ?_
  refine J_iconst (pc := 1) (v := nI 0) C dX11_operand__1 (by decide) ?_
  refine J_putU (pc := 2) C dX11_operand__2 p_X11_75 rfl (jlt rfl) rfl rfl (uM_err _) ?_
  try dsimp only
  refine J_aload_n (pc := 5) C dX11_operand__5 rfl rfl ?_
  refine J_aload_n (pc := 6) C dX11_operand__6 rfl rfl ?_
  refine J_get (pc := 7) C dX11_operand__7 f_X11_177 rfl rfl ?_
  try dsimp only
  refine J_if_neN (pc := 10) (tgt := 17) C dX11_operand__10 (by decide) (by omega) (fun h10 => ?_) (fun h10 => ?_)
  · refine J_iconst (pc := 17) (v := nI 0) C dX11_operand__17 (by decide) ?_
    refine J_iconst (pc := 18) (v := nI 1) C dX11_operand__18 (by decide) ?_
    refine J_callV1 (pc := 19) C dX11_operand__19 m_X11_81 (c_fails_f l G _ _ _ _ _ _ _ _ _ _) ⟨jle rfl, jle rfl⟩ rfl rfl rfl rfl rfl (jle rfl) ⟨Nat.zero_le _, Nat.zero_le _⟩ ?_
    try dsimp only
    refine J_if_eqN (pc := 22) (tgt := 27) C dX11_operand__22 (by decide) (by omega) (fun _ => ?_) (fun h22 => absurd h22 (by decide))
    refine J_aload_n (pc := 27) C dX11_operand__27 rfl rfl ?_
    refine J_iload_n (pc := 28) C dX11_operand__28 rfl rfl ?_
    refine J_callV1 (pc := 29) C dX11_operand__29 m_X11_260 (c_opOf l G _ _ _ _ _ _ _ _ _ _ _ hw9 h60) ⟨jle rfl, jle rfl⟩ rfl rfl rfl rfl rfl (jle rfl) ⟨Nat.zero_le _, Nat.zero_le _⟩ ?_
    try dsimp only
    rw [ho]
    refine J_istore_n (pc := 32) C dX11_operand__32 rfl (by decide) rfl ?_
    dsimp only [List.set]
    refine J_aload_n (pc := 33) C dX11_operand__33 rfl rfl ?_
    refine J_iload_n (pc := 34) C dX11_operand__34 rfl rfl ?_
    refine J_if_lt (pc := 35) (tgt := 64) C dX11_operand__35 (by decide) (fun h35 => ?_) (fun h35 => ?_)
    · refine J_iconst (pc := 64) (v := nI 1) C dX11_operand__64 (by decide) ?_
      refine J_goto (pc := 65) (tgt := 69) C dX11_operand__65 (by decide) ?_
      refine J_iconst (pc := 69) (v := nI 2) C dX11_operand__69 (by decide) ?_
      refine J_callV1 (pc := 70) C dX11_operand__70 m_X11_81 (c_fails_t l G _ _ _ _ _ _ _ _ _ _ (by omega) (by decide)) ⟨jle rfl, jle rfl⟩ rfl rfl rfl rfl rfl (jle rfl) ⟨Nat.zero_le _, Nat.zero_le _⟩ ?_
      try dsimp only
      refine J_if_eqN (pc := 73) (tgt := 80) C dX11_operand__73 (by decide) (by omega) (fun h73 => absurd h73 (by decide)) (fun _ => ?_)
      refine J_lconst (pc := 76) (v := 0) C dX11_operand__76 (by decide) ?_
      refine J_goto (pc := 77) (tgt := 87) C dX11_operand__77 (by decide) ?_
      exact J_lret (pc := 87) C dX11_operand__87 rfl (rfl) (Nat.zero_le _) (Nat.zero_le _)
    · exact absurd (by decide) h35
  · omega
set_option maxHeartbeats 4000000 in
set_option maxRecDepth 100000 in
theorem c_opdI_1 (l : Launch) (G : jG) (er : Nat) (F X : Nat × (Nat → Nat)) (K : Nat × Nat × Nat) (wr : Int32) (D : mD) (P : mP) (gv : Nat → Int64) (O : Nat × (Nat → Nat)) (T : jMem) (w kx : Int32) (o : Nat) (hds : D.2.2.2.1 = 1) (hw9 : D.1 ≤ 32) (h60 : D.2.2.1 ≤ 60) (ho9 : opOfF D w = o) (ho : o ≠ 1000) (hol : o < 60) (h6 : D.2.2.2.2.2.2.2.2.1 o ≤ 6) (hk : kx < 0 ∨ nI (D.2.2.2.2.2.2.2.2.1 o) ≤ kx) : jC l G yX11_operand_ cX11_operand_ 4 (some .long) 2 39 0 0 [.ref 1000, .int w, .int kx] (encM er F X K wr D P gv O T) (.inl (some (.long 0), encM 2 F X K wr D P gv O T)) := by
  refine jC.of (by decide) 1 rfl [some (.ref 1000), some (.int w), some (.int kx), none] rfl (fun p e s m args below meth c C hT9 hNm9 => ?_)
  refine J_aload_n (pc := 0) C dX11_operand__0 rfl rfl ?_
  refine J_iconst (pc := 1) (v := nI 0) C dX11_operand__1 (by decide) ?_
  refine J_putU (pc := 2) C dX11_operand__2 p_X11_75 rfl (jlt rfl) rfl rfl (uM_err _) ?_
  try dsimp only
  refine J_aload_n (pc := 5) C dX11_operand__5 rfl rfl ?_
  refine J_aload_n (pc := 6) C dX11_operand__6 rfl rfl ?_
  refine J_get (pc := 7) C dX11_operand__7 f_X11_177 rfl rfl ?_
  try dsimp only
  refine J_if_neN (pc := 10) (tgt := 17) C dX11_operand__10 (by decide) (by omega) (fun h10 => ?_) (fun h10 => ?_)
  · refine J_iconst (pc := 17) (v := nI 0) C dX11_operand__17 (by decide) ?_
    refine J_iconst (pc := 18) (v := nI 1) C dX11_operand__18 (by decide) ?_
    refine J_callV1 (pc := 19) C dX11_operand__19 m_X11_81 (c_fails_f l G _ _ _ _ _ _ _ _ _ _) ⟨jle rfl, jle rfl⟩ rfl rfl rfl rfl rfl (jle rfl) ⟨Nat.zero_le _, Nat.zero_le _⟩ ?_
    try dsimp only
    refine J_if_eqN (pc := 22) (tgt := 27) C dX11_operand__22 (by decide) (by omega) (fun _ => ?_) (fun h22 => absurd h22 (by decide))
    refine J_aload_n (pc := 27) C dX11_operand__27 rfl rfl ?_
    refine J_iload_n (pc := 28) C dX11_operand__28 rfl rfl ?_
    refine J_callV1 (pc := 29) C dX11_operand__29 m_X11_260 (c_opOf l G _ _ _ _ _ _ _ _ _ _ _ hw9 h60) ⟨jle rfl, jle rfl⟩ rfl rfl rfl rfl rfl (jle rfl) ⟨Nat.zero_le _, Nat.zero_le _⟩ ?_
    try dsimp only
    rw [ho9]
    refine J_istore_n (pc := 32) C dX11_operand__32 rfl (by decide) rfl ?_
    dsimp only [List.set]
    refine J_aload_n (pc := 33) C dX11_operand__33 rfl rfl ?_
    refine J_iload_n (pc := 34) C dX11_operand__34 rfl rfl ?_
    refine J_if_lt (pc := 35) (tgt := 64) C dX11_operand__35 (by decide) (fun h35 => ?_) (fun h35 => ?_)
    · exact absurd ((lI_neg (by omega)).mp h35) ho
    · rw [lI_n ho]
      refine J_iload_n (pc := 38) C dX11_operand__38 rfl rfl ?_
      refine J_i2l (pc := 39) C dX11_operand__39 rfl ?_
      refine J_lconst (pc := 40) (v := 0) C dX11_operand__40 (by decide) ?_
      refine J_aload_n (pc := 41) C dX11_operand__41 rfl rfl ?_
      refine J_get (pc := 42) C dX11_operand__42 f_X11_41 rfl rfl ?_
      refine J_iload_n (pc := 45) C dX11_operand__45 rfl rfl ?_
      refine J_if_geN (pc := 46) (tgt := 53) C dX11_operand__46 (by decide) (by omega) ?_
      refine J_iload_n (pc := 53) C dX11_operand__53 rfl rfl ?_
      refine J_ialdN (pc := 54) C dX11_operand__54 rfl (by omega) (by decide) ?_
      try dsimp only
      refine J_iconst (pc := 55) (v := nI 1) C dX11_operand__55 (by decide) ?_
      refine J_isub (pc := 56) C dX11_operand__56 ?_
      refine J_i2l (pc := 57) C dX11_operand__57 rfl ?_
      refine J_callS1 (pc := 58) C dX11_operand__58 m_X11_89 (c_in l G _ _ _ _) ⟨jle rfl, jle rfl⟩ rfl rfl (jle rfl) ⟨Nat.zero_le _, Nat.zero_le _⟩ ?_
      try dsimp only
      rw [inX_f (by omega) hk]
      refine J_if_ne (pc := 61) (tgt := 68) C dX11_operand__61 (by decide) (fun h61 => ?_) (fun h61 => ?_)
      · exact absurd rfl h61
      · refine J_iconst (pc := 64) (v := nI 1) C dX11_operand__64 (by decide) ?_
        refine J_goto (pc := 65) (tgt := 69) C dX11_operand__65 (by decide) ?_
        refine J_iconst (pc := 69) (v := nI 2) C dX11_operand__69 (by decide) ?_
        refine J_callV1 (pc := 70) C dX11_operand__70 m_X11_81 (c_fails_t l G _ _ _ _ _ _ _ _ _ _ (by omega) (by decide)) ⟨jle rfl, jle rfl⟩ rfl rfl rfl rfl rfl (jle rfl) ⟨Nat.zero_le _, Nat.zero_le _⟩ ?_
        try dsimp only
        refine J_if_eqN (pc := 73) (tgt := 80) C dX11_operand__73 (by decide) (by omega) (fun h73 => absurd h73 (by decide)) (fun _ => ?_)
        refine J_lconst (pc := 76) (v := 0) C dX11_operand__76 (by decide) ?_
        refine J_goto (pc := 77) (tgt := 87) C dX11_operand__77 (by decide) ?_
        exact J_lret (pc := 87) C dX11_operand__87 rfl (rfl) (Nat.zero_le _) (Nat.zero_le _)
  · omega
set_option maxHeartbeats 4000000 in
set_option maxRecDepth 100000 in
theorem c_opdI (l : Launch) (G : jG) (er : Nat) (F X : Nat × (Nat → Nat)) (K : Nat × Nat × Nat) (wr : Int32) (D : mD) (P : mP) (gv : Nat → Int64) (O : Nat × (Nat → Nat)) (T : jMem) (w : Int32) (o k : Nat) (hds : D.2.2.2.1 = 1) (hw9 : D.1 ≤ 32) (h60 : D.2.2.1 ≤ 60) (ho9 : opOfF D w = o) (ho : o ≠ 1000) (hol : o < 60) (hoA : oA D o) (hk : k < D.2.2.2.2.2.2.2.2.1 o) : jC l G yX11_operand_ cX11_operand_ 4 (some .long) 2 39 0 0 [.ref 1000, .int w, .int (nI k)] (encM er F X K wr D P gv O T) (.inl (some (.long (takenF D o w k)), encM 0 F X K wr D P gv O T)) := by
  refine jC.of (by decide) 1 rfl [some (.ref 1000), some (.int w), some (.int (nI k)), none] rfl (fun p e s m args below meth c C hT9 hNm9 => ?_)
  have h6 : D.2.2.2.2.2.2.2.2.1 o ≤ 6 := hoA.1
  refine J_aload_n (pc := 0) C dX11_operand__0 rfl rfl ?_
  refine J_iconst (pc := 1) (v := nI 0) C dX11_operand__1 (by decide) ?_
  refine J_putU (pc := 2) C dX11_operand__2 p_X11_75 rfl (jlt rfl) rfl rfl (uM_err _) ?_
  try dsimp only
  refine J_aload_n (pc := 5) C dX11_operand__5 rfl rfl ?_
  refine J_aload_n (pc := 6) C dX11_operand__6 rfl rfl ?_
  refine J_get (pc := 7) C dX11_operand__7 f_X11_177 rfl rfl ?_
  try dsimp only
  refine J_if_neN (pc := 10) (tgt := 17) C dX11_operand__10 (by decide) (by omega) (fun h10 => ?_) (fun h10 => ?_)
  · refine J_iconst (pc := 17) (v := nI 0) C dX11_operand__17 (by decide) ?_
    refine J_iconst (pc := 18) (v := nI 1) C dX11_operand__18 (by decide) ?_
    refine J_callV1 (pc := 19) C dX11_operand__19 m_X11_81 (c_fails_f l G _ _ _ _ _ _ _ _ _ _) ⟨jle rfl, jle rfl⟩ rfl rfl rfl rfl rfl (jle rfl) ⟨Nat.zero_le _, Nat.zero_le _⟩ ?_
    try dsimp only
    refine J_if_eqN (pc := 22) (tgt := 27) C dX11_operand__22 (by decide) (by omega) (fun _ => ?_) (fun h22 => absurd h22 (by decide))
    refine J_aload_n (pc := 27) C dX11_operand__27 rfl rfl ?_
    refine J_iload_n (pc := 28) C dX11_operand__28 rfl rfl ?_
    refine J_callV1 (pc := 29) C dX11_operand__29 m_X11_260 (c_opOf l G _ _ _ _ _ _ _ _ _ _ _ hw9 h60) ⟨jle rfl, jle rfl⟩ rfl rfl rfl rfl rfl (jle rfl) ⟨Nat.zero_le _, Nat.zero_le _⟩ ?_
    try dsimp only
    rw [ho9]
    refine J_istore_n (pc := 32) C dX11_operand__32 rfl (by decide) rfl ?_
    dsimp only [List.set]
    refine J_aload_n (pc := 33) C dX11_operand__33 rfl rfl ?_
    refine J_iload_n (pc := 34) C dX11_operand__34 rfl rfl ?_
    refine J_if_lt (pc := 35) (tgt := 64) C dX11_operand__35 (by decide) (fun h35 => ?_) (fun h35 => ?_)
    · exact absurd ((lI_neg (by omega)).mp h35) ho
    · rw [lI_n ho]
      refine J_iload_n (pc := 38) C dX11_operand__38 rfl rfl ?_
      refine J_i2l (pc := 39) C dX11_operand__39 rfl ?_
      refine J_lconst (pc := 40) (v := 0) C dX11_operand__40 (by decide) ?_
      refine J_aload_n (pc := 41) C dX11_operand__41 rfl rfl ?_
      refine J_get (pc := 42) C dX11_operand__42 f_X11_41 rfl rfl ?_
      refine J_iload_n (pc := 45) C dX11_operand__45 rfl rfl ?_
      refine J_if_geN (pc := 46) (tgt := 53) C dX11_operand__46 (by decide) (by omega) ?_
      refine J_iload_n (pc := 53) C dX11_operand__53 rfl rfl ?_
      refine J_ialdN (pc := 54) C dX11_operand__54 rfl (by omega) (by decide) ?_
      try dsimp only
      refine J_iconst (pc := 55) (v := nI 1) C dX11_operand__55 (by decide) ?_
      refine J_isub (pc := 56) C dX11_operand__56 ?_
      refine J_i2l (pc := 57) C dX11_operand__57 rfl ?_
      refine J_callS1 (pc := 58) C dX11_operand__58 m_X11_89 (c_in l G _ _ _ _) ⟨jle rfl, jle rfl⟩ rfl rfl (jle rfl) ⟨Nat.zero_le _, Nat.zero_le _⟩ ?_
      try dsimp only
      rw [inX_t (by omega) rfl hk]
      refine J_if_ne (pc := 61) (tgt := 68) C dX11_operand__61 (by decide) (fun h61 => ?_) (fun h61 => ?_)
      · refine J_iconst (pc := 68) (v := nI 0) C dX11_operand__68 (by decide) ?_
        refine J_iconst (pc := 69) (v := nI 2) C dX11_operand__69 (by decide) ?_
        refine J_callV1 (pc := 70) C dX11_operand__70 m_X11_81 (c_fails_f l G _ _ _ _ _ _ _ _ _ _) ⟨jle rfl, jle rfl⟩ rfl rfl rfl rfl rfl (jle rfl) ⟨Nat.zero_le _, Nat.zero_le _⟩ ?_
        try dsimp only
        refine J_if_eqN (pc := 73) (tgt := 80) C dX11_operand__73 (by decide) (by omega) (fun _ => ?_) (fun h73 => absurd h73 (by decide))
        refine J_aload_n (pc := 80) C dX11_operand__80 rfl rfl ?_
        refine J_iload_n (pc := 81) C dX11_operand__81 rfl rfl ?_
        refine J_iload_n (pc := 82) C dX11_operand__82 rfl rfl ?_
        refine J_iload_n (pc := 83) C dX11_operand__83 rfl rfl ?_
        refine J_callV1 (pc := 84) C dX11_operand__84 m_X11_256 (c_taken l G _ _ _ _ _ _ _ _ _ _ _ _ _ hol (by omega) hw9 hoA.2.1 (hoA.2.2 k hk).1) ⟨jle rfl, jle rfl⟩ rfl rfl rfl rfl rfl (jle rfl) ⟨Nat.zero_le _, Nat.zero_le _⟩ ?_
        try dsimp only
        exact J_lret (pc := 87) C dX11_operand__87 rfl (rfl) (Nat.zero_le _) (Nat.zero_le _)
      · exact absurd h61 (by decide)
  · omega
set_option maxHeartbeats 4000000 in
set_option maxRecDepth 100000 in
theorem c_enc_x (l : Launch) (G : jG) (er : Nat) (F X : Nat × (Nat → Nat)) (K : Nat × Nat × Nat) (wr : Int32) (D : mD) (P : mP) (gv : Nat → Int64) (O : Nat × (Nat → Nat)) (T : jMem) (v : Int32) (a9 b9 c9 d9 e9 f9 : Int64) (hds : D.2.2.2.1 = 0) : jC l G yX11_encode cX11_encode 15 (some .int) 3 61 0 0 [.ref 1000, .int v, .long a9, .long b9, .long c9, .long d9, .long e9, .long f9] (encM er F X K wr D P gv O T) (.inl (some (.int (nI 0)), encM 1 F X K wr D P gv O T)) := by
  refine jC.of (by decide) 1 rfl [some (.ref 1000), some (.int v), some (.long a9), none, some (.long b9), none, some (.long c9), none, some (.long d9), none, some (.long e9), none, some (.long f9), none, none] rfl (fun p e s m args below meth c C hT9 hNm9 => ?_)
  refine J_aload_n (pc := 0) C dX11_encode_0 rfl rfl ?_
  refine J_iconst (pc := 1) (v := nI 0) C dX11_encode_1 (by decide) ?_
  refine J_putU (pc := 2) C dX11_encode_2 p_X11_75 rfl (jlt rfl) rfl rfl (uM_err _) ?_
  try dsimp only
  refine J_aload_n (pc := 5) C dX11_encode_5 rfl rfl ?_
  refine J_aload_n (pc := 6) C dX11_encode_6 rfl rfl ?_
  refine J_get (pc := 7) C dX11_encode_7 f_X11_177 rfl rfl ?_
  try dsimp only
  refine J_if_neN (pc := 10) (tgt := 17) C dX11_encode_10 (by decide) (by omega) (fun h10 => ?_) (fun h10 => ?_)
  · omega
  · refine J_iconst (pc := 13) (v := nI 1) C dX11_encode_13 (by decide) ?_
    refine J_goto (pc := 14) (tgt := 18) C dX11_encode_14 (by decide) ?_
    refine J_iconst (pc := 18) (v := nI 1) C dX11_encode_18 (by decide) ?_
    refine J_callV1 (pc := 19) C dX11_encode_19 m_X11_81 (c_fails_t l G _ _ _ _ _ _ _ _ _ _ (by omega) (by decide)) ⟨jle rfl, jle rfl⟩ rfl rfl rfl rfl rfl (jle rfl) ⟨Nat.zero_le _, Nat.zero_le _⟩ ?_
    try dsimp only
    refine J_if_neN (pc := 22) (tgt := 54) C dX11_encode_22 (by decide) (by omega) (fun _ => ?_) (fun h22 => absurd h22 (by decide))
    refine J_iconst (pc := 54) (v := nI 0) C dX11_encode_54 (by decide) ?_
    exact J_iret (pc := 55) C dX11_encode_55 rfl (rfl) (Nat.zero_le _) (Nat.zero_le _)
set_option maxHeartbeats 4000000 in
set_option maxRecDepth 100000 in
theorem c_enc_2 (l : Launch) (G : jG) (er : Nat) (F X : Nat × (Nat → Nat)) (K : Nat × Nat × Nat) (wr : Int32) (D : mD) (P : mP) (gv : Nat → Int64) (O : Nat × (Nat → Nat)) (T : jMem) (v : Int32) (a9 b9 c9 d9 e9 f9 : Int64) (hds : D.2.2.2.1 = 1) (h60 : D.2.2.1 ≤ 60) (hv : v < 0 ∨ nI D.2.2.1 ≤ v) : jC l G yX11_encode cX11_encode 15 (some .int) 3 61 0 0 [.ref 1000, .int v, .long a9, .long b9, .long c9, .long d9, .long e9, .long f9] (encM er F X K wr D P gv O T) (.inl (some (.int (nI 0)), encM 2 F X K wr D P gv O T)) := by
  refine jC.of (by decide) 1 rfl [some (.ref 1000), some (.int v), some (.long a9), none, some (.long b9), none, some (.long c9), none, some (.long d9), none, some (.long e9), none, some (.long f9), none, none] rfl (fun p e s m args below meth c C hT9 hNm9 => ?_)
  refine J_aload_n (pc := 0) C dX11_encode_0 rfl rfl ?_
  refine J_iconst (pc := 1) (v := nI 0) C dX11_encode_1 (by decide) ?_
  refine J_putU (pc := 2) C dX11_encode_2 p_X11_75 rfl (jlt rfl) rfl rfl (uM_err _) ?_
  try dsimp only
  refine J_aload_n (pc := 5) C dX11_encode_5 rfl rfl ?_
  refine J_aload_n (pc := 6) C dX11_encode_6 rfl rfl ?_
  refine J_get (pc := 7) C dX11_encode_7 f_X11_177 rfl rfl ?_
  try dsimp only
  refine J_if_neN (pc := 10) (tgt := 17) C dX11_encode_10 (by decide) (by omega) (fun h10 => ?_) (fun h10 => ?_)
  · refine J_iconst (pc := 17) (v := nI 0) C dX11_encode_17 (by decide) ?_
    refine J_iconst (pc := 18) (v := nI 1) C dX11_encode_18 (by decide) ?_
    refine J_callV1 (pc := 19) C dX11_encode_19 m_X11_81 (c_fails_f l G _ _ _ _ _ _ _ _ _ _) ⟨jle rfl, jle rfl⟩ rfl rfl rfl rfl rfl (jle rfl) ⟨Nat.zero_le _, Nat.zero_le _⟩ ?_
    try dsimp only
    refine J_if_neN (pc := 22) (tgt := 54) C dX11_encode_22 (by decide) (by omega) (fun h22 => absurd h22 (by decide)) (fun _ => ?_)
    refine J_aload_n (pc := 25) C dX11_encode_25 rfl rfl ?_
    refine J_iload_n (pc := 26) C dX11_encode_26 rfl rfl ?_
    refine J_i2l (pc := 27) C dX11_encode_27 rfl ?_
    refine J_lconst (pc := 28) (v := 0) C dX11_encode_28 (by decide) ?_
    refine J_aload_n (pc := 29) C dX11_encode_29 rfl rfl ?_
    refine J_get (pc := 30) C dX11_encode_30 f_X11_190 rfl rfl ?_
    try dsimp only
    refine J_iconst (pc := 33) (v := nI 1) C dX11_encode_33 (by decide) ?_
    refine J_isub (pc := 34) C dX11_encode_34 ?_
    refine J_i2l (pc := 35) C dX11_encode_35 rfl ?_
    refine J_callS1 (pc := 36) C dX11_encode_36 m_X11_89 (c_in l G _ _ _ _) ⟨jle rfl, jle rfl⟩ rfl rfl (jle rfl) ⟨Nat.zero_le _, Nat.zero_le _⟩ ?_
    try dsimp only
    rw [inX_f (by omega) hv]
    refine J_if_ne (pc := 39) (tgt := 46) C dX11_encode_39 (by decide) (fun h39 => ?_) (fun h39 => ?_)
    · exact absurd rfl h39
    · refine J_iconst (pc := 42) (v := nI 1) C dX11_encode_42 (by decide) ?_
      refine J_goto (pc := 43) (tgt := 47) C dX11_encode_43 (by decide) ?_
      refine J_iconst (pc := 47) (v := nI 2) C dX11_encode_47 (by decide) ?_
      refine J_callV1 (pc := 48) C dX11_encode_48 m_X11_81 (c_fails_t l G _ _ _ _ _ _ _ _ _ _ (by omega) (by decide)) ⟨jle rfl, jle rfl⟩ rfl rfl rfl rfl rfl (jle rfl) ⟨Nat.zero_le _, Nat.zero_le _⟩ ?_
      try dsimp only
      refine J_if_eqN (pc := 51) (tgt := 56) C dX11_encode_51 (by decide) (by omega) (fun h51 => absurd h51 (by decide)) (fun _ => ?_)
      refine J_iconst (pc := 54) (v := nI 0) C dX11_encode_54 (by decide) ?_
      exact J_iret (pc := 55) C dX11_encode_55 rfl (rfl) (Nat.zero_le _) (Nat.zero_le _)
  · omega
set_option maxHeartbeats 4000000 in
set_option maxRecDepth 100000 in
theorem l_enc (l : Launch) (G : jG) {p : Program} {e : Env} {s : State} {m : MethodId} {args : Array Value} {below : List Frame} {meth : Method} {c : Code} (er : Nat) (F X : Nat × (Nat → Nat)) (K : Nat × Nat × Nat) (wr : Int32) (D : mD) (P : mP) (gv : Nat → Int64) (O : Nat × (Nat → Nat)) (T : jMem) (a9 b9 c9 d9 e9 f9 : Int64) (o k : Nat) (C : jX0 p l (jR 3 61 0 0) s m args meth c G cX11_encode 15 RX11 (some .int)) (ho : o < 60) (hoA : oA D o) (hw9 : D.1 ≤ 32) (hk : k ≤ D.2.2.2.2.2.2.2.2.1 o) : J p l e (jR 3 61 0 0) s m args below meth c G 15 0 0 (.inl (some (.int (enR D gv (eV a9 b9 c9 d9 e9 f9) o (D.2.2.2.2.2.2.2.2.1 o) k).2.1), encM (enR D gv (eV a9 b9 c9 d9 e9 f9) o (D.2.2.2.2.2.2.2.2.1 o) k).1 F X K wr D P (enR D gv (eV a9 b9 c9 d9 e9 f9) o (D.2.2.2.2.2.2.2.2.1 o) k).2.2 O T)) 59 [some (.ref 1000), some (.int (nI o)), some (.long a9), none, some (.long b9), none, some (.long c9), none, some (.long d9), none, some (.long e9), none, some (.long f9), none, some (.int (nI k))] [] (encM 0 F X K wr D P gv O T) 0 0 := by
  have h6 : D.2.2.2.2.2.2.2.2.1 o ≤ 6 := hoA.1
  induction hm : D.2.2.2.2.2.2.2.2.1 o - k generalizing k gv with
  | zero =>
    rw [show enR D gv (eV a9 b9 c9 d9 e9 f9) o (D.2.2.2.2.2.2.2.2.1 o) k = (0, madeF D gv o, gv) by rw [enR, if_neg (by omega)]]
    refine J_iload (pc := 59) C dX11_encode_59 rfl ?_
    refine J_aload_n (pc := 61) C dX11_encode_61 rfl rfl ?_
    refine J_get (pc := 62) C dX11_encode_62 f_X11_41 rfl rfl ?_
    refine J_iload_n (pc := 65) C dX11_encode_65 rfl rfl ?_
    refine J_ialdN (pc := 66) C dX11_encode_66 rfl (by omega) (by decide) ?_
    try dsimp only
    refine J_icmp_geN (pc := 67) (tgt := 174) C dX11_encode_67 (by decide) (by omega) (by omega) (fun h67 => ?_) (fun h67 => ?_)
    · refine J_aload_n (pc := 174) C dX11_encode_174 rfl rfl ?_
      refine J_iload_n (pc := 175) C dX11_encode_175 rfl rfl ?_
      refine J_callV1 (pc := 176) C dX11_encode_176 m_X11_245 (c_made l G _ _ _ _ _ _ _ _ _ _ o ho hw9 hoA.2.1) ⟨jle rfl, jle rfl⟩ rfl rfl rfl rfl rfl (jle rfl) ⟨Nat.zero_le _, Nat.zero_le _⟩ ?_
      try dsimp only
      exact J_iret (pc := 179) C dX11_encode_179 rfl (rfl) (Nat.zero_le _) (Nat.zero_le _)
    · omega
  | succ d ih =>
    have hkl : k < D.2.2.2.2.2.2.2.2.1 o := by omega
    have hP := (hoA.2.2 k hkl).1
    have h1 : enR D gv (eV a9 b9 c9 d9 e9 f9) o (D.2.2.2.2.2.2.2.2.1 o) k = if fitF (mKind D (6 * o + k)) (bitsN D (6 * o + k)) ((eV a9 b9 c9 d9 e9 f9) k) = true then enR D (va_up gv k ((eV a9 b9 c9 d9 e9 f9) k)) (eV a9 b9 c9 d9 e9 f9) o (D.2.2.2.2.2.2.2.2.1 o) (k + 1) else (3, nI 0, va_up gv k ((eV a9 b9 c9 d9 e9 f9) k)) := by
      conv => lhs; rw [enR]
      rw [if_pos hkl]
    rw [h1]
    refine J_iload (pc := 59) C dX11_encode_59 rfl ?_
    refine J_aload_n (pc := 61) C dX11_encode_61 rfl rfl ?_
    refine J_get (pc := 62) C dX11_encode_62 f_X11_41 rfl rfl ?_
    refine J_iload_n (pc := 65) C dX11_encode_65 rfl rfl ?_
    refine J_ialdN (pc := 66) C dX11_encode_66 rfl (by omega) (by decide) ?_
    try dsimp only
    refine J_icmp_geN (pc := 67) (tgt := 174) C dX11_encode_67 (by decide) (by omega) (by omega) (fun h67 => ?_) (fun h67 => ?_)
    · omega
    · refine J_aload_n (pc := 70) C dX11_encode_70 rfl rfl ?_
      refine J_get (pc := 71) C dX11_encode_71 f_X11_71 rfl rfl ?_
      refine J_iload (pc := 74) C dX11_encode_74 rfl ?_
      refine J_iload (pc := 76) C dX11_encode_76 rfl ?_
      refine J_if_neN (pc := 78) (tgt := 85) C dX11_encode_78 (by decide) (by omega) (fun h78 => ?_) (fun h78 => ?_)
      · refine J_iload (pc := 85) C dX11_encode_85 rfl ?_
        refine J_iconst (pc := 87) (v := nI 1) C dX11_encode_87 (by decide) ?_
        refine J_icmp_neN (pc := 88) (tgt := 96) C dX11_encode_88 (by decide) (by omega) (by omega) (fun h88 => ?_) (fun h88 => ?_)
        · refine J_iload (pc := 96) C dX11_encode_96 rfl ?_
          refine J_iconst (pc := 98) (v := nI 2) C dX11_encode_98 (by decide) ?_
          refine J_icmp_neN (pc := 99) (tgt := 107) C dX11_encode_99 (by decide) (by omega) (by omega) (fun h99 => ?_) (fun h99 => ?_)
          · refine J_iload (pc := 107) C dX11_encode_107 rfl ?_
            refine J_iconst (pc := 109) (v := nI 3) C dX11_encode_109 (by decide) ?_
            refine J_icmp_neN (pc := 110) (tgt := 118) C dX11_encode_110 (by decide) (by omega) (by omega) (fun h110 => ?_) (fun h110 => ?_)
            · refine J_iload (pc := 118) C dX11_encode_118 rfl ?_
              refine J_iconst (pc := 120) (v := nI 4) C dX11_encode_120 (by decide) ?_
              refine J_icmp_neN (pc := 121) (tgt := 129) C dX11_encode_121 (by decide) (by omega) (by omega) (fun h121 => ?_) (fun h121 => ?_)
              · refine J_lload (pc := 129) C dX11_encode_129 rfl ?_
                refine J_lastN (pc := 131) C dX11_encode_131 rfl (by omega) (by decide) (uM_given _) ?_
                have he : (eV a9 b9 c9 d9 e9 f9) k = f9 := by unfold eV; rw [if_neg h78, if_neg h88, if_neg h99, if_neg h110, if_neg h121]
                refine J.to (show _ = encM 0 F X K wr D P (va_up gv k ((eV a9 b9 c9 d9 e9 f9) k)) O T by rw [he]) ?_
                refine J_aload_n (pc := 132) C dX11_encode_132 rfl rfl ?_
                refine J_aload_n (pc := 133) C dX11_encode_133 rfl rfl ?_
                refine J_bipush (pc := 134) (v := nI 6) C dX11_encode_134 (by decide) ?_
                refine J_iload_n (pc := 136) C dX11_encode_136 rfl rfl ?_
                refine J_imulN (pc := 137) C dX11_encode_137 ?_
                refine J_iload (pc := 138) C dX11_encode_138 rfl ?_
                refine J_iaddN (pc := 140) C dX11_encode_140 ?_
                refine J_aload_n (pc := 141) C dX11_encode_141 rfl rfl ?_
                refine J_get (pc := 142) C dX11_encode_142 f_X11_71 rfl rfl ?_
                refine J_iload (pc := 145) C dX11_encode_145 rfl ?_
                refine J_laldN (pc := 147) C dX11_encode_147 rfl (by omega) (by decide) ?_
                rw [va_up_self]
                refine J_callV1 (pc := 148) C dX11_encode_148 m_X11_252 (c_fits l G _ _ _ _ _ _ _ _ _ _ _ _ (by omega) hP) ⟨jle rfl, jle rfl⟩ rfl rfl rfl rfl rfl (jle rfl) ⟨Nat.zero_le _, Nat.zero_le _⟩ ?_
                try dsimp only
                refine J_if_ne (pc := 151) (tgt := 158) C dX11_encode_151 (by decide) (fun h151 => ?_) (fun h151 => ?_)
                · refine J_iconst (pc := 158) (v := nI 0) C dX11_encode_158 (by decide) ?_
                  refine J_iconst (pc := 159) (v := nI 3) C dX11_encode_159 (by decide) ?_
                  refine J_callV1 (pc := 160) C dX11_encode_160 m_X11_81 (c_fails_f l G _ _ _ _ _ _ _ _ _ _) ⟨jle rfl, jle rfl⟩ rfl rfl rfl rfl rfl (jle rfl) ⟨Nat.zero_le _, Nat.zero_le _⟩ ?_
                  try dsimp only
                  refine J_if_eqN (pc := 163) (tgt := 168) C dX11_encode_163 (by decide) (by omega) (fun _ => ?_) (fun h163 => absurd h163 (by decide))
                  refine J_iincN (pc := 168) C dX11_encode_168 rfl (by decide) rfl ?_
                  dsimp only [List.set]
                  refine J_goto (pc := 171) (tgt := 59) C dX11_encode_171 (by decide) ?_
                  rw [if_pos (bI_t h151)]
                  exact ih (gv := va_up gv k ((eV a9 b9 c9 d9 e9 f9) k)) (k + 1) (by omega) (by omega)
                · refine J_iconst (pc := 154) (v := nI 1) C dX11_encode_154 (by decide) ?_
                  refine J_goto (pc := 155) (tgt := 159) C dX11_encode_155 (by decide) ?_
                  refine J_iconst (pc := 159) (v := nI 3) C dX11_encode_159 (by decide) ?_
                  refine J_callV1 (pc := 160) C dX11_encode_160 m_X11_81 (c_fails_t l G _ _ _ _ _ _ _ _ _ _ (by omega) (by decide)) ⟨jle rfl, jle rfl⟩ rfl rfl rfl rfl rfl (jle rfl) ⟨Nat.zero_le _, Nat.zero_le _⟩ ?_
                  try dsimp only
                  refine J_if_eqN (pc := 163) (tgt := 168) C dX11_encode_163 (by decide) (by omega) (fun h163 => absurd h163 (by decide)) (fun _ => ?_)
                  refine J_iconst (pc := 166) (v := nI 0) C dX11_encode_166 (by decide) ?_
                  exact J_iret (pc := 167) C dX11_encode_167 rfl (by rw [if_neg (by rw [bI_f h151]; decide)]) (Nat.zero_le _) (Nat.zero_le _)
              · refine J_lload (pc := 124) C dX11_encode_124 rfl ?_
                refine J_goto (pc := 126) (tgt := 131) C dX11_encode_126 (by decide) ?_
                refine J_lastN (pc := 131) C dX11_encode_131 rfl (by omega) (by decide) (uM_given _) ?_
                have he : (eV a9 b9 c9 d9 e9 f9) k = e9 := by unfold eV; rw [if_neg h78, if_neg h88, if_neg h99, if_neg h110, if_pos h121]
                refine J.to (show _ = encM 0 F X K wr D P (va_up gv k ((eV a9 b9 c9 d9 e9 f9) k)) O T by rw [he]) ?_
                refine J_aload_n (pc := 132) C dX11_encode_132 rfl rfl ?_
                refine J_aload_n (pc := 133) C dX11_encode_133 rfl rfl ?_
                refine J_bipush (pc := 134) (v := nI 6) C dX11_encode_134 (by decide) ?_
                refine J_iload_n (pc := 136) C dX11_encode_136 rfl rfl ?_
                refine J_imulN (pc := 137) C dX11_encode_137 ?_
                refine J_iload (pc := 138) C dX11_encode_138 rfl ?_
                refine J_iaddN (pc := 140) C dX11_encode_140 ?_
                refine J_aload_n (pc := 141) C dX11_encode_141 rfl rfl ?_
                refine J_get (pc := 142) C dX11_encode_142 f_X11_71 rfl rfl ?_
                refine J_iload (pc := 145) C dX11_encode_145 rfl ?_
                refine J_laldN (pc := 147) C dX11_encode_147 rfl (by omega) (by decide) ?_
                rw [va_up_self]
                refine J_callV1 (pc := 148) C dX11_encode_148 m_X11_252 (c_fits l G _ _ _ _ _ _ _ _ _ _ _ _ (by omega) hP) ⟨jle rfl, jle rfl⟩ rfl rfl rfl rfl rfl (jle rfl) ⟨Nat.zero_le _, Nat.zero_le _⟩ ?_
                try dsimp only
                refine J_if_ne (pc := 151) (tgt := 158) C dX11_encode_151 (by decide) (fun h151 => ?_) (fun h151 => ?_)
                · refine J_iconst (pc := 158) (v := nI 0) C dX11_encode_158 (by decide) ?_
                  refine J_iconst (pc := 159) (v := nI 3) C dX11_encode_159 (by decide) ?_
                  refine J_callV1 (pc := 160) C dX11_encode_160 m_X11_81 (c_fails_f l G _ _ _ _ _ _ _ _ _ _) ⟨jle rfl, jle rfl⟩ rfl rfl rfl rfl rfl (jle rfl) ⟨Nat.zero_le _, Nat.zero_le _⟩ ?_
                  try dsimp only
                  refine J_if_eqN (pc := 163) (tgt := 168) C dX11_encode_163 (by decide) (by omega) (fun _ => ?_) (fun h163 => absurd h163 (by decide))
                  refine J_iincN (pc := 168) C dX11_encode_168 rfl (by decide) rfl ?_
                  dsimp only [List.set]
                  refine J_goto (pc := 171) (tgt := 59) C dX11_encode_171 (by decide) ?_
                  rw [if_pos (bI_t h151)]
                  exact ih (gv := va_up gv k ((eV a9 b9 c9 d9 e9 f9) k)) (k + 1) (by omega) (by omega)
                · refine J_iconst (pc := 154) (v := nI 1) C dX11_encode_154 (by decide) ?_
                  refine J_goto (pc := 155) (tgt := 159) C dX11_encode_155 (by decide) ?_
                  refine J_iconst (pc := 159) (v := nI 3) C dX11_encode_159 (by decide) ?_
                  refine J_callV1 (pc := 160) C dX11_encode_160 m_X11_81 (c_fails_t l G _ _ _ _ _ _ _ _ _ _ (by omega) (by decide)) ⟨jle rfl, jle rfl⟩ rfl rfl rfl rfl rfl (jle rfl) ⟨Nat.zero_le _, Nat.zero_le _⟩ ?_
                  try dsimp only
                  refine J_if_eqN (pc := 163) (tgt := 168) C dX11_encode_163 (by decide) (by omega) (fun h163 => absurd h163 (by decide)) (fun _ => ?_)
                  refine J_iconst (pc := 166) (v := nI 0) C dX11_encode_166 (by decide) ?_
                  exact J_iret (pc := 167) C dX11_encode_167 rfl (by rw [if_neg (by rw [bI_f h151]; decide)]) (Nat.zero_le _) (Nat.zero_le _)
            · refine J_lload (pc := 113) C dX11_encode_113 rfl ?_
              refine J_goto (pc := 115) (tgt := 131) C dX11_encode_115 (by decide) ?_
              refine J_lastN (pc := 131) C dX11_encode_131 rfl (by omega) (by decide) (uM_given _) ?_
              have he : (eV a9 b9 c9 d9 e9 f9) k = d9 := by unfold eV; rw [if_neg h78, if_neg h88, if_neg h99, if_pos h110]
              refine J.to (show _ = encM 0 F X K wr D P (va_up gv k ((eV a9 b9 c9 d9 e9 f9) k)) O T by rw [he]) ?_
              refine J_aload_n (pc := 132) C dX11_encode_132 rfl rfl ?_
              refine J_aload_n (pc := 133) C dX11_encode_133 rfl rfl ?_
              refine J_bipush (pc := 134) (v := nI 6) C dX11_encode_134 (by decide) ?_
              refine J_iload_n (pc := 136) C dX11_encode_136 rfl rfl ?_
              refine J_imulN (pc := 137) C dX11_encode_137 ?_
              refine J_iload (pc := 138) C dX11_encode_138 rfl ?_
              refine J_iaddN (pc := 140) C dX11_encode_140 ?_
              refine J_aload_n (pc := 141) C dX11_encode_141 rfl rfl ?_
              refine J_get (pc := 142) C dX11_encode_142 f_X11_71 rfl rfl ?_
              refine J_iload (pc := 145) C dX11_encode_145 rfl ?_
              refine J_laldN (pc := 147) C dX11_encode_147 rfl (by omega) (by decide) ?_
              rw [va_up_self]
              refine J_callV1 (pc := 148) C dX11_encode_148 m_X11_252 (c_fits l G _ _ _ _ _ _ _ _ _ _ _ _ (by omega) hP) ⟨jle rfl, jle rfl⟩ rfl rfl rfl rfl rfl (jle rfl) ⟨Nat.zero_le _, Nat.zero_le _⟩ ?_
              try dsimp only
              refine J_if_ne (pc := 151) (tgt := 158) C dX11_encode_151 (by decide) (fun h151 => ?_) (fun h151 => ?_)
              · refine J_iconst (pc := 158) (v := nI 0) C dX11_encode_158 (by decide) ?_
                refine J_iconst (pc := 159) (v := nI 3) C dX11_encode_159 (by decide) ?_
                refine J_callV1 (pc := 160) C dX11_encode_160 m_X11_81 (c_fails_f l G _ _ _ _ _ _ _ _ _ _) ⟨jle rfl, jle rfl⟩ rfl rfl rfl rfl rfl (jle rfl) ⟨Nat.zero_le _, Nat.zero_le _⟩ ?_
                try dsimp only
                refine J_if_eqN (pc := 163) (tgt := 168) C dX11_encode_163 (by decide) (by omega) (fun _ => ?_) (fun h163 => absurd h163 (by decide))
                refine J_iincN (pc := 168) C dX11_encode_168 rfl (by decide) rfl ?_
                dsimp only [List.set]
                refine J_goto (pc := 171) (tgt := 59) C dX11_encode_171 (by decide) ?_
                rw [if_pos (bI_t h151)]
                exact ih (gv := va_up gv k ((eV a9 b9 c9 d9 e9 f9) k)) (k + 1) (by omega) (by omega)
              · refine J_iconst (pc := 154) (v := nI 1) C dX11_encode_154 (by decide) ?_
                refine J_goto (pc := 155) (tgt := 159) C dX11_encode_155 (by decide) ?_
                refine J_iconst (pc := 159) (v := nI 3) C dX11_encode_159 (by decide) ?_
                refine J_callV1 (pc := 160) C dX11_encode_160 m_X11_81 (c_fails_t l G _ _ _ _ _ _ _ _ _ _ (by omega) (by decide)) ⟨jle rfl, jle rfl⟩ rfl rfl rfl rfl rfl (jle rfl) ⟨Nat.zero_le _, Nat.zero_le _⟩ ?_
                try dsimp only
                refine J_if_eqN (pc := 163) (tgt := 168) C dX11_encode_163 (by decide) (by omega) (fun h163 => absurd h163 (by decide)) (fun _ => ?_)
                refine J_iconst (pc := 166) (v := nI 0) C dX11_encode_166 (by decide) ?_
                exact J_iret (pc := 167) C dX11_encode_167 rfl (by rw [if_neg (by rw [bI_f h151]; decide)]) (Nat.zero_le _) (Nat.zero_le _)
          · refine J_lload (pc := 102) C dX11_encode_102 rfl ?_
            refine J_goto (pc := 104) (tgt := 131) C dX11_encode_104 (by decide) ?_
            refine J_lastN (pc := 131) C dX11_encode_131 rfl (by omega) (by decide) (uM_given _) ?_
            have he : (eV a9 b9 c9 d9 e9 f9) k = c9 := by unfold eV; rw [if_neg h78, if_neg h88, if_pos h99]
            refine J.to (show _ = encM 0 F X K wr D P (va_up gv k ((eV a9 b9 c9 d9 e9 f9) k)) O T by rw [he]) ?_
            refine J_aload_n (pc := 132) C dX11_encode_132 rfl rfl ?_
            refine J_aload_n (pc := 133) C dX11_encode_133 rfl rfl ?_
            refine J_bipush (pc := 134) (v := nI 6) C dX11_encode_134 (by decide) ?_
            refine J_iload_n (pc := 136) C dX11_encode_136 rfl rfl ?_
            refine J_imulN (pc := 137) C dX11_encode_137 ?_
            refine J_iload (pc := 138) C dX11_encode_138 rfl ?_
            refine J_iaddN (pc := 140) C dX11_encode_140 ?_
            refine J_aload_n (pc := 141) C dX11_encode_141 rfl rfl ?_
            refine J_get (pc := 142) C dX11_encode_142 f_X11_71 rfl rfl ?_
            refine J_iload (pc := 145) C dX11_encode_145 rfl ?_
            refine J_laldN (pc := 147) C dX11_encode_147 rfl (by omega) (by decide) ?_
            rw [va_up_self]
            refine J_callV1 (pc := 148) C dX11_encode_148 m_X11_252 (c_fits l G _ _ _ _ _ _ _ _ _ _ _ _ (by omega) hP) ⟨jle rfl, jle rfl⟩ rfl rfl rfl rfl rfl (jle rfl) ⟨Nat.zero_le _, Nat.zero_le _⟩ ?_
            try dsimp only
            refine J_if_ne (pc := 151) (tgt := 158) C dX11_encode_151 (by decide) (fun h151 => ?_) (fun h151 => ?_)
            · refine J_iconst (pc := 158) (v := nI 0) C dX11_encode_158 (by decide) ?_
              refine J_iconst (pc := 159) (v := nI 3) C dX11_encode_159 (by decide) ?_
              refine J_callV1 (pc := 160) C dX11_encode_160 m_X11_81 (c_fails_f l G _ _ _ _ _ _ _ _ _ _) ⟨jle rfl, jle rfl⟩ rfl rfl rfl rfl rfl (jle rfl) ⟨Nat.zero_le _, Nat.zero_le _⟩ ?_
              try dsimp only
              refine J_if_eqN (pc := 163) (tgt := 168) C dX11_encode_163 (by decide) (by omega) (fun _ => ?_) (fun h163 => absurd h163 (by decide))
              refine J_iincN (pc := 168) C dX11_encode_168 rfl (by decide) rfl ?_
              dsimp only [List.set]
              refine J_goto (pc := 171) (tgt := 59) C dX11_encode_171 (by decide) ?_
              rw [if_pos (bI_t h151)]
              exact ih (gv := va_up gv k ((eV a9 b9 c9 d9 e9 f9) k)) (k + 1) (by omega) (by omega)
            · refine J_iconst (pc := 154) (v := nI 1) C dX11_encode_154 (by decide) ?_
              refine J_goto (pc := 155) (tgt := 159) C dX11_encode_155 (by decide) ?_
              refine J_iconst (pc := 159) (v := nI 3) C dX11_encode_159 (by decide) ?_
              refine J_callV1 (pc := 160) C dX11_encode_160 m_X11_81 (c_fails_t l G _ _ _ _ _ _ _ _ _ _ (by omega) (by decide)) ⟨jle rfl, jle rfl⟩ rfl rfl rfl rfl rfl (jle rfl) ⟨Nat.zero_le _, Nat.zero_le _⟩ ?_
              try dsimp only
              refine J_if_eqN (pc := 163) (tgt := 168) C dX11_encode_163 (by decide) (by omega) (fun h163 => absurd h163 (by decide)) (fun _ => ?_)
              refine J_iconst (pc := 166) (v := nI 0) C dX11_encode_166 (by decide) ?_
              exact J_iret (pc := 167) C dX11_encode_167 rfl (by rw [if_neg (by rw [bI_f h151]; decide)]) (Nat.zero_le _) (Nat.zero_le _)
        · refine J_lload (pc := 91) C dX11_encode_91 rfl ?_
          refine J_goto (pc := 93) (tgt := 131) C dX11_encode_93 (by decide) ?_
          refine J_lastN (pc := 131) C dX11_encode_131 rfl (by omega) (by decide) (uM_given _) ?_
          have he : (eV a9 b9 c9 d9 e9 f9) k = b9 := by unfold eV; rw [if_neg h78, if_pos h88]
          refine J.to (show _ = encM 0 F X K wr D P (va_up gv k ((eV a9 b9 c9 d9 e9 f9) k)) O T by rw [he]) ?_
          refine J_aload_n (pc := 132) C dX11_encode_132 rfl rfl ?_
          refine J_aload_n (pc := 133) C dX11_encode_133 rfl rfl ?_
          refine J_bipush (pc := 134) (v := nI 6) C dX11_encode_134 (by decide) ?_
          refine J_iload_n (pc := 136) C dX11_encode_136 rfl rfl ?_
          refine J_imulN (pc := 137) C dX11_encode_137 ?_
          refine J_iload (pc := 138) C dX11_encode_138 rfl ?_
          refine J_iaddN (pc := 140) C dX11_encode_140 ?_
          refine J_aload_n (pc := 141) C dX11_encode_141 rfl rfl ?_
          refine J_get (pc := 142) C dX11_encode_142 f_X11_71 rfl rfl ?_
          refine J_iload (pc := 145) C dX11_encode_145 rfl ?_
          refine J_laldN (pc := 147) C dX11_encode_147 rfl (by omega) (by decide) ?_
          rw [va_up_self]
          refine J_callV1 (pc := 148) C dX11_encode_148 m_X11_252 (c_fits l G _ _ _ _ _ _ _ _ _ _ _ _ (by omega) hP) ⟨jle rfl, jle rfl⟩ rfl rfl rfl rfl rfl (jle rfl) ⟨Nat.zero_le _, Nat.zero_le _⟩ ?_
          try dsimp only
          refine J_if_ne (pc := 151) (tgt := 158) C dX11_encode_151 (by decide) (fun h151 => ?_) (fun h151 => ?_)
          · refine J_iconst (pc := 158) (v := nI 0) C dX11_encode_158 (by decide) ?_
            refine J_iconst (pc := 159) (v := nI 3) C dX11_encode_159 (by decide) ?_
            refine J_callV1 (pc := 160) C dX11_encode_160 m_X11_81 (c_fails_f l G _ _ _ _ _ _ _ _ _ _) ⟨jle rfl, jle rfl⟩ rfl rfl rfl rfl rfl (jle rfl) ⟨Nat.zero_le _, Nat.zero_le _⟩ ?_
            try dsimp only
            refine J_if_eqN (pc := 163) (tgt := 168) C dX11_encode_163 (by decide) (by omega) (fun _ => ?_) (fun h163 => absurd h163 (by decide))
            refine J_iincN (pc := 168) C dX11_encode_168 rfl (by decide) rfl ?_
            dsimp only [List.set]
            refine J_goto (pc := 171) (tgt := 59) C dX11_encode_171 (by decide) ?_
            rw [if_pos (bI_t h151)]
            exact ih (gv := va_up gv k ((eV a9 b9 c9 d9 e9 f9) k)) (k + 1) (by omega) (by omega)
          · refine J_iconst (pc := 154) (v := nI 1) C dX11_encode_154 (by decide) ?_
            refine J_goto (pc := 155) (tgt := 159) C dX11_encode_155 (by decide) ?_
            refine J_iconst (pc := 159) (v := nI 3) C dX11_encode_159 (by decide) ?_
            refine J_callV1 (pc := 160) C dX11_encode_160 m_X11_81 (c_fails_t l G _ _ _ _ _ _ _ _ _ _ (by omega) (by decide)) ⟨jle rfl, jle rfl⟩ rfl rfl rfl rfl rfl (jle rfl) ⟨Nat.zero_le _, Nat.zero_le _⟩ ?_
            try dsimp only
            refine J_if_eqN (pc := 163) (tgt := 168) C dX11_encode_163 (by decide) (by omega) (fun h163 => absurd h163 (by decide)) (fun _ => ?_)
            refine J_iconst (pc := 166) (v := nI 0) C dX11_encode_166 (by decide) ?_
            exact J_iret (pc := 167) C dX11_encode_167 rfl (by rw [if_neg (by rw [bI_f h151]; decide)]) (Nat.zero_le _) (Nat.zero_le _)
      · refine J_lload_n (pc := 81) C dX11_encode_81 rfl rfl ?_
        refine J_goto (pc := 82) (tgt := 131) C dX11_encode_82 (by decide) ?_
        refine J_lastN (pc := 131) C dX11_encode_131 rfl (by omega) (by decide) (uM_given _) ?_
        have he : (eV a9 b9 c9 d9 e9 f9) k = a9 := by unfold eV; rw [if_pos h78]
        refine J.to (show _ = encM 0 F X K wr D P (va_up gv k ((eV a9 b9 c9 d9 e9 f9) k)) O T by rw [he]) ?_
        refine J_aload_n (pc := 132) C dX11_encode_132 rfl rfl ?_
        refine J_aload_n (pc := 133) C dX11_encode_133 rfl rfl ?_
        refine J_bipush (pc := 134) (v := nI 6) C dX11_encode_134 (by decide) ?_
        refine J_iload_n (pc := 136) C dX11_encode_136 rfl rfl ?_
        refine J_imulN (pc := 137) C dX11_encode_137 ?_
        refine J_iload (pc := 138) C dX11_encode_138 rfl ?_
        refine J_iaddN (pc := 140) C dX11_encode_140 ?_
        refine J_aload_n (pc := 141) C dX11_encode_141 rfl rfl ?_
        refine J_get (pc := 142) C dX11_encode_142 f_X11_71 rfl rfl ?_
        refine J_iload (pc := 145) C dX11_encode_145 rfl ?_
        refine J_laldN (pc := 147) C dX11_encode_147 rfl (by omega) (by decide) ?_
        rw [va_up_self]
        refine J_callV1 (pc := 148) C dX11_encode_148 m_X11_252 (c_fits l G _ _ _ _ _ _ _ _ _ _ _ _ (by omega) hP) ⟨jle rfl, jle rfl⟩ rfl rfl rfl rfl rfl (jle rfl) ⟨Nat.zero_le _, Nat.zero_le _⟩ ?_
        try dsimp only
        refine J_if_ne (pc := 151) (tgt := 158) C dX11_encode_151 (by decide) (fun h151 => ?_) (fun h151 => ?_)
        · refine J_iconst (pc := 158) (v := nI 0) C dX11_encode_158 (by decide) ?_
          refine J_iconst (pc := 159) (v := nI 3) C dX11_encode_159 (by decide) ?_
          refine J_callV1 (pc := 160) C dX11_encode_160 m_X11_81 (c_fails_f l G _ _ _ _ _ _ _ _ _ _) ⟨jle rfl, jle rfl⟩ rfl rfl rfl rfl rfl (jle rfl) ⟨Nat.zero_le _, Nat.zero_le _⟩ ?_
          try dsimp only
          refine J_if_eqN (pc := 163) (tgt := 168) C dX11_encode_163 (by decide) (by omega) (fun _ => ?_) (fun h163 => absurd h163 (by decide))
          refine J_iincN (pc := 168) C dX11_encode_168 rfl (by decide) rfl ?_
          dsimp only [List.set]
          refine J_goto (pc := 171) (tgt := 59) C dX11_encode_171 (by decide) ?_
          rw [if_pos (bI_t h151)]
          exact ih (gv := va_up gv k ((eV a9 b9 c9 d9 e9 f9) k)) (k + 1) (by omega) (by omega)
        · refine J_iconst (pc := 154) (v := nI 1) C dX11_encode_154 (by decide) ?_
          refine J_goto (pc := 155) (tgt := 159) C dX11_encode_155 (by decide) ?_
          refine J_iconst (pc := 159) (v := nI 3) C dX11_encode_159 (by decide) ?_
          refine J_callV1 (pc := 160) C dX11_encode_160 m_X11_81 (c_fails_t l G _ _ _ _ _ _ _ _ _ _ (by omega) (by decide)) ⟨jle rfl, jle rfl⟩ rfl rfl rfl rfl rfl (jle rfl) ⟨Nat.zero_le _, Nat.zero_le _⟩ ?_
          try dsimp only
          refine J_if_eqN (pc := 163) (tgt := 168) C dX11_encode_163 (by decide) (by omega) (fun h163 => absurd h163 (by decide)) (fun _ => ?_)
          refine J_iconst (pc := 166) (v := nI 0) C dX11_encode_166 (by decide) ?_
          exact J_iret (pc := 167) C dX11_encode_167 rfl (by rw [if_neg (by rw [bI_f h151]; decide)]) (Nat.zero_le _) (Nat.zero_le _)
set_option maxHeartbeats 4000000 in
set_option maxRecDepth 100000 in
theorem c_enc (l : Launch) (G : jG) (er : Nat) (F X : Nat × (Nat → Nat)) (K : Nat × Nat × Nat) (wr : Int32) (D : mD) (P : mP) (gv : Nat → Int64) (O : Nat × (Nat → Nat)) (T : jMem) (o : Nat) (a9 b9 c9 d9 e9 f9 : Int64) (hds : D.2.2.2.1 = 1) (h60 : D.2.2.1 ≤ 60) (hol : o < D.2.2.1) (hoA : oA D o) (hw9 : D.1 ≤ 32) : jC l G yX11_encode cX11_encode 15 (some .int) 3 61 0 0 [.ref 1000, .int (nI o), .long a9, .long b9, .long c9, .long d9, .long e9, .long f9] (encM er F X K wr D P gv O T) (.inl (some (.int (enR D gv (eV a9 b9 c9 d9 e9 f9) o (D.2.2.2.2.2.2.2.2.1 o) 0).2.1), encM (enR D gv (eV a9 b9 c9 d9 e9 f9) o (D.2.2.2.2.2.2.2.2.1 o) 0).1 F X K wr D P (enR D gv (eV a9 b9 c9 d9 e9 f9) o (D.2.2.2.2.2.2.2.2.1 o) 0).2.2 O T)) := by
  refine jC.of (by decide) 1 rfl [some (.ref 1000), some (.int (nI o)), some (.long a9), none, some (.long b9), none, some (.long c9), none, some (.long d9), none, some (.long e9), none, some (.long f9), none, none] rfl (fun p e s m args below meth c C hT9 hNm9 => ?_)
  refine J_aload_n (pc := 0) C dX11_encode_0 rfl rfl ?_
  refine J_iconst (pc := 1) (v := nI 0) C dX11_encode_1 (by decide) ?_
  refine J_putU (pc := 2) C dX11_encode_2 p_X11_75 rfl (jlt rfl) rfl rfl (uM_err _) ?_
  try dsimp only
  refine J_aload_n (pc := 5) C dX11_encode_5 rfl rfl ?_
  refine J_aload_n (pc := 6) C dX11_encode_6 rfl rfl ?_
  refine J_get (pc := 7) C dX11_encode_7 f_X11_177 rfl rfl ?_
  try dsimp only
  refine J_if_neN (pc := 10) (tgt := 17) C dX11_encode_10 (by decide) (by omega) (fun h10 => ?_) (fun h10 => ?_)
  · refine J_iconst (pc := 17) (v := nI 0) C dX11_encode_17 (by decide) ?_
    refine J_iconst (pc := 18) (v := nI 1) C dX11_encode_18 (by decide) ?_
    refine J_callV1 (pc := 19) C dX11_encode_19 m_X11_81 (c_fails_f l G _ _ _ _ _ _ _ _ _ _) ⟨jle rfl, jle rfl⟩ rfl rfl rfl rfl rfl (jle rfl) ⟨Nat.zero_le _, Nat.zero_le _⟩ ?_
    try dsimp only
    refine J_if_neN (pc := 22) (tgt := 54) C dX11_encode_22 (by decide) (by omega) (fun h22 => absurd h22 (by decide)) (fun _ => ?_)
    refine J_aload_n (pc := 25) C dX11_encode_25 rfl rfl ?_
    refine J_iload_n (pc := 26) C dX11_encode_26 rfl rfl ?_
    refine J_i2l (pc := 27) C dX11_encode_27 rfl ?_
    refine J_lconst (pc := 28) (v := 0) C dX11_encode_28 (by decide) ?_
    refine J_aload_n (pc := 29) C dX11_encode_29 rfl rfl ?_
    refine J_get (pc := 30) C dX11_encode_30 f_X11_190 rfl rfl ?_
    try dsimp only
    refine J_iconst (pc := 33) (v := nI 1) C dX11_encode_33 (by decide) ?_
    refine J_isub (pc := 34) C dX11_encode_34 ?_
    refine J_i2l (pc := 35) C dX11_encode_35 rfl ?_
    refine J_callS1 (pc := 36) C dX11_encode_36 m_X11_89 (c_in l G _ _ _ _) ⟨jle rfl, jle rfl⟩ rfl rfl (jle rfl) ⟨Nat.zero_le _, Nat.zero_le _⟩ ?_
    try dsimp only
    rw [inX_t (by omega) rfl hol]
    refine J_if_ne (pc := 39) (tgt := 46) C dX11_encode_39 (by decide) (fun h39 => ?_) (fun h39 => ?_)
    · refine J_iconst (pc := 46) (v := nI 0) C dX11_encode_46 (by decide) ?_
      refine J_iconst (pc := 47) (v := nI 2) C dX11_encode_47 (by decide) ?_
      refine J_callV1 (pc := 48) C dX11_encode_48 m_X11_81 (c_fails_f l G _ _ _ _ _ _ _ _ _ _) ⟨jle rfl, jle rfl⟩ rfl rfl rfl rfl rfl (jle rfl) ⟨Nat.zero_le _, Nat.zero_le _⟩ ?_
      try dsimp only
      refine J_if_eqN (pc := 51) (tgt := 56) C dX11_encode_51 (by decide) (by omega) (fun _ => ?_) (fun h51 => absurd h51 (by decide))
      refine J_iconst (pc := 56) (v := nI 0) C dX11_encode_56 (by decide) ?_
      refine J_istore (pc := 57) C dX11_encode_57 (by decide) rfl ?_
      dsimp only [List.set]
      exact l_enc l G er F X K wr D P gv O T a9 b9 c9 d9 e9 f9 o 0 C (by omega) hoA hw9 (Nat.zero_le _)
    · exact absurd h39 (by decide)
  · omega
set_option maxHeartbeats 4000000 in
set_option maxRecDepth 100000 in
theorem c_count_x (l : Launch) (G : jG) (er : Nat) (F X : Nat × (Nat → Nat)) (K : Nat × Nat × Nat) (wr : Int32) (D : mD) (P : mP) (gv : Nat → Int64) (O : Nat × (Nat → Nat)) (T : jMem) (v : Int32) (hv : v < 0 ∨ nI 6 ≤ v) : jC l G yX11_count cX11_count 2 (some .int) 2 37 0 0 [.ref 1000, .int v] (encM er F X K wr D P gv O T) (.inl (some (.int (nI 0)), encM 1 F X K wr D P gv O T)) := by
  refine jC.of (by decide) 0 rfl [some (.ref 1000), some (.int v)] rfl (fun p e s m args below meth c C hT9 hNm9 => ?_)
  refine J_aload_n (pc := 0) C dX11_count_0 rfl rfl ?_
  refine J_iconst (pc := 1) (v := nI 0) C dX11_count_1 (by decide) ?_
  refine J_putU (pc := 2) C dX11_count_2 p_X11_75 rfl (jlt rfl) rfl rfl (uM_err _) ?_
  try dsimp only
  refine J_aload_n (pc := 5) C dX11_count_5 rfl rfl ?_
  refine J_iload_n (pc := 6) C dX11_count_6 rfl rfl ?_
  refine J_i2l (pc := 7) C dX11_count_7 rfl ?_
  refine J_lconst (pc := 8) (v := 0) C dX11_count_8 (by decide) ?_
  refine J_ldc2 (pc := 9) C dX11_count_9 l_X11_284 ?_
  refine J_callS1 (pc := 12) C dX11_count_12 m_X11_89 (c_in l G _ _ _ _) ⟨jle rfl, jle rfl⟩ rfl rfl (jle rfl) ⟨Nat.zero_le _, Nat.zero_le _⟩ ?_
  try dsimp only
  rw [show (5 : Int64) = (nI 6 - nI 1).toInt64 by decide, inX_f (by decide) hv]
  refine J_if_ne (pc := 15) (tgt := 22) C dX11_count_15 (by decide) (fun h15 => ?_) (fun h15 => ?_)
  · exact absurd rfl h15
  · refine J_iconst (pc := 18) (v := nI 1) C dX11_count_18 (by decide) ?_
    refine J_goto (pc := 19) (tgt := 23) C dX11_count_19 (by decide) ?_
    refine J_iconst (pc := 23) (v := nI 1) C dX11_count_23 (by decide) ?_
    refine J_callV1 (pc := 24) C dX11_count_24 m_X11_81 (c_fails_t l G _ _ _ _ _ _ _ _ _ _ (by omega) (by decide)) ⟨jle rfl, jle rfl⟩ rfl rfl rfl rfl rfl (jle rfl) ⟨Nat.zero_le _, Nat.zero_le _⟩ ?_
    try dsimp only
    refine J_if_eqN (pc := 27) (tgt := 32) C dX11_count_27 (by decide) (by omega) (fun h27 => absurd h27 (by decide)) (fun _ => ?_)
    refine J_iconst (pc := 30) (v := nI 0) C dX11_count_30 (by decide) ?_
    exact J_iret (pc := 31) C dX11_count_31 rfl (rfl) (Nat.zero_le _) (Nat.zero_le _)
set_option maxHeartbeats 4000000 in
set_option maxRecDepth 100000 in
theorem c_count0 (l : Launch) (G : jG) (er : Nat) (F X : Nat × (Nat → Nat)) (K : Nat × Nat × Nat) (wr : Int32) (D : mD) (P : mP) (gv : Nat → Int64) (O : Nat × (Nat → Nat)) (T : jMem) (hd1 : D.2.2.2.1 ≤ 1) : jC l G yX11_count cX11_count 2 (some .int) 2 37 0 0 [.ref 1000, .int (nI 0)] (encM er F X K wr D P gv O T) (.inl (some (.int (nI (if D.2.2.2.1 = 0 then 0 else D.1))), encM 0 F X K wr D P gv O T)) := by
  refine jC.of (by decide) 0 rfl [some (.ref 1000), some (.int (nI 0))] rfl (fun p e s m args below meth c C hT9 hNm9 => ?_)
  refine J_aload_n (pc := 0) C dX11_count_0 rfl rfl ?_
  refine J_iconst (pc := 1) (v := nI 0) C dX11_count_1 (by decide) ?_
  refine J_putU (pc := 2) C dX11_count_2 p_X11_75 rfl (jlt rfl) rfl rfl (uM_err _) ?_
  try dsimp only
  refine J_aload_n (pc := 5) C dX11_count_5 rfl rfl ?_
  refine J_iload_n (pc := 6) C dX11_count_6 rfl rfl ?_
  refine J_i2l (pc := 7) C dX11_count_7 rfl ?_
  refine J_lconst (pc := 8) (v := 0) C dX11_count_8 (by decide) ?_
  refine J_ldc2 (pc := 9) C dX11_count_9 l_X11_284 ?_
  refine J_callS1 (pc := 12) C dX11_count_12 m_X11_89 (c_in l G _ _ _ _) ⟨jle rfl, jle rfl⟩ rfl rfl (jle rfl) ⟨Nat.zero_le _, Nat.zero_le _⟩ ?_
  try dsimp only
  rw [show (5 : Int64) = (nI 6 - nI 1).toInt64 by decide, inX_t (k := 0) (by decide) rfl (by decide)]
  refine J_if_ne (pc := 15) (tgt := 22) C dX11_count_15 (by decide) (fun h15 => ?_) (fun h15 => ?_)
  · refine J_iconst (pc := 22) (v := nI 0) C dX11_count_22 (by decide) ?_
    refine J_iconst (pc := 23) (v := nI 1) C dX11_count_23 (by decide) ?_
    refine J_callV1 (pc := 24) C dX11_count_24 m_X11_81 (c_fails_f l G _ _ _ _ _ _ _ _ _ _) ⟨jle rfl, jle rfl⟩ rfl rfl rfl rfl rfl (jle rfl) ⟨Nat.zero_le _, Nat.zero_le _⟩ ?_
    try dsimp only
    refine J_if_eqN (pc := 27) (tgt := 32) C dX11_count_27 (by decide) (by omega) (fun _ => ?_) (fun h27 => absurd h27 (by decide))
    refine J_iload_n (pc := 32) C dX11_count_32 rfl rfl ?_
    refine J_tabIn (pc := 33) (tgt := 68) C dX11_count_33 (by decide) (by decide) rfl (by decide) ?_
    refine J_aload_n (pc := 68) C dX11_count_68 rfl rfl ?_
    refine J_get (pc := 69) C dX11_count_69 f_X11_177 rfl rfl ?_
    try dsimp only
    refine J_if_eqN (pc := 72) (tgt := 82) C dX11_count_72 (by decide) (by omega) (fun h72 => ?_) (fun h72 => ?_)
    · refine J_iconst (pc := 82) (v := nI 0) C dX11_count_82 (by decide) ?_
      exact J_iret (pc := 83) C dX11_count_83 rfl (jo (by first | rw [if_pos h72] | rw [if_neg h72])) (Nat.zero_le _) (Nat.zero_le _)
    · refine J_aload_n (pc := 75) C dX11_count_75 rfl rfl ?_
      refine J_get (pc := 76) C dX11_count_76 f_X11_196 rfl rfl ?_
      try dsimp only
      refine J_goto (pc := 79) (tgt := 83) C dX11_count_79 (by decide) ?_
      exact J_iret (pc := 83) C dX11_count_83 rfl (jo (by first | rw [if_pos h72] | rw [if_neg h72])) (Nat.zero_le _) (Nat.zero_le _)
  · exact absurd h15 (by decide)
set_option maxHeartbeats 4000000 in
set_option maxRecDepth 100000 in
theorem c_count1 (l : Launch) (G : jG) (er : Nat) (F X : Nat × (Nat → Nat)) (K : Nat × Nat × Nat) (wr : Int32) (D : mD) (P : mP) (gv : Nat → Int64) (O : Nat × (Nat → Nat)) (T : jMem) (hd1 : D.2.2.2.1 ≤ 1) : jC l G yX11_count cX11_count 2 (some .int) 2 37 0 0 [.ref 1000, .int (nI 1)] (encM er F X K wr D P gv O T) (.inl (some (.int (nI (if D.2.2.2.1 = 0 then 0 else D.2.1))), encM 0 F X K wr D P gv O T)) := by
  refine jC.of (by decide) 0 rfl [some (.ref 1000), some (.int (nI 1))] rfl (fun p e s m args below meth c C hT9 hNm9 => ?_)
  refine J_aload_n (pc := 0) C dX11_count_0 rfl rfl ?_
  refine J_iconst (pc := 1) (v := nI 0) C dX11_count_1 (by decide) ?_
  refine J_putU (pc := 2) C dX11_count_2 p_X11_75 rfl (jlt rfl) rfl rfl (uM_err _) ?_
  try dsimp only
  refine J_aload_n (pc := 5) C dX11_count_5 rfl rfl ?_
  refine J_iload_n (pc := 6) C dX11_count_6 rfl rfl ?_
  refine J_i2l (pc := 7) C dX11_count_7 rfl ?_
  refine J_lconst (pc := 8) (v := 0) C dX11_count_8 (by decide) ?_
  refine J_ldc2 (pc := 9) C dX11_count_9 l_X11_284 ?_
  refine J_callS1 (pc := 12) C dX11_count_12 m_X11_89 (c_in l G _ _ _ _) ⟨jle rfl, jle rfl⟩ rfl rfl (jle rfl) ⟨Nat.zero_le _, Nat.zero_le _⟩ ?_
  try dsimp only
  rw [show (5 : Int64) = (nI 6 - nI 1).toInt64 by decide, inX_t (k := 1) (by decide) rfl (by decide)]
  refine J_if_ne (pc := 15) (tgt := 22) C dX11_count_15 (by decide) (fun h15 => ?_) (fun h15 => ?_)
  · refine J_iconst (pc := 22) (v := nI 0) C dX11_count_22 (by decide) ?_
    refine J_iconst (pc := 23) (v := nI 1) C dX11_count_23 (by decide) ?_
    refine J_callV1 (pc := 24) C dX11_count_24 m_X11_81 (c_fails_f l G _ _ _ _ _ _ _ _ _ _) ⟨jle rfl, jle rfl⟩ rfl rfl rfl rfl rfl (jle rfl) ⟨Nat.zero_le _, Nat.zero_le _⟩ ?_
    try dsimp only
    refine J_if_eqN (pc := 27) (tgt := 32) C dX11_count_27 (by decide) (by omega) (fun _ => ?_) (fun h27 => absurd h27 (by decide))
    refine J_iload_n (pc := 32) C dX11_count_32 rfl rfl ?_
    refine J_tabIn (pc := 33) (tgt := 84) C dX11_count_33 (by decide) (by decide) rfl (by decide) ?_
    refine J_aload_n (pc := 84) C dX11_count_84 rfl rfl ?_
    refine J_get (pc := 85) C dX11_count_85 f_X11_177 rfl rfl ?_
    try dsimp only
    refine J_if_eqN (pc := 88) (tgt := 98) C dX11_count_88 (by decide) (by omega) (fun h88 => ?_) (fun h88 => ?_)
    · refine J_iconst (pc := 98) (v := nI 0) C dX11_count_98 (by decide) ?_
      exact J_iret (pc := 99) C dX11_count_99 rfl (jo (by first | rw [if_pos h88] | rw [if_neg h88])) (Nat.zero_le _) (Nat.zero_le _)
    · refine J_aload_n (pc := 91) C dX11_count_91 rfl rfl ?_
      refine J_get (pc := 92) C dX11_count_92 f_X11_187 rfl rfl ?_
      try dsimp only
      refine J_goto (pc := 95) (tgt := 99) C dX11_count_95 (by decide) ?_
      exact J_iret (pc := 99) C dX11_count_99 rfl (jo (by first | rw [if_pos h88] | rw [if_neg h88])) (Nat.zero_le _) (Nat.zero_le _)
  · exact absurd h15 (by decide)
set_option maxHeartbeats 4000000 in
set_option maxRecDepth 100000 in
theorem c_count2 (l : Launch) (G : jG) (er : Nat) (F X : Nat × (Nat → Nat)) (K : Nat × Nat × Nat) (wr : Int32) (D : mD) (P : mP) (gv : Nat → Int64) (O : Nat × (Nat → Nat)) (T : jMem) (hd1 : D.2.2.2.1 ≤ 1) : jC l G yX11_count cX11_count 2 (some .int) 2 37 0 0 [.ref 1000, .int (nI 2)] (encM er F X K wr D P gv O T) (.inl (some (.int (nI (if D.2.2.2.1 = 0 then 0 else D.2.2.1))), encM 0 F X K wr D P gv O T)) := by
  refine jC.of (by decide) 0 rfl [some (.ref 1000), some (.int (nI 2))] rfl (fun p e s m args below meth c C hT9 hNm9 => ?_)
  refine J_aload_n (pc := 0) C dX11_count_0 rfl rfl ?_
  refine J_iconst (pc := 1) (v := nI 0) C dX11_count_1 (by decide) ?_
  refine J_putU (pc := 2) C dX11_count_2 p_X11_75 rfl (jlt rfl) rfl rfl (uM_err _) ?_
  try dsimp only
  refine J_aload_n (pc := 5) C dX11_count_5 rfl rfl ?_
  refine J_iload_n (pc := 6) C dX11_count_6 rfl rfl ?_
  refine J_i2l (pc := 7) C dX11_count_7 rfl ?_
  refine J_lconst (pc := 8) (v := 0) C dX11_count_8 (by decide) ?_
  refine J_ldc2 (pc := 9) C dX11_count_9 l_X11_284 ?_
  refine J_callS1 (pc := 12) C dX11_count_12 m_X11_89 (c_in l G _ _ _ _) ⟨jle rfl, jle rfl⟩ rfl rfl (jle rfl) ⟨Nat.zero_le _, Nat.zero_le _⟩ ?_
  try dsimp only
  rw [show (5 : Int64) = (nI 6 - nI 1).toInt64 by decide, inX_t (k := 2) (by decide) rfl (by decide)]
  refine J_if_ne (pc := 15) (tgt := 22) C dX11_count_15 (by decide) (fun h15 => ?_) (fun h15 => ?_)
  · refine J_iconst (pc := 22) (v := nI 0) C dX11_count_22 (by decide) ?_
    refine J_iconst (pc := 23) (v := nI 1) C dX11_count_23 (by decide) ?_
    refine J_callV1 (pc := 24) C dX11_count_24 m_X11_81 (c_fails_f l G _ _ _ _ _ _ _ _ _ _) ⟨jle rfl, jle rfl⟩ rfl rfl rfl rfl rfl (jle rfl) ⟨Nat.zero_le _, Nat.zero_le _⟩ ?_
    try dsimp only
    refine J_if_eqN (pc := 27) (tgt := 32) C dX11_count_27 (by decide) (by omega) (fun _ => ?_) (fun h27 => absurd h27 (by decide))
    refine J_iload_n (pc := 32) C dX11_count_32 rfl rfl ?_
    refine J_tabIn (pc := 33) (tgt := 100) C dX11_count_33 (by decide) (by decide) rfl (by decide) ?_
    refine J_aload_n (pc := 100) C dX11_count_100 rfl rfl ?_
    refine J_get (pc := 101) C dX11_count_101 f_X11_177 rfl rfl ?_
    try dsimp only
    refine J_if_eqN (pc := 104) (tgt := 114) C dX11_count_104 (by decide) (by omega) (fun h104 => ?_) (fun h104 => ?_)
    · refine J_iconst (pc := 114) (v := nI 0) C dX11_count_114 (by decide) ?_
      exact J_iret (pc := 115) C dX11_count_115 rfl (jo (by first | rw [if_pos h104] | rw [if_neg h104])) (Nat.zero_le _) (Nat.zero_le _)
    · refine J_aload_n (pc := 107) C dX11_count_107 rfl rfl ?_
      refine J_get (pc := 108) C dX11_count_108 f_X11_190 rfl rfl ?_
      try dsimp only
      refine J_goto (pc := 111) (tgt := 115) C dX11_count_111 (by decide) ?_
      exact J_iret (pc := 115) C dX11_count_115 rfl (jo (by first | rw [if_pos h104] | rw [if_neg h104])) (Nat.zero_le _) (Nat.zero_le _)
  · exact absurd h15 (by decide)
set_option maxHeartbeats 4000000 in
set_option maxRecDepth 100000 in
theorem c_count3 (l : Launch) (G : jG) (er : Nat) (F X : Nat × (Nat → Nat)) (K : Nat × Nat × Nat) (wr : Int32) (D : mD) (P : mP) (gv : Nat → Int64) (O : Nat × (Nat → Nat)) (T : jMem) (hd1 : D.2.2.2.1 ≤ 1) : jC l G yX11_count cX11_count 2 (some .int) 2 37 0 0 [.ref 1000, .int (nI 3)] (encM er F X K wr D P gv O T) (.inl (some (.int (nI (P.1))), encM 0 F X K wr D P gv O T)) := by
  refine jC.of (by decide) 0 rfl [some (.ref 1000), some (.int (nI 3))] rfl (fun p e s m args below meth c C hT9 hNm9 => ?_)
  refine J_aload_n (pc := 0) C dX11_count_0 rfl rfl ?_
  refine J_iconst (pc := 1) (v := nI 0) C dX11_count_1 (by decide) ?_
  refine J_putU (pc := 2) C dX11_count_2 p_X11_75 rfl (jlt rfl) rfl rfl (uM_err _) ?_
  try dsimp only
  refine J_aload_n (pc := 5) C dX11_count_5 rfl rfl ?_
  refine J_iload_n (pc := 6) C dX11_count_6 rfl rfl ?_
  refine J_i2l (pc := 7) C dX11_count_7 rfl ?_
  refine J_lconst (pc := 8) (v := 0) C dX11_count_8 (by decide) ?_
  refine J_ldc2 (pc := 9) C dX11_count_9 l_X11_284 ?_
  refine J_callS1 (pc := 12) C dX11_count_12 m_X11_89 (c_in l G _ _ _ _) ⟨jle rfl, jle rfl⟩ rfl rfl (jle rfl) ⟨Nat.zero_le _, Nat.zero_le _⟩ ?_
  try dsimp only
  rw [show (5 : Int64) = (nI 6 - nI 1).toInt64 by decide, inX_t (k := 3) (by decide) rfl (by decide)]
  refine J_if_ne (pc := 15) (tgt := 22) C dX11_count_15 (by decide) (fun h15 => ?_) (fun h15 => ?_)
  · refine J_iconst (pc := 22) (v := nI 0) C dX11_count_22 (by decide) ?_
    refine J_iconst (pc := 23) (v := nI 1) C dX11_count_23 (by decide) ?_
    refine J_callV1 (pc := 24) C dX11_count_24 m_X11_81 (c_fails_f l G _ _ _ _ _ _ _ _ _ _) ⟨jle rfl, jle rfl⟩ rfl rfl rfl rfl rfl (jle rfl) ⟨Nat.zero_le _, Nat.zero_le _⟩ ?_
    try dsimp only
    refine J_if_eqN (pc := 27) (tgt := 32) C dX11_count_27 (by decide) (by omega) (fun _ => ?_) (fun h27 => absurd h27 (by decide))
    refine J_iload_n (pc := 32) C dX11_count_32 rfl rfl ?_
    refine J_tabIn (pc := 33) (tgt := 116) C dX11_count_33 (by decide) (by decide) rfl (by decide) ?_
    refine J_aload_n (pc := 116) C dX11_count_116 rfl rfl ?_
    refine J_get (pc := 117) C dX11_count_117 f_X11_181 rfl rfl ?_
    try dsimp only
    exact J_iret (pc := 120) C dX11_count_120 rfl (rfl) (Nat.zero_le _) (Nat.zero_le _)
  · exact absurd h15 (by decide)
set_option maxHeartbeats 4000000 in
set_option maxRecDepth 100000 in
theorem c_count4 (l : Launch) (G : jG) (er : Nat) (F X : Nat × (Nat → Nat)) (K : Nat × Nat × Nat) (wr : Int32) (D : mD) (P : mP) (gv : Nat → Int64) (O : Nat × (Nat → Nat)) (T : jMem) (hd1 : D.2.2.2.1 ≤ 1) : jC l G yX11_count cX11_count 2 (some .int) 2 37 0 0 [.ref 1000, .int (nI 4)] (encM er F X K wr D P gv O T) (.inl (some (.int (nI (P.2.1))), encM 0 F X K wr D P gv O T)) := by
  refine jC.of (by decide) 0 rfl [some (.ref 1000), some (.int (nI 4))] rfl (fun p e s m args below meth c C hT9 hNm9 => ?_)
  refine J_aload_n (pc := 0) C dX11_count_0 rfl rfl ?_
  refine J_iconst (pc := 1) (v := nI 0) C dX11_count_1 (by decide) ?_
  refine J_putU (pc := 2) C dX11_count_2 p_X11_75 rfl (jlt rfl) rfl rfl (uM_err _) ?_
  try dsimp only
  refine J_aload_n (pc := 5) C dX11_count_5 rfl rfl ?_
  refine J_iload_n (pc := 6) C dX11_count_6 rfl rfl ?_
  refine J_i2l (pc := 7) C dX11_count_7 rfl ?_
  refine J_lconst (pc := 8) (v := 0) C dX11_count_8 (by decide) ?_
  refine J_ldc2 (pc := 9) C dX11_count_9 l_X11_284 ?_
  refine J_callS1 (pc := 12) C dX11_count_12 m_X11_89 (c_in l G _ _ _ _) ⟨jle rfl, jle rfl⟩ rfl rfl (jle rfl) ⟨Nat.zero_le _, Nat.zero_le _⟩ ?_
  try dsimp only
  rw [show (5 : Int64) = (nI 6 - nI 1).toInt64 by decide, inX_t (k := 4) (by decide) rfl (by decide)]
  refine J_if_ne (pc := 15) (tgt := 22) C dX11_count_15 (by decide) (fun h15 => ?_) (fun h15 => ?_)
  · refine J_iconst (pc := 22) (v := nI 0) C dX11_count_22 (by decide) ?_
    refine J_iconst (pc := 23) (v := nI 1) C dX11_count_23 (by decide) ?_
    refine J_callV1 (pc := 24) C dX11_count_24 m_X11_81 (c_fails_f l G _ _ _ _ _ _ _ _ _ _) ⟨jle rfl, jle rfl⟩ rfl rfl rfl rfl rfl (jle rfl) ⟨Nat.zero_le _, Nat.zero_le _⟩ ?_
    try dsimp only
    refine J_if_eqN (pc := 27) (tgt := 32) C dX11_count_27 (by decide) (by omega) (fun _ => ?_) (fun h27 => absurd h27 (by decide))
    refine J_iload_n (pc := 32) C dX11_count_32 rfl rfl ?_
    refine J_tabIn (pc := 33) (tgt := 121) C dX11_count_33 (by decide) (by decide) rfl (by decide) ?_
    refine J_aload_n (pc := 121) C dX11_count_121 rfl rfl ?_
    refine J_get (pc := 122) C dX11_count_122 f_X11_184 rfl rfl ?_
    try dsimp only
    exact J_iret (pc := 125) C dX11_count_125 rfl (rfl) (Nat.zero_le _) (Nat.zero_le _)
  · exact absurd h15 (by decide)
set_option maxHeartbeats 4000000 in
set_option maxRecDepth 100000 in
theorem c_count5 (l : Launch) (G : jG) (er : Nat) (F X : Nat × (Nat → Nat)) (K : Nat × Nat × Nat) (wr : Int32) (D : mD) (P : mP) (gv : Nat → Int64) (O : Nat × (Nat → Nat)) (T : jMem) (hd1 : D.2.2.2.1 ≤ 1) : jC l G yX11_count cX11_count 2 (some .int) 2 37 0 0 [.ref 1000, .int (nI 5)] (encM er F X K wr D P gv O T) (.inl (some (.int (nI (F.1))), encM 0 F X K wr D P gv O T)) := by
  refine jC.of (by decide) 0 rfl [some (.ref 1000), some (.int (nI 5))] rfl (fun p e s m args below meth c C hT9 hNm9 => ?_)
  refine J_aload_n (pc := 0) C dX11_count_0 rfl rfl ?_
  refine J_iconst (pc := 1) (v := nI 0) C dX11_count_1 (by decide) ?_
  refine J_putU (pc := 2) C dX11_count_2 p_X11_75 rfl (jlt rfl) rfl rfl (uM_err _) ?_
  try dsimp only
  refine J_aload_n (pc := 5) C dX11_count_5 rfl rfl ?_
  refine J_iload_n (pc := 6) C dX11_count_6 rfl rfl ?_
  refine J_i2l (pc := 7) C dX11_count_7 rfl ?_
  refine J_lconst (pc := 8) (v := 0) C dX11_count_8 (by decide) ?_
  refine J_ldc2 (pc := 9) C dX11_count_9 l_X11_284 ?_
  refine J_callS1 (pc := 12) C dX11_count_12 m_X11_89 (c_in l G _ _ _ _) ⟨jle rfl, jle rfl⟩ rfl rfl (jle rfl) ⟨Nat.zero_le _, Nat.zero_le _⟩ ?_
  try dsimp only
  rw [show (5 : Int64) = (nI 6 - nI 1).toInt64 by decide, inX_t (k := 5) (by decide) rfl (by decide)]
  refine J_if_ne (pc := 15) (tgt := 22) C dX11_count_15 (by decide) (fun h15 => ?_) (fun h15 => ?_)
  · refine J_iconst (pc := 22) (v := nI 0) C dX11_count_22 (by decide) ?_
    refine J_iconst (pc := 23) (v := nI 1) C dX11_count_23 (by decide) ?_
    refine J_callV1 (pc := 24) C dX11_count_24 m_X11_81 (c_fails_f l G _ _ _ _ _ _ _ _ _ _) ⟨jle rfl, jle rfl⟩ rfl rfl rfl rfl rfl (jle rfl) ⟨Nat.zero_le _, Nat.zero_le _⟩ ?_
    try dsimp only
    refine J_if_eqN (pc := 27) (tgt := 32) C dX11_count_27 (by decide) (by omega) (fun _ => ?_) (fun h27 => absurd h27 (by decide))
    refine J_iload_n (pc := 32) C dX11_count_32 rfl rfl ?_
    refine J_tabOut (pc := 33) (tgt := 126) C dX11_count_33 (by decide) (by decide) ?_
    refine J_aload_n (pc := 126) C dX11_count_126 rfl rfl ?_
    refine J_get (pc := 127) C dX11_count_127 f_X11_78 rfl rfl ?_
    try dsimp only
    exact J_iret (pc := 130) C dX11_count_130 rfl (rfl) (Nat.zero_le _) (Nat.zero_le _)
  · exact absurd h15 (by decide)
