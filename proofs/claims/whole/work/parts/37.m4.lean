set_option maxHeartbeats 4000000 in
set_option maxRecDepth 100000 in
theorem c_set (l : Launch) (G : jG) (er : Nat) (F X : Nat × (Nat → Nat)) (K : Nat × Nat × Nat) (D : mD) (P : mP) (gv : Nat → Int64) (O : Nat × (Nat → Nat)) (T : jMem) (hn : X.1 ≤ 4000) (hX : ∀ k, X.2 k < 256) (hG : tkG X K) (hD : dOK D) : jC l G yX11_set cX11_set 2 (some .boolean) 9 180 0 0 [.ref 1000] (encM er F X K (-1) D P gv O T) (.inl (some (.int (bI (setF X K D).1.isNone)), encM er F X (setF X K D).2.1 (wrI (setF X K D).1) (setF X K D).2.2 P gv O T)) := by
  refine jC.of (by decide) 1 rfl [some (.ref 1000), none] rfl (fun p e s m args below meth c C hT9 hNm9 => ?_)
  have b0 : K.2.1 ≤ K.2.2 ∧ K.2.2 ≤ X.1 ∧ K.1 ≤ 5 := ⟨hG.1.1, hG.1.2.1, hG.1.2.2.2.1⟩
  have k0 := hG.1
  have hD9 := hD
  obtain ⟨d1, d2, d3, d4, d5⟩ := hD
  refine J_aload_n (pc := 0) C dX11_set_0 rfl rfl ?_
  refine J_get (pc := 1) C dX11_set_1 f_X11_187 rfl rfl ?_
  try dsimp only
  refine J_bipush (pc := 4) (v := nI 12) C dX11_set_4 (by decide) ?_
  refine J_icmp_neN (pc := 6) (tgt := 18) C dX11_set_6 (by decide) (by omega) (by omega) (fun h6 => ?_) (fun h6 => ?_)
  · refine J_aload_n (pc := 18) C dX11_set_18 rfl rfl ?_
    refine J_callV0 (pc := 19) C dX11_set_19 m_X11_145 (c_next l G _ _ _ _ _ _ _ _ _ _ hn hX (by omega)) ⟨jle rfl, jle rfl⟩ rfl rfl rfl rfl rfl (jle rfl) ⟨Nat.zero_le _, Nat.zero_le _⟩ ?_
    try dsimp only
    obtain ⟨K1, e1⟩ : ∃ z, z = nextF X K.2.2 := ⟨_, rfl⟩
    rw [← e1]
    have g1 : tkG X K1 := by rw [e1]; exact nextF_g (by omega)
    have k1 := g1.1
    have b1 : K1.2.1 ≤ K1.2.2 ∧ K1.2.2 ≤ X.1 ∧ K1.1 ≤ 5 := ⟨g1.1.1, g1.1.2.1, g1.1.2.2.2.1⟩
    refine J_aload_n (pc := 22) C dX11_set_22 rfl rfl ?_
    refine J_callV1 (pc := 23) C dX11_set_23 m_X11_208 (c_isName l G _ _ _ _ _ _ _ _ _ _ hn hX (by first | assumption | exact (nextF_g (by omega)).1)) ⟨jle rfl, jle rfl⟩ rfl rfl rfl rfl rfl (jle rfl) ⟨Nat.zero_le _, Nat.zero_le _⟩ ?_
    try dsimp only
    refine J_if_eq (pc := 26) (tgt := 58) C dX11_set_26 (by decide) (fun h26 => ?_) (fun h26 => ?_)
    · refine J_aload_n (pc := 58) C dX11_set_58 rfl rfl ?_
      refine J_aload_n (pc := 59) C dX11_set_59 rfl rfl ?_
      refine J_get (pc := 60) C dX11_set_60 f_X11_113 rfl rfl ?_
      try dsimp only
      refine J_callV1 (pc := 63) C dX11_set_63 m_X11_142 (c_bad l G _ _ _ _ _ _ _ _ _ _ _) ⟨jle rfl, jle rfl⟩ rfl rfl rfl rfl rfl (jle rfl) ⟨Nat.zero_le _, Nat.zero_le _⟩ ?_
      try dsimp only
      exact J_zret (pc := 66) C dX11_set_66 rfl (by first | rfl | decide) (mR_f (by subst e1; rw [setF, if_neg h6, set1, if_neg (by intro z; first | exact absurd (bI_f h26) (by rw [z.1]; decide) | omega | (rw [lI_neg (by have := findF_lt (X := X) (K := nextF X K.2.2) (nm := D.2.2.2.2.1) (m := D.2.1) (j := 0); omega)] at h55; exact h55 z.2.2))])) (Nat.zero_le _) (Nat.zero_le _)
    · refine J_aload_n (pc := 29) C dX11_set_29 rfl rfl ?_
      refine J_get (pc := 30) C dX11_set_30 f_X11_110 rfl rfl ?_
      try dsimp only
      refine J_aload_n (pc := 33) C dX11_set_33 rfl rfl ?_
      refine J_get (pc := 34) C dX11_set_34 f_X11_113 rfl rfl ?_
      try dsimp only
      refine J_isubN (pc := 37) C dX11_set_37 (by omega) ?_
      refine J_bipush (pc := 38) (v := nI 10) C dX11_set_38 (by decide) ?_
      refine J_icmp_gtN (pc := 40) (tgt := 58) C dX11_set_40 (by decide) (by omega) (by omega) (fun h40 => ?_) (fun h40 => ?_)
      · refine J_aload_n (pc := 58) C dX11_set_58 rfl rfl ?_
        refine J_aload_n (pc := 59) C dX11_set_59 rfl rfl ?_
        refine J_get (pc := 60) C dX11_set_60 f_X11_113 rfl rfl ?_
        try dsimp only
        refine J_callV1 (pc := 63) C dX11_set_63 m_X11_142 (c_bad l G _ _ _ _ _ _ _ _ _ _ _) ⟨jle rfl, jle rfl⟩ rfl rfl rfl rfl rfl (jle rfl) ⟨Nat.zero_le _, Nat.zero_le _⟩ ?_
        try dsimp only
        exact J_zret (pc := 66) C dX11_set_66 rfl (by first | rfl | decide) (mR_f (by subst e1; rw [setF, if_neg h6, set1, if_neg (by intro z; first | exact absurd (bI_f h26) (by rw [z.1]; decide) | omega | (rw [lI_neg (by have := findF_lt (X := X) (K := nextF X K.2.2) (nm := D.2.2.2.2.1) (m := D.2.1) (j := 0); omega)] at h55; exact h55 z.2.2))])) (Nat.zero_le _) (Nat.zero_le _)
      · refine J_aload_n (pc := 43) C dX11_set_43 rfl rfl ?_
        refine J_aload_n (pc := 44) C dX11_set_44 rfl rfl ?_
        refine J_get (pc := 45) C dX11_set_45 f_X11_23 rfl rfl ?_
        refine J_aload_n (pc := 48) C dX11_set_48 rfl rfl ?_
        refine J_get (pc := 49) C dX11_set_49 f_X11_187 rfl rfl ?_
        try dsimp only
        refine J_callV1 (pc := 52) C dX11_set_52 m_X11_211 (c_find l G _ _ _ _ _ _ _ _ _ _ _ hn hX rfl (by decide) d3 k1 (by omega) (by omega)) ⟨jle rfl, jle rfl⟩ rfl rfl rfl rfl rfl (jle rfl) ⟨Nat.zero_le _, Nat.zero_le _⟩ ?_
        try dsimp only
        refine J_if_lt (pc := 55) (tgt := 67) C dX11_set_55 (by decide) (fun h55 => ?_) (fun h55 => ?_)
        · refine J_aload_n (pc := 67) C dX11_set_67 rfl rfl ?_
          refine J_aload_n (pc := 68) C dX11_set_68 rfl rfl ?_
          refine J_get (pc := 69) C dX11_set_69 f_X11_23 rfl rfl ?_
          refine J_aload_n (pc := 72) C dX11_set_72 rfl rfl ?_
          refine J_get (pc := 73) C dX11_set_73 f_X11_187 rfl rfl ?_
          try dsimp only
          refine J_callV0 (pc := 76) C dX11_set_76 m_X11_215 (c_keep l G _ _ _ _ _ (fun f => mdN D f) (fun _ => P) _ _ _ D.2.2.2.2.1 D.2.1 hn hX (fun _ => rfl) (fun f g => (uM_setName g).trans rfl) (by decide) k1 (by omega) (by omega)) ⟨jle rfl, jle rfl⟩ rfl rfl rfl rfl rfl (jle rfl) ⟨Nat.zero_le _, Nat.zero_le _⟩ ?_
          try dsimp only
          dsimp only [mdN]
          refine J_aload_n (pc := 79) C dX11_set_79 rfl rfl ?_
          refine J_callV0 (pc := 80) C dX11_set_80 m_X11_145 (c_next l G _ _ _ _ _ _ _ _ _ _ hn hX (by omega)) ⟨jle rfl, jle rfl⟩ rfl rfl rfl rfl rfl (jle rfl) ⟨Nat.zero_le _, Nat.zero_le _⟩ ?_
          try dsimp only
          obtain ⟨K2, e2⟩ : ∃ z, z = nextF X K1.2.2 := ⟨_, rfl⟩
          rw [← e2]
          have g2 : tkG X K2 := by rw [e2]; exact nextF_g (by omega)
          have k2 := g2.1
          have b2 : K2.2.1 ≤ K2.2.2 ∧ K2.2.2 ≤ X.1 ∧ K2.1 ≤ 5 := ⟨g2.1.1, g2.1.2.1, g2.1.2.2.2.1⟩
          refine J_aload_n (pc := 83) C dX11_set_83 rfl rfl ?_
          by_cases q84 : K2.1 = 2 ∧ K2.2.2 - K2.2.1 ≤ 4
          · refine J_callV1 (pc := 84) C dX11_set_84 m_X11_198 (c_small_t l G _ _ _ _ _ _ _ _ _ _ hn hX g2.1 (g2.2 q84.1) q84.1 q84.2) ⟨jle rfl, jle rfl⟩ rfl rfl rfl rfl rfl (jle rfl) ⟨Nat.zero_le _, Nat.zero_le _⟩ ?_
            try dsimp only
            have v9 := small_lt (g2.2 q84.1) q84.2
            refine J_istore_n (pc := 87) C dX11_set_87 rfl (by decide) rfl ?_
            dsimp only [List.set]
            refine J_aload_n (pc := 88) C dX11_set_88 rfl rfl ?_
            refine J_get (pc := 89) C dX11_set_89 f_X11_7 rfl rfl ?_
            try dsimp only
            refine J_if_lt (pc := 92) (tgt := 97) C dX11_set_92 (by decide) (fun h92 => ?_) (fun h92 => ?_)
            · refine J_iload_n (pc := 97) C dX11_set_97 rfl rfl ?_
              refine J_i2l (pc := 98) C dX11_set_98 (nI_l (by omega)) ?_
              refine J_lconst (pc := 99) (v := 1) C dX11_set_99 (by decide) ?_
              refine J_ldc2 (pc := 100) C dX11_set_100 l_X11_219 ?_
              refine J_callS1 (pc := 103) C dX11_set_103 m_X11_89 (c_in l G _ _ _ _) ⟨jle rfl, jle rfl⟩ rfl rfl (jle rfl) ⟨Nat.zero_le _, Nat.zero_le _⟩ ?_
              try dsimp only
              rw [lN_1', lN_6', jin2_N (by omega) (by decide) (by decide)]
              refine J_if_ne (pc := 106) (tgt := 118) C dX11_set_106 (by decide) (fun h106 => ?_) (fun h106 => ?_)
              · refine J_aload_n (pc := 118) C dX11_set_118 rfl rfl ?_
                refine J_get (pc := 119) C dX11_set_119 f_X11_26 rfl rfl ?_
                refine J_aload_n (pc := 122) C dX11_set_122 rfl rfl ?_
                refine J_dup (pc := 123) C dX11_set_123 rfl ?_
                refine J_get (pc := 124) C dX11_set_124 f_X11_187 rfl rfl ?_
                try dsimp only
                refine J_dup_x1 (pc := 127) C dX11_set_127 rfl rfl ?_
                refine J_iconst (pc := 128) (v := nI 1) C dX11_set_128 (by decide) ?_
                refine J_iaddN (pc := 129) C dX11_set_129 ?_
                refine J_putU (pc := 130) C dX11_set_130 p_X11_187 rfl (jlt rfl) rfl rfl (uM_sets _) ?_
                try dsimp only
                refine J_iload_n (pc := 133) C dX11_set_133 rfl rfl ?_
                refine J_iastN (pc := 134) C dX11_set_134 rfl (by omega) (by decide) (uM_setBits _) ?_
                refine J_aload_n (pc := 135) C dX11_set_135 rfl rfl ?_
                refine J_callV0 (pc := 136) C dX11_set_136 m_X11_145 (c_next l G _ _ _ _ _ _ _ _ _ _ hn hX (by omega)) ⟨jle rfl, jle rfl⟩ rfl rfl rfl rfl rfl (jle rfl) ⟨Nat.zero_le _, Nat.zero_le _⟩ ?_
                try dsimp only
                obtain ⟨K3, e3⟩ : ∃ z, z = nextF X K2.2.2 := ⟨_, rfl⟩
                rw [← e3]
                have g3 : tkG X K3 := by rw [e3]; exact nextF_g (by omega)
                have k3 := g3.1
                have b3 : K3.2.1 ≤ K3.2.2 ∧ K3.2.2 ≤ X.1 ∧ K3.1 ≤ 5 := ⟨g3.1.1, g3.1.2.1, g3.1.2.2.2.1⟩
                refine J_aload_n (pc := 139) C dX11_set_139 rfl rfl ?_
                refine J_bipush (pc := 140) (v := nI 59) C dX11_set_140 (by decide) ?_
                by_cases q142 : isSignF X K3 59 = true
                · refine J_callV1 (pc := 142) C dX11_set_142 m_X11_201 (c_sign_t l G _ _ _ _ _ _ _ _ _ _ _ hn hX k3 (by decide) q142) ⟨jle rfl, jle rfl⟩ rfl rfl rfl rfl rfl (jle rfl) ⟨Nat.zero_le _, Nat.zero_le _⟩ ?_
                  try dsimp only
                  exact J_zret (pc := 145) C dX11_set_145 rfl (by first | rfl | decide) (by first | exact mR_t (by have h8 := bI_t h106; simp at h8; subst e3; subst e2; subst e1; rw [setF, if_neg h6, set1, if_pos ⟨bI_t h26, h40, (lI_neg (by have := findF_lt (X := X) (K := nextF X K.2.2) (nm := D.2.2.2.2.1) (m := D.2.1) (j := 0); omega)).mp h55⟩, set2, if_pos q84, if_pos (by omega), set3, if_pos q142]; try rfl) | exact mR_f (by have h8 := bI_t h106; simp at h8; subst e3; subst e2; subst e1; rw [setF, if_neg h6, set1, if_pos ⟨bI_t h26, h40, (lI_neg (by have := findF_lt (X := X) (K := nextF X K.2.2) (nm := D.2.2.2.2.1) (m := D.2.1) (j := 0); omega)).mp h55⟩, set2, if_pos q84, if_pos (by omega), set3, if_neg q142]; try rfl)) (Nat.zero_le _) (Nat.zero_le _)
                · refine J_callV1 (pc := 142) C dX11_set_142 m_X11_201 (c_sign_f l G _ _ _ _ _ _ _ _ _ _ _ hn hX k3 (by decide) q142) ⟨jle rfl, jle rfl⟩ rfl rfl rfl rfl rfl (jle rfl) ⟨Nat.zero_le _, Nat.zero_le _⟩ ?_
                  try dsimp only
                  exact J_zret (pc := 145) C dX11_set_145 rfl (by first | rfl | decide) (by first | exact mR_t (by have h8 := bI_t h106; simp at h8; subst e3; subst e2; subst e1; rw [setF, if_neg h6, set1, if_pos ⟨bI_t h26, h40, (lI_neg (by have := findF_lt (X := X) (K := nextF X K.2.2) (nm := D.2.2.2.2.1) (m := D.2.1) (j := 0); omega)).mp h55⟩, set2, if_pos q84, if_pos (by omega), set3, if_pos q142]; try rfl) | exact mR_f (by have h8 := bI_t h106; simp at h8; subst e3; subst e2; subst e1; rw [setF, if_neg h6, set1, if_pos ⟨bI_t h26, h40, (lI_neg (by have := findF_lt (X := X) (K := nextF X K.2.2) (nm := D.2.2.2.2.1) (m := D.2.1) (j := 0); omega)).mp h55⟩, set2, if_pos q84, if_pos (by omega), set3, if_neg q142]; try rfl)) (Nat.zero_le _) (Nat.zero_le _)
              · refine J_aload_n (pc := 109) C dX11_set_109 rfl rfl ?_
                refine J_aload_n (pc := 110) C dX11_set_110 rfl rfl ?_
                refine J_get (pc := 111) C dX11_set_111 f_X11_113 rfl rfl ?_
                try dsimp only
                refine J_callV1 (pc := 114) C dX11_set_114 m_X11_142 (c_bad l G _ _ _ _ _ _ _ _ _ _ _) ⟨jle rfl, jle rfl⟩ rfl rfl rfl rfl rfl (jle rfl) ⟨Nat.zero_le _, Nat.zero_le _⟩ ?_
                try dsimp only
                exact J_zret (pc := 117) C dX11_set_117 rfl (by first | rfl | decide) (mR_f (by have h8 := bI_f h106; simp at h8; subst e2; subst e1; rw [setF, if_neg h6, set1, if_pos ⟨bI_t h26, h40, (lI_neg (by have := findF_lt (X := X) (K := nextF X K.2.2) (nm := D.2.2.2.2.1) (m := D.2.1) (j := 0); omega)).mp h55⟩, set2, if_pos q84, if_neg (by omega)]; try rfl)) (Nat.zero_le _) (Nat.zero_le _)
            · exact absurd (by decide) h92
          · refine J_callV1 (pc := 84) C dX11_set_84 m_X11_198 (c_small_f l G _ _ _ _ _ _ _ _ _ _ hn hX g2.1 q84) ⟨jle rfl, jle rfl⟩ rfl rfl rfl rfl rfl (jle rfl) ⟨Nat.zero_le _, Nat.zero_le _⟩ ?_
            try dsimp only
            rw [badW_1]
            refine J_istore_n (pc := 87) C dX11_set_87 rfl (by decide) rfl ?_
            dsimp only [List.set]
            refine J_aload_n (pc := 88) C dX11_set_88 rfl rfl ?_
            refine J_get (pc := 89) C dX11_set_89 f_X11_7 rfl rfl ?_
            try dsimp only
            refine J_if_lt (pc := 92) (tgt := 97) C dX11_set_92 (by decide) (fun h92 => ?_) (fun h92 => ?_)
            · exact absurd h92 (nI_pos (by omega))
            · refine J_iconst (pc := 95) (v := nI 0) C dX11_set_95 (by decide) ?_
              exact J_zret (pc := 96) C dX11_set_96 rfl (by first | rfl | decide) (by rw [← badW_1]; exact mR_f (by subst e2; subst e1; rw [setF, if_neg h6, set1, if_pos ⟨bI_t h26, h40, (lI_neg (by have := findF_lt (X := X) (K := nextF X K.2.2) (nm := D.2.2.2.2.1) (m := D.2.1) (j := 0); omega)).mp h55⟩, set2, if_neg q84]; try rfl)) (Nat.zero_le _) (Nat.zero_le _)
        · refine J_aload_n (pc := 58) C dX11_set_58 rfl rfl ?_
          refine J_aload_n (pc := 59) C dX11_set_59 rfl rfl ?_
          refine J_get (pc := 60) C dX11_set_60 f_X11_113 rfl rfl ?_
          try dsimp only
          refine J_callV1 (pc := 63) C dX11_set_63 m_X11_142 (c_bad l G _ _ _ _ _ _ _ _ _ _ _) ⟨jle rfl, jle rfl⟩ rfl rfl rfl rfl rfl (jle rfl) ⟨Nat.zero_le _, Nat.zero_le _⟩ ?_
          try dsimp only
          exact J_zret (pc := 66) C dX11_set_66 rfl (by first | rfl | decide) (mR_f (by subst e1; rw [setF, if_neg h6, set1, if_neg (by intro z; first | exact absurd (bI_f h26) (by rw [z.1]; decide) | omega | (rw [lI_neg (by have := findF_lt (X := X) (K := nextF X K.2.2) (nm := D.2.2.2.2.1) (m := D.2.1) (j := 0); omega)] at h55; exact h55 z.2.2))])) (Nat.zero_le _) (Nat.zero_le _)
  · refine J_aload_n (pc := 9) C dX11_set_9 rfl rfl ?_
    refine J_aload_n (pc := 10) C dX11_set_10 rfl rfl ?_
    refine J_get (pc := 11) C dX11_set_11 f_X11_113 rfl rfl ?_
    try dsimp only
    refine J_callV1 (pc := 14) C dX11_set_14 m_X11_142 (c_bad l G _ _ _ _ _ _ _ _ _ _ _) ⟨jle rfl, jle rfl⟩ rfl rfl rfl rfl rfl (jle rfl) ⟨Nat.zero_le _, Nat.zero_le _⟩ ?_
    try dsimp only
    exact J_zret (pc := 17) C dX11_set_17 rfl (by first | rfl | decide) (mR_f (by rw [setF, if_pos h6])) (Nat.zero_le _) (Nat.zero_le _)
