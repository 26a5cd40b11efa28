set_option maxHeartbeats 4000000 in
set_option maxRecDepth 100000 in
theorem l_ds (l : Launch) (G : jG) {p : Program} {e : Env} {s : State} {m : MethodId} {args : Array Value} {below : List Frame} {meth : Method} {c : Code} (er : Nat) (F X : Nat × (Nat → Nat)) (K : Nat × Nat × Nat) (D : mD) (P : mP) (gv : Nat → Int64) (O : Nat × (Nat → Nat)) (T : jMem) (f : Nat) (v1 : Option Value) (C : jX0 p l (jR 11 234 0 0) s m args meth c G cX11_description 2 RX11 (some .boolean)) (hn : X.1 ≤ 4000) (hX : ∀ k, X.2 k < 256) (hG : tkG X K) (hD : dG D) (hf : X.1 - K.2.1 < f) : J p l e (jR 11 234 0 0) s m args below meth c G 2 0 0 (.inl (some (.int (bI (dsL X f K D).1.isNone)), encM er F X (dsL X f K D).2.1 (wrI (dsL X f K D).1) (dsL X f K D).2.2 P gv O T)) 97 [some (.ref 1000), v1] [] (encM er F X K (-1) D P gv O T) 0 0 := by
  induction f generalizing K D with
  | zero => omega
  | succ f ih =>
    have k0 := hG.1
    have b0 : K.2.1 ≤ K.2.2 ∧ K.2.2 ≤ X.1 ∧ K.1 ≤ 5 := ⟨hG.1.1, hG.1.2.1, hG.1.2.2.2.1⟩
    have g1 := setF_G hX hG hD rfl
    have c1 := c_set l G er F X K D P gv O T hn hX hG hD.1
    have g2 := opF_G hX hG hD rfl
    have c2 := c_op l G er F X K D P gv O T hn hX hG hD
    have l1 := g1.1.le
    have l2 := g2.1.le
    rw [dsL]
    refine J_aload_n (pc := 97) C dX11_description_97 rfl rfl ?_
    refine J_get (pc := 98) C dX11_description_98 f_X11_120 rfl rfl ?_
    try dsimp only
    refine J_if_eqN (pc := 101) (tgt := 165) C dX11_description_101 (by decide) (by omega) (fun h101 => ?_) (fun h101 => ?_)
    · refine J_iconst (pc := 165) (v := nI 1) C dX11_description_165 (by decide) ?_
      exact J_zret (pc := 166) C dX11_description_166 rfl (by first | rfl | decide) (mR_t (if_pos h101)) (Nat.zero_le _) (Nat.zero_le _)
    · refine J_aload_n (pc := 104) C dX11_description_104 rfl rfl ?_
      refine J_get (pc := 105) C dX11_description_105 f_X11_120 rfl rfl ?_
      try dsimp only
      refine J_iconst (pc := 108) (v := nI 1) C dX11_description_108 (by decide) ?_
      refine J_icmp_neN (pc := 109) (tgt := 130) C dX11_description_109 (by decide) (by omega) (by omega) (fun h109 => ?_) (fun h109 => ?_)
      · have nset : ¬ (K.1 = 1 ∧ isW X K [115, 101, 116] = true) := by intro z; first | exact h109 z.1 | exact absurd (bI_f h118) (by rw [z.2]; decide)
        refine J_aload_n (pc := 130) C dX11_description_130 rfl rfl ?_
        refine J_get (pc := 131) C dX11_description_131 f_X11_120 rfl rfl ?_
        try dsimp only
        refine J_iconst (pc := 134) (v := nI 1) C dX11_description_134 (by decide) ?_
        refine J_icmp_neN (pc := 135) (tgt := 156) C dX11_description_135 (by decide) (by omega) (by omega) (fun h135 => ?_) (fun h135 => ?_)
        · refine J_aload_n (pc := 156) C dX11_description_156 rfl rfl ?_
          refine J_aload_n (pc := 157) C dX11_description_157 rfl rfl ?_
          refine J_get (pc := 158) C dX11_description_158 f_X11_113 rfl rfl ?_
          try dsimp only
          refine J_callV1 (pc := 161) C dX11_description_161 m_X11_142 (c_bad l G _ _ _ _ _ _ _ _ _ _ _) ⟨jle rfl, jle rfl⟩ rfl rfl rfl rfl rfl (jle rfl) ⟨Nat.zero_le _, Nat.zero_le _⟩ ?_
          try dsimp only
          exact J_zret (pc := 164) C dX11_description_164 rfl (by first | rfl | decide) (mR_f (by rw [if_neg h101, if_neg nset, if_neg (by intro z; first | exact h135 z.1 | exact absurd (bI_f h144) (by rw [z.2]; decide))])) (Nat.zero_le _) (Nat.zero_le _)
        · refine J_aload_n (pc := 138) C dX11_description_138 rfl rfl ?_
          refine J_ldcS (pc := 139) (i := 22) C dX11_description_139 rfl ?_
          refine J_callV1 (pc := 141) C dX11_description_141 m_X11_150 (c_is l G _ _ _ _ _ _ _ _ _ _ hn hX rfl (by first | assumption | exact (nextF_g (by omega)).1)) ⟨jle rfl, jle rfl⟩ rfl rfl rfl rfl rfl (jle rfl) ⟨Nat.zero_le _, Nat.zero_le _⟩ ?_
          try dsimp only
          refine J_if_eq (pc := 144) (tgt := 156) C dX11_description_144 (by decide) (fun h144 => ?_) (fun h144 => ?_)
          · refine J_aload_n (pc := 156) C dX11_description_156 rfl rfl ?_
            refine J_aload_n (pc := 157) C dX11_description_157 rfl rfl ?_
            refine J_get (pc := 158) C dX11_description_158 f_X11_113 rfl rfl ?_
            try dsimp only
            refine J_callV1 (pc := 161) C dX11_description_161 m_X11_142 (c_bad l G _ _ _ _ _ _ _ _ _ _ _) ⟨jle rfl, jle rfl⟩ rfl rfl rfl rfl rfl (jle rfl) ⟨Nat.zero_le _, Nat.zero_le _⟩ ?_
            try dsimp only
            exact J_zret (pc := 164) C dX11_description_164 rfl (by first | rfl | decide) (mR_f (by rw [if_neg h101, if_neg nset, if_neg (by intro z; first | exact h135 z.1 | exact absurd (bI_f h144) (by rw [z.2]; decide))])) (Nat.zero_le _) (Nat.zero_le _)
          · refine J_aload_n (pc := 147) C dX11_description_147 rfl rfl ?_
            refine J_callV1 (pc := 148) C dX11_description_148 m_X11_206 (c2) ⟨jle rfl, jle rfl⟩ rfl rfl rfl rfl rfl (jle rfl) ⟨Nat.zero_le _, Nat.zero_le _⟩ ?_
            try dsimp only
            refine J_if_ne (pc := 151) (tgt := 97) C dX11_description_151 (by decide) (fun h151 => ?_) (fun h151 => ?_)
            · first
                | (rw [if_neg h101, if_pos ⟨h109, bI_t h118⟩, show mB (setF X K D) (dsL X f) = dsL X f (setF X K D).2.1 (setF X K D).2.2 from if_pos (isN_t h125), isN_t h125]
                   exact ih (K := (setF X K D).2.1) (D := (setF X K D).2.2) g1.1.1 g1.1.2.2.1 (by have := g1.2 (isN_t h125) h101; omega))
                | (rw [if_neg h101, if_neg nset, if_pos ⟨h135, bI_t h144⟩, show mB (opF X K D) (dsL X f) = dsL X f (opF X K D).2.1 (opF X K D).2.2 from if_pos (isN_t h151), isN_t h151]
                   exact ih (K := (opF X K D).2.1) (D := (opF X K D).2.2) g2.1.1 g2.1.2.2.1 (by have := g2.2 (isN_t h151) h101; omega))
            · refine J_iconst (pc := 154) (v := nI 0) C dX11_description_154 (by decide) ?_
              exact J_zret (pc := 155) C dX11_description_155 rfl (by first | rfl | decide) (mR_e (by rw [if_neg h101, if_neg nset, if_pos ⟨h135, bI_t h144⟩, mB_e (isN_f h151)]) (isN_f h151)) (Nat.zero_le _) (Nat.zero_le _)
      · refine J_aload_n (pc := 112) C dX11_description_112 rfl rfl ?_
        refine J_ldcS (pc := 113) (i := 21) C dX11_description_113 rfl ?_
        refine J_callV1 (pc := 115) C dX11_description_115 m_X11_150 (c_is l G _ _ _ _ _ _ _ _ _ _ hn hX rfl (by first | assumption | exact (nextF_g (by omega)).1)) ⟨jle rfl, jle rfl⟩ rfl rfl rfl rfl rfl (jle rfl) ⟨Nat.zero_le _, Nat.zero_le _⟩ ?_
        try dsimp only
        refine J_if_eq (pc := 118) (tgt := 130) C dX11_description_118 (by decide) (fun h118 => ?_) (fun h118 => ?_)
        · have nset : ¬ (K.1 = 1 ∧ isW X K [115, 101, 116] = true) := by intro z; first | exact h109 z.1 | exact absurd (bI_f h118) (by rw [z.2]; decide)
          refine J_aload_n (pc := 130) C dX11_description_130 rfl rfl ?_
          refine J_get (pc := 131) C dX11_description_131 f_X11_120 rfl rfl ?_
          try dsimp only
          refine J_iconst (pc := 134) (v := nI 1) C dX11_description_134 (by decide) ?_
          refine J_icmp_neN (pc := 135) (tgt := 156) C dX11_description_135 (by decide) (by omega) (by omega) (fun h135 => ?_) (fun h135 => ?_)
          · refine J_aload_n (pc := 156) C dX11_description_156 rfl rfl ?_
            refine J_aload_n (pc := 157) C dX11_description_157 rfl rfl ?_
            refine J_get (pc := 158) C dX11_description_158 f_X11_113 rfl rfl ?_
            try dsimp only
            refine J_callV1 (pc := 161) C dX11_description_161 m_X11_142 (c_bad l G _ _ _ _ _ _ _ _ _ _ _) ⟨jle rfl, jle rfl⟩ rfl rfl rfl rfl rfl (jle rfl) ⟨Nat.zero_le _, Nat.zero_le _⟩ ?_
            try dsimp only
            exact J_zret (pc := 164) C dX11_description_164 rfl (by first | rfl | decide) (mR_f (by rw [if_neg h101, if_neg nset, if_neg (by intro z; first | exact h135 z.1 | exact absurd (bI_f h144) (by rw [z.2]; decide))])) (Nat.zero_le _) (Nat.zero_le _)
          · refine J_aload_n (pc := 138) C dX11_description_138 rfl rfl ?_
            refine J_ldcS (pc := 139) (i := 22) C dX11_description_139 rfl ?_
            refine J_callV1 (pc := 141) C dX11_description_141 m_X11_150 (c_is l G _ _ _ _ _ _ _ _ _ _ hn hX rfl (by first | assumption | exact (nextF_g (by omega)).1)) ⟨jle rfl, jle rfl⟩ rfl rfl rfl rfl rfl (jle rfl) ⟨Nat.zero_le _, Nat.zero_le _⟩ ?_
            try dsimp only
            refine J_if_eq (pc := 144) (tgt := 156) C dX11_description_144 (by decide) (fun h144 => ?_) (fun h144 => ?_)
            · refine J_aload_n (pc := 156) C dX11_description_156 rfl rfl ?_
              refine J_aload_n (pc := 157) C dX11_description_157 rfl rfl ?_
              refine J_get (pc := 158) C dX11_description_158 f_X11_113 rfl rfl ?_
              try dsimp only
              refine J_callV1 (pc := 161) C dX11_description_161 m_X11_142 (c_bad l G _ _ _ _ _ _ _ _ _ _ _) ⟨jle rfl, jle rfl⟩ rfl rfl rfl rfl rfl (jle rfl) ⟨Nat.zero_le _, Nat.zero_le _⟩ ?_
              try dsimp only
              exact J_zret (pc := 164) C dX11_description_164 rfl (by first | rfl | decide) (mR_f (by rw [if_neg h101, if_neg nset, if_neg (by intro z; first | exact h135 z.1 | exact absurd (bI_f h144) (by rw [z.2]; decide))])) (Nat.zero_le _) (Nat.zero_le _)
            · refine J_aload_n (pc := 147) C dX11_description_147 rfl rfl ?_
              refine J_callV1 (pc := 148) C dX11_description_148 m_X11_206 (c2) ⟨jle rfl, jle rfl⟩ rfl rfl rfl rfl rfl (jle rfl) ⟨Nat.zero_le _, Nat.zero_le _⟩ ?_
              try dsimp only
              refine J_if_ne (pc := 151) (tgt := 97) C dX11_description_151 (by decide) (fun h151 => ?_) (fun h151 => ?_)
              · first
                  | (rw [if_neg h101, if_pos ⟨h109, bI_t h118⟩, show mB (setF X K D) (dsL X f) = dsL X f (setF X K D).2.1 (setF X K D).2.2 from if_pos (isN_t h125), isN_t h125]
                     exact ih (K := (setF X K D).2.1) (D := (setF X K D).2.2) g1.1.1 g1.1.2.2.1 (by have := g1.2 (isN_t h125) h101; omega))
                  | (rw [if_neg h101, if_neg nset, if_pos ⟨h135, bI_t h144⟩, show mB (opF X K D) (dsL X f) = dsL X f (opF X K D).2.1 (opF X K D).2.2 from if_pos (isN_t h151), isN_t h151]
                     exact ih (K := (opF X K D).2.1) (D := (opF X K D).2.2) g2.1.1 g2.1.2.2.1 (by have := g2.2 (isN_t h151) h101; omega))
              · refine J_iconst (pc := 154) (v := nI 0) C dX11_description_154 (by decide) ?_
                exact J_zret (pc := 155) C dX11_description_155 rfl (by first | rfl | decide) (mR_e (by rw [if_neg h101, if_neg nset, if_pos ⟨h135, bI_t h144⟩, mB_e (isN_f h151)]) (isN_f h151)) (Nat.zero_le _) (Nat.zero_le _)
        · refine J_aload_n (pc := 121) C dX11_description_121 rfl rfl ?_
          refine J_callV1 (pc := 122) C dX11_description_122 m_X11_204 (c1) ⟨jle rfl, jle rfl⟩ rfl rfl rfl rfl rfl (jle rfl) ⟨Nat.zero_le _, Nat.zero_le _⟩ ?_
          try dsimp only
          refine J_if_ne (pc := 125) (tgt := 97) C dX11_description_125 (by decide) (fun h125 => ?_) (fun h125 => ?_)
          · first
              | (rw [if_neg h101, if_pos ⟨h109, bI_t h118⟩, show mB (setF X K D) (dsL X f) = dsL X f (setF X K D).2.1 (setF X K D).2.2 from if_pos (isN_t h125), isN_t h125]
                 exact ih (K := (setF X K D).2.1) (D := (setF X K D).2.2) g1.1.1 g1.1.2.2.1 (by have := g1.2 (isN_t h125) h101; omega))
              | (rw [if_neg h101, if_neg nset, if_pos ⟨h135, bI_t h144⟩, show mB (opF X K D) (dsL X f) = dsL X f (opF X K D).2.1 (opF X K D).2.2 from if_pos (isN_t h151), isN_t h151]
                 exact ih (K := (opF X K D).2.1) (D := (opF X K D).2.2) g2.1.1 g2.1.2.2.1 (by have := g2.2 (isN_t h151) h101; omega))
          · refine J_iconst (pc := 128) (v := nI 0) C dX11_description_128 (by decide) ?_
            exact J_zret (pc := 129) C dX11_description_129 rfl (by first | rfl | decide) (mR_e (by rw [if_neg h101, if_pos ⟨h109, bI_t h118⟩, mB_e (isN_f h125)]) (isN_f h125)) (Nat.zero_le _) (Nat.zero_le _)
set_option maxHeartbeats 4000000 in
set_option maxRecDepth 100000 in
theorem c_description (l : Launch) (G : jG) (er : Nat) (F X : Nat × (Nat → Nat)) (K : Nat × Nat × Nat) (D : mD) (P : mP) (gv : Nat → Int64) (O : Nat × (Nat → Nat)) (T : jMem) (hn : X.1 ≤ 4000) (hX : ∀ k, X.2 k < 256) (hG : tkG X K) (hD : dG D) : jC l G yX11_description cX11_description 2 (some .boolean) 11 234 0 0 [.ref 1000] (encM er F X K (-1) D P gv O T) (.inl (some (.int (bI (dsF X K D).1.isNone)), encM er F X (dsF X K D).2.1 (wrI (dsF X K D).1) (dsF X K D).2.2 P gv O T)) := by
  refine jC.of (by decide) 1 rfl [some (.ref 1000), none] rfl (fun p e s m args below meth c C hT9 hNm9 => ?_)
  have b0 : K.2.1 ≤ K.2.2 ∧ K.2.2 ≤ X.1 ∧ K.1 ≤ 5 := ⟨hG.1.1, hG.1.2.1, hG.1.2.2.2.1⟩
  have k0 := hG.1
  refine J_aload_n (pc := 0) C dX11_description_0 rfl rfl ?_
  refine J_ldcS (pc := 1) (i := 20) C dX11_description_1 rfl ?_
  refine J_callV1 (pc := 3) C dX11_description_3 m_X11_150 (c_is l G _ _ _ _ _ _ _ _ _ _ hn hX rfl (by first | assumption | exact (nextF_g (by omega)).1)) ⟨jle rfl, jle rfl⟩ rfl rfl rfl rfl rfl (jle rfl) ⟨Nat.zero_le _, Nat.zero_le _⟩ ?_
  try dsimp only
  refine J_if_eq (pc := 6) (tgt := 17) C dX11_description_6 (by decide) (fun h6 => ?_) (fun h6 => ?_)
  · refine J_aload_n (pc := 17) C dX11_description_17 rfl rfl ?_
    refine J_aload_n (pc := 18) C dX11_description_18 rfl rfl ?_
    refine J_get (pc := 19) C dX11_description_19 f_X11_113 rfl rfl ?_
    try dsimp only
    refine J_callV1 (pc := 22) C dX11_description_22 m_X11_142 (c_bad l G _ _ _ _ _ _ _ _ _ _ _) ⟨jle rfl, jle rfl⟩ rfl rfl rfl rfl rfl (jle rfl) ⟨Nat.zero_le _, Nat.zero_le _⟩ ?_
    try dsimp only
    exact J_zret (pc := 25) C dX11_description_25 rfl (by first | rfl | decide) (mR_f (by rw [dsF, if_neg (by intro z; first | exact absurd (bI_f h6) (by rw [z.1]; decide) | exact h14 z.2)])) (Nat.zero_le _) (Nat.zero_le _)
  · refine J_aload_n (pc := 9) C dX11_description_9 rfl rfl ?_
    refine J_get (pc := 10) C dX11_description_10 f_X11_120 rfl rfl ?_
    try dsimp only
    refine J_iconst (pc := 13) (v := nI 1) C dX11_description_13 (by decide) ?_
    refine J_icmp_eqN (pc := 14) (tgt := 26) C dX11_description_14 (by decide) (by omega) (by omega) (fun h14 => ?_) (fun h14 => ?_)
    · refine J_aload_n (pc := 26) C dX11_description_26 rfl rfl ?_
      refine J_callV0 (pc := 27) C dX11_description_27 m_X11_145 (c_next l G _ _ _ _ _ _ _ _ _ _ hn hX (by omega)) ⟨jle rfl, jle rfl⟩ rfl rfl rfl rfl rfl (jle rfl) ⟨Nat.zero_le _, Nat.zero_le _⟩ ?_
      try dsimp only
      obtain ⟨K1, e1⟩ : ∃ z, z = nextF X K.2.2 := ⟨_, rfl⟩
      rw [← e1]
      have g1 : tkG X K1 := by rw [e1]; exact nextF_g (by omega)
      have k1 := g1.1
      have b1 : K1.2.1 ≤ K1.2.2 ∧ K1.2.2 ≤ X.1 ∧ K1.1 ≤ 5 := ⟨g1.1.1, g1.1.2.1, g1.1.2.2.2.1⟩
      have r1 : dsF X K D = ds2 X K1 D := by rw [dsF, if_pos ⟨bI_t h6, h14⟩, e1]
      refine J_aload_n (pc := 30) C dX11_description_30 rfl rfl ?_
      by_cases q31 : K1.1 = 2 ∧ K1.2.2 - K1.2.1 ≤ 4
      · refine J_callV1 (pc := 31) C dX11_description_31 m_X11_198 (c_small_t l G _ _ _ _ _ _ _ _ _ _ hn hX g1.1 (g1.2 q31.1) q31.1 q31.2) ⟨jle rfl, jle rfl⟩ rfl rfl rfl rfl rfl (jle rfl) ⟨Nat.zero_le _, Nat.zero_le _⟩ ?_
        try dsimp only
        have v9 := small_lt (g1.2 q31.1) q31.2
        have r2 := r1
        rw [ds2, if_pos q31] at r2
        refine J_istore_n (pc := 34) C dX11_description_34 rfl (by decide) rfl ?_
        dsimp only [List.set]
        refine J_aload_n (pc := 35) C dX11_description_35 rfl rfl ?_
        refine J_get (pc := 36) C dX11_description_36 f_X11_7 rfl rfl ?_
        try dsimp only
        refine J_if_lt (pc := 39) (tgt := 44) C dX11_description_39 (by decide) (fun h39 => ?_) (fun h39 => ?_)
        · refine J_iload_n (pc := 44) C dX11_description_44 rfl rfl ?_
          refine J_bipush (pc := 45) (v := nI 8) C dX11_description_45 (by decide) ?_
          refine J_icmp_eqN (pc := 47) (tgt := 77) C dX11_description_47 (by decide) (by omega) (by omega) (fun h47 => ?_) (fun h47 => ?_)
          · have r3 := r2
            rw [if_pos (by omega)] at r3
            refine J_aload_n (pc := 77) C dX11_description_77 rfl rfl ?_
            refine J_iload_n (pc := 78) C dX11_description_78 rfl rfl ?_
            refine J_putU (pc := 79) C dX11_description_79 p_X11_196 rfl (jlt rfl) rfl rfl (uM_width _) ?_
            try dsimp only
            refine J_aload_n (pc := 82) C dX11_description_82 rfl rfl ?_
            refine J_callV0 (pc := 83) C dX11_description_83 m_X11_145 (c_next l G _ _ _ _ _ _ _ _ _ _ hn hX (by omega)) ⟨jle rfl, jle rfl⟩ rfl rfl rfl rfl rfl (jle rfl) ⟨Nat.zero_le _, Nat.zero_le _⟩ ?_
            try dsimp only
            obtain ⟨K2, e2⟩ : ∃ z, z = nextF X K1.2.2 := ⟨_, rfl⟩
            rw [← e2]
            have g2 : tkG X K2 := by rw [e2]; exact nextF_g (by omega)
            have k2 := g2.1
            have b2 : K2.2.1 ≤ K2.2.2 ∧ K2.2.2 ≤ X.1 ∧ K2.1 ≤ 5 := ⟨g2.1.1, g2.1.2.1, g2.1.2.2.2.1⟩
            rw [← e2] at r3
            refine J_aload_n (pc := 86) C dX11_description_86 rfl rfl ?_
            refine J_bipush (pc := 87) (v := nI 59) C dX11_description_87 (by decide) ?_
            by_cases q89 : isSignF X K2 59 = true
            · refine J_callV1 (pc := 89) C dX11_description_89 m_X11_201 (c_sign_t l G _ _ _ _ _ _ _ _ _ _ _ hn hX k2 (by decide) q89) ⟨jle rfl, jle rfl⟩ rfl rfl rfl rfl rfl (jle rfl) ⟨Nat.zero_le _, Nat.zero_le _⟩ ?_
              try dsimp only
              refine J_if_neN (pc := 92) (tgt := 97) C dX11_description_92 (by decide) (by omega) (fun _ => ?_) (fun h92 => absurd h92 (by decide))
              rw [r3, ds3, if_pos q89]
              exact l_ds l G er F X _ _ P gv O T (X.1 + 1) _ C hn hX g2.nx ⟨hD.1, by show decF X K1.2.2 K1.2.1 0 ≤ 32; omega, hD.2.2⟩ (by omega)
            · refine J_callV1 (pc := 89) C dX11_description_89 m_X11_201 (c_sign_f l G _ _ _ _ _ _ _ _ _ _ _ hn hX k2 (by decide) q89) ⟨jle rfl, jle rfl⟩ rfl rfl rfl rfl rfl (jle rfl) ⟨Nat.zero_le _, Nat.zero_le _⟩ ?_
              try dsimp only
              refine J_if_neN (pc := 92) (tgt := 97) C dX11_description_92 (by decide) (by omega) (fun h92 => absurd h92 (by decide)) (fun _ => ?_)
              refine J_iconst (pc := 95) (v := nI 0) C dX11_description_95 (by decide) ?_
              exact J_zret (pc := 96) C dX11_description_96 rfl (by first | rfl | decide) (mR_f (r3.trans (by rw [ds3, if_neg q89]))) (Nat.zero_le _) (Nat.zero_le _)
          · refine J_iload_n (pc := 50) C dX11_description_50 rfl rfl ?_
            refine J_bipush (pc := 51) (v := nI 16) C dX11_description_51 (by decide) ?_
            refine J_icmp_eqN (pc := 53) (tgt := 77) C dX11_description_53 (by decide) (by omega) (by omega) (fun h53 => ?_) (fun h53 => ?_)
            · have r3 := r2
              rw [if_pos (by omega)] at r3
              refine J_aload_n (pc := 77) C dX11_description_77 rfl rfl ?_
              refine J_iload_n (pc := 78) C dX11_description_78 rfl rfl ?_
              refine J_putU (pc := 79) C dX11_description_79 p_X11_196 rfl (jlt rfl) rfl rfl (uM_width _) ?_
              try dsimp only
              refine J_aload_n (pc := 82) C dX11_description_82 rfl rfl ?_
              refine J_callV0 (pc := 83) C dX11_description_83 m_X11_145 (c_next l G _ _ _ _ _ _ _ _ _ _ hn hX (by omega)) ⟨jle rfl, jle rfl⟩ rfl rfl rfl rfl rfl (jle rfl) ⟨Nat.zero_le _, Nat.zero_le _⟩ ?_
              try dsimp only
              obtain ⟨K2, e2⟩ : ∃ z, z = nextF X K1.2.2 := ⟨_, rfl⟩
              rw [← e2]
              have g2 : tkG X K2 := by rw [e2]; exact nextF_g (by omega)
              have k2 := g2.1
              have b2 : K2.2.1 ≤ K2.2.2 ∧ K2.2.2 ≤ X.1 ∧ K2.1 ≤ 5 := ⟨g2.1.1, g2.1.2.1, g2.1.2.2.2.1⟩
              rw [← e2] at r3
              refine J_aload_n (pc := 86) C dX11_description_86 rfl rfl ?_
              refine J_bipush (pc := 87) (v := nI 59) C dX11_description_87 (by decide) ?_
              by_cases q89 : isSignF X K2 59 = true
              · refine J_callV1 (pc := 89) C dX11_description_89 m_X11_201 (c_sign_t l G _ _ _ _ _ _ _ _ _ _ _ hn hX k2 (by decide) q89) ⟨jle rfl, jle rfl⟩ rfl rfl rfl rfl rfl (jle rfl) ⟨Nat.zero_le _, Nat.zero_le _⟩ ?_
                try dsimp only
                refine J_if_neN (pc := 92) (tgt := 97) C dX11_description_92 (by decide) (by omega) (fun _ => ?_) (fun h92 => absurd h92 (by decide))
                rw [r3, ds3, if_pos q89]
                exact l_ds l G er F X _ _ P gv O T (X.1 + 1) _ C hn hX g2.nx ⟨hD.1, by show decF X K1.2.2 K1.2.1 0 ≤ 32; omega, hD.2.2⟩ (by omega)
              · refine J_callV1 (pc := 89) C dX11_description_89 m_X11_201 (c_sign_f l G _ _ _ _ _ _ _ _ _ _ _ hn hX k2 (by decide) q89) ⟨jle rfl, jle rfl⟩ rfl rfl rfl rfl rfl (jle rfl) ⟨Nat.zero_le _, Nat.zero_le _⟩ ?_
                try dsimp only
                refine J_if_neN (pc := 92) (tgt := 97) C dX11_description_92 (by decide) (by omega) (fun h92 => absurd h92 (by decide)) (fun _ => ?_)
                refine J_iconst (pc := 95) (v := nI 0) C dX11_description_95 (by decide) ?_
                exact J_zret (pc := 96) C dX11_description_96 rfl (by first | rfl | decide) (mR_f (r3.trans (by rw [ds3, if_neg q89]))) (Nat.zero_le _) (Nat.zero_le _)
            · refine J_iload_n (pc := 56) C dX11_description_56 rfl rfl ?_
              refine J_bipush (pc := 57) (v := nI 24) C dX11_description_57 (by decide) ?_
              refine J_icmp_eqN (pc := 59) (tgt := 77) C dX11_description_59 (by decide) (by omega) (by omega) (fun h59 => ?_) (fun h59 => ?_)
              · have r3 := r2
                rw [if_pos (by omega)] at r3
                refine J_aload_n (pc := 77) C dX11_description_77 rfl rfl ?_
                refine J_iload_n (pc := 78) C dX11_description_78 rfl rfl ?_
                refine J_putU (pc := 79) C dX11_description_79 p_X11_196 rfl (jlt rfl) rfl rfl (uM_width _) ?_
                try dsimp only
                refine J_aload_n (pc := 82) C dX11_description_82 rfl rfl ?_
                refine J_callV0 (pc := 83) C dX11_description_83 m_X11_145 (c_next l G _ _ _ _ _ _ _ _ _ _ hn hX (by omega)) ⟨jle rfl, jle rfl⟩ rfl rfl rfl rfl rfl (jle rfl) ⟨Nat.zero_le _, Nat.zero_le _⟩ ?_
                try dsimp only
                obtain ⟨K2, e2⟩ : ∃ z, z = nextF X K1.2.2 := ⟨_, rfl⟩
                rw [← e2]
                have g2 : tkG X K2 := by rw [e2]; exact nextF_g (by omega)
                have k2 := g2.1
                have b2 : K2.2.1 ≤ K2.2.2 ∧ K2.2.2 ≤ X.1 ∧ K2.1 ≤ 5 := ⟨g2.1.1, g2.1.2.1, g2.1.2.2.2.1⟩
                rw [← e2] at r3
                refine J_aload_n (pc := 86) C dX11_description_86 rfl rfl ?_
                refine J_bipush (pc := 87) (v := nI 59) C dX11_description_87 (by decide) ?_
                by_cases q89 : isSignF X K2 59 = true
                · refine J_callV1 (pc := 89) C dX11_description_89 m_X11_201 (c_sign_t l G _ _ _ _ _ _ _ _ _ _ _ hn hX k2 (by decide) q89) ⟨jle rfl, jle rfl⟩ rfl rfl rfl rfl rfl (jle rfl) ⟨Nat.zero_le _, Nat.zero_le _⟩ ?_
                  try dsimp only
                  refine J_if_neN (pc := 92) (tgt := 97) C dX11_description_92 (by decide) (by omega) (fun _ => ?_) (fun h92 => absurd h92 (by decide))
                  rw [r3, ds3, if_pos q89]
                  exact l_ds l G er F X _ _ P gv O T (X.1 + 1) _ C hn hX g2.nx ⟨hD.1, by show decF X K1.2.2 K1.2.1 0 ≤ 32; omega, hD.2.2⟩ (by omega)
                · refine J_callV1 (pc := 89) C dX11_description_89 m_X11_201 (c_sign_f l G _ _ _ _ _ _ _ _ _ _ _ hn hX k2 (by decide) q89) ⟨jle rfl, jle rfl⟩ rfl rfl rfl rfl rfl (jle rfl) ⟨Nat.zero_le _, Nat.zero_le _⟩ ?_
                  try dsimp only
                  refine J_if_neN (pc := 92) (tgt := 97) C dX11_description_92 (by decide) (by omega) (fun h92 => absurd h92 (by decide)) (fun _ => ?_)
                  refine J_iconst (pc := 95) (v := nI 0) C dX11_description_95 (by decide) ?_
                  exact J_zret (pc := 96) C dX11_description_96 rfl (by first | rfl | decide) (mR_f (r3.trans (by rw [ds3, if_neg q89]))) (Nat.zero_le _) (Nat.zero_le _)
              · refine J_iload_n (pc := 62) C dX11_description_62 rfl rfl ?_
                refine J_bipush (pc := 63) (v := nI 32) C dX11_description_63 (by decide) ?_
                refine J_icmp_eqN (pc := 65) (tgt := 77) C dX11_description_65 (by decide) (by omega) (by omega) (fun h65 => ?_) (fun h65 => ?_)
                · have r3 := r2
                  rw [if_pos (by omega)] at r3
                  refine J_aload_n (pc := 77) C dX11_description_77 rfl rfl ?_
                  refine J_iload_n (pc := 78) C dX11_description_78 rfl rfl ?_
                  refine J_putU (pc := 79) C dX11_description_79 p_X11_196 rfl (jlt rfl) rfl rfl (uM_width _) ?_
                  try dsimp only
                  refine J_aload_n (pc := 82) C dX11_description_82 rfl rfl ?_
                  refine J_callV0 (pc := 83) C dX11_description_83 m_X11_145 (c_next l G _ _ _ _ _ _ _ _ _ _ hn hX (by omega)) ⟨jle rfl, jle rfl⟩ rfl rfl rfl rfl rfl (jle rfl) ⟨Nat.zero_le _, Nat.zero_le _⟩ ?_
                  try dsimp only
                  obtain ⟨K2, e2⟩ : ∃ z, z = nextF X K1.2.2 := ⟨_, rfl⟩
                  rw [← e2]
                  have g2 : tkG X K2 := by rw [e2]; exact nextF_g (by omega)
                  have k2 := g2.1
                  have b2 : K2.2.1 ≤ K2.2.2 ∧ K2.2.2 ≤ X.1 ∧ K2.1 ≤ 5 := ⟨g2.1.1, g2.1.2.1, g2.1.2.2.2.1⟩
                  rw [← e2] at r3
                  refine J_aload_n (pc := 86) C dX11_description_86 rfl rfl ?_
                  refine J_bipush (pc := 87) (v := nI 59) C dX11_description_87 (by decide) ?_
                  by_cases q89 : isSignF X K2 59 = true
                  · refine J_callV1 (pc := 89) C dX11_description_89 m_X11_201 (c_sign_t l G _ _ _ _ _ _ _ _ _ _ _ hn hX k2 (by decide) q89) ⟨jle rfl, jle rfl⟩ rfl rfl rfl rfl rfl (jle rfl) ⟨Nat.zero_le _, Nat.zero_le _⟩ ?_
                    try dsimp only
                    refine J_if_neN (pc := 92) (tgt := 97) C dX11_description_92 (by decide) (by omega) (fun _ => ?_) (fun h92 => absurd h92 (by decide))
                    rw [r3, ds3, if_pos q89]
                    exact l_ds l G er F X _ _ P gv O T (X.1 + 1) _ C hn hX g2.nx ⟨hD.1, by show decF X K1.2.2 K1.2.1 0 ≤ 32; omega, hD.2.2⟩ (by omega)
                  · refine J_callV1 (pc := 89) C dX11_description_89 m_X11_201 (c_sign_f l G _ _ _ _ _ _ _ _ _ _ _ hn hX k2 (by decide) q89) ⟨jle rfl, jle rfl⟩ rfl rfl rfl rfl rfl (jle rfl) ⟨Nat.zero_le _, Nat.zero_le _⟩ ?_
                    try dsimp only
                    refine J_if_neN (pc := 92) (tgt := 97) C dX11_description_92 (by decide) (by omega) (fun h92 => absurd h92 (by decide)) (fun _ => ?_)
                    refine J_iconst (pc := 95) (v := nI 0) C dX11_description_95 (by decide) ?_
                    exact J_zret (pc := 96) C dX11_description_96 rfl (by first | rfl | decide) (mR_f (r3.trans (by rw [ds3, if_neg q89]))) (Nat.zero_le _) (Nat.zero_le _)
                · refine J_aload_n (pc := 68) C dX11_description_68 rfl rfl ?_
                  refine J_aload_n (pc := 69) C dX11_description_69 rfl rfl ?_
                  refine J_get (pc := 70) C dX11_description_70 f_X11_113 rfl rfl ?_
                  try dsimp only
                  refine J_callV1 (pc := 73) C dX11_description_73 m_X11_142 (c_bad l G _ _ _ _ _ _ _ _ _ _ _) ⟨jle rfl, jle rfl⟩ rfl rfl rfl rfl rfl (jle rfl) ⟨Nat.zero_le _, Nat.zero_le _⟩ ?_
                  try dsimp only
                  exact J_zret (pc := 76) C dX11_description_76 rfl (by first | rfl | decide) (mR_f (r2.trans (if_neg (by omega)))) (Nat.zero_le _) (Nat.zero_le _)
        · exact absurd (by decide) h39
      · refine J_callV1 (pc := 31) C dX11_description_31 m_X11_198 (c_small_f l G _ _ _ _ _ _ _ _ _ _ hn hX g1.1 q31) ⟨jle rfl, jle rfl⟩ rfl rfl rfl rfl rfl (jle rfl) ⟨Nat.zero_le _, Nat.zero_le _⟩ ?_
        try dsimp only
        rw [badW_1]
        have r2 := r1
        rw [ds2, if_neg q31] at r2
        refine J_istore_n (pc := 34) C dX11_description_34 rfl (by decide) rfl ?_
        dsimp only [List.set]
        refine J_aload_n (pc := 35) C dX11_description_35 rfl rfl ?_
        refine J_get (pc := 36) C dX11_description_36 f_X11_7 rfl rfl ?_
        try dsimp only
        refine J_if_lt (pc := 39) (tgt := 44) C dX11_description_39 (by decide) (fun h39 => ?_) (fun h39 => ?_)
        · exact absurd h39 (nI_pos (by omega))
        · refine J_iconst (pc := 42) (v := nI 0) C dX11_description_42 (by decide) ?_
          exact J_zret (pc := 43) C dX11_description_43 rfl (by first | rfl | decide) (by rw [← badW_1]; exact mR_f r2) (Nat.zero_le _) (Nat.zero_le _)
    · refine J_aload_n (pc := 17) C dX11_description_17 rfl rfl ?_
      refine J_aload_n (pc := 18) C dX11_description_18 rfl rfl ?_
      refine J_get (pc := 19) C dX11_description_19 f_X11_113 rfl rfl ?_
      try dsimp only
      refine J_callV1 (pc := 22) C dX11_description_22 m_X11_142 (c_bad l G _ _ _ _ _ _ _ _ _ _ _) ⟨jle rfl, jle rfl⟩ rfl rfl rfl rfl rfl (jle rfl) ⟨Nat.zero_le _, Nat.zero_le _⟩ ?_
      try dsimp only
      exact J_zret (pc := 25) C dX11_description_25 rfl (by first | rfl | decide) (mR_f (by rw [dsF, if_neg (by intro z; first | exact absurd (bI_f h6) (by rw [z.1]; decide) | exact h14 z.2)])) (Nat.zero_le _) (Nat.zero_le _)
