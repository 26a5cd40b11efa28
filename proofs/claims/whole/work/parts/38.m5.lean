set_option maxHeartbeats 4000000 in
set_option maxRecDepth 100000 in
theorem c_operand (l : Launch) (G : jG) (er : Nat) (F X : Nat × (Nat → Nat)) (K : Nat × Nat × Nat) (D : mD) (P : mP) (gv : Nat → Int64) (O : Nat × (Nat → Nat)) (T : jMem) (o : Nat) (hn : X.1 ≤ 4000) (hX : ∀ k, X.2 k < 256) (hG : tkG X K) (hD : dOK D) (ho : o < 60) (hq9 : D.2.2.2.2.2.2.2.2.1 o ≤ 6) (hw9 : D.1 ≤ 32) : jC l G yX11_operand cX11_operand 4 (some .boolean) 9 180 0 0 [.ref 1000, .int (nI o)] (encM er F X K (-1) D P gv O T) (.inl (some (.int (bI (opdF X K D o).1.isNone)), encM er F X (opdF X K D o).2.1 (wrI (opdF X K D o).1) (opdF X K D o).2.2 P gv O T)) := by
  refine jC.of (by decide) 2 rfl [some (.ref 1000), some (.int (nI o)), none, none] rfl (fun p e s m args below meth c C hT9 hNm9 => ?_)
  have b0 : K.2.1 ≤ K.2.2 ∧ K.2.2 ≤ X.1 ∧ K.1 ≤ 5 := ⟨hG.1.1, hG.1.2.1, hG.1.2.2.2.1⟩
  have k0 := hG.1
  have hD9 := hD
  obtain ⟨d1, d2, d3, d4, d5⟩ := hD
  have f0 := findF_lt (X := X) (K := K) (nm := D.2.2.2.2.2.2.2.1) (m := D.2.2.2.2.2.2.2.2.1 o) (j := 0)
  refine J_aload_n (pc := 0) C dX11_operand_0 rfl rfl ?_
  refine J_get (pc := 1) C dX11_operand_1 f_X11_41 rfl rfl ?_
  refine J_iload_n (pc := 4) C dX11_operand_4 rfl rfl ?_
  refine J_ialdN (pc := 5) C dX11_operand_5 rfl (by omega) (by decide) ?_
  try dsimp only
  refine J_istore_n (pc := 6) C dX11_operand_6 rfl (by decide) rfl ?_
  dsimp only [List.set]
  refine J_bipush (pc := 7) (v := nI 6) C dX11_operand_7 (by decide) ?_
  refine J_iload_n (pc := 9) C dX11_operand_9 rfl rfl ?_
  refine J_imulN (pc := 10) C dX11_operand_10 ?_
  refine J_iload_n (pc := 11) C dX11_operand_11 rfl rfl ?_
  refine J_iaddN (pc := 12) C dX11_operand_12 ?_
  refine J_istore_n (pc := 13) C dX11_operand_13 rfl (by decide) rfl ?_
  dsimp only [List.set]
  refine J_aload_n (pc := 14) C dX11_operand_14 rfl rfl ?_
  refine J_callV1 (pc := 15) C dX11_operand_15 m_X11_208 (c_isName l G _ _ _ _ _ _ _ _ _ _ hn hX (by first | assumption | exact (nextF_g (by omega)).1)) ⟨jle rfl, jle rfl⟩ rfl rfl rfl rfl rfl (jle rfl) ⟨Nat.zero_le _, Nat.zero_le _⟩ ?_
  try dsimp only
  refine J_if_eq (pc := 18) (tgt := 39) C dX11_operand_18 (by decide) (fun h18 => ?_) (fun h18 => ?_)
  · refine J_aload_n (pc := 39) C dX11_operand_39 rfl rfl ?_
    refine J_aload_n (pc := 40) C dX11_operand_40 rfl rfl ?_
    refine J_get (pc := 41) C dX11_operand_41 f_X11_113 rfl rfl ?_
    try dsimp only
    refine J_callV1 (pc := 44) C dX11_operand_44 m_X11_142 (c_bad l G _ _ _ _ _ _ _ _ _ _ _) ⟨jle rfl, jle rfl⟩ rfl rfl rfl rfl rfl (jle rfl) ⟨Nat.zero_le _, Nat.zero_le _⟩ ?_
    try dsimp only
    exact J_zret (pc := 47) C dX11_operand_47 rfl (by first | rfl | decide) (mR_f (by rw [opdF, if_neg (by intro z; first | exact absurd (bI_f h18) (by rw [z.1]; decide) | exact z.2.1 h24 | exact h36 ((lI_neg (by omega)).mpr z.2.2))])) (Nat.zero_le _) (Nat.zero_le _)
  · refine J_iload_n (pc := 21) C dX11_operand_21 rfl rfl ?_
    refine J_bipush (pc := 22) (v := nI 6) C dX11_operand_22 (by decide) ?_
    refine J_icmp_eqN (pc := 24) (tgt := 39) C dX11_operand_24 (by decide) (by omega) (by omega) (fun h24 => ?_) (fun h24 => ?_)
    · refine J_aload_n (pc := 39) C dX11_operand_39 rfl rfl ?_
      refine J_aload_n (pc := 40) C dX11_operand_40 rfl rfl ?_
      refine J_get (pc := 41) C dX11_operand_41 f_X11_113 rfl rfl ?_
      try dsimp only
      refine J_callV1 (pc := 44) C dX11_operand_44 m_X11_142 (c_bad l G _ _ _ _ _ _ _ _ _ _ _) ⟨jle rfl, jle rfl⟩ rfl rfl rfl rfl rfl (jle rfl) ⟨Nat.zero_le _, Nat.zero_le _⟩ ?_
      try dsimp only
      exact J_zret (pc := 47) C dX11_operand_47 rfl (by first | rfl | decide) (mR_f (by rw [opdF, if_neg (by intro z; first | exact absurd (bI_f h18) (by rw [z.1]; decide) | exact z.2.1 h24 | exact h36 ((lI_neg (by omega)).mpr z.2.2))])) (Nat.zero_le _) (Nat.zero_le _)
    · refine J_aload_n (pc := 27) C dX11_operand_27 rfl rfl ?_
      refine J_aload_n (pc := 28) C dX11_operand_28 rfl rfl ?_
      refine J_get (pc := 29) C dX11_operand_29 f_X11_32 rfl rfl ?_
      refine J_iload_n (pc := 32) C dX11_operand_32 rfl rfl ?_
      refine J_callV1 (pc := 33) C dX11_operand_33 m_X11_211 (c_find l G _ _ _ _ _ _ _ _ _ _ _ hn hX rfl (by decide) d5 k0 (by omega) (by omega)) ⟨jle rfl, jle rfl⟩ rfl rfl rfl rfl rfl (jle rfl) ⟨Nat.zero_le _, Nat.zero_le _⟩ ?_
      try dsimp only
      refine J_if_lt (pc := 36) (tgt := 48) C dX11_operand_36 (by decide) (fun h36 => ?_) (fun h36 => ?_)
      · have r0 : isNameF X K = true ∧ D.2.2.2.2.2.2.2.2.1 o ≠ 6 ∧ findF X K D.2.2.2.2.2.2.2.1 (D.2.2.2.2.2.2.2.2.1 o) 0 = 1000 := ⟨bI_t h18, h24, (lI_neg (by omega)).mp h36⟩
        refine J_aload_n (pc := 48) C dX11_operand_48 rfl rfl ?_
        refine J_aload_n (pc := 49) C dX11_operand_49 rfl rfl ?_
        refine J_get (pc := 50) C dX11_operand_50 f_X11_32 rfl rfl ?_
        refine J_iload_n (pc := 53) C dX11_operand_53 rfl rfl ?_
        refine J_callV0 (pc := 54) C dX11_operand_54 m_X11_215 (c_keep l G _ _ _ _ _ (fun f => mdO D f) (fun _ => P) _ _ _ D.2.2.2.2.2.2.2.1 (D.2.2.2.2.2.2.2.2.1 o) hn hX (fun _ => rfl) (fun f g => (uM_operandName g).trans rfl) (by decide) k0 (by omega) (by omega)) ⟨jle rfl, jle rfl⟩ rfl rfl rfl rfl rfl (jle rfl) ⟨Nat.zero_le _, Nat.zero_le _⟩ ?_
        try dsimp only
        dsimp only [mdO, mdA, mdK, mdB, mdS]
        refine J_aload_n (pc := 57) C dX11_operand_57 rfl rfl ?_
        refine J_callV0 (pc := 58) C dX11_operand_58 m_X11_145 (c_next l G _ _ _ _ _ _ _ _ _ _ hn hX (by omega)) ⟨jle rfl, jle rfl⟩ rfl rfl rfl rfl rfl (jle rfl) ⟨Nat.zero_le _, Nat.zero_le _⟩ ?_
        try dsimp only
        obtain ⟨K1, e1⟩ : ∃ z, z = nextF X K.2.2 := ⟨_, rfl⟩
        rw [← e1]
        have g1 : tkG X K1 := by rw [e1]; exact nextF_g (by omega)
        have k1 := g1.1
        have b1 : K1.2.1 ≤ K1.2.2 ∧ K1.2.2 ≤ X.1 ∧ K1.1 ≤ 5 := ⟨g1.1.1, g1.1.2.1, g1.1.2.2.2.1⟩
        have r1 : opdF X K D o = opd2 X K1 (mdO D (keepF X K (mOpdN D) (mOpds D o) 12)) o (6 * o + mOpds D o) := by rw [opdF, if_pos r0, e1]
        refine J_aload_n (pc := 61) C dX11_operand_61 rfl rfl ?_
        refine J_bipush (pc := 62) (v := nI 58) C dX11_operand_62 (by decide) ?_
        by_cases q64 : isSignF X K1 58 = true
        · refine J_callV1 (pc := 64) C dX11_operand_64 m_X11_201 (c_sign_t l G _ _ _ _ _ _ _ _ _ _ _ hn hX k1 (by decide) q64) ⟨jle rfl, jle rfl⟩ rfl rfl rfl rfl rfl (jle rfl) ⟨Nat.zero_le _, Nat.zero_le _⟩ ?_
          try dsimp only
          refine J_if_neN (pc := 67) (tgt := 72) C dX11_operand_67 (by decide) (by omega) (fun _ => ?_) (fun h67 => absurd h67 (by decide))
          obtain ⟨K2, e2⟩ : ∃ z, z = nextF X K1.2.2 := ⟨_, rfl⟩
          rw [← e2]
          have g2 : tkG X K2 := by rw [e2]; exact nextF_g (by omega)
          have k2 := g2.1
          have b2 : K2.2.1 ≤ K2.2.2 ∧ K2.2.2 ≤ X.1 ∧ K2.1 ≤ 5 := ⟨g2.1.1, g2.1.2.1, g2.1.2.2.2.1⟩
          have r2 := r1
          rw [opd2, if_pos q64, ← e2] at r2
          refine J_aload_n (pc := 72) C dX11_operand_72 rfl rfl ?_
          refine J_get (pc := 73) C dX11_operand_73 f_X11_120 rfl rfl ?_
          try dsimp only
          refine J_iconst (pc := 76) (v := nI 1) C dX11_operand_76 (by decide) ?_
          refine J_icmp_eqN (pc := 77) (tgt := 89) C dX11_operand_77 (by decide) (by omega) (by omega) (fun h77 => ?_) (fun h77 => ?_)
          · have r3 := r2
            rw [opd3, if_pos h77] at r3
            refine J_aload_n (pc := 89) C dX11_operand_89 rfl rfl ?_
            refine J_get (pc := 90) C dX11_operand_90 f_X11_44 rfl rfl ?_
            refine J_iload_n (pc := 93) C dX11_operand_93 rfl rfl ?_
            refine J_aload_n (pc := 94) C dX11_operand_94 rfl rfl ?_
            refine J_ldcS (pc := 95) (i := 24) C dX11_operand_95 rfl ?_
            refine J_callV1 (pc := 97) C dX11_operand_97 m_X11_150 (c_is l G _ _ _ _ _ _ _ _ _ _ hn hX rfl (by first | assumption | exact (nextF_g (by omega)).1)) ⟨jle rfl, jle rfl⟩ rfl rfl rfl rfl rfl (jle rfl) ⟨Nat.zero_le _, Nat.zero_le _⟩ ?_
            try dsimp only
            refine J_if_eq (pc := 100) (tgt := 107) C dX11_operand_100 (by decide) (fun h100 => ?_) (fun h100 => ?_)
            · refine J_aload_n (pc := 107) C dX11_operand_107 rfl rfl ?_
              refine J_ldcS (pc := 108) (i := 25) C dX11_operand_108 rfl ?_
              refine J_callV1 (pc := 110) C dX11_operand_110 m_X11_150 (c_is l G _ _ _ _ _ _ _ _ _ _ hn hX rfl (by first | assumption | exact (nextF_g (by omega)).1)) ⟨jle rfl, jle rfl⟩ rfl rfl rfl rfl rfl (jle rfl) ⟨Nat.zero_le _, Nat.zero_le _⟩ ?_
              try dsimp only
              refine J_if_eq (pc := 113) (tgt := 120) C dX11_operand_113 (by decide) (fun h113 => ?_) (fun h113 => ?_)
              · refine J_aload_n (pc := 120) C dX11_operand_120 rfl rfl ?_
                refine J_ldcS (pc := 121) (i := 26) C dX11_operand_121 rfl ?_
                refine J_callV1 (pc := 123) C dX11_operand_123 m_X11_150 (c_is l G _ _ _ _ _ _ _ _ _ _ hn hX rfl (by first | assumption | exact (nextF_g (by omega)).1)) ⟨jle rfl, jle rfl⟩ rfl rfl rfl rfl rfl (jle rfl) ⟨Nat.zero_le _, Nat.zero_le _⟩ ?_
                try dsimp only
                refine J_if_eq (pc := 126) (tgt := 133) C dX11_operand_126 (by decide) (fun h126 => ?_) (fun h126 => ?_)
                · refine J_iconst (pc := 133) (v := nI 3) C dX11_operand_133 (by decide) ?_
                  have hk : kdF X K2 = 3 := by unfold kdF; rw [if_neg (by rw [bI_f h100]; decide), if_neg (by rw [bI_f h113]; decide), if_neg (by rw [bI_f h126]; decide)]
                  have r4 := r3
                  rw [hk] at r4
                  rw [if_pos rfl] at r4
                  refine J_iastN (pc := 134) C dX11_operand_134 rfl (by omega) (by decide) (uM_kind _) ?_
                  refine J_aload_n (pc := 135) C dX11_operand_135 rfl rfl ?_
                  refine J_get (pc := 136) C dX11_operand_136 f_X11_44 rfl rfl ?_
                  refine J_iload_n (pc := 139) C dX11_operand_139 rfl rfl ?_
                  refine J_ialdN (pc := 140) C dX11_operand_140 rfl (by omega) (by decide) ?_
                  try dsimp only
                  rw [va_up_self]
                  refine J_iconst (pc := 141) (v := nI 3) C dX11_operand_141 (by decide) ?_
                  refine J_icmp_neN (pc := 142) (tgt := 212) C dX11_operand_142 (by decide) (by omega) (by omega) (fun h142 => absurd h142 (by decide)) (fun _ => ?_)
                  refine J_aload_n (pc := 145) C dX11_operand_145 rfl rfl ?_
                  refine J_get (pc := 146) C dX11_operand_146 f_X11_50 rfl rfl ?_
                  refine J_iload_n (pc := 149) C dX11_operand_149 rfl rfl ?_
                  refine J_aload_n (pc := 150) C dX11_operand_150 rfl rfl ?_
                  refine J_callV1 (pc := 151) C dX11_operand_151 m_X11_165 (c_isKey l G _ _ _ _ _ _ _ _ _ _ hn hX (by first | assumption | exact (nextF_g (by omega)).1)) ⟨jle rfl, jle rfl⟩ rfl rfl rfl rfl rfl (jle rfl) ⟨Nat.zero_le _, Nat.zero_le _⟩ ?_
                  try dsimp only
                  refine J_if_eq (pc := 154) (tgt := 161) C dX11_operand_154 (by decide) (fun h154 => ?_) (fun h154 => ?_)
                  · refine J_aload_n (pc := 161) C dX11_operand_161 rfl rfl ?_
                    refine J_aload_n (pc := 162) C dX11_operand_162 rfl rfl ?_
                    refine J_get (pc := 163) C dX11_operand_163 f_X11_23 rfl rfl ?_
                    refine J_aload_n (pc := 166) C dX11_operand_166 rfl rfl ?_
                    refine J_get (pc := 167) C dX11_operand_167 f_X11_187 rfl rfl ?_
                    try dsimp only
                    refine J_callV1 (pc := 170) C dX11_operand_170 m_X11_211 (c_find l G _ _ _ _ _ _ _ _ _ _ _ hn hX rfl (by decide) d3 k2 (by omega) (by omega)) ⟨jle rfl, jle rfl⟩ rfl rfl rfl rfl rfl (jle rfl) ⟨Nat.zero_le _, Nat.zero_le _⟩ ?_
                    try dsimp only
                    have f2 := findF_lt (X := X) (K := K2) (nm := D.2.2.2.2.1) (m := D.2.1) (j := 0)
                    rw [opd4, soF_nk (bI_f h154)] at r4
                    refine J_iastR (pc := 173) C dX11_operand_173 rfl (by omega) (by decide) (uM_setOf _) ?_
                    refine J_aload_n (pc := 174) C dX11_operand_174 rfl rfl ?_
                    refine J_get (pc := 175) C dX11_operand_175 f_X11_50 rfl rfl ?_
                    refine J_iload_n (pc := 178) C dX11_operand_178 rfl rfl ?_
                    refine J_ialdR (pc := 179) C dX11_operand_179 rfl (by omega) (by decide) ?_
                    try dsimp only
                    rw [va_up_self]
                    refine J_if_ge (pc := 180) (tgt := 192) C dX11_operand_180 (by decide) (fun h180 => ?_) (fun h180 => ?_)
                    · refine J_aload_n (pc := 192) C dX11_operand_192 rfl rfl ?_
                      refine J_get (pc := 193) C dX11_operand_193 f_X11_47 rfl rfl ?_
                      refine J_iload_n (pc := 196) C dX11_operand_196 rfl rfl ?_
                      refine J_aload_n (pc := 197) C dX11_operand_197 rfl rfl ?_
                      refine J_get (pc := 198) C dX11_operand_198 f_X11_26 rfl rfl ?_
                      refine J_aload_n (pc := 201) C dX11_operand_201 rfl rfl ?_
                      refine J_get (pc := 202) C dX11_operand_202 f_X11_50 rfl rfl ?_
                      refine J_iload_n (pc := 205) C dX11_operand_205 rfl rfl ?_
                      refine J_ialdR (pc := 206) C dX11_operand_206 rfl (by omega) (by decide) ?_
                      try dsimp only
                      rw [va_up_self]
                      have h9 := (lI_pos (by omega)).mp h180
                      rw [lI_n h9]
                      refine J_ialdN (pc := 207) C dX11_operand_207 rfl (by omega) (by decide) ?_
                      try dsimp only
                      refine J_iastR (pc := 208) C dX11_operand_208 rfl (by omega) (by decide) (uM_bits _) ?_
                      refine J_goto (pc := 209) (tgt := 263) C dX11_operand_209 (by decide) ?_
                      refine J_aload_n (pc := 263) C dX11_operand_263 rfl rfl ?_
                      refine J_get (pc := 264) C dX11_operand_264 f_X11_41 rfl rfl ?_
                      refine J_iload_n (pc := 267) C dX11_operand_267 rfl rfl ?_
                      refine J_dup2_11 (pc := 268) C dX11_operand_268 rfl rfl ?_
                      refine J_ialdN (pc := 269) C dX11_operand_269 rfl (by omega) (by decide) ?_
                      try dsimp only
                      refine J_iconst (pc := 270) (v := nI 1) C dX11_operand_270 (by decide) ?_
                      refine J_iaddN (pc := 271) C dX11_operand_271 ?_
                      refine J_iastN (pc := 272) C dX11_operand_272 rfl (by omega) (by decide) (uM_operands _) ?_
                      refine J_aload_n (pc := 273) C dX11_operand_273 rfl rfl ?_
                      refine J_callV0 (pc := 274) C dX11_operand_274 m_X11_145 (c_next l G _ _ _ _ _ _ _ _ _ _ hn hX (by omega)) ⟨jle rfl, jle rfl⟩ rfl rfl rfl rfl rfl (jle rfl) ⟨Nat.zero_le _, Nat.zero_le _⟩ ?_
                      try dsimp only
                      refine J_iconst (pc := 277) (v := nI 1) C dX11_operand_277 (by decide) ?_
                      exact J_zret (pc := 278) C dX11_operand_278 rfl (by first | rfl | decide) (by first | exact mR_t (r5.trans (by rw [if_pos (by have h8 := bI_t h251; simp at h8; exact h8), opd9]; try rfl)) | (rw [← lI_n h9]; exact mR_t (r4.trans (if_neg h9)))) (Nat.zero_le _) (Nat.zero_le _)
                    · refine J_aload_n (pc := 183) C dX11_operand_183 rfl rfl ?_
                      refine J_aload_n (pc := 184) C dX11_operand_184 rfl rfl ?_
                      refine J_get (pc := 185) C dX11_operand_185 f_X11_113 rfl rfl ?_
                      try dsimp only
                      refine J_callV1 (pc := 188) C dX11_operand_188 m_X11_142 (c_bad l G _ _ _ _ _ _ _ _ _ _ _) ⟨jle rfl, jle rfl⟩ rfl rfl rfl rfl rfl (jle rfl) ⟨Nat.zero_le _, Nat.zero_le _⟩ ?_
                      try dsimp only
                      exact J_zret (pc := 191) C dX11_operand_191 rfl (by first | rfl | decide) (by first | exact mR_f r4 | exact mR_f (r4.trans (if_pos (show findF X K2 D.2.2.2.2.1 D.2.1 0 = 1000 from by rcases f2 with z | z; exact z; exact absurd ((lI_pos (by omega)).mpr (by omega)) h180)))) (Nat.zero_le _) (Nat.zero_le _)
                  · refine J_iconst (pc := 157) (v := -1) C dX11_operand_157 (by decide) ?_
                    refine J_goto (pc := 158) (tgt := 173) C dX11_operand_158 (by decide) ?_
                    rw [opd4, soF_key (bI_t h154), if_pos rfl] at r4
                    refine J_iastR (pc := 173) C dX11_operand_173 rfl (by omega) (by decide) (uM_setOf _) ?_
                    refine J_aload_n (pc := 174) C dX11_operand_174 rfl rfl ?_
                    refine J_get (pc := 175) C dX11_operand_175 f_X11_50 rfl rfl ?_
                    refine J_iload_n (pc := 178) C dX11_operand_178 rfl rfl ?_
                    refine J_ialdR (pc := 179) C dX11_operand_179 rfl (by omega) (by decide) ?_
                    try dsimp only
                    rw [va_up_self]
                    refine J_if_ge (pc := 180) (tgt := 192) C dX11_operand_180 (by decide) (fun h180 => ?_) (fun h180 => ?_)
                    · exact absurd h180 (by decide)
                    · refine J_aload_n (pc := 183) C dX11_operand_183 rfl rfl ?_
                      refine J_aload_n (pc := 184) C dX11_operand_184 rfl rfl ?_
                      refine J_get (pc := 185) C dX11_operand_185 f_X11_113 rfl rfl ?_
                      try dsimp only
                      refine J_callV1 (pc := 188) C dX11_operand_188 m_X11_142 (c_bad l G _ _ _ _ _ _ _ _ _ _ _) ⟨jle rfl, jle rfl⟩ rfl rfl rfl rfl rfl (jle rfl) ⟨Nat.zero_le _, Nat.zero_le _⟩ ?_
                      try dsimp only
                      exact J_zret (pc := 191) C dX11_operand_191 rfl (by first | rfl | decide) (by first | exact mR_f r4 | exact mR_f (r4.trans (if_pos (show findF X K2 D.2.2.2.2.1 D.2.1 0 = 1000 from by rcases f2 with z | z; exact z; exact absurd ((lI_pos (by omega)).mpr (by omega)) h180)))) (Nat.zero_le _) (Nat.zero_le _)
                · refine J_iconst (pc := 129) (v := nI 2) C dX11_operand_129 (by decide) ?_
                  refine J_goto (pc := 130) (tgt := 134) C dX11_operand_130 (by decide) ?_
                  have hk : kdF X K2 = 2 := by unfold kdF; rw [if_neg (by rw [bI_f h100]; decide), if_neg (by rw [bI_f h113]; decide), if_pos (bI_t h126)]
                  have r4 := r3
                  rw [hk] at r4
                  rw [if_neg (by decide)] at r4
                  refine J_iastN (pc := 134) C dX11_operand_134 rfl (by omega) (by decide) (uM_kind _) ?_
                  refine J_aload_n (pc := 135) C dX11_operand_135 rfl rfl ?_
                  refine J_get (pc := 136) C dX11_operand_136 f_X11_44 rfl rfl ?_
                  refine J_iload_n (pc := 139) C dX11_operand_139 rfl rfl ?_
                  refine J_ialdN (pc := 140) C dX11_operand_140 rfl (by omega) (by decide) ?_
                  try dsimp only
                  rw [va_up_self]
                  refine J_iconst (pc := 141) (v := nI 3) C dX11_operand_141 (by decide) ?_
                  refine J_icmp_neN (pc := 142) (tgt := 212) C dX11_operand_142 (by decide) (by omega) (by omega) (fun _ => ?_) (fun h142 => absurd h142 (by decide))
                  refine J_aload_n (pc := 212) C dX11_operand_212 rfl rfl ?_
                  refine J_callV0 (pc := 213) C dX11_operand_213 m_X11_145 (c_next l G _ _ _ _ _ _ _ _ _ _ hn hX (by omega)) ⟨jle rfl, jle rfl⟩ rfl rfl rfl rfl rfl (jle rfl) ⟨Nat.zero_le _, Nat.zero_le _⟩ ?_
                  try dsimp only
                  obtain ⟨K3, e3⟩ : ∃ z, z = nextF X K2.2.2 := ⟨_, rfl⟩
                  rw [← e3]
                  have g3 : tkG X K3 := by rw [e3]; exact nextF_g (by omega)
                  have k3 := g3.1
                  have b3 : K3.2.1 ≤ K3.2.2 ∧ K3.2.2 ≤ X.1 ∧ K3.1 ≤ 5 := ⟨g3.1.1, g3.1.2.1, g3.1.2.2.2.1⟩
                  rw [← e3] at r4
                  refine J_aload_n (pc := 216) C dX11_operand_216 rfl rfl ?_
                  refine J_get (pc := 217) C dX11_operand_217 f_X11_47 rfl rfl ?_
                  refine J_iload_n (pc := 220) C dX11_operand_220 rfl rfl ?_
                  refine J_aload_n (pc := 221) C dX11_operand_221 rfl rfl ?_
                  by_cases q222 : K3.1 = 2 ∧ K3.2.2 - K3.2.1 ≤ 4
                  · refine J_callV1 (pc := 222) C dX11_operand_222 m_X11_198 (c_small_t l G _ _ _ _ _ _ _ _ _ _ hn hX g3.1 (g3.2 q222.1) q222.1 q222.2) ⟨jle rfl, jle rfl⟩ rfl rfl rfl rfl rfl (jle rfl) ⟨Nat.zero_le _, Nat.zero_le _⟩ ?_
                    try dsimp only
                    have v9 := small_lt (g3.2 q222.1) q222.2
                    have r5 := r4
                    rw [opd5, if_pos q222] at r5
                    refine J_iastR (pc := 225) C dX11_operand_225 rfl (by omega) (by decide) (uM_bits _) ?_
                    refine J_aload_n (pc := 226) C dX11_operand_226 rfl rfl ?_
                    refine J_get (pc := 227) C dX11_operand_227 f_X11_7 rfl rfl ?_
                    try dsimp only
                    refine J_if_lt (pc := 230) (tgt := 235) C dX11_operand_230 (by decide) (fun h230 => ?_) (fun h230 => ?_)
                    · refine J_aload_n (pc := 235) C dX11_operand_235 rfl rfl ?_
                      refine J_get (pc := 236) C dX11_operand_236 f_X11_47 rfl rfl ?_
                      refine J_iload_n (pc := 239) C dX11_operand_239 rfl rfl ?_
                      refine J_ialdR (pc := 240) C dX11_operand_240 rfl (by omega) (by decide) ?_
                      try dsimp only
                      rw [va_up_self]
                      refine J_i2l (pc := 241) C dX11_operand_241 (nI_l (by omega)) ?_
                      refine J_lconst (pc := 242) (v := 1) C dX11_operand_242 (by decide) ?_
                      refine J_aload_n (pc := 243) C dX11_operand_243 rfl rfl ?_
                      refine J_get (pc := 244) C dX11_operand_244 f_X11_196 rfl rfl ?_
                      try dsimp only
                      refine J_i2l (pc := 247) C dX11_operand_247 (nI_l (by omega)) ?_
                      refine J_callS1 (pc := 248) C dX11_operand_248 m_X11_89 (c_in l G _ _ _ _) ⟨jle rfl, jle rfl⟩ rfl rfl (jle rfl) ⟨Nat.zero_le _, Nat.zero_le _⟩ ?_
                      try dsimp only
                      rw [lN_1', jin2_N (by omega) (by decide) (by omega)]
                      refine J_if_ne (pc := 251) (tgt := 263) C dX11_operand_251 (by decide) (fun h251 => ?_) (fun h251 => ?_)
                      · refine J_aload_n (pc := 263) C dX11_operand_263 rfl rfl ?_
                        refine J_get (pc := 264) C dX11_operand_264 f_X11_41 rfl rfl ?_
                        refine J_iload_n (pc := 267) C dX11_operand_267 rfl rfl ?_
                        refine J_dup2_11 (pc := 268) C dX11_operand_268 rfl rfl ?_
                        refine J_ialdN (pc := 269) C dX11_operand_269 rfl (by omega) (by decide) ?_
                        try dsimp only
                        refine J_iconst (pc := 270) (v := nI 1) C dX11_operand_270 (by decide) ?_
                        refine J_iaddN (pc := 271) C dX11_operand_271 ?_
                        refine J_iastN (pc := 272) C dX11_operand_272 rfl (by omega) (by decide) (uM_operands _) ?_
                        refine J_aload_n (pc := 273) C dX11_operand_273 rfl rfl ?_
                        refine J_callV0 (pc := 274) C dX11_operand_274 m_X11_145 (c_next l G _ _ _ _ _ _ _ _ _ _ hn hX (by omega)) ⟨jle rfl, jle rfl⟩ rfl rfl rfl rfl rfl (jle rfl) ⟨Nat.zero_le _, Nat.zero_le _⟩ ?_
                        try dsimp only
                        refine J_iconst (pc := 277) (v := nI 1) C dX11_operand_277 (by decide) ?_
                        exact J_zret (pc := 278) C dX11_operand_278 rfl (by first | rfl | decide) (by first | exact mR_t (r5.trans (by rw [if_pos (by have h8 := bI_t h251; simp at h8; exact h8), opd9]; try rfl)) | (rw [← lI_n h9]; exact mR_t (r4.trans (if_neg h9)))) (Nat.zero_le _) (Nat.zero_le _)
                      · refine J_aload_n (pc := 254) C dX11_operand_254 rfl rfl ?_
                        refine J_aload_n (pc := 255) C dX11_operand_255 rfl rfl ?_
                        refine J_get (pc := 256) C dX11_operand_256 f_X11_113 rfl rfl ?_
                        try dsimp only
                        refine J_callV1 (pc := 259) C dX11_operand_259 m_X11_142 (c_bad l G _ _ _ _ _ _ _ _ _ _ _) ⟨jle rfl, jle rfl⟩ rfl rfl rfl rfl rfl (jle rfl) ⟨Nat.zero_le _, Nat.zero_le _⟩ ?_
                        try dsimp only
                        exact J_zret (pc := 262) C dX11_operand_262 rfl (by first | rfl | decide) (mR_f (r5.trans (by rw [if_neg (by have h8 := bI_f h251; simp at h8; intro z; have := h8 z.1; have z2 : _ ≤ D.1 := z.2; omega)]; try rfl))) (Nat.zero_le _) (Nat.zero_le _)
                    · exact absurd (by decide) h230
                  · refine J_callV1 (pc := 222) C dX11_operand_222 m_X11_198 (c_small_f l G _ _ _ _ _ _ _ _ _ _ hn hX g3.1 q222) ⟨jle rfl, jle rfl⟩ rfl rfl rfl rfl rfl (jle rfl) ⟨Nat.zero_le _, Nat.zero_le _⟩ ?_
                    try dsimp only
                    rw [badW_1]
                    have r5 := r4
                    rw [opd5, if_neg q222] at r5
                    refine J_iastR (pc := 225) C dX11_operand_225 rfl (by omega) (by decide) (uM_bits _) ?_
                    refine J_aload_n (pc := 226) C dX11_operand_226 rfl rfl ?_
                    refine J_get (pc := 227) C dX11_operand_227 f_X11_7 rfl rfl ?_
                    try dsimp only
                    refine J_if_lt (pc := 230) (tgt := 235) C dX11_operand_230 (by decide) (fun h230 => ?_) (fun h230 => ?_)
                    · exact absurd h230 (nI_pos (by omega))
                    · refine J_iconst (pc := 233) (v := nI 0) C dX11_operand_233 (by decide) ?_
                      exact J_zret (pc := 234) C dX11_operand_234 rfl (by first | rfl | decide) (by rw [← badW_1]; exact mR_f r5) (Nat.zero_le _) (Nat.zero_le _)
              · refine J_iconst (pc := 116) (v := nI 1) C dX11_operand_116 (by decide) ?_
                refine J_goto (pc := 117) (tgt := 134) C dX11_operand_117 (by decide) ?_
                have hk : kdF X K2 = 1 := by unfold kdF; rw [if_neg (by rw [bI_f h100]; decide), if_pos (bI_t h113)]
                have r4 := r3
                rw [hk] at r4
                rw [if_neg (by decide)] at r4
                refine J_iastN (pc := 134) C dX11_operand_134 rfl (by omega) (by decide) (uM_kind _) ?_
                refine J_aload_n (pc := 135) C dX11_operand_135 rfl rfl ?_
                refine J_get (pc := 136) C dX11_operand_136 f_X11_44 rfl rfl ?_
                refine J_iload_n (pc := 139) C dX11_operand_139 rfl rfl ?_
                refine J_ialdN (pc := 140) C dX11_operand_140 rfl (by omega) (by decide) ?_
                try dsimp only
                rw [va_up_self]
                refine J_iconst (pc := 141) (v := nI 3) C dX11_operand_141 (by decide) ?_
                refine J_icmp_neN (pc := 142) (tgt := 212) C dX11_operand_142 (by decide) (by omega) (by omega) (fun _ => ?_) (fun h142 => absurd h142 (by decide))
                refine J_aload_n (pc := 212) C dX11_operand_212 rfl rfl ?_
                refine J_callV0 (pc := 213) C dX11_operand_213 m_X11_145 (c_next l G _ _ _ _ _ _ _ _ _ _ hn hX (by omega)) ⟨jle rfl, jle rfl⟩ rfl rfl rfl rfl rfl (jle rfl) ⟨Nat.zero_le _, Nat.zero_le _⟩ ?_
                try dsimp only
                obtain ⟨K3, e3⟩ : ∃ z, z = nextF X K2.2.2 := ⟨_, rfl⟩
                rw [← e3]
                have g3 : tkG X K3 := by rw [e3]; exact nextF_g (by omega)
                have k3 := g3.1
                have b3 : K3.2.1 ≤ K3.2.2 ∧ K3.2.2 ≤ X.1 ∧ K3.1 ≤ 5 := ⟨g3.1.1, g3.1.2.1, g3.1.2.2.2.1⟩
                rw [← e3] at r4
                refine J_aload_n (pc := 216) C dX11_operand_216 rfl rfl ?_
                refine J_get (pc := 217) C dX11_operand_217 f_X11_47 rfl rfl ?_
                refine J_iload_n (pc := 220) C dX11_operand_220 rfl rfl ?_
                refine J_aload_n (pc := 221) C dX11_operand_221 rfl rfl ?_
                by_cases q222 : K3.1 = 2 ∧ K3.2.2 - K3.2.1 ≤ 4
                · refine J_callV1 (pc := 222) C dX11_operand_222 m_X11_198 (c_small_t l G _ _ _ _ _ _ _ _ _ _ hn hX g3.1 (g3.2 q222.1) q222.1 q222.2) ⟨jle rfl, jle rfl⟩ rfl rfl rfl rfl rfl (jle rfl) ⟨Nat.zero_le _, Nat.zero_le _⟩ ?_
                  try dsimp only
                  have v9 := small_lt (g3.2 q222.1) q222.2
                  have r5 := r4
                  rw [opd5, if_pos q222] at r5
                  refine J_iastR (pc := 225) C dX11_operand_225 rfl (by omega) (by decide) (uM_bits _) ?_
                  refine J_aload_n (pc := 226) C dX11_operand_226 rfl rfl ?_
                  refine J_get (pc := 227) C dX11_operand_227 f_X11_7 rfl rfl ?_
                  try dsimp only
                  refine J_if_lt (pc := 230) (tgt := 235) C dX11_operand_230 (by decide) (fun h230 => ?_) (fun h230 => ?_)
                  · refine J_aload_n (pc := 235) C dX11_operand_235 rfl rfl ?_
                    refine J_get (pc := 236) C dX11_operand_236 f_X11_47 rfl rfl ?_
                    refine J_iload_n (pc := 239) C dX11_operand_239 rfl rfl ?_
                    refine J_ialdR (pc := 240) C dX11_operand_240 rfl (by omega) (by decide) ?_
                    try dsimp only
                    rw [va_up_self]
                    refine J_i2l (pc := 241) C dX11_operand_241 (nI_l (by omega)) ?_
                    refine J_lconst (pc := 242) (v := 1) C dX11_operand_242 (by decide) ?_
                    refine J_aload_n (pc := 243) C dX11_operand_243 rfl rfl ?_
                    refine J_get (pc := 244) C dX11_operand_244 f_X11_196 rfl rfl ?_
                    try dsimp only
                    refine J_i2l (pc := 247) C dX11_operand_247 (nI_l (by omega)) ?_
                    refine J_callS1 (pc := 248) C dX11_operand_248 m_X11_89 (c_in l G _ _ _ _) ⟨jle rfl, jle rfl⟩ rfl rfl (jle rfl) ⟨Nat.zero_le _, Nat.zero_le _⟩ ?_
                    try dsimp only
                    rw [lN_1', jin2_N (by omega) (by decide) (by omega)]
                    refine J_if_ne (pc := 251) (tgt := 263) C dX11_operand_251 (by decide) (fun h251 => ?_) (fun h251 => ?_)
                    · refine J_aload_n (pc := 263) C dX11_operand_263 rfl rfl ?_
                      refine J_get (pc := 264) C dX11_operand_264 f_X11_41 rfl rfl ?_
                      refine J_iload_n (pc := 267) C dX11_operand_267 rfl rfl ?_
                      refine J_dup2_11 (pc := 268) C dX11_operand_268 rfl rfl ?_
                      refine J_ialdN (pc := 269) C dX11_operand_269 rfl (by omega) (by decide) ?_
                      try dsimp only
                      refine J_iconst (pc := 270) (v := nI 1) C dX11_operand_270 (by decide) ?_
                      refine J_iaddN (pc := 271) C dX11_operand_271 ?_
                      refine J_iastN (pc := 272) C dX11_operand_272 rfl (by omega) (by decide) (uM_operands _) ?_
                      refine J_aload_n (pc := 273) C dX11_operand_273 rfl rfl ?_
                      refine J_callV0 (pc := 274) C dX11_operand_274 m_X11_145 (c_next l G _ _ _ _ _ _ _ _ _ _ hn hX (by omega)) ⟨jle rfl, jle rfl⟩ rfl rfl rfl rfl rfl (jle rfl) ⟨Nat.zero_le _, Nat.zero_le _⟩ ?_
                      try dsimp only
                      refine J_iconst (pc := 277) (v := nI 1) C dX11_operand_277 (by decide) ?_
                      exact J_zret (pc := 278) C dX11_operand_278 rfl (by first | rfl | decide) (by first | exact mR_t (r5.trans (by rw [if_pos (by have h8 := bI_t h251; simp at h8; exact h8), opd9]; try rfl)) | (rw [← lI_n h9]; exact mR_t (r4.trans (if_neg h9)))) (Nat.zero_le _) (Nat.zero_le _)
                    · refine J_aload_n (pc := 254) C dX11_operand_254 rfl rfl ?_
                      refine J_aload_n (pc := 255) C dX11_operand_255 rfl rfl ?_
                      refine J_get (pc := 256) C dX11_operand_256 f_X11_113 rfl rfl ?_
                      try dsimp only
                      refine J_callV1 (pc := 259) C dX11_operand_259 m_X11_142 (c_bad l G _ _ _ _ _ _ _ _ _ _ _) ⟨jle rfl, jle rfl⟩ rfl rfl rfl rfl rfl (jle rfl) ⟨Nat.zero_le _, Nat.zero_le _⟩ ?_
                      try dsimp only
                      exact J_zret (pc := 262) C dX11_operand_262 rfl (by first | rfl | decide) (mR_f (r5.trans (by rw [if_neg (by have h8 := bI_f h251; simp at h8; intro z; have := h8 z.1; have z2 : _ ≤ D.1 := z.2; omega)]; try rfl))) (Nat.zero_le _) (Nat.zero_le _)
                  · exact absurd (by decide) h230
                · refine J_callV1 (pc := 222) C dX11_operand_222 m_X11_198 (c_small_f l G _ _ _ _ _ _ _ _ _ _ hn hX g3.1 q222) ⟨jle rfl, jle rfl⟩ rfl rfl rfl rfl rfl (jle rfl) ⟨Nat.zero_le _, Nat.zero_le _⟩ ?_
                  try dsimp only
                  rw [badW_1]
                  have r5 := r4
                  rw [opd5, if_neg q222] at r5
                  refine J_iastR (pc := 225) C dX11_operand_225 rfl (by omega) (by decide) (uM_bits _) ?_
                  refine J_aload_n (pc := 226) C dX11_operand_226 rfl rfl ?_
                  refine J_get (pc := 227) C dX11_operand_227 f_X11_7 rfl rfl ?_
                  try dsimp only
                  refine J_if_lt (pc := 230) (tgt := 235) C dX11_operand_230 (by decide) (fun h230 => ?_) (fun h230 => ?_)
                  · exact absurd h230 (nI_pos (by omega))
                  · refine J_iconst (pc := 233) (v := nI 0) C dX11_operand_233 (by decide) ?_
                    exact J_zret (pc := 234) C dX11_operand_234 rfl (by first | rfl | decide) (by rw [← badW_1]; exact mR_f r5) (Nat.zero_le _) (Nat.zero_le _)
            · refine J_iconst (pc := 103) (v := nI 0) C dX11_operand_103 (by decide) ?_
              refine J_goto (pc := 104) (tgt := 134) C dX11_operand_104 (by decide) ?_
              have hk : kdF X K2 = 0 := by unfold kdF; rw [if_pos (bI_t h100)]
              have r4 := r3
              rw [hk] at r4
              rw [if_neg (by decide)] at r4
              refine J_iastN (pc := 134) C dX11_operand_134 rfl (by omega) (by decide) (uM_kind _) ?_
              refine J_aload_n (pc := 135) C dX11_operand_135 rfl rfl ?_
              refine J_get (pc := 136) C dX11_operand_136 f_X11_44 rfl rfl ?_
              refine J_iload_n (pc := 139) C dX11_operand_139 rfl rfl ?_
              refine J_ialdN (pc := 140) C dX11_operand_140 rfl (by omega) (by decide) ?_
              try dsimp only
              rw [va_up_self]
              refine J_iconst (pc := 141) (v := nI 3) C dX11_operand_141 (by decide) ?_
              refine J_icmp_neN (pc := 142) (tgt := 212) C dX11_operand_142 (by decide) (by omega) (by omega) (fun _ => ?_) (fun h142 => absurd h142 (by decide))
              refine J_aload_n (pc := 212) C dX11_operand_212 rfl rfl ?_
              refine J_callV0 (pc := 213) C dX11_operand_213 m_X11_145 (c_next l G _ _ _ _ _ _ _ _ _ _ hn hX (by omega)) ⟨jle rfl, jle rfl⟩ rfl rfl rfl rfl rfl (jle rfl) ⟨Nat.zero_le _, Nat.zero_le _⟩ ?_
              try dsimp only
              obtain ⟨K3, e3⟩ : ∃ z, z = nextF X K2.2.2 := ⟨_, rfl⟩
              rw [← e3]
              have g3 : tkG X K3 := by rw [e3]; exact nextF_g (by omega)
              have k3 := g3.1
              have b3 : K3.2.1 ≤ K3.2.2 ∧ K3.2.2 ≤ X.1 ∧ K3.1 ≤ 5 := ⟨g3.1.1, g3.1.2.1, g3.1.2.2.2.1⟩
              rw [← e3] at r4
              refine J_aload_n (pc := 216) C dX11_operand_216 rfl rfl ?_
              refine J_get (pc := 217) C dX11_operand_217 f_X11_47 rfl rfl ?_
              refine J_iload_n (pc := 220) C dX11_operand_220 rfl rfl ?_
              refine J_aload_n (pc := 221) C dX11_operand_221 rfl rfl ?_
              by_cases q222 : K3.1 = 2 ∧ K3.2.2 - K3.2.1 ≤ 4
              · refine J_callV1 (pc := 222) C dX11_operand_222 m_X11_198 (c_small_t l G _ _ _ _ _ _ _ _ _ _ hn hX g3.1 (g3.2 q222.1) q222.1 q222.2) ⟨jle rfl, jle rfl⟩ rfl rfl rfl rfl rfl (jle rfl) ⟨Nat.zero_le _, Nat.zero_le _⟩ ?_
                try dsimp only
                have v9 := small_lt (g3.2 q222.1) q222.2
                have r5 := r4
                rw [opd5, if_pos q222] at r5
                refine J_iastR (pc := 225) C dX11_operand_225 rfl (by omega) (by decide) (uM_bits _) ?_
                refine J_aload_n (pc := 226) C dX11_operand_226 rfl rfl ?_
                refine J_get (pc := 227) C dX11_operand_227 f_X11_7 rfl rfl ?_
                try dsimp only
                refine J_if_lt (pc := 230) (tgt := 235) C dX11_operand_230 (by decide) (fun h230 => ?_) (fun h230 => ?_)
                · refine J_aload_n (pc := 235) C dX11_operand_235 rfl rfl ?_
                  refine J_get (pc := 236) C dX11_operand_236 f_X11_47 rfl rfl ?_
                  refine J_iload_n (pc := 239) C dX11_operand_239 rfl rfl ?_
                  refine J_ialdR (pc := 240) C dX11_operand_240 rfl (by omega) (by decide) ?_
                  try dsimp only
                  rw [va_up_self]
                  refine J_i2l (pc := 241) C dX11_operand_241 (nI_l (by omega)) ?_
                  refine J_lconst (pc := 242) (v := 1) C dX11_operand_242 (by decide) ?_
                  refine J_aload_n (pc := 243) C dX11_operand_243 rfl rfl ?_
                  refine J_get (pc := 244) C dX11_operand_244 f_X11_196 rfl rfl ?_
                  try dsimp only
                  refine J_i2l (pc := 247) C dX11_operand_247 (nI_l (by omega)) ?_
                  refine J_callS1 (pc := 248) C dX11_operand_248 m_X11_89 (c_in l G _ _ _ _) ⟨jle rfl, jle rfl⟩ rfl rfl (jle rfl) ⟨Nat.zero_le _, Nat.zero_le _⟩ ?_
                  try dsimp only
                  rw [lN_1', jin2_N (by omega) (by decide) (by omega)]
                  refine J_if_ne (pc := 251) (tgt := 263) C dX11_operand_251 (by decide) (fun h251 => ?_) (fun h251 => ?_)
                  · refine J_aload_n (pc := 263) C dX11_operand_263 rfl rfl ?_
                    refine J_get (pc := 264) C dX11_operand_264 f_X11_41 rfl rfl ?_
                    refine J_iload_n (pc := 267) C dX11_operand_267 rfl rfl ?_
                    refine J_dup2_11 (pc := 268) C dX11_operand_268 rfl rfl ?_
                    refine J_ialdN (pc := 269) C dX11_operand_269 rfl (by omega) (by decide) ?_
                    try dsimp only
                    refine J_iconst (pc := 270) (v := nI 1) C dX11_operand_270 (by decide) ?_
                    refine J_iaddN (pc := 271) C dX11_operand_271 ?_
                    refine J_iastN (pc := 272) C dX11_operand_272 rfl (by omega) (by decide) (uM_operands _) ?_
                    refine J_aload_n (pc := 273) C dX11_operand_273 rfl rfl ?_
                    refine J_callV0 (pc := 274) C dX11_operand_274 m_X11_145 (c_next l G _ _ _ _ _ _ _ _ _ _ hn hX (by omega)) ⟨jle rfl, jle rfl⟩ rfl rfl rfl rfl rfl (jle rfl) ⟨Nat.zero_le _, Nat.zero_le _⟩ ?_
                    try dsimp only
                    refine J_iconst (pc := 277) (v := nI 1) C dX11_operand_277 (by decide) ?_
                    exact J_zret (pc := 278) C dX11_operand_278 rfl (by first | rfl | decide) (by first | exact mR_t (r5.trans (by rw [if_pos (by have h8 := bI_t h251; simp at h8; exact h8), opd9]; try rfl)) | (rw [← lI_n h9]; exact mR_t (r4.trans (if_neg h9)))) (Nat.zero_le _) (Nat.zero_le _)
                  · refine J_aload_n (pc := 254) C dX11_operand_254 rfl rfl ?_
                    refine J_aload_n (pc := 255) C dX11_operand_255 rfl rfl ?_
                    refine J_get (pc := 256) C dX11_operand_256 f_X11_113 rfl rfl ?_
                    try dsimp only
                    refine J_callV1 (pc := 259) C dX11_operand_259 m_X11_142 (c_bad l G _ _ _ _ _ _ _ _ _ _ _) ⟨jle rfl, jle rfl⟩ rfl rfl rfl rfl rfl (jle rfl) ⟨Nat.zero_le _, Nat.zero_le _⟩ ?_
                    try dsimp only
                    exact J_zret (pc := 262) C dX11_operand_262 rfl (by first | rfl | decide) (mR_f (r5.trans (by rw [if_neg (by have h8 := bI_f h251; simp at h8; intro z; have := h8 z.1; have z2 : _ ≤ D.1 := z.2; omega)]; try rfl))) (Nat.zero_le _) (Nat.zero_le _)
                · exact absurd (by decide) h230
              · refine J_callV1 (pc := 222) C dX11_operand_222 m_X11_198 (c_small_f l G _ _ _ _ _ _ _ _ _ _ hn hX g3.1 q222) ⟨jle rfl, jle rfl⟩ rfl rfl rfl rfl rfl (jle rfl) ⟨Nat.zero_le _, Nat.zero_le _⟩ ?_
                try dsimp only
                rw [badW_1]
                have r5 := r4
                rw [opd5, if_neg q222] at r5
                refine J_iastR (pc := 225) C dX11_operand_225 rfl (by omega) (by decide) (uM_bits _) ?_
                refine J_aload_n (pc := 226) C dX11_operand_226 rfl rfl ?_
                refine J_get (pc := 227) C dX11_operand_227 f_X11_7 rfl rfl ?_
                try dsimp only
                refine J_if_lt (pc := 230) (tgt := 235) C dX11_operand_230 (by decide) (fun h230 => ?_) (fun h230 => ?_)
                · exact absurd h230 (nI_pos (by omega))
                · refine J_iconst (pc := 233) (v := nI 0) C dX11_operand_233 (by decide) ?_
                  exact J_zret (pc := 234) C dX11_operand_234 rfl (by first | rfl | decide) (by rw [← badW_1]; exact mR_f r5) (Nat.zero_le _) (Nat.zero_le _)
          · refine J_aload_n (pc := 80) C dX11_operand_80 rfl rfl ?_
            refine J_aload_n (pc := 81) C dX11_operand_81 rfl rfl ?_
            refine J_get (pc := 82) C dX11_operand_82 f_X11_113 rfl rfl ?_
            try dsimp only
            refine J_callV1 (pc := 85) C dX11_operand_85 m_X11_142 (c_bad l G _ _ _ _ _ _ _ _ _ _ _) ⟨jle rfl, jle rfl⟩ rfl rfl rfl rfl rfl (jle rfl) ⟨Nat.zero_le _, Nat.zero_le _⟩ ?_
            try dsimp only
            exact J_zret (pc := 88) C dX11_operand_88 rfl (by first | rfl | decide) (mR_f (r2.trans (by rw [opd3, if_neg h77]; try rfl))) (Nat.zero_le _) (Nat.zero_le _)
        · refine J_callV1 (pc := 64) C dX11_operand_64 m_X11_201 (c_sign_f l G _ _ _ _ _ _ _ _ _ _ _ hn hX k1 (by decide) q64) ⟨jle rfl, jle rfl⟩ rfl rfl rfl rfl rfl (jle rfl) ⟨Nat.zero_le _, Nat.zero_le _⟩ ?_
          try dsimp only
          refine J_if_neN (pc := 67) (tgt := 72) C dX11_operand_67 (by decide) (by omega) (fun h67 => absurd h67 (by decide)) (fun _ => ?_)
          refine J_iconst (pc := 70) (v := nI 0) C dX11_operand_70 (by decide) ?_
          exact J_zret (pc := 71) C dX11_operand_71 rfl (by first | rfl | decide) (mR_f (r1.trans (by rw [opd2, if_neg q64]; try rfl))) (Nat.zero_le _) (Nat.zero_le _)
      · refine J_aload_n (pc := 39) C dX11_operand_39 rfl rfl ?_
        refine J_aload_n (pc := 40) C dX11_operand_40 rfl rfl ?_
        refine J_get (pc := 41) C dX11_operand_41 f_X11_113 rfl rfl ?_
        try dsimp only
        refine J_callV1 (pc := 44) C dX11_operand_44 m_X11_142 (c_bad l G _ _ _ _ _ _ _ _ _ _ _) ⟨jle rfl, jle rfl⟩ rfl rfl rfl rfl rfl (jle rfl) ⟨Nat.zero_le _, Nat.zero_le _⟩ ?_
        try dsimp only
        exact J_zret (pc := 47) C dX11_operand_47 rfl (by first | rfl | decide) (mR_f (by rw [opdF, if_neg (by intro z; first | exact absurd (bI_f h18) (by rw [z.1]; decide) | exact z.2.1 h24 | exact h36 ((lI_neg (by omega)).mpr z.2.2))])) (Nat.zero_le _) (Nat.zero_le _)
