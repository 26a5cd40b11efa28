set_option maxHeartbeats 4000000 in
set_option maxRecDepth 100000 in
theorem l_tE (l : Launch) (G : jG) {p : Program} {e : Env} {s : State} {m : MethodId} {args : Array Value} {below : List Frame} {meth : Method} {c : Code} (er : Nat) (F X : Nat × (Nat → Nat)) (K : Nat × Nat × Nat) (wr : Int32) (D : mD) (P : mP) (gv : Nat → Int64) (O : Nat × (Nat → Nat)) (T : jMem) (w : Int32) (v2 v3 v4 : Option Value) (C : jX0 p l (jR 7 140 0 0) s m args meth c G cX11_text 5 RX11 (some .int)) (h4 : O.1 < 400) : J p l e (jR 7 140 0 0) s m args below meth c G 5 0 0 (.inl (some (.int (nI (apO O ([59])).1)), encM 0 F X K wr D P gv (apO O ([59])) T)) 196 [some (.ref 1000), some (.int w), v2, v3, v4] [] (encM 0 F X K wr D P gv O T) 0 0 := by
  refine J_aload_n (pc := 196) C dX11_text_196 rfl rfl ?_
  refine J_bipush (pc := 197) (v := nI 59) C dX11_text_197 (by decide) ?_
  refine J_callV0 (pc := 199) C dX11_text_199 m_X11_266 (c_put l G _ _ _ _ _ _ _ _ _ _ _ (by omega)) ⟨jle rfl, jle rfl⟩ rfl rfl rfl rfl rfl (jle rfl) ⟨Nat.zero_le _, Nat.zero_le _⟩ ?_
  try dsimp only
  refine J_aload_n (pc := 202) C dX11_text_202 rfl rfl ?_
  refine J_get (pc := 203) C dX11_text_203 f_X11_263 rfl rfl ?_
  try dsimp only
  exact J_iret (pc := 206) C dX11_text_206 rfl (rfl) (Nat.zero_le _) (Nat.zero_le _)
set_option maxHeartbeats 4000000 in
set_option maxRecDepth 100000 in
theorem l_hx (l : Launch) (G : jG) {p : Program} {e : Env} {s : State} {m : MethodId} {args : Array Value} {below : List Frame} {meth : Method} {c : Code} (er : Nat) (F X : Nat × (Nat → Nat)) (K : Nat × Nat × Nat) (wr : Int32) (D : mD) (P : mP) (gv : Nat → Int64) (O : Nat × (Nat → Nat)) (T : jMem) (w : Int32) (cn : Nat) (i2 : Int32) (v4 : Option Value) (C : jX0 p l (jR 7 140 0 0) s m args meth c G cX11_text 5 RX11 (some .int)) (hc : cn ≤ 8) (h4 : O.1 + cn < 400) : J p l e (jR 7 140 0 0) s m args below meth c G 5 0 0 (.inl (some (.int (nI (apO O (hxL w cn ++ [59])).1)), encM 0 F X K wr D P gv (apO O (hxL w cn ++ [59])) T)) 56 [some (.ref 1000), some (.int w), some (.int i2), some (.int (nI (4 * cn) - nI 4)), v4] [] (encM 0 F X K wr D P gv O T) 0 0 := by
  induction cn generalizing O with
  | zero =>
    refine J_iload_n (pc := 56) C dX11_text_56 rfl rfl ?_
    refine J_if_lt (pc := 57) (tgt := 105) C dX11_text_57 (by decide) (fun h57 => ?_) (fun h57 => ?_)
    · refine J_goto (pc := 105) (tgt := 196) C dX11_text_105 (by decide) ?_
      exact l_tE l G er F X K wr D P gv O T w _ _ _ C (by omega)
    · exact absurd (pk_sneg (by decide) (by decide)) h57
  | succ cn ih =>
    have hnb : nibN w (4 * cn) < 16 := Nat.mod_lt _ (by decide)
    rw [show nI (4 * (cn + 1)) - nI 4 = nI (4 * cn) by rw [pk_sub (by omega)]; rfl]
    refine J_iload_n (pc := 56) C dX11_text_56 rfl rfl ?_
    refine J_if_ltN (pc := 57) (tgt := 105) C dX11_text_57 (by decide) (by omega) ?_
    refine J_aload_n (pc := 60) C dX11_text_60 rfl rfl ?_
    refine J_iload_n (pc := 61) C dX11_text_61 rfl rfl ?_
    refine J_iload_n (pc := 62) C dX11_text_62 rfl rfl ?_
    refine J_ishr (pc := 63) C dX11_text_63 ?_
    refine J_bipush (pc := 64) (v := nI 15) C dX11_text_64 (by decide) ?_
    refine J_iand (pc := 66) C dX11_text_66 ?_
    rw [nib_s w (by omega)]
    refine J_bipush (pc := 67) (v := nI 10) C dX11_text_67 (by decide) ?_
    refine J_icmp_geN (pc := 69) (tgt := 84) C dX11_text_69 (by decide) (by omega) (by omega) (fun h69 => ?_) (fun h69 => ?_)
    · refine J_bipush (pc := 84) (v := nI 97) C dX11_text_84 (by decide) ?_
      refine J_iload_n (pc := 86) C dX11_text_86 rfl rfl ?_
      refine J_iload_n (pc := 87) C dX11_text_87 rfl rfl ?_
      refine J_ishr (pc := 88) C dX11_text_88 ?_
      refine J_bipush (pc := 89) (v := nI 15) C dX11_text_89 (by decide) ?_
      refine J_iand (pc := 91) C dX11_text_91 ?_
      rw [nib_s w (by omega)]
      refine J_iaddN (pc := 92) C dX11_text_92 ?_
      refine J_bipush (pc := 93) (v := nI 10) C dX11_text_93 (by decide) ?_
      refine J_isubN (pc := 95) C dX11_text_95 (by omega) ?_
      rw [show 97 + nibN w (4 * cn) - 10 = hdL (nibN w (4 * cn)) by unfold hdL; rw [if_neg (by omega)]]
      refine J_callV0 (pc := 96) C dX11_text_96 m_X11_266 (c_put l G _ _ _ _ _ _ _ _ _ _ _ (by omega)) ⟨jle rfl, jle rfl⟩ rfl rfl rfl rfl rfl (jle rfl) ⟨Nat.zero_le _, Nat.zero_le _⟩ ?_
      try dsimp only
      refine J_iinc (pc := 99) C dX11_text_99 rfl (im4 _) (by decide) rfl ?_
      dsimp only [List.set]
      refine J_goto (pc := 102) (tgt := 56) C dX11_text_102 (by decide) ?_
      exact ih (O := apO O [hdL (nibN w (4 * cn))]) (by omega) (by rw [apO_1]; simp only [List.length_cons, List.length_nil]; omega)
    · refine J_bipush (pc := 72) (v := nI 48) C dX11_text_72 (by decide) ?_
      refine J_iload_n (pc := 74) C dX11_text_74 rfl rfl ?_
      refine J_iload_n (pc := 75) C dX11_text_75 rfl rfl ?_
      refine J_ishr (pc := 76) C dX11_text_76 ?_
      refine J_bipush (pc := 77) (v := nI 15) C dX11_text_77 (by decide) ?_
      refine J_iand (pc := 79) C dX11_text_79 ?_
      rw [nib_s w (by omega)]
      refine J_iaddN (pc := 80) C dX11_text_80 ?_
      refine J_goto (pc := 81) (tgt := 96) C dX11_text_81 (by decide) ?_
      rw [show 48 + nibN w (4 * cn) = hdL (nibN w (4 * cn)) by unfold hdL; rw [if_pos (by omega)]]
      refine J_callV0 (pc := 96) C dX11_text_96 m_X11_266 (c_put l G _ _ _ _ _ _ _ _ _ _ _ (by omega)) ⟨jle rfl, jle rfl⟩ rfl rfl rfl rfl rfl (jle rfl) ⟨Nat.zero_le _, Nat.zero_le _⟩ ?_
      try dsimp only
      refine J_iinc (pc := 99) C dX11_text_99 rfl (im4 _) (by decide) rfl ?_
      dsimp only [List.set]
      refine J_goto (pc := 102) (tgt := 56) C dX11_text_102 (by decide) ?_
      exact ih (O := apO O [hdL (nibN w (4 * cn))]) (by omega) (by rw [apO_1]; simp only [List.length_cons, List.length_nil]; omega)
set_option maxHeartbeats 4000000 in
set_option maxRecDepth 100000 in
theorem l_tO (l : Launch) (G : jG) {p : Program} {e : Env} {s : State} {m : MethodId} {args : Array Value} {below : List Frame} {meth : Method} {c : Code} (er : Nat) (F X : Nat × (Nat → Nat)) (K : Nat × Nat × Nat) (wr : Int32) (D : mD) (P : mP) (gv : Nat → Int64) (O : Nat × (Nat → Nat)) (T : jMem) (w : Int32) (o cn k : Nat) (v4 : Option Value) (C : jX0 p l (jR 7 140 0 0) s m args meth c G cX11_text 5 RX11 (some .int)) (ho : o < 60) (hdA : dA D) (hoA : oA D o) (hc : k + cn = D.2.2.2.2.2.2.2.2.1 o) (h4 : O.1 + 27 * cn < 400) : J p l e (jR 7 140 0 0) s m args below meth c G 5 0 0 (.inl (some (.int (nI (apO O (opsT D o w cn k ++ [59])).1)), encM 0 F X K wr D P gv (apO O (opsT D o w cn k ++ [59])) T)) 119 [some (.ref 1000), some (.int w), some (.int (nI o)), some (.int (nI k)), v4] [] (encM 0 F X K wr D P gv O T) 0 0 := by
  have h6 : D.2.2.2.2.2.2.2.2.1 o ≤ 6 := hoA.1
  induction cn generalizing k O v4 with
  | zero =>
    refine J_iload_n (pc := 119) C dX11_text_119 rfl rfl ?_
    refine J_aload_n (pc := 120) C dX11_text_120 rfl rfl ?_
    refine J_get (pc := 121) C dX11_text_121 f_X11_41 rfl rfl ?_
    refine J_iload_n (pc := 124) C dX11_text_124 rfl rfl ?_
    refine J_ialdN (pc := 125) C dX11_text_125 rfl (by omega) (by decide) ?_
    try dsimp only
    refine J_icmp_geN (pc := 126) (tgt := 196) C dX11_text_126 (by decide) (by omega) (by omega) (fun h126 => ?_) (fun h126 => ?_)
    · exact l_tE l G er F X K wr D P gv O T w _ _ _ C (by omega)
    · omega
  | succ cn ih =>
    have hkl : k < D.2.2.2.2.2.2.2.2.1 o := by omega
    obtain ⟨⟨hk3, b, hb1, hb2, hb3⟩, hs3⟩ := hoA.2.2 k hkl
    have hP := (hoA.2.2 k hkl).1
    have hk9 : D.2.2.2.2.2.2.2.2.2.1 (6 * o + k) ≤ 3 := hk3
    have hb4 : bitsN D (6 * o + k) ≤ 32 := by unfold bitsN; rw [hb3, nI_clamp (by omega)]; exact hb2
    have hab := taken_abs (w := w) (q := k) hoA.2.1 hb4
    have h33 : (2 : Nat) ^ 33 < 10 ^ 12 := by decide
    have hnl := nuL_len (v := takenF D o w k) (by omega)
    have hml := nmR_len (nm := D.2.2.2.2.1) (j := setN D (6 * o + k)) (k := 0)
    refine J_iload_n (pc := 119) C dX11_text_119 rfl rfl ?_
    refine J_aload_n (pc := 120) C dX11_text_120 rfl rfl ?_
    refine J_get (pc := 121) C dX11_text_121 f_X11_41 rfl rfl ?_
    refine J_iload_n (pc := 124) C dX11_text_124 rfl rfl ?_
    refine J_ialdN (pc := 125) C dX11_text_125 rfl (by omega) (by decide) ?_
    try dsimp only
    refine J_icmp_geN (pc := 126) (tgt := 196) C dX11_text_126 (by decide) (by omega) (by omega) (fun h126 => ?_) (fun h126 => ?_)
    · omega
    · refine J_iload_n (pc := 129) C dX11_text_129 rfl rfl ?_
      refine J_if_le (pc := 130) (tgt := 139) C dX11_text_130 (by decide) (fun h130 => ?_) (fun h130 => ?_)
      · have h130z : k = 0 := nI_le0 (by omega) h130
        refine J_aload_n (pc := 139) C dX11_text_139 rfl rfl ?_
        refine J_bipush (pc := 140) (v := nI 32) C dX11_text_140 (by decide) ?_
        refine J_callV0 (pc := 142) C dX11_text_142 m_X11_266 (c_put l G _ _ _ _ _ _ _ _ _ _ _ (by first | omega | (simp only [apO_1, List.length_cons, List.length_nil]; omega))) ⟨jle rfl, jle rfl⟩ rfl rfl rfl rfl rfl (jle rfl) ⟨Nat.zero_le _, Nat.zero_le _⟩ ?_
        try dsimp only
        refine J_bipush (pc := 145) (v := nI 6) C dX11_text_145 (by decide) ?_
        refine J_iload_n (pc := 147) C dX11_text_147 rfl rfl ?_
        refine J_imulN (pc := 148) C dX11_text_148 ?_
        refine J_iload_n (pc := 149) C dX11_text_149 rfl rfl ?_
        refine J_iaddN (pc := 150) C dX11_text_150 ?_
        refine J_istore (pc := 151) C dX11_text_151 (by decide) rfl ?_
        dsimp only [List.set]
        refine J_aload_n (pc := 153) C dX11_text_153 rfl rfl ?_
        refine J_get (pc := 154) C dX11_text_154 f_X11_44 rfl rfl ?_
        refine J_iload (pc := 157) C dX11_text_157 rfl ?_
        refine J_ialdN (pc := 159) C dX11_text_159 rfl (by omega) (by decide) ?_
        try dsimp only
        refine J_iconst (pc := 160) (v := nI 3) C dX11_text_160 (by decide) ?_
        refine J_icmp_neN (pc := 161) (tgt := 179) C dX11_text_161 (by decide) (by omega) (by omega) (fun h161 => ?_) (fun h161 => ?_)
        · refine J_aload_n (pc := 179) C dX11_text_179 rfl rfl ?_
          refine J_aload_n (pc := 180) C dX11_text_180 rfl rfl ?_
          refine J_iload_n (pc := 181) C dX11_text_181 rfl rfl ?_
          refine J_iload_n (pc := 182) C dX11_text_182 rfl rfl ?_
          refine J_iload_n (pc := 183) C dX11_text_183 rfl rfl ?_
          refine J_callV1 (pc := 184) C dX11_text_184 m_X11_256 (c_taken l G _ _ _ _ _ _ _ _ _ _ _ _ _ ho (by omega) hdA.2.1 hoA.2.1 hP) ⟨jle rfl, jle rfl⟩ rfl rfl rfl rfl rfl (jle rfl) ⟨Nat.zero_le _, Nat.zero_le _⟩ ?_
          try dsimp only
          refine J_callV0 (pc := 187) C dX11_text_187 m_X11_280 (c_number l G _ _ _ _ _ _ _ _ _ _ _ (by omega) (by simp only [apO_1, List.length_cons, List.length_nil]; omega)) ⟨jle rfl, jle rfl⟩ rfl rfl rfl rfl rfl (jle rfl) ⟨Nat.zero_le _, Nat.zero_le _⟩ ?_
          try dsimp only
          refine J_iincN (pc := 190) C dX11_text_190 rfl (by decide) rfl ?_
          dsimp only [List.set]
          refine J_goto (pc := 193) (tgt := 119) C dX11_text_193 (by decide) ?_
          have hT : opT D o w k = [32] ++ ([] ++ nuL (takenF D o w k)) := by rw [opT, if_pos h130z, if_neg h161]
          rw [show opsT D o w (cn + 1) k ++ [59] = opT D o w k ++ (opsT D o w cn (k + 1) ++ [59]) by rw [opsT, List.append_assoc], apO_app, hT]
          have hl : (apO O ([32] ++ ([] ++ nuL (takenF D o w k)))).1 ≤ O.1 + 27 := by
            rw [apO_1]; simp only [List.length_append, List.length_cons, List.length_nil]; first | omega | (have : (nmR (mSetN D) (setN D (6 * o + k)) 0).length ≤ 12 := hml; omega)
          exact J.to (by first | (rw [apO_app, apO_app]; done) | (rw [apO_app, apO_app]; rfl)) (ih (O := apO O ([32] ++ ([] ++ nuL (takenF D o w k)))) (k := k + 1) _ (by omega) (by omega))
        · obtain ⟨s9, hs1, hs2⟩ := hs3 h161
          have hsn : setN D (6 * o + k) = s9 := by unfold setN; rw [show mSetOf D (6 * o + k) = nI s9 from hs2, nI_clamp (by omega)]
          refine J_aload_n (pc := 164) C dX11_text_164 rfl rfl ?_
          refine J_aload_n (pc := 165) C dX11_text_165 rfl rfl ?_
          refine J_get (pc := 166) C dX11_text_166 f_X11_23 rfl rfl ?_
          refine J_aload_n (pc := 169) C dX11_text_169 rfl rfl ?_
          refine J_get (pc := 170) C dX11_text_170 f_X11_50 rfl rfl ?_
          refine J_iload (pc := 173) C dX11_text_173 rfl ?_
          refine J_ialdR (pc := 175) C dX11_text_175 rfl (by omega) (by decide) ?_
          try dsimp only
          rw [show D.2.2.2.2.2.2.2.2.2.2.2.1 (6 * o + k) = nI s9 from hs2, ← hsn]
          refine J_callV0 (pc := 176) C dX11_text_176 m_X11_277 (c_name l G _ _ _ _ _ _ _ _ _ _ _ (fun _ => rfl) (by decide) hdA.1.2.2.1 (by omega) (by omega) (by first | omega | (simp only [apO_1, List.length_cons, List.length_nil]; omega))) ⟨jle rfl, jle rfl⟩ rfl rfl rfl rfl rfl (jle rfl) ⟨Nat.zero_le _, Nat.zero_le _⟩ ?_
          try dsimp only
          refine J_aload_n (pc := 179) C dX11_text_179 rfl rfl ?_
          refine J_aload_n (pc := 180) C dX11_text_180 rfl rfl ?_
          refine J_iload_n (pc := 181) C dX11_text_181 rfl rfl ?_
          refine J_iload_n (pc := 182) C dX11_text_182 rfl rfl ?_
          refine J_iload_n (pc := 183) C dX11_text_183 rfl rfl ?_
          refine J_callV1 (pc := 184) C dX11_text_184 m_X11_256 (c_taken l G _ _ _ _ _ _ _ _ _ _ _ _ _ ho (by omega) hdA.2.1 hoA.2.1 hP) ⟨jle rfl, jle rfl⟩ rfl rfl rfl rfl rfl (jle rfl) ⟨Nat.zero_le _, Nat.zero_le _⟩ ?_
          try dsimp only
          refine J_callV0 (pc := 187) C dX11_text_187 m_X11_280 (c_number l G _ _ _ _ _ _ _ _ _ _ _ (by omega) (by simp only [apO_1, List.length_cons, List.length_nil]; omega)) ⟨jle rfl, jle rfl⟩ rfl rfl rfl rfl rfl (jle rfl) ⟨Nat.zero_le _, Nat.zero_le _⟩ ?_
          try dsimp only
          refine J_iincN (pc := 190) C dX11_text_190 rfl (by decide) rfl ?_
          dsimp only [List.set]
          refine J_goto (pc := 193) (tgt := 119) C dX11_text_193 (by decide) ?_
          have hT : opT D o w k = [32] ++ (nmR (mSetN D) (setN D (6 * o + k)) 0 ++ nuL (takenF D o w k)) := by rw [opT, if_pos h130z, if_pos h161]
          rw [show opsT D o w (cn + 1) k ++ [59] = opT D o w k ++ (opsT D o w cn (k + 1) ++ [59]) by rw [opsT, List.append_assoc], apO_app, hT]
          have hl : (apO O ([32] ++ (nmR (mSetN D) (setN D (6 * o + k)) 0 ++ nuL (takenF D o w k)))).1 ≤ O.1 + 27 := by
            rw [apO_1]; simp only [List.length_append, List.length_cons, List.length_nil]; first | omega | (have : (nmR (mSetN D) (setN D (6 * o + k)) 0).length ≤ 12 := hml; omega)
          exact J.to (by first | (rw [apO_app, apO_app]; done) | (rw [apO_app, apO_app]; rfl)) (ih (O := apO O ([32] ++ (nmR (mSetN D) (setN D (6 * o + k)) 0 ++ nuL (takenF D o w k)))) (k := k + 1) _ (by omega) (by omega))
      · have h130z : ¬ k = 0 := fun z => h130 (by rw [z]; decide)
        refine J_aload_n (pc := 133) C dX11_text_133 rfl rfl ?_
        refine J_bipush (pc := 134) (v := nI 44) C dX11_text_134 (by decide) ?_
        refine J_callV0 (pc := 136) C dX11_text_136 m_X11_266 (c_put l G _ _ _ _ _ _ _ _ _ _ _ (by first | omega | (simp only [apO_1, List.length_cons, List.length_nil]; omega))) ⟨jle rfl, jle rfl⟩ rfl rfl rfl rfl rfl (jle rfl) ⟨Nat.zero_le _, Nat.zero_le _⟩ ?_
        try dsimp only
        refine J_aload_n (pc := 139) C dX11_text_139 rfl rfl ?_
        refine J_bipush (pc := 140) (v := nI 32) C dX11_text_140 (by decide) ?_
        refine J_callV0 (pc := 142) C dX11_text_142 m_X11_266 (c_put l G _ _ _ _ _ _ _ _ _ _ _ (by first | omega | (simp only [apO_1, List.length_cons, List.length_nil]; omega))) ⟨jle rfl, jle rfl⟩ rfl rfl rfl rfl rfl (jle rfl) ⟨Nat.zero_le _, Nat.zero_le _⟩ ?_
        try dsimp only
        refine J_bipush (pc := 145) (v := nI 6) C dX11_text_145 (by decide) ?_
        refine J_iload_n (pc := 147) C dX11_text_147 rfl rfl ?_
        refine J_imulN (pc := 148) C dX11_text_148 ?_
        refine J_iload_n (pc := 149) C dX11_text_149 rfl rfl ?_
        refine J_iaddN (pc := 150) C dX11_text_150 ?_
        refine J_istore (pc := 151) C dX11_text_151 (by decide) rfl ?_
        dsimp only [List.set]
        refine J_aload_n (pc := 153) C dX11_text_153 rfl rfl ?_
        refine J_get (pc := 154) C dX11_text_154 f_X11_44 rfl rfl ?_
        refine J_iload (pc := 157) C dX11_text_157 rfl ?_
        refine J_ialdN (pc := 159) C dX11_text_159 rfl (by omega) (by decide) ?_
        try dsimp only
        refine J_iconst (pc := 160) (v := nI 3) C dX11_text_160 (by decide) ?_
        refine J_icmp_neN (pc := 161) (tgt := 179) C dX11_text_161 (by decide) (by omega) (by omega) (fun h161 => ?_) (fun h161 => ?_)
        · refine J_aload_n (pc := 179) C dX11_text_179 rfl rfl ?_
          refine J_aload_n (pc := 180) C dX11_text_180 rfl rfl ?_
          refine J_iload_n (pc := 181) C dX11_text_181 rfl rfl ?_
          refine J_iload_n (pc := 182) C dX11_text_182 rfl rfl ?_
          refine J_iload_n (pc := 183) C dX11_text_183 rfl rfl ?_
          refine J_callV1 (pc := 184) C dX11_text_184 m_X11_256 (c_taken l G _ _ _ _ _ _ _ _ _ _ _ _ _ ho (by omega) hdA.2.1 hoA.2.1 hP) ⟨jle rfl, jle rfl⟩ rfl rfl rfl rfl rfl (jle rfl) ⟨Nat.zero_le _, Nat.zero_le _⟩ ?_
          try dsimp only
          refine J_callV0 (pc := 187) C dX11_text_187 m_X11_280 (c_number l G _ _ _ _ _ _ _ _ _ _ _ (by omega) (by simp only [apO_1, List.length_cons, List.length_nil]; omega)) ⟨jle rfl, jle rfl⟩ rfl rfl rfl rfl rfl (jle rfl) ⟨Nat.zero_le _, Nat.zero_le _⟩ ?_
          try dsimp only
          refine J_iincN (pc := 190) C dX11_text_190 rfl (by decide) rfl ?_
          dsimp only [List.set]
          refine J_goto (pc := 193) (tgt := 119) C dX11_text_193 (by decide) ?_
          have hT : opT D o w k = [44, 32] ++ ([] ++ nuL (takenF D o w k)) := by rw [opT, if_neg h130z, if_neg h161]
          rw [show opsT D o w (cn + 1) k ++ [59] = opT D o w k ++ (opsT D o w cn (k + 1) ++ [59]) by rw [opsT, List.append_assoc], apO_app, hT]
          have hl : (apO O ([44, 32] ++ ([] ++ nuL (takenF D o w k)))).1 ≤ O.1 + 27 := by
            rw [apO_1]; simp only [List.length_append, List.length_cons, List.length_nil]; first | omega | (have : (nmR (mSetN D) (setN D (6 * o + k)) 0).length ≤ 12 := hml; omega)
          exact J.to (by first | (rw [apO_app, apO_app]; done) | (rw [apO_app, apO_app]; rfl)) (ih (O := apO O ([44, 32] ++ ([] ++ nuL (takenF D o w k)))) (k := k + 1) _ (by omega) (by omega))
        · obtain ⟨s9, hs1, hs2⟩ := hs3 h161
          have hsn : setN D (6 * o + k) = s9 := by unfold setN; rw [show mSetOf D (6 * o + k) = nI s9 from hs2, nI_clamp (by omega)]
          refine J_aload_n (pc := 164) C dX11_text_164 rfl rfl ?_
          refine J_aload_n (pc := 165) C dX11_text_165 rfl rfl ?_
          refine J_get (pc := 166) C dX11_text_166 f_X11_23 rfl rfl ?_
          refine J_aload_n (pc := 169) C dX11_text_169 rfl rfl ?_
          refine J_get (pc := 170) C dX11_text_170 f_X11_50 rfl rfl ?_
          refine J_iload (pc := 173) C dX11_text_173 rfl ?_
          refine J_ialdR (pc := 175) C dX11_text_175 rfl (by omega) (by decide) ?_
          try dsimp only
          rw [show D.2.2.2.2.2.2.2.2.2.2.2.1 (6 * o + k) = nI s9 from hs2, ← hsn]
          refine J_callV0 (pc := 176) C dX11_text_176 m_X11_277 (c_name l G _ _ _ _ _ _ _ _ _ _ _ (fun _ => rfl) (by decide) hdA.1.2.2.1 (by omega) (by omega) (by first | omega | (simp only [apO_1, List.length_cons, List.length_nil]; omega))) ⟨jle rfl, jle rfl⟩ rfl rfl rfl rfl rfl (jle rfl) ⟨Nat.zero_le _, Nat.zero_le _⟩ ?_
          try dsimp only
          refine J_aload_n (pc := 179) C dX11_text_179 rfl rfl ?_
          refine J_aload_n (pc := 180) C dX11_text_180 rfl rfl ?_
          refine J_iload_n (pc := 181) C dX11_text_181 rfl rfl ?_
          refine J_iload_n (pc := 182) C dX11_text_182 rfl rfl ?_
          refine J_iload_n (pc := 183) C dX11_text_183 rfl rfl ?_
          refine J_callV1 (pc := 184) C dX11_text_184 m_X11_256 (c_taken l G _ _ _ _ _ _ _ _ _ _ _ _ _ ho (by omega) hdA.2.1 hoA.2.1 hP) ⟨jle rfl, jle rfl⟩ rfl rfl rfl rfl rfl (jle rfl) ⟨Nat.zero_le _, Nat.zero_le _⟩ ?_
          try dsimp only
          refine J_callV0 (pc := 187) C dX11_text_187 m_X11_280 (c_number l G _ _ _ _ _ _ _ _ _ _ _ (by omega) (by simp only [apO_1, List.length_cons, List.length_nil]; omega)) ⟨jle rfl, jle rfl⟩ rfl rfl rfl rfl rfl (jle rfl) ⟨Nat.zero_le _, Nat.zero_le _⟩ ?_
          try dsimp only
          refine J_iincN (pc := 190) C dX11_text_190 rfl (by decide) rfl ?_
          dsimp only [List.set]
          refine J_goto (pc := 193) (tgt := 119) C dX11_text_193 (by decide) ?_
          have hT : opT D o w k = [44, 32] ++ (nmR (mSetN D) (setN D (6 * o + k)) 0 ++ nuL (takenF D o w k)) := by rw [opT, if_neg h130z, if_pos h161]
          rw [show opsT D o w (cn + 1) k ++ [59] = opT D o w k ++ (opsT D o w cn (k + 1) ++ [59]) by rw [opsT, List.append_assoc], apO_app, hT]
          have hl : (apO O ([44, 32] ++ (nmR (mSetN D) (setN D (6 * o + k)) 0 ++ nuL (takenF D o w k)))).1 ≤ O.1 + 27 := by
            rw [apO_1]; simp only [List.length_append, List.length_cons, List.length_nil]; first | omega | (have : (nmR (mSetN D) (setN D (6 * o + k)) 0).length ≤ 12 := hml; omega)
          exact J.to (by first | (rw [apO_app, apO_app]; done) | (rw [apO_app, apO_app]; rfl)) (ih (O := apO O ([44, 32] ++ (nmR (mSetN D) (setN D (6 * o + k)) 0 ++ nuL (takenF D o w k)))) (k := k + 1) _ (by omega) (by omega))
set_option maxHeartbeats 4000000 in
set_option maxRecDepth 100000 in
theorem c_text_x (l : Launch) (G : jG) (er : Nat) (F X : Nat × (Nat → Nat)) (K : Nat × Nat × Nat) (wr : Int32) (D : mD) (P : mP) (gv : Nat → Int64) (O : Nat × (Nat → Nat)) (T : jMem) (w : Int32) (hds : D.2.2.2.1 = 0) : jC l G yX11_text cX11_text 5 (some .int) 7 140 0 0 [.ref 1000, .int w] (encM er F X K wr D P gv O T) (.inl (some (.int (nI 0)), encM 1 F X K wr D P gv O T)) := by
  refine jC.of (by decide) 3 rfl [some (.ref 1000), some (.int w), none, none, none] rfl (fun p e s m args below meth c C hT9 hNm9 => ?_)
  refine J_aload_n (pc := 0) C dX11_text_0 rfl rfl ?_
  refine J_iconst (pc := 1) (v := nI 0) C dX11_text_1 (by decide) ?_
  refine J_putU (pc := 2) C dX11_text_2 p_X11_75 rfl (jlt rfl) rfl rfl (uM_err _) ?_
  try dsimp only
  refine J_aload_n (pc := 5) C dX11_text_5 rfl rfl ?_
  refine J_aload_n (pc := 6) C dX11_text_6 rfl rfl ?_
  refine J_get (pc := 7) C dX11_text_7 f_X11_177 rfl rfl ?_
  try dsimp only
  refine J_if_neN (pc := 10) (tgt := 17) C dX11_text_10 (by decide) (by omega) (fun h10 => ?_) (fun h10 => ?_)
  · omega
  · refine J_iconst (pc := 13) (v := nI 1) C dX11_text_13 (by decide) ?_
    refine J_goto (pc := 14) (tgt := 18) C dX11_text_14 (by decide) ?_
    refine J_iconst (pc := 18) (v := nI 1) C dX11_text_18 (by decide) ?_
    refine J_callV1 (pc := 19) C dX11_text_19 m_X11_81 (c_fails_t l G _ _ _ _ _ _ _ _ _ _ (by omega) (by decide)) ⟨jle rfl, jle rfl⟩ rfl rfl rfl rfl rfl (jle rfl) ⟨Nat.zero_le _, Nat.zero_le _⟩ ?_
    try dsimp only
    refine J_if_eqN (pc := 22) (tgt := 27) C dX11_text_22 (by decide) (by omega) (fun h22 => absurd h22 (by decide)) (fun _ => ?_)
    refine J_iconst (pc := 25) (v := nI 0) C dX11_text_25 (by decide) ?_
    exact J_iret (pc := 26) C dX11_text_26 rfl (rfl) (Nat.zero_le _) (Nat.zero_le _)
set_option maxHeartbeats 4000000 in
set_option maxRecDepth 100000 in
theorem c_text (l : Launch) (G : jG) (er : Nat) (F X : Nat × (Nat → Nat)) (K : Nat × Nat × Nat) (wr : Int32) (D : mD) (P : mP) (gv : Nat → Int64) (O : Nat × (Nat → Nat)) (T : jMem) (w : Int32) (hds : D.2.2.2.1 = 1) (hdA : dA D) (hW : D.1 % 4 = 0) : jC l G yX11_text cX11_text 5 (some .int) 7 140 0 0 [.ref 1000, .int w] (encM er F X K wr D P gv O T) (.inl (some (.int (nI (apO (0, O.2) (textL D w)).1)), encM 0 F X K wr D P gv (apO (0, O.2) (textL D w)) T)) := by
  refine jC.of (by decide) 3 rfl [some (.ref 1000), some (.int w), none, none, none] rfl (fun p e s m args below meth c C hT9 hNm9 => ?_)
  have h60 := hdA.1.2.1
  have h32 := hdA.2.1
  have hoo := ooF_lt (wt := mWhat D) (W := D.1) (w := w) (m := D.2.2.1) (o := 0)
  obtain ⟨o, eo⟩ : ∃ z, z = opOfF D w := ⟨_, rfl⟩
  rw [show ooF (mWhat D) D.1 w D.2.2.1 0 = o from eo.symm] at hoo
  refine J_aload_n (pc := 0) C dX11_text_0 rfl rfl ?_
  refine J_iconst (pc := 1) (v := nI 0) C dX11_text_1 (by decide) ?_
  refine J_putU (pc := 2) C dX11_text_2 p_X11_75 rfl (jlt rfl) rfl rfl (uM_err _) ?_
  try dsimp only
  refine J_aload_n (pc := 5) C dX11_text_5 rfl rfl ?_
  refine J_aload_n (pc := 6) C dX11_text_6 rfl rfl ?_
  refine J_get (pc := 7) C dX11_text_7 f_X11_177 rfl rfl ?_
  try dsimp only
  refine J_if_neN (pc := 10) (tgt := 17) C dX11_text_10 (by decide) (by omega) (fun h10 => ?_) (fun h10 => ?_)
  · refine J_iconst (pc := 17) (v := nI 0) C dX11_text_17 (by decide) ?_
    refine J_iconst (pc := 18) (v := nI 1) C dX11_text_18 (by decide) ?_
    refine J_callV1 (pc := 19) C dX11_text_19 m_X11_81 (c_fails_f l G _ _ _ _ _ _ _ _ _ _) ⟨jle rfl, jle rfl⟩ rfl rfl rfl rfl rfl (jle rfl) ⟨Nat.zero_le _, Nat.zero_le _⟩ ?_
    try dsimp only
    refine J_if_eqN (pc := 22) (tgt := 27) C dX11_text_22 (by decide) (by omega) (fun _ => ?_) (fun h22 => absurd h22 (by decide))
    refine J_aload_n (pc := 27) C dX11_text_27 rfl rfl ?_
    refine J_iconst (pc := 28) (v := nI 0) C dX11_text_28 (by decide) ?_
    refine J_putU (pc := 29) C dX11_text_29 p_X11_263 rfl (jlt rfl) rfl rfl (uM_size _) ?_
    try dsimp only
    refine J_aload_n (pc := 32) C dX11_text_32 rfl rfl ?_
    refine J_iload_n (pc := 33) C dX11_text_33 rfl rfl ?_
    refine J_callV1 (pc := 34) C dX11_text_34 m_X11_260 (c_opOf l G _ _ _ _ _ _ _ _ _ _ _ h32 h60) ⟨jle rfl, jle rfl⟩ rfl rfl rfl rfl rfl (jle rfl) ⟨Nat.zero_le _, Nat.zero_le _⟩ ?_
    try dsimp only
    rw [← eo]
    refine J_istore_n (pc := 37) C dX11_text_37 rfl (by decide) rfl ?_
    dsimp only [List.set]
    refine J_iload_n (pc := 38) C dX11_text_38 rfl rfl ?_
    refine J_if_ge (pc := 39) (tgt := 108) C dX11_text_39 (by decide) (fun h39 => ?_) (fun h39 => ?_)
    · have ho := (lI_pos (by omega)).mp h39
      rw [lI_n ho]
      have hol : o < D.2.2.1 := by omega
      have hoA := hdA.2.2 o hol
      have h6 := hoA.1
      have hml := nmR_len (nm := D.2.2.2.2.2.2.1) (j := o) (k := 0)
      have hT : textL D w = nmR D.2.2.2.2.2.2.1 o 0 ++ (opsT D o w (mOpds D o) 0 ++ [59]) := by rw [textL, ← eo, if_neg ho, List.append_assoc]
      rw [hT, apO_app]
      refine J_aload_n (pc := 108) C dX11_text_108 rfl rfl ?_
      refine J_aload_n (pc := 109) C dX11_text_109 rfl rfl ?_
      refine J_get (pc := 110) C dX11_text_110 f_X11_29 rfl rfl ?_
      refine J_iload_n (pc := 113) C dX11_text_113 rfl rfl ?_
      refine J_callV0 (pc := 114) C dX11_text_114 m_X11_277 (c_name l G _ _ _ _ _ _ _ _ _ _ _ (fun _ => rfl) (by decide) hdA.1.2.2.2.1 (by omega) (by omega) (jle rfl)) ⟨jle rfl, jle rfl⟩ rfl rfl rfl rfl rfl (jle rfl) ⟨Nat.zero_le _, Nat.zero_le _⟩ ?_
      try dsimp only
      refine J_iconst (pc := 117) (v := nI 0) C dX11_text_117 (by decide) ?_
      refine J_istore_n (pc := 118) C dX11_text_118 rfl (by decide) rfl ?_
      dsimp only [List.set]
      exact l_tO l G 0 F X K wr D P gv _ T w o (mOpds D o) 0 _ C (by omega) hdA hoA (Nat.zero_add _) (by rw [apO_1]; show 0 + (nmR D.2.2.2.2.2.2.1 o 0).length + 27 * mOpds D o < 400; omega)
    · have ho : o = 1000 := by rcases hoo with z | z; exact z; exact absurd ((lI_pos (by omega)).mpr (by omega)) h39
      have hT : textL D w = [119, 111, 114, 100, 32, 48, 120] ++ (hxL w (D.1 / 4) ++ [59]) := by rw [textL, if_pos (eo.symm.trans ho), List.append_assoc]
      rw [hT, apO_app]
      refine J_aload_n (pc := 42) C dX11_text_42 rfl rfl ?_
      refine J_ldcWS (pc := 43) (i := 27) C dX11_text_43 rfl ?_
      refine J_callV0 (pc := 46) C dX11_text_46 m_X11_273 (c_say l G _ _ _ _ _ _ _ _ _ _ (i := 27) rfl (jle rfl)) ⟨jle rfl, jle rfl⟩ rfl rfl rfl rfl rfl (jle rfl) ⟨Nat.zero_le _, Nat.zero_le _⟩ ?_
      try dsimp only
      refine J_aload_n (pc := 49) C dX11_text_49 rfl rfl ?_
      refine J_get (pc := 50) C dX11_text_50 f_X11_196 rfl rfl ?_
      try dsimp only
      refine J_iconst (pc := 53) (v := nI 4) C dX11_text_53 (by decide) ?_
      refine J_isub (pc := 54) C dX11_text_54 ?_
      refine J_istore_n (pc := 55) C dX11_text_55 rfl (by decide) rfl ?_
      dsimp only [List.set]
      obtain ⟨cn, ecn⟩ : ∃ z, z = D.1 / 4 := ⟨_, rfl⟩
      have e4 : D.1 = 4 * cn := by omega
      rw [← ecn, show nI D.1 = nI (4 * cn) by rw [e4]]
      exact l_hx l G 0 F X K wr D P gv _ T w cn _ _ C (by omega) (by rw [apO_1]; simp only [List.length_cons, List.length_nil]; omega)
  · omega
