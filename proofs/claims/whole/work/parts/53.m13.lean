set_option maxHeartbeats 4000000 in
set_option maxRecDepth 100000 in
theorem l_gk (l : Launch) (G : jG) {p : Program} {e : Env} {s : State} {m : MethodId} {args : Array Value} {below : List Frame} {meth : Method} {c : Code} (er : Nat) (F X : Nat × (Nat → Nat)) (K : Nat × Nat × Nat) (D : mD) (P : mP) (gv : Nat → Int64) (O : Nat × (Nat → Nat)) (T : jMem) {ou : jO} (u o w k : Nat) (v : Int64) (v2 : Option Value) (C : jX0 p l (jR 5 98 0 0) s m args meth c G cX11_linked 8 RX11 (some .boolean)) (ho : o < 60) (hw : w < 1000) (hoA : oA D o) (hw9 : D.1 ≤ 32) (hk : k ≤ D.2.2.2.2.2.2.2.2.1 o) (kk : J p l e (jR 5 98 0 0) s m args below meth c G 8 0 0 (ou) 149 [some (.ref 1000), some (.int (nI u)), v2, some (.int (nI o)), some (.int (nI w)), some (.long v), none, some (.int (nI (D.2.2.2.2.2.2.2.2.1 o)))] [] (encM er F X K (-1) D P (gkF D o (P.2.2.2.2.2.1 w) gv (D.2.2.2.2.2.2.2.2.1 o)) O T) 0 0) : J p l e (jR 5 98 0 0) s m args below meth c G 8 0 0 (ou) 111 [some (.ref 1000), some (.int (nI u)), v2, some (.int (nI o)), some (.int (nI w)), some (.long v), none, some (.int (nI k))] [] (encM er F X K (-1) D P (gkF D o (P.2.2.2.2.2.1 w) gv k) O T) 0 0 := by
  have h6 : D.2.2.2.2.2.2.2.2.1 o ≤ 6 := hoA.1
  induction hm : D.2.2.2.2.2.2.2.2.1 o - k generalizing k with
  | zero =>
    have h9 : k = D.2.2.2.2.2.2.2.2.1 o := by omega
    subst h9
    refine J_iload (pc := 111) C dX11_linked_111 rfl ?_
    refine J_aload_n (pc := 113) C dX11_linked_113 rfl rfl ?_
    refine J_get (pc := 114) C dX11_linked_114 f_X11_41 rfl rfl ?_
    refine J_iload_n (pc := 117) C dX11_linked_117 rfl rfl ?_
    refine J_ialdN (pc := 118) C dX11_linked_118 rfl (by omega) (by decide) ?_
    try dsimp only
    refine J_icmp_geN (pc := 119) (tgt := 149) C dX11_linked_119 (by decide) (by omega) (by omega) (fun h119 => ?_) (fun h119 => ?_)
    · exact kk
    · omega
  | succ d ih =>
    refine J_iload (pc := 111) C dX11_linked_111 rfl ?_
    refine J_aload_n (pc := 113) C dX11_linked_113 rfl rfl ?_
    refine J_get (pc := 114) C dX11_linked_114 f_X11_41 rfl rfl ?_
    refine J_iload_n (pc := 117) C dX11_linked_117 rfl rfl ?_
    refine J_ialdN (pc := 118) C dX11_linked_118 rfl (by omega) (by decide) ?_
    try dsimp only
    refine J_icmp_geN (pc := 119) (tgt := 149) C dX11_linked_119 (by decide) (by omega) (by omega) (fun h119 => ?_) (fun h119 => ?_)
    · omega
    · refine J_aload_n (pc := 122) C dX11_linked_122 rfl rfl ?_
      refine J_get (pc := 123) C dX11_linked_123 f_X11_71 rfl rfl ?_
      refine J_iload (pc := 126) C dX11_linked_126 rfl ?_
      refine J_aload_n (pc := 128) C dX11_linked_128 rfl rfl ?_
      refine J_iload_n (pc := 129) C dX11_linked_129 rfl rfl ?_
      refine J_aload_n (pc := 130) C dX11_linked_130 rfl rfl ?_
      refine J_get (pc := 131) C dX11_linked_131 f_X11_56 rfl rfl ?_
      refine J_iload (pc := 134) C dX11_linked_134 rfl ?_
      refine J_ialdR (pc := 136) C dX11_linked_136 rfl (by omega) (by decide) ?_
      try dsimp only
      refine J_iload (pc := 137) C dX11_linked_137 rfl ?_
      refine J_callV1 (pc := 139) C dX11_linked_139 m_X11_256 (c_taken l G _ _ _ _ _ _ _ _ _ _ o k _ ho (by omega) hw9 hoA.2.1 (hoA.2.2 k (show k < D.2.2.2.2.2.2.2.2.1 o by omega)).1) ⟨jle rfl, jle rfl⟩ rfl rfl rfl rfl rfl (jle rfl) ⟨Nat.zero_le _, Nat.zero_le _⟩ ?_
      try dsimp only
      refine J_lastN (pc := 142) C dX11_linked_142 rfl (by omega) (by decide) (uM_given _) ?_
      refine J_iincN (pc := 143) C dX11_linked_143 rfl (by decide) rfl ?_
      dsimp only [List.set]
      refine J_goto (pc := 146) (tgt := 111) C dX11_linked_146 (by decide) ?_
      exact ih (k + 1) (by omega) (by omega)
set_option maxHeartbeats 4000000 in
set_option maxRecDepth 100000 in
theorem c_linked (l : Launch) (G : jG) (er : Nat) (F X : Nat × (Nat → Nat)) (K : Nat × Nat × Nat) (D : mD) (P : mP) (gv : Nat → Int64) (O : Nat × (Nat → Nat)) (T : jMem) (a u : Nat) (hn : X.1 ≤ 4000) (hX : ∀ k, X.2 k < 256) (hdA : dA D) (ha : a ≤ 6000) (hP : pI X D a P) (hu : u < P.2.2.1) : jC l G yX11_linked cX11_linked 8 (some .boolean) 5 98 0 0 [.ref 1000, .int (nI u)] (encM er F X K (-1) D P gv O T) (.inl (some (.int (bI (lkF X D u P gv).1.isNone)), encM er F X (lkF X D u P gv).2.1 (wrI (lkF X D u P gv).1) D (lkF X D u P gv).2.2.1 (lkF X D u P gv).2.2.2 O T)) := by
  refine jC.of (by decide) 6 rfl [some (.ref 1000), some (.int (nI u)), none, none, none, none, none, none] rfl (fun p e s m args below meth c C hT9 hNm9 => ?_)
  obtain ⟨u1, u2, u3, u4⟩ := hP.2.2.2.2.2 u hu
  have p2 := hP.2.1
  have p3 := hP.2.2.1
  have p4 := hP.2.2.2.1
  have p5 := hP.2.2.2.2.1
  have d60 := hdA.1.2.1
  have hoA := hdA.2.2 _ u3
  have ho60 : P.2.2.2.2.2.2.2.2.2 u < 60 := by omega
  have h6 := hoA.1
  have u5 : P.2.2.2.2.2.2.2.2.1 u < D.2.2.2.2.2.2.2.2.1 (P.2.2.2.2.2.2.2.2.2 u) := u4
  refine J_aload_n (pc := 0) C dX11_linked_0 rfl rfl ?_
  refine J_aload_n (pc := 1) C dX11_linked_1 rfl rfl ?_
  refine J_get (pc := 2) C dX11_linked_2 f_X11_59 rfl rfl ?_
  refine J_iload_n (pc := 5) C dX11_linked_5 rfl rfl ?_
  refine J_ialdN (pc := 6) C dX11_linked_6 rfl (by omega) (by decide) ?_
  try dsimp only
  refine J_putU (pc := 7) C dX11_linked_7 p_X11_113 rfl (jlt rfl) rfl rfl (uM_from _) ?_
  try dsimp only
  refine J_aload_n (pc := 10) C dX11_linked_10 rfl rfl ?_
  refine J_aload_n (pc := 11) C dX11_linked_11 rfl rfl ?_
  refine J_get (pc := 12) C dX11_linked_12 f_X11_113 rfl rfl ?_
  try dsimp only
  refine J_putU (pc := 15) C dX11_linked_15 p_X11_110 rfl (jlt rfl) rfl rfl (uM_to _) ?_
  try dsimp only
  refine J_aload_n (pc := 18) C dX11_linked_18 rfl rfl ?_
  refine J_callV0 (pc := 19) C dX11_linked_19 m_X11_145 (c_next l G _ _ _ _ _ _ _ _ _ _ hn hX (by omega)) ⟨jle rfl, jle rfl⟩ rfl rfl rfl rfl rfl (jle rfl) ⟨Nat.zero_le _, Nat.zero_le _⟩ ?_
  try dsimp only
  obtain ⟨K1, e1⟩ : ∃ z, z = nextF X (P.2.2.2.2.2.2.1 u) := ⟨_, rfl⟩
  rw [← e1]
  have g1 : tkG X K1 := by rw [e1]; exact nextF_g u1
  have k1 := g1.1
  have f1 := findF_lt (X := X) (K := K1) (nm := P.2.2.2.1) (m := P.2.1) (j := 0)
  obtain ⟨j, ej⟩ : ∃ z, z = findF X K1 P.2.2.2.1 P.2.1 0 := ⟨_, rfl⟩
  rw [← ej] at f1
  have r1 : lkF X D u P gv = lk2 D K1 P gv j u := by rw [lkF, ← e1, ← ej]
  refine J_aload_n (pc := 22) C dX11_linked_22 rfl rfl ?_
  refine J_aload_n (pc := 23) C dX11_linked_23 rfl rfl ?_
  refine J_get (pc := 24) C dX11_linked_24 f_X11_35 rfl rfl ?_
  refine J_aload_n (pc := 27) C dX11_linked_27 rfl rfl ?_
  refine J_get (pc := 28) C dX11_linked_28 f_X11_184 rfl rfl ?_
  try dsimp only
  refine J_callV1 (pc := 31) C dX11_linked_31 m_X11_211 (c_find l G _ _ _ _ _ _ _ _ _ _ _ hn hX rfl (by decide) p4 k1 (by omega) (by omega)) ⟨jle rfl, jle rfl⟩ rfl rfl rfl rfl rfl (jle rfl) ⟨Nat.zero_le _, Nat.zero_le _⟩ ?_
  try dsimp only
  rw [← ej]
  refine J_istore_n (pc := 34) C dX11_linked_34 rfl (by decide) rfl ?_
  dsimp only [List.set]
  refine J_aload_n (pc := 35) C dX11_linked_35 rfl rfl ?_
  refine J_get (pc := 36) C dX11_linked_36 f_X11_68 rfl rfl ?_
  refine J_iload_n (pc := 39) C dX11_linked_39 rfl rfl ?_
  refine J_ialdN (pc := 40) C dX11_linked_40 rfl (by omega) (by decide) ?_
  try dsimp only
  refine J_istore_n (pc := 41) C dX11_linked_41 rfl (by decide) rfl ?_
  dsimp only [List.set]
  refine J_aload_n (pc := 42) C dX11_linked_42 rfl rfl ?_
  refine J_get (pc := 43) C dX11_linked_43 f_X11_62 rfl rfl ?_
  refine J_iload_n (pc := 46) C dX11_linked_46 rfl rfl ?_
  refine J_ialdN (pc := 47) C dX11_linked_47 rfl (by omega) (by decide) ?_
  try dsimp only
  refine J_istore (pc := 48) C dX11_linked_48 (by decide) rfl ?_
  dsimp only [List.set]
  refine J_iload_n (pc := 50) C dX11_linked_50 rfl rfl ?_
  refine J_if_ge (pc := 51) (tgt := 65) C dX11_linked_51 (by decide) (fun h51 => ?_) (fun h51 => ?_)
  · have h9 := (lI_pos (by omega)).mp h51
    rw [lI_n h9]
    have hj := p5 j (by omega)
    refine J_aload_n (pc := 65) C dX11_linked_65 rfl rfl ?_
    refine J_get (pc := 66) C dX11_linked_66 f_X11_38 rfl rfl ?_
    refine J_iload_n (pc := 69) C dX11_linked_69 rfl rfl ?_
    refine J_ialdN (pc := 70) C dX11_linked_70 rfl (by omega) (by decide) ?_
    try dsimp only
    refine J_iload (pc := 71) C dX11_linked_71 rfl ?_
    refine J_isub (pc := 73) C dX11_linked_73 ?_
    refine J_i2l (pc := 74) C dX11_linked_74 rfl ?_
    refine J_lstore (pc := 75) C dX11_linked_75 (by decide) rfl ?_
    dsimp only [List.set]
    refine J_aload_n (pc := 77) C dX11_linked_77 rfl rfl ?_
    refine J_bipush (pc := 78) (v := nI 6) C dX11_linked_78 (by decide) ?_
    refine J_iload_n (pc := 80) C dX11_linked_80 rfl rfl ?_
    refine J_imulN (pc := 81) C dX11_linked_81 ?_
    refine J_aload_n (pc := 82) C dX11_linked_82 rfl rfl ?_
    refine J_get (pc := 83) C dX11_linked_83 f_X11_65 rfl rfl ?_
    refine J_iload_n (pc := 86) C dX11_linked_86 rfl rfl ?_
    refine J_ialdN (pc := 87) C dX11_linked_87 rfl (by omega) (by decide) ?_
    try dsimp only
    refine J_iaddN (pc := 88) C dX11_linked_88 ?_
    refine J_lload (pc := 89) C dX11_linked_89 rfl ?_
    refine J_callV1 (pc := 91) C dX11_linked_91 m_X11_252 (c_fits l G _ _ _ _ _ _ _ _ _ _ _ _ (by omega) (hoA.2.2 _ u4).1) ⟨jle rfl, jle rfl⟩ rfl rfl rfl rfl rfl (jle rfl) ⟨Nat.zero_le _, Nat.zero_le _⟩ ?_
    try dsimp only
    refine J_if_ne (pc := 94) (tgt := 108) C dX11_linked_94 (by decide) (fun h94 => ?_) (fun h94 => ?_)
    · refine J_iconst (pc := 108) (v := nI 0) C dX11_linked_108 (by decide) ?_
      refine J_istore (pc := 109) C dX11_linked_109 (by decide) rfl ?_
      dsimp only [List.set]
      refine l_gk l G er F X K1 D P gv O T u (P.2.2.2.2.2.2.2.2.2 u) (P.2.2.2.2.2.2.2.1 u) 0 _ _ C ho60 u2 hoA hdA.2.1 (Nat.zero_le _) ?_
      refine J_aload_n (pc := 149) C dX11_linked_149 rfl rfl ?_
      refine J_get (pc := 150) C dX11_linked_150 f_X11_71 rfl rfl ?_
      refine J_aload_n (pc := 153) C dX11_linked_153 rfl rfl ?_
      refine J_get (pc := 154) C dX11_linked_154 f_X11_65 rfl rfl ?_
      refine J_iload_n (pc := 157) C dX11_linked_157 rfl rfl ?_
      refine J_ialdN (pc := 158) C dX11_linked_158 rfl (by omega) (by decide) ?_
      try dsimp only
      refine J_lload (pc := 159) C dX11_linked_159 rfl ?_
      refine J_lastN (pc := 161) C dX11_linked_161 rfl (by omega) (by decide) (uM_given _) ?_
      refine J_aload_n (pc := 162) C dX11_linked_162 rfl rfl ?_
      refine J_get (pc := 163) C dX11_linked_163 f_X11_56 rfl rfl ?_
      refine J_iload (pc := 166) C dX11_linked_166 rfl ?_
      refine J_aload_n (pc := 168) C dX11_linked_168 rfl rfl ?_
      refine J_iload_n (pc := 169) C dX11_linked_169 rfl rfl ?_
      refine J_callV1 (pc := 170) C dX11_linked_170 m_X11_245 (c_made l G _ _ _ _ _ _ _ _ _ _ _ ho60 hdA.2.1 hoA.2.1) ⟨jle rfl, jle rfl⟩ rfl rfl rfl rfl rfl (jle rfl) ⟨Nat.zero_le _, Nat.zero_le _⟩ ?_
      try dsimp only
      refine J_iastR (pc := 173) C dX11_linked_173 rfl (by omega) (by decide) (uM_word _) ?_
      refine J_iconst (pc := 174) (v := nI 1) C dX11_linked_174 (by decide) ?_
      exact J_zret (pc := 175) C dX11_linked_175 rfl (by first | rfl | decide) (mV_t (by rw [r1, lk2, if_neg h9, if_pos (show fitF _ _ (lkV P j u) = true from bI_t h94)]; rfl)) (Nat.zero_le _) (Nat.zero_le _)
    · refine J_aload_n (pc := 97) C dX11_linked_97 rfl rfl ?_
      refine J_aload_n (pc := 98) C dX11_linked_98 rfl rfl ?_
      refine J_get (pc := 99) C dX11_linked_99 f_X11_59 rfl rfl ?_
      refine J_iload_n (pc := 102) C dX11_linked_102 rfl rfl ?_
      refine J_ialdN (pc := 103) C dX11_linked_103 rfl (by omega) (by decide) ?_
      try dsimp only
      refine J_callV1 (pc := 104) C dX11_linked_104 m_X11_142 (c_bad l G _ _ _ _ _ _ _ _ _ _ _) ⟨jle rfl, jle rfl⟩ rfl rfl rfl rfl rfl (jle rfl) ⟨Nat.zero_le _, Nat.zero_le _⟩ ?_
      try dsimp only
      exact J_zret (pc := 107) C dX11_linked_107 rfl (by first | rfl | decide) (mV_f (by rw [r1, lk2, if_neg h9, if_neg (by rw [show fitF _ _ (lkV P j u) = false from bI_f h94]; decide)])) (Nat.zero_le _) (Nat.zero_le _)
  · refine J_aload_n (pc := 54) C dX11_linked_54 rfl rfl ?_
    refine J_aload_n (pc := 55) C dX11_linked_55 rfl rfl ?_
    refine J_get (pc := 56) C dX11_linked_56 f_X11_59 rfl rfl ?_
    refine J_iload_n (pc := 59) C dX11_linked_59 rfl rfl ?_
    refine J_ialdN (pc := 60) C dX11_linked_60 rfl (by omega) (by decide) ?_
    try dsimp only
    refine J_callV1 (pc := 61) C dX11_linked_61 m_X11_142 (c_bad l G _ _ _ _ _ _ _ _ _ _ _) ⟨jle rfl, jle rfl⟩ rfl rfl rfl rfl rfl (jle rfl) ⟨Nat.zero_le _, Nat.zero_le _⟩ ?_
    try dsimp only
    exact J_zret (pc := 64) C dX11_linked_64 rfl (by first | rfl | decide) (mV_f (by rw [r1, lk2, if_pos (by rcases f1 with z | z; exact z; exact absurd ((lI_pos (by omega)).mpr (by omega)) h51)])) (Nat.zero_le _) (Nat.zero_le _)
set_option maxHeartbeats 4000000 in
set_option maxRecDepth 100000 in
theorem l_asE (l : Launch) (G : jG) {p : Program} {e : Env} {s : State} {m : MethodId} {args : Array Value} {below : List Frame} {meth : Method} {c : Code} (F X : Nat × (Nat → Nat)) (D : mD) (O : Nat × (Nat → Nat)) (T : jMem) (r : mV) (v1 v2 : Option Value) (C : jX0 p l (jR 11 235 0 0) s m args meth c G cX11_assemble 3 RX11 (some .int)) (hn : X.1 ≤ 4000) (hp : pLe X r.1) : J p l e (jR 11 235 0 0) s m args below meth c G 3 0 0 (.inl (some (.int (if (r).1 = none then nI (r).2.2.1.1 else nI 0)), encM (if (r).1 = none then 0 else 3) (0, F.2) X (r).2.1 (wrI (r).1) D (asE (r)) (r).2.2.2 O T)) 115 [some (.ref 1000), v1, v2] [] (encM 0 (0, F.2) X r.2.1 (wrI r.1) D r.2.2.1 r.2.2.2 O T) 0 0 := by
  refine J_aload_n (pc := 115) C dX11_assemble_115 rfl rfl ?_
  refine J_aload_n (pc := 116) C dX11_assemble_116 rfl rfl ?_
  refine J_get (pc := 117) C dX11_assemble_117 f_X11_7 rfl rfl ?_
  try dsimp only
  refine J_if_lt (pc := 120) (tgt := 127) C dX11_assemble_120 (by decide) (fun h120 => ?_) (fun h120 => ?_)
  · have z1 : r.1 = none := wrI_neg h120 (fun p h => by have := hp p h; omega)
    refine J_iconst (pc := 127) (v := nI 0) C dX11_assemble_127 (by decide) ?_
    refine J_iconst (pc := 128) (v := nI 3) C dX11_assemble_128 (by decide) ?_
    refine J_callV1 (pc := 129) C dX11_assemble_129 m_X11_81 (c_fails_f l G _ _ _ _ _ _ _ _ _ _) ⟨jle rfl, jle rfl⟩ rfl rfl rfl rfl rfl (jle rfl) ⟨Nat.zero_le _, Nat.zero_le _⟩ ?_
    try dsimp only
    refine J_if_eqN (pc := 132) (tgt := 147) C dX11_assemble_132 (by decide) (by omega) (fun _ => ?_) (fun h132 => absurd h132 (by decide))
    refine J_aload_n (pc := 147) C dX11_assemble_147 rfl rfl ?_
    refine J_get (pc := 148) C dX11_assemble_148 f_X11_181 rfl rfl ?_
    try dsimp only
    exact J_iret (pc := 151) C dX11_assemble_151 rfl (by rw [if_pos z1, if_pos z1, asE, if_pos z1]) (Nat.zero_le _) (Nat.zero_le _)
  · have z1 : r.1 ≠ none := wrI_pos (Int32.not_lt.mp h120)
    refine J_iconst (pc := 123) (v := nI 1) C dX11_assemble_123 (by decide) ?_
    refine J_goto (pc := 124) (tgt := 128) C dX11_assemble_124 (by decide) ?_
    refine J_iconst (pc := 128) (v := nI 3) C dX11_assemble_128 (by decide) ?_
    refine J_callV1 (pc := 129) C dX11_assemble_129 m_X11_81 (c_fails_t l G _ _ _ _ _ _ _ _ _ _ (by omega) (by decide)) ⟨jle rfl, jle rfl⟩ rfl rfl rfl rfl rfl (jle rfl) ⟨Nat.zero_le _, Nat.zero_le _⟩ ?_
    try dsimp only
    refine J_if_eqN (pc := 132) (tgt := 147) C dX11_assemble_132 (by decide) (by omega) (fun h132 => absurd h132 (by decide)) (fun _ => ?_)
    refine J_aload_n (pc := 135) C dX11_assemble_135 rfl rfl ?_
    refine J_iconst (pc := 136) (v := nI 0) C dX11_assemble_136 (by decide) ?_
    refine J_putU (pc := 137) C dX11_assemble_137 p_X11_181 rfl (jlt rfl) rfl rfl (uM_words _) ?_
    try dsimp only
    refine J_aload_n (pc := 140) C dX11_assemble_140 rfl rfl ?_
    refine J_iconst (pc := 141) (v := nI 0) C dX11_assemble_141 (by decide) ?_
    refine J_putU (pc := 142) C dX11_assemble_142 p_X11_184 rfl (jlt rfl) rfl rfl (uM_labels _) ?_
    try dsimp only
    refine J_iconst (pc := 145) (v := nI 0) C dX11_assemble_145 (by decide) ?_
    exact J_iret (pc := 146) C dX11_assemble_146 rfl (by rw [if_neg z1, if_neg z1, asE, if_neg z1]) (Nat.zero_le _) (Nat.zero_le _)
set_option maxHeartbeats 4000000 in
set_option maxRecDepth 100000 in
theorem l_lk (l : Launch) (G : jG) {p : Program} {e : Env} {s : State} {m : MethodId} {args : Array Value} {below : List Frame} {meth : Method} {c : Code} (F X : Nat × (Nat → Nat)) (D : mD) (O : Nat × (Nat → Nat)) (T : jMem) (cn u : Nat) (K : Nat × Nat × Nat) (P : mP) (gv : Nat → Int64) (n9 : Nat) (C : jX0 p l (jR 11 235 0 0) s m args meth c G cX11_assemble 3 RX11 (some .int)) (hn : X.1 ≤ 4000) (hX : ∀ k, X.2 k < 256) (hdA : dA D) (hP : pI X D X.1 P) (hu : u + cn = P.2.2.1) : J p l e (jR 11 235 0 0) s m args below meth c G 3 0 0 (.inl (some (.int (if (lkL X D cn u K P gv).1 = none then nI (lkL X D cn u K P gv).2.2.1.1 else nI 0)), encM (if (lkL X D cn u K P gv).1 = none then 0 else 3) (0, F.2) X (lkL X D cn u K P gv).2.1 (wrI (lkL X D cn u K P gv).1) D (asE (lkL X D cn u K P gv)) (lkL X D cn u K P gv).2.2.2 O T)) 88 [some (.ref 1000), some (.int (nI n9)), some (.int (nI u))] [] (encM 0 (0, F.2) X K (-1) D P gv O T) 0 0 := by
  have p3 := hP.2.2.1
  induction cn generalizing u K P gv with
  | zero =>
    rw [lkL]
    refine J_iload_n (pc := 88) C dX11_assemble_88 rfl rfl ?_
    refine J_aload_n (pc := 89) C dX11_assemble_89 rfl rfl ?_
    refine J_get (pc := 90) C dX11_assemble_90 f_X11_232 rfl rfl ?_
    try dsimp only
    refine J_icmp_geN (pc := 93) (tgt := 115) C dX11_assemble_93 (by decide) (by omega) (by omega) (fun h93 => ?_) (fun h93 => ?_)
    · exact l_asE l G F X D O T (none, K, P, gv) _ _ C hn pLe.n
    · omega
  | succ cn ih =>
    have g := lkF_G (gv := gv) hP (show u < P.2.2.1 by omega)
    have c9 := c_linked l G 0 (0, F.2) X K D P gv O T X.1 u hn hX hdA (by omega) hP (by omega)
    rw [lkL]
    obtain ⟨r, er9⟩ : ∃ r, r = lkF X D u P gv := ⟨_, rfl⟩
    rw [← er9] at g c9 ⊢
    have g3 := g.2.2.1
    refine J_iload_n (pc := 88) C dX11_assemble_88 rfl rfl ?_
    refine J_aload_n (pc := 89) C dX11_assemble_89 rfl rfl ?_
    refine J_get (pc := 90) C dX11_assemble_90 f_X11_232 rfl rfl ?_
    try dsimp only
    refine J_icmp_geN (pc := 93) (tgt := 115) C dX11_assemble_93 (by decide) (by omega) (by omega) (fun h93 => ?_) (fun h93 => ?_)
    · omega
    · refine J_aload_n (pc := 96) C dX11_assemble_96 rfl rfl ?_
      refine J_get (pc := 97) C dX11_assemble_97 f_X11_7 rfl rfl ?_
      try dsimp only
      refine J_if_ge (pc := 100) (tgt := 115) C dX11_assemble_100 (by decide) (fun h100 => ?_) (fun h100 => ?_)
      · exact absurd h100 (by decide)
      · refine J_aload_n (pc := 103) C dX11_assemble_103 rfl rfl ?_
        refine J_iload_n (pc := 104) C dX11_assemble_104 rfl rfl ?_
        refine J_callV1 (pc := 105) C dX11_assemble_105 m_X11_238 (c9) ⟨jle rfl, jle rfl⟩ rfl rfl rfl rfl rfl (jle rfl) ⟨Nat.zero_le _, Nat.zero_le _⟩ ?_
        try dsimp only
        refine J_pop (pc := 108) C dX11_assemble_108 rfl ?_
        by_cases z1 : r.1 = none
        · rw [vB_n z1, z1]
          refine J_iincN (pc := 109) C dX11_assemble_109 rfl (by decide) rfl ?_
          dsimp only [List.set]
          refine J_goto (pc := 112) (tgt := 88) C dX11_assemble_112 (by decide) ?_
          exact ih (u + 1) r.2.1 r.2.2.1 r.2.2.2 g.1 (by omega) (by have := g.1.2.2.1; omega)
        · rw [vB_e z1]
          refine J_iincN (pc := 109) C dX11_assemble_109 rfl (by decide) rfl ?_
          dsimp only [List.set]
          refine J_goto (pc := 112) (tgt := 88) C dX11_assemble_112 (by decide) ?_
          refine J_iload_n (pc := 88) C dX11_assemble_88 rfl rfl ?_
          refine J_aload_n (pc := 89) C dX11_assemble_89 rfl rfl ?_
          refine J_get (pc := 90) C dX11_assemble_90 f_X11_232 rfl rfl ?_
          try dsimp only
          refine J_icmp_geN (pc := 93) (tgt := 115) C dX11_assemble_93 (by decide) (by omega) (by omega) (fun h93 => ?_) (fun h93 => ?_)
          · exact l_asE l G F X D O T r _ _ C hn g.2.2.2
          · refine J_aload_n (pc := 96) C dX11_assemble_96 rfl rfl ?_
            refine J_get (pc := 97) C dX11_assemble_97 f_X11_7 rfl rfl ?_
            try dsimp only
            refine J_if_ge (pc := 100) (tgt := 115) C dX11_assemble_100 (by decide) (fun h100 => ?_) (fun h100 => ?_)
            · exact l_asE l G F X D O T r _ _ C hn g.2.2.2
            · exact absurd (by obtain ⟨p, hp⟩ := Option.ne_none_iff_exists'.mp z1; rw [hp]; exact nI_pos' (by have := g.2.2.2 p hp; omega)) h100
set_option maxHeartbeats 4000000 in
set_option maxRecDepth 100000 in
theorem c_assemble (l : Launch) (G : jG) (er : Nat) (F X : Nat × (Nat → Nat)) (K : Nat × Nat × Nat) (wr : Int32) (D : mD) (P : mP) (gv : Nat → Int64) (O : Nat × (Nat → Nat)) (T : jMem) (n : Nat) (hnf : n ≤ F.1) (hn : n ≤ 4000) (hfd : F.1 ≤ 4000) (hF : ∀ k, F.2 k < 256) (hX : ∀ k, X.2 k < 256) (hdA : dA D) (hds : D.2.2.2.1 = 1) (hlb : ∀ k, P.2.2.2.1 k < 256) : jC l G yX11_assemble cX11_assemble 3 (some .int) 11 235 0 0 [.ref 1000, .int (nI n)] (encM er F X K wr D P gv O T) (.inl (some (.int (if (asR (n, cpF F.2 X.2 n) D (0, 0, 0, P.2.2.2) gv).1 = none then nI (asR (n, cpF F.2 X.2 n) D (0, 0, 0, P.2.2.2) gv).2.2.1.1 else nI 0)), encM (if (asR (n, cpF F.2 X.2 n) D (0, 0, 0, P.2.2.2) gv).1 = none then 0 else 3) (0, F.2) (n, cpF F.2 X.2 n) (asR (n, cpF F.2 X.2 n) D (0, 0, 0, P.2.2.2) gv).2.1 (wrI (asR (n, cpF F.2 X.2 n) D (0, 0, 0, P.2.2.2) gv).1) D (asE (asR (n, cpF F.2 X.2 n) D (0, 0, 0, P.2.2.2) gv)) (asR (n, cpF F.2 X.2 n) D (0, 0, 0, P.2.2.2) gv).2.2.2 O T)) := by
  refine jC.of (by decide) 1 rfl [some (.ref 1000), some (.int (nI n)), none] rfl (fun p e s m args below meth c C hT9 hNm9 => ?_)
  have hX1 : ∀ k, ((n, cpF F.2 X.2 n) : Nat × (Nat → Nat)).2 k < 256 := cpF_lt hF hX
  refine J_aload_n (pc := 0) C dX11_assemble_0 rfl rfl ?_
  refine J_iconst (pc := 1) (v := nI 0) C dX11_assemble_1 (by decide) ?_
  refine J_putU (pc := 2) C dX11_assemble_2 p_X11_75 rfl (jlt rfl) rfl rfl (uM_err _) ?_
  try dsimp only
  refine J_aload_n (pc := 5) C dX11_assemble_5 rfl rfl ?_
  refine J_iload_n (pc := 6) C dX11_assemble_6 rfl rfl ?_
  refine J_if_ltN (pc := 7) (tgt := 18) C dX11_assemble_7 (by decide) (by omega) ?_
  refine J_iload_n (pc := 10) C dX11_assemble_10 rfl rfl ?_
  refine J_aload_n (pc := 11) C dX11_assemble_11 rfl rfl ?_
  refine J_get (pc := 12) C dX11_assemble_12 f_X11_78 rfl rfl ?_
  try dsimp only
  refine J_icmp_leN (pc := 15) (tgt := 22) C dX11_assemble_15 (by decide) (by omega) (by omega) (fun h15 => ?_) (fun h15 => ?_)
  · refine J_iconst (pc := 22) (v := nI 0) C dX11_assemble_22 (by decide) ?_
    refine J_iconst (pc := 23) (v := nI 1) C dX11_assemble_23 (by decide) ?_
    refine J_callV1 (pc := 24) C dX11_assemble_24 m_X11_81 (c_fails_f l G _ _ _ _ _ _ _ _ _ _) ⟨jle rfl, jle rfl⟩ rfl rfl rfl rfl rfl (jle rfl) ⟨Nat.zero_le _, Nat.zero_le _⟩ ?_
    try dsimp only
    refine J_if_neN (pc := 27) (tgt := 50) C dX11_assemble_27 (by decide) (by omega) (fun h27 => absurd h27 (by decide)) (fun _ => ?_)
    refine J_aload_n (pc := 30) C dX11_assemble_30 rfl rfl ?_
    refine J_aload_n (pc := 31) C dX11_assemble_31 rfl rfl ?_
    refine J_get (pc := 32) C dX11_assemble_32 f_X11_177 rfl rfl ?_
    try dsimp only
    refine J_if_neN (pc := 35) (tgt := 42) C dX11_assemble_35 (by decide) (by omega) (fun h35 => ?_) (fun h35 => ?_)
    · refine J_iconst (pc := 42) (v := nI 0) C dX11_assemble_42 (by decide) ?_
      refine J_iconst (pc := 43) (v := nI 2) C dX11_assemble_43 (by decide) ?_
      refine J_callV1 (pc := 44) C dX11_assemble_44 m_X11_81 (c_fails_f l G _ _ _ _ _ _ _ _ _ _) ⟨jle rfl, jle rfl⟩ rfl rfl rfl rfl rfl (jle rfl) ⟨Nat.zero_le _, Nat.zero_le _⟩ ?_
      try dsimp only
      refine J_if_eqN (pc := 47) (tgt := 52) C dX11_assemble_47 (by decide) (by omega) (fun _ => ?_) (fun h47 => absurd h47 (by decide))
      refine J_aload_n (pc := 52) C dX11_assemble_52 rfl rfl ?_
      refine J_iload_n (pc := 53) C dX11_assemble_53 rfl rfl ?_
      refine J_callV0 (pc := 54) C dX11_assemble_54 m_X11_173 (c_begin l G _ _ _ _ _ _ _ _ _ _ n hn hF hX) ⟨jle rfl, jle rfl⟩ rfl rfl rfl rfl rfl (jle rfl) ⟨Nat.zero_le _, Nat.zero_le _⟩ ?_
      try dsimp only
      rw [wrF_fb hn]
      obtain ⟨X1, e1⟩ : ∃ z, z = (n, cpF F.2 X.2 n) := ⟨_, rfl⟩
      have hn1 : X1.1 ≤ 4000 := by rw [e1]; exact hn
      rw [← e1] at hX1 ⊢
      have g0 : tkN X1 (nextF X1 0) := ⟨0, Nat.zero_le _, rfl⟩
      have hP0 : pI X1 D 0 (0, 0, 0, P.2.2.2) := ⟨Nat.zero_le _, Nat.zero_le _, Nat.le_refl _, hlb, fun j hj => absurd hj (Nat.not_lt_zero j), fun j hj => absurd hj (Nat.not_lt_zero j)⟩
      have gr := asR_G (gv := gv) hX1 hP0
      refine J_aload_n (pc := 57) C dX11_assemble_57 rfl rfl ?_
      refine J_iconst (pc := 58) (v := nI 0) C dX11_assemble_58 (by decide) ?_
      refine J_putU (pc := 59) C dX11_assemble_59 p_X11_181 rfl (jlt rfl) rfl rfl (uM_words _) ?_
      try dsimp only
      refine J_aload_n (pc := 62) C dX11_assemble_62 rfl rfl ?_
      refine J_iconst (pc := 63) (v := nI 0) C dX11_assemble_63 (by decide) ?_
      refine J_putU (pc := 64) C dX11_assemble_64 p_X11_184 rfl (jlt rfl) rfl rfl (uM_labels _) ?_
      try dsimp only
      refine J_aload_n (pc := 67) C dX11_assemble_67 rfl rfl ?_
      refine J_iconst (pc := 68) (v := nI 0) C dX11_assemble_68 (by decide) ?_
      refine J_putU (pc := 69) C dX11_assemble_69 p_X11_232 rfl (jlt rfl) rfl rfl (uM_uses _) ?_
      try dsimp only
      refine J_aload_n (pc := 72) C dX11_assemble_72 rfl rfl ?_
      refine J_get (pc := 73) C dX11_assemble_73 f_X11_7 rfl rfl ?_
      try dsimp only
      refine J_if_ge (pc := 76) (tgt := 115) C dX11_assemble_76 (by decide) (fun h76 => ?_) (fun h76 => ?_)
      · have zr : asR X1 D (0, 0, 0, P.2.2.2) gv = (fbF X1 0, nextF X1 0, (0, 0, 0, P.2.2.2), gv) := by rw [asR, if_neg (wrI_pos h76)]
        rw [zr] at gr ⊢
        exact l_asE l G F X1 D O T (fbF X1 0, nextF X1 0, (0, 0, 0, P.2.2.2), gv) _ _ C hn1 gr.2
      · have z0 : fbF X1 0 = none := wrI_neg (Int32.not_le.mp h76) (fun p hp => by have := fbF_lt hp; omega)
        refine J.to (show _ = encM 0 (0, F.2) X1 (nextF X1 0) (-1) D (0, 0, 0, P.2.2.2) gv O T by rw [z0]; rfl) ?_
        have c9 := c_program l G 0 (0, F.2) X1 (nextF X1 0) D (0, 0, 0, P.2.2.2) gv O T hn1 hX1 hdA g0 (hP0.up (Nat.zero_le _))
        have gp := pgL_G (D := D) hX1 (X1.1 + 1) (nextF X1 0) (0, 0, 0, P.2.2.2) gv g0 (hP0.up (Nat.zero_le _))
        rw [asR, if_pos z0]
        obtain ⟨r, er9⟩ : ∃ r, r = pgL X1 D (X1.1 + 1) (nextF X1 0) (0, 0, 0, P.2.2.2) gv := ⟨_, rfl⟩
        rw [← er9] at c9 gp ⊢
        refine J_aload_n (pc := 79) C dX11_assemble_79 rfl rfl ?_
        refine J_callV1 (pc := 80) C dX11_assemble_80 m_X11_235 (c9) ⟨jle rfl, jle rfl⟩ rfl rfl rfl rfl rfl (jle rfl) ⟨Nat.zero_le _, Nat.zero_le _⟩ ?_
        try dsimp only
        refine J_if_eq (pc := 83) (tgt := 115) C dX11_assemble_83 (by decide) (fun h83 => ?_) (fun h83 => ?_)
        · rw [vB_e (isN_f h83)]
          exact l_asE l G F X1 D O T r _ _ C hn1 gp.2.2
        · refine J_iconst (pc := 86) (v := nI 0) C dX11_assemble_86 (by decide) ?_
          refine J_istore_n (pc := 87) C dX11_assemble_87 rfl (by decide) rfl ?_
          dsimp only [List.set]
          have z1 := isN_t h83
          rw [vB_n z1, z1]
          exact l_lk l G F X1 D O T r.2.2.1.2.2.1 0 r.2.1 r.2.2.1 r.2.2.2 _ C hn1 hX1 hdA (gp.2.1.up gp.1.g.lx) (by omega)
    · omega
  · omega
set_option maxHeartbeats 4000000 in
set_option maxRecDepth 100000 in
theorem c_assemble_x (l : Launch) (G : jG) (er : Nat) (F X : Nat × (Nat → Nat)) (K : Nat × Nat × Nat) (wr : Int32) (D : mD) (P : mP) (gv : Nat → Int64) (O : Nat × (Nat → Nat)) (T : jMem) (v : Int32) (hv : v < 0 ∨ nI F.1 < v) : jC l G yX11_assemble cX11_assemble 3 (some .int) 11 235 0 0 [.ref 1000, .int v] (encM er F X K wr D P gv O T) (.inl (some (.int (nI 0)), encM 1 F X K wr D P gv O T)) := by
  refine jC.of (by decide) 1 rfl [some (.ref 1000), some (.int v), none] rfl (fun p e s m args below meth c C hT9 hNm9 => ?_)
  refine J_aload_n (pc := 0) C dX11_assemble_0 rfl rfl ?_
  refine J_iconst (pc := 1) (v := nI 0) C dX11_assemble_1 (by decide) ?_
  refine J_putU (pc := 2) C dX11_assemble_2 p_X11_75 rfl (jlt rfl) rfl rfl (uM_err _) ?_
  try dsimp only
  refine J_aload_n (pc := 5) C dX11_assemble_5 rfl rfl ?_
  refine J_iload_n (pc := 6) C dX11_assemble_6 rfl rfl ?_
  refine J_if_lt (pc := 7) (tgt := 18) C dX11_assemble_7 (by decide) (fun h7 => ?_) (fun h7 => ?_)
  · refine J_iconst (pc := 18) (v := nI 1) C dX11_assemble_18 (by decide) ?_
    refine J_goto (pc := 19) (tgt := 23) C dX11_assemble_19 (by decide) ?_
    refine J_iconst (pc := 23) (v := nI 1) C dX11_assemble_23 (by decide) ?_
    refine J_callV1 (pc := 24) C dX11_assemble_24 m_X11_81 (c_fails_t l G _ _ _ _ _ _ _ _ _ _ (by omega) (by decide)) ⟨jle rfl, jle rfl⟩ rfl rfl rfl rfl rfl (jle rfl) ⟨Nat.zero_le _, Nat.zero_le _⟩ ?_
    try dsimp only
    refine J_if_neN (pc := 27) (tgt := 50) C dX11_assemble_27 (by decide) (by omega) (fun _ => ?_) (fun h27 => absurd h27 (by decide))
    refine J_iconst (pc := 50) (v := nI 0) C dX11_assemble_50 (by decide) ?_
    exact J_iret (pc := 51) C dX11_assemble_51 rfl (rfl) (Nat.zero_le _) (Nat.zero_le _)
  · refine J_iload_n (pc := 10) C dX11_assemble_10 rfl rfl ?_
    refine J_aload_n (pc := 11) C dX11_assemble_11 rfl rfl ?_
    refine J_get (pc := 12) C dX11_assemble_12 f_X11_78 rfl rfl ?_
    try dsimp only
    refine J_icmp_le (pc := 15) (tgt := 22) C dX11_assemble_15 (by decide) (fun h15 => ?_) (fun h15 => ?_)
    · (rcases hv with z | z; exact absurd z h7; exact absurd z (Int32.not_lt.mpr h15))
    · refine J_iconst (pc := 18) (v := nI 1) C dX11_assemble_18 (by decide) ?_
      refine J_goto (pc := 19) (tgt := 23) C dX11_assemble_19 (by decide) ?_
      refine J_iconst (pc := 23) (v := nI 1) C dX11_assemble_23 (by decide) ?_
      refine J_callV1 (pc := 24) C dX11_assemble_24 m_X11_81 (c_fails_t l G _ _ _ _ _ _ _ _ _ _ (by omega) (by decide)) ⟨jle rfl, jle rfl⟩ rfl rfl rfl rfl rfl (jle rfl) ⟨Nat.zero_le _, Nat.zero_le _⟩ ?_
      try dsimp only
      refine J_if_neN (pc := 27) (tgt := 50) C dX11_assemble_27 (by decide) (by omega) (fun _ => ?_) (fun h27 => absurd h27 (by decide))
      refine J_iconst (pc := 50) (v := nI 0) C dX11_assemble_50 (by decide) ?_
      exact J_iret (pc := 51) C dX11_assemble_51 rfl (rfl) (Nat.zero_le _) (Nat.zero_le _)
set_option maxHeartbeats 4000000 in
set_option maxRecDepth 100000 in
theorem c_assemble_n (l : Launch) (G : jG) (er : Nat) (F X : Nat × (Nat → Nat)) (K : Nat × Nat × Nat) (wr : Int32) (D : mD) (P : mP) (gv : Nat → Int64) (O : Nat × (Nat → Nat)) (T : jMem) (n : Nat) (hnf : n ≤ F.1) (hfd : F.1 ≤ 4000) (hds : D.2.2.2.1 = 0) : jC l G yX11_assemble cX11_assemble 3 (some .int) 11 235 0 0 [.ref 1000, .int (nI n)] (encM er F X K wr D P gv O T) (.inl (some (.int (nI 0)), encM 2 F X K wr D P gv O T)) := by
  refine jC.of (by decide) 1 rfl [some (.ref 1000), some (.int (nI n)), none] rfl (fun p e s m args below meth c C hT9 hNm9 => ?_)
  refine J_aload_n (pc := 0) C dX11_assemble_0 rfl rfl ?_
  refine J_iconst (pc := 1) (v := nI 0) C dX11_assemble_1 (by decide) ?_
  refine J_putU (pc := 2) C dX11_assemble_2 p_X11_75 rfl (jlt rfl) rfl rfl (uM_err _) ?_
  try dsimp only
  refine J_aload_n (pc := 5) C dX11_assemble_5 rfl rfl ?_
  refine J_iload_n (pc := 6) C dX11_assemble_6 rfl rfl ?_
  refine J_if_ltN (pc := 7) (tgt := 18) C dX11_assemble_7 (by decide) (by omega) ?_
  refine J_iload_n (pc := 10) C dX11_assemble_10 rfl rfl ?_
  refine J_aload_n (pc := 11) C dX11_assemble_11 rfl rfl ?_
  refine J_get (pc := 12) C dX11_assemble_12 f_X11_78 rfl rfl ?_
  try dsimp only
  refine J_icmp_leN (pc := 15) (tgt := 22) C dX11_assemble_15 (by decide) (by omega) (by omega) (fun h15 => ?_) (fun h15 => ?_)
  · refine J_iconst (pc := 22) (v := nI 0) C dX11_assemble_22 (by decide) ?_
    refine J_iconst (pc := 23) (v := nI 1) C dX11_assemble_23 (by decide) ?_
    refine J_callV1 (pc := 24) C dX11_assemble_24 m_X11_81 (c_fails_f l G _ _ _ _ _ _ _ _ _ _) ⟨jle rfl, jle rfl⟩ rfl rfl rfl rfl rfl (jle rfl) ⟨Nat.zero_le _, Nat.zero_le _⟩ ?_
    try dsimp only
    refine J_if_neN (pc := 27) (tgt := 50) C dX11_assemble_27 (by decide) (by omega) (fun h27 => absurd h27 (by decide)) (fun _ => ?_)
    refine J_aload_n (pc := 30) C dX11_assemble_30 rfl rfl ?_
    refine J_aload_n (pc := 31) C dX11_assemble_31 rfl rfl ?_
    refine J_get (pc := 32) C dX11_assemble_32 f_X11_177 rfl rfl ?_
    try dsimp only
    refine J_if_neN (pc := 35) (tgt := 42) C dX11_assemble_35 (by decide) (by omega) (fun h35 => ?_) (fun h35 => ?_)
    · omega
    · refine J_iconst (pc := 38) (v := nI 1) C dX11_assemble_38 (by decide) ?_
      refine J_goto (pc := 39) (tgt := 43) C dX11_assemble_39 (by decide) ?_
      refine J_iconst (pc := 43) (v := nI 2) C dX11_assemble_43 (by decide) ?_
      refine J_callV1 (pc := 44) C dX11_assemble_44 m_X11_81 (c_fails_t l G _ _ _ _ _ _ _ _ _ _ (by omega) (by decide)) ⟨jle rfl, jle rfl⟩ rfl rfl rfl rfl rfl (jle rfl) ⟨Nat.zero_le _, Nat.zero_le _⟩ ?_
      try dsimp only
      refine J_if_eqN (pc := 47) (tgt := 52) C dX11_assemble_47 (by decide) (by omega) (fun h47 => absurd h47 (by decide)) (fun _ => ?_)
      refine J_iconst (pc := 50) (v := nI 0) C dX11_assemble_50 (by decide) ?_
      exact J_iret (pc := 51) C dX11_assemble_51 rfl (rfl) (Nat.zero_le _) (Nat.zero_le _)
  · omega
