set_option maxHeartbeats 4000000 in
set_option maxRecDepth 100000 in
theorem l_nl (l : Launch) (G : jG) {p : Program} {e : Env} {s : State} {m : MethodId} {args : Array Value} {below : List Frame} {meth : Method} {c : Code} (er : Nat) (F X : Nat × (Nat → Nat)) (K : Nat × Nat × Nat) (D : mD) (P : mP) (gv : Nat → Int64) (O : Nat × (Nat → Nat)) (T : jMem) {ou : jO} (o k a9 p9 s9 n : Nat) (C : jX0 p l (jR 9 180 0 0) s m args meth c G cX11_value 10 RX11 (some .boolean)) (hs : s9 < 12) (hD : dOK D) (hn9 : n ≤ 12) (kk : J p l e (jR 9 180 0 0) s m args below meth c G 10 0 0 (ou) 69 [some (.ref 1000), some (.int (nI o)), some (.int (nI k)), some (.int (nI a9)), some (.int (nI p9)), some (.int (nI s9)), some (.int (nI (nlF D.2.2.2.2.1 s9 n))), none, none, none] [] (encM er F X K (-1) D P gv O T) 0 0) : J p l e (jR 9 180 0 0) s m args below meth c G 10 0 0 (ou) 40 [some (.ref 1000), some (.int (nI o)), some (.int (nI k)), some (.int (nI a9)), some (.int (nI p9)), some (.int (nI s9)), some (.int (nI n)), none, none, none] [] (encM er F X K (-1) D P gv O T) 0 0 := by
  have hd3 := hD.2.2.1
  induction hm : 12 - n generalizing n with
  | zero =>
    rw [show nlF D.2.2.2.2.1 s9 n = n by rw [nlF, if_neg (by omega)]] at kk
    refine J_iload (pc := 40) C dX11_value_40 rfl ?_
    refine J_bipush (pc := 42) (v := nI 12) C dX11_value_42 (by decide) ?_
    refine J_icmp_geN (pc := 44) (tgt := 69) C dX11_value_44 (by decide) (by omega) (by omega) (fun h44 => ?_) (fun h44 => ?_)
    · exact kk
    · omega
  | succ d ih =>
    have hd4 := hd3 (12 * s9 + n)
    have h1 : nlF D.2.2.2.2.1 s9 n = if n < 12 ∧ D.2.2.2.2.1 (12 * s9 + n) ≠ 0 then nlF D.2.2.2.2.1 s9 (n + 1) else n := by
      conv => lhs; rw [nlF]
    rw [h1] at kk
    refine J_iload (pc := 40) C dX11_value_40 rfl ?_
    refine J_bipush (pc := 42) (v := nI 12) C dX11_value_42 (by decide) ?_
    refine J_icmp_geN (pc := 44) (tgt := 69) C dX11_value_44 (by decide) (by omega) (by omega) (fun h44 => ?_) (fun h44 => ?_)
    · omega
    · refine J_aload_n (pc := 47) C dX11_value_47 rfl rfl ?_
      refine J_get (pc := 48) C dX11_value_48 f_X11_23 rfl rfl ?_
      refine J_bipush (pc := 51) (v := nI 12) C dX11_value_51 (by decide) ?_
      refine J_iload (pc := 53) C dX11_value_53 rfl ?_
      refine J_imulN (pc := 55) C dX11_value_55 ?_
      refine J_iload (pc := 56) C dX11_value_56 rfl ?_
      refine J_iaddN (pc := 58) C dX11_value_58 ?_
      refine J_ialdN (pc := 59) C dX11_value_59 rfl (by omega) (by decide) ?_
      try dsimp only
      refine J_if_eqN (pc := 60) (tgt := 69) C dX11_value_60 (by decide) (by omega) (fun h60 => ?_) (fun h60 => ?_)
      · rw [if_neg (fun z => z.2 h60)] at kk
        exact kk
      · refine J_iincN (pc := 63) C dX11_value_63 rfl (by decide) rfl ?_
        dsimp only [List.set]
        refine J_goto (pc := 66) (tgt := 40) C dX11_value_66 (by decide) ?_
        rw [if_pos ⟨by omega, h60⟩] at kk
        exact ih (n + 1) (by omega) kk (by omega)
set_option maxHeartbeats 4000000 in
set_option maxRecDepth 100000 in
theorem l_pre (l : Launch) (G : jG) {p : Program} {e : Env} {s : State} {m : MethodId} {args : Array Value} {below : List Frame} {meth : Method} {c : Code} (er : Nat) (F X : Nat × (Nat → Nat)) (K : Nat × Nat × Nat) (D : mD) (P : mP) (gv : Nat → Int64) (O : Nat × (Nat → Nat)) (T : jMem) {ou : jO} (o k a9 p9 s9 n j : Nat) (C : jX0 p l (jR 9 180 0 0) s m args meth c G cX11_value 10 RX11 (some .boolean)) (hn : X.1 ≤ 4000) (hX : ∀ k, X.2 k < 256) (hs : s9 < 12) (hD : dOK D) (hn9 : n ≤ 12) (hK : tkOK X K) (hl : n < K.2.2 - K.2.1) (hj : j ≤ n) (hf : preF X K.2.1 D.2.2.2.2.1 s9 n  j = false → ou = .inl (some (.int (nI 0)), encM er F X K (badW (-1) a9) D P gv O T)) (kk : preF X K.2.1 D.2.2.2.2.1 s9 n  j = true → J p l e (jR 9 180 0 0) s m args below meth c G 10 0 0 (ou) 147 [some (.ref 1000), some (.int (nI o)), some (.int (nI k)), some (.int (nI a9)), some (.int (nI p9)), some (.int (nI s9)), some (.int (nI n)), some (.int (nI n)), none, none] [] (encM er F X K (-1) D P gv O T) 0 0) : J p l e (jR 9 180 0 0) s m args below meth c G 10 0 0 (ou) 100 [some (.ref 1000), some (.int (nI o)), some (.int (nI k)), some (.int (nI a9)), some (.int (nI p9)), some (.int (nI s9)), some (.int (nI n)), some (.int (nI j)), none, none] [] (encM er F X K (-1) D P gv O T) 0 0 := by
  have hd3 := hD.2.2.1
  have b0 : K.2.1 ≤ K.2.2 ∧ K.2.2 ≤ X.1 := ⟨hK.1, hK.2.1⟩
  induction hm : n - j generalizing j with
  | zero =>
    have h9 : j = n := by omega
    have k1 := kk (by rw [preF, if_neg (by omega)])
    subst h9
    refine J_iload (pc := 100) C dX11_value_100 rfl ?_
    refine J_iload (pc := 102) C dX11_value_102 rfl ?_
    refine J_icmp_geN (pc := 104) (tgt := 147) C dX11_value_104 (by decide) (by omega) (by omega) (fun h104 => ?_) (fun h104 => ?_)
    · exact k1
    · omega
  | succ d ih =>
    have hd4 := hd3 (12 * s9 + j)
    have hx4 := hX (K.2.1 + j)
    have h1 : preF X K.2.1 D.2.2.2.2.1 s9 n  j = if X.2 (K.2.1 + j) = D.2.2.2.2.1 (12 * s9 + j) then preF X K.2.1 D.2.2.2.2.1 s9 n  (j + 1) else false := by
      conv => lhs; rw [preF]
      rw [if_pos (by omega)]
    rw [h1] at hf kk
    refine J_iload (pc := 100) C dX11_value_100 rfl ?_
    refine J_iload (pc := 102) C dX11_value_102 rfl ?_
    refine J_icmp_geN (pc := 104) (tgt := 147) C dX11_value_104 (by decide) (by omega) (by omega) (fun h104 => ?_) (fun h104 => ?_)
    · omega
    · refine J_aload_n (pc := 107) C dX11_value_107 rfl rfl ?_
      refine J_get (pc := 108) C dX11_value_108 f_X11_17 rfl rfl ?_
      refine J_aload_n (pc := 111) C dX11_value_111 rfl rfl ?_
      refine J_get (pc := 112) C dX11_value_112 f_X11_113 rfl rfl ?_
      try dsimp only
      refine J_iload (pc := 115) C dX11_value_115 rfl ?_
      refine J_iaddN (pc := 117) C dX11_value_117 ?_
      refine J_ialdN (pc := 118) C dX11_value_118 rfl (by omega) (by decide) ?_
      try dsimp only
      refine J_aload_n (pc := 119) C dX11_value_119 rfl rfl ?_
      refine J_get (pc := 120) C dX11_value_120 f_X11_23 rfl rfl ?_
      refine J_bipush (pc := 123) (v := nI 12) C dX11_value_123 (by decide) ?_
      refine J_iload (pc := 125) C dX11_value_125 rfl ?_
      refine J_imulN (pc := 127) C dX11_value_127 ?_
      refine J_iload (pc := 128) C dX11_value_128 rfl ?_
      refine J_iaddN (pc := 130) C dX11_value_130 ?_
      refine J_ialdN (pc := 131) C dX11_value_131 rfl (by omega) (by decide) ?_
      try dsimp only
      refine J_icmp_eqN (pc := 132) (tgt := 141) C dX11_value_132 (by decide) (by omega) (by omega) (fun h132 => ?_) (fun h132 => ?_)
      · refine J_iincN (pc := 141) C dX11_value_141 rfl (by decide) rfl ?_
        dsimp only [List.set]
        refine J_goto (pc := 144) (tgt := 100) C dX11_value_144 (by decide) ?_
        rw [if_pos h132] at hf kk
        exact ih (j + 1) (by omega) hf kk (by omega)
      · refine J_aload_n (pc := 135) C dX11_value_135 rfl rfl ?_
        refine J_iload_n (pc := 136) C dX11_value_136 rfl rfl ?_
        refine J_callV1 (pc := 137) C dX11_value_137 m_X11_142 (c_bad l G _ _ _ _ _ _ _ _ _ _ _) ⟨jle rfl, jle rfl⟩ rfl rfl rfl rfl rfl (jle rfl) ⟨Nat.zero_le _, Nat.zero_le _⟩ ?_
        try dsimp only
        exact J_zret (pc := 140) C dX11_value_140 rfl (by first | rfl | decide) (hf (by rw [if_neg h132])) (Nat.zero_le _) (Nat.zero_le _)
set_option maxHeartbeats 4000000 in
set_option maxRecDepth 100000 in
theorem l_rd (l : Launch) (G : jG) {p : Program} {e : Env} {s : State} {m : MethodId} {args : Array Value} {below : List Frame} {meth : Method} {c : Code} (er : Nat) (F X : Nat × (Nat → Nat)) (K : Nat × Nat × Nat) (D : mD) (P : mP) (gv : Nat → Int64) (O : Nat × (Nat → Nat)) (T : jMem) {ou : jO} (o k a9 p9 s9 n j v : Nat) (C : jX0 p l (jR 9 180 0 0) s m args meth c G cX11_value 10 RX11 (some .boolean)) (hn : X.1 ≤ 4000) (hX : ∀ k, X.2 k < 256) (hK : tkOK X K) (hj0 : K.2.1 ≤ j) (hj : j ≤ K.2.2) (hf : dgF X K.2.2 j = false → ou = .inl (some (.int (nI 0)), encM er F X K (badW (-1) a9) D P gv O T)) (kk : dgF X K.2.2 j = true → J p l e (jR 9 180 0 0) s m args below meth c G 10 0 0 (ou) 214 [some (.ref 1000), some (.int (nI o)), some (.int (nI k)), some (.int (nI a9)), some (.int (nI p9)), some (.int (nI s9)), some (.int (nI n)), some (.long (lN (decF X K.2.2 j v))), none, some (.int (nI K.2.2))] [] (encM er F X K (-1) D P gv O T) 0 0) : J p l e (jR 9 180 0 0) s m args below meth c G 10 0 0 (ou) 159 [some (.ref 1000), some (.int (nI o)), some (.int (nI k)), some (.int (nI a9)), some (.int (nI p9)), some (.int (nI s9)), some (.int (nI n)), some (.long (lN v)), none, some (.int (nI j))] [] (encM er F X K (-1) D P gv O T) 0 0 := by
  have b0 : K.2.1 ≤ K.2.2 ∧ K.2.2 ≤ X.1 := ⟨hK.1, hK.2.1⟩
  induction hm : K.2.2 - j generalizing j v with
  | zero =>
    have h9 : j = K.2.2 := by omega
    have k1 := kk (by rw [dgF, if_neg (by omega)])
    rw [show decF X K.2.2 j v = v by rw [decF, if_neg (by omega)]] at k1
    subst h9
    refine J_iload (pc := 159) C dX11_value_159 rfl ?_
    refine J_aload_n (pc := 161) C dX11_value_161 rfl rfl ?_
    refine J_get (pc := 162) C dX11_value_162 f_X11_110 rfl rfl ?_
    try dsimp only
    refine J_icmp_geN (pc := 165) (tgt := 214) C dX11_value_165 (by decide) (by omega) (by omega) (fun h165 => ?_) (fun h165 => ?_)
    · exact k1
    · omega
  | succ d ih =>
    have hx4 := hX j
    have h1 : dgF X K.2.2 j = if isDig (X.2 j) = true then dgF X K.2.2 (j + 1) else false := by
      conv => lhs; rw [dgF]
      rw [if_pos (by omega)]
    have h2 : decF X K.2.2 j v = decF X K.2.2 (j + 1) (10 * v + X.2 j - 48) := by
      conv => lhs; rw [decF]
      rw [if_pos (by omega)]
    rw [h1] at hf kk
    rw [h2] at kk
    refine J_iload (pc := 159) C dX11_value_159 rfl ?_
    refine J_aload_n (pc := 161) C dX11_value_161 rfl rfl ?_
    refine J_get (pc := 162) C dX11_value_162 f_X11_110 rfl rfl ?_
    try dsimp only
    refine J_icmp_geN (pc := 165) (tgt := 214) C dX11_value_165 (by decide) (by omega) (by omega) (fun h165 => ?_) (fun h165 => ?_)
    · omega
    · refine J_aload_n (pc := 168) C dX11_value_168 rfl rfl ?_
      refine J_get (pc := 169) C dX11_value_169 f_X11_17 rfl rfl ?_
      refine J_iload (pc := 172) C dX11_value_172 rfl ?_
      refine J_ialdN (pc := 174) C dX11_value_174 rfl (by omega) (by decide) ?_
      try dsimp only
      refine J_callS1 (pc := 175) C dX11_value_175 m_X11_104 (c_isDigitN l G _ _ (by omega)) ⟨jle rfl, jle rfl⟩ rfl rfl (jle rfl) ⟨Nat.zero_le _, Nat.zero_le _⟩ ?_
      try dsimp only
      refine J_if_ne (pc := 178) (tgt := 187) C dX11_value_178 (by decide) (fun h178 => ?_) (fun h178 => ?_)
      · have hdg := bI_t h178
        have hd8 : 48 ≤ X.2 j ∧ X.2 j ≤ 57 := by have := hdg; simp [isDig] at this; exact this
        refine J_ldc2 (pc := 187) C dX11_value_187 l_X11_248 ?_
        refine J_lload (pc := 190) C dX11_value_190 rfl ?_
        refine J_lmul (pc := 192) C dX11_value_192 ?_
        refine J_aload_n (pc := 193) C dX11_value_193 rfl rfl ?_
        refine J_get (pc := 194) C dX11_value_194 f_X11_17 rfl rfl ?_
        refine J_iload (pc := 197) C dX11_value_197 rfl ?_
        refine J_ialdN (pc := 199) C dX11_value_199 rfl (by omega) (by decide) ?_
        try dsimp only
        refine J_i2l (pc := 200) C dX11_value_200 (nI_l (by omega)) ?_
        refine J_ladd (pc := 201) C dX11_value_201 ?_
        refine J_ldc2 (pc := 202) C dX11_value_202 l_X11_97 ?_
        refine J_lsub (pc := 205) C dX11_value_205 ?_
        rw [dstep hd8.1]
        refine J_lstore (pc := 206) C dX11_value_206 (by decide) rfl ?_
        dsimp only [List.set]
        refine J_iincN (pc := 208) C dX11_value_208 rfl (by decide) rfl ?_
        dsimp only [List.set]
        refine J_goto (pc := 211) (tgt := 159) C dX11_value_211 (by decide) ?_
        rw [if_pos hdg] at hf kk
        exact ih (j + 1) _ (by omega) (by omega) hf kk (by omega)
      · refine J_aload_n (pc := 181) C dX11_value_181 rfl rfl ?_
        refine J_iload_n (pc := 182) C dX11_value_182 rfl rfl ?_
        refine J_callV1 (pc := 183) C dX11_value_183 m_X11_142 (c_bad l G _ _ _ _ _ _ _ _ _ _ _) ⟨jle rfl, jle rfl⟩ rfl rfl rfl rfl rfl (jle rfl) ⟨Nat.zero_le _, Nat.zero_le _⟩ ?_
        try dsimp only
        exact J_zret (pc := 186) C dX11_value_186 rfl (by first | rfl | decide) (hf (by rw [if_neg (by rw [bI_f h178]; decide)])) (Nat.zero_le _) (Nat.zero_le _)
set_option maxHeartbeats 4000000 in
set_option maxRecDepth 100000 in
theorem l_nbEp (l : Launch) (G : jG) {p : Program} {e : Env} {s : State} {m : MethodId} {args : Array Value} {below : List Frame} {meth : Method} {c : Code} (er : Nat) (F X : Nat × (Nat → Nat)) (K : Nat × Nat × Nat) (D : mD) (P : mP) (gv : Nat → Int64) (O : Nat × (Nat → Nat)) (T : jMem) (k a9 : Nat) (pp : Int32) (less : Bool) (n : Nat) (v8 : Option Value) (C : jX0 p l (jR 9 180 0 0) s m args meth c G cX11_value 10 RX11 (some .boolean)) (hn : X.1 ≤ 4000) (hX : ∀ k, X.2 k < 256) (hG : tkG X K) (h3 : K.1 = 3 ∨ (K.1 = 2 ∧ K.2.2 - K.2.1 ≤ 10)) (en : n = numN X K) (hk : k < 6) (hw9 : D.1 ≤ 32) : J p l e (jR 9 180 0 0) s m args below meth c G 10 0 0 (.inl (some (.int (bI (nb2 X a9 K less (okP D.1) P gv k).1.isNone)), encM er F X (nb2 X a9 K less (okP D.1) P gv k).2.1 (wrI (nb2 X a9 K less (okP D.1) P gv k).1) D (nb2 X a9 K less (okP D.1) P gv k).2.2.1 (nb2 X a9 K less (okP D.1) P gv k).2.2.2 O T)) 517 [some (.ref 1000), some (.int (-1)), some (.int (nI k)), some (.int (nI a9)), some (.int (pp)), some (.int (bI less)), some (.long (lN n)), none, v8, none] [] (encM er F X K (-1) D P gv O T) 0 0 := by
  have b0 : K.2.1 ≤ K.2.2 ∧ K.2.2 ≤ X.1 := ⟨hG.1.1, hG.1.2.1⟩
  subst en
  have r1 : nb2 X a9 K less (okP D.1) P gv k = if (okP D.1) (sgn less (lN (numN X K))) = true then (none, nextF X K.2.2, P, va_up gv k (sgn less (lN (numN X K)))) else (some a9, K, P, gv) := by rw [nb2, if_pos h3]
  cases less with
  | true =>
    rw [sgn_t] at r1
    refine J_iload (pc := 517) C dX11_value_517 rfl ?_
    refine J_if_eq (pc := 519) (tgt := 527) C dX11_value_519 (by decide) (fun h519 => ?_) (fun h519 => ?_)
    · exact absurd h519 (by decide)
    · refine J_lload (pc := 522) C dX11_value_522 rfl ?_
      refine J_lneg (pc := 524) C dX11_value_524 ?_
      refine J_lstore (pc := 525) C dX11_value_525 (by decide) rfl ?_
      dsimp only [List.set]
      refine J_iload_n (pc := 527) C dX11_value_527 rfl rfl ?_
      refine J_if_ge (pc := 528) (tgt := 551) C dX11_value_528 (by decide) (fun h528 => ?_) (fun h528 => ?_)
      · exact absurd h528 (by decide)
      · refine J_lload (pc := 531) C dX11_value_531 rfl ?_
        refine J_lconst (pc := 533) (v := 0) C dX11_value_533 (by decide) ?_
        refine J_lconst (pc := 534) (v := 1) C dX11_value_534 (by decide) ?_
        refine J_aload_n (pc := 535) C dX11_value_535 rfl rfl ?_
        refine J_get (pc := 536) C dX11_value_536 f_X11_196 rfl rfl ?_
        try dsimp only
        refine J_lshl (pc := 539) C dX11_value_539 rfl ?_
        rw [shl1 (by omega)]
        refine J_lconst (pc := 540) (v := 1) C dX11_value_540 (by decide) ?_
        refine J_lsub (pc := 541) C dX11_value_541 ?_
        refine J_callS1 (pc := 542) C dX11_value_542 m_X11_89 (c_in l G _ _ _ _) ⟨jle rfl, jle rfl⟩ rfl rfl (jle rfl) ⟨Nat.zero_le _, Nat.zero_le _⟩ ?_
        try dsimp only
        refine J_if_ne (pc := 545) (tgt := 568) C dX11_value_545 (by decide) (fun h545 => ?_) (fun h545 => ?_)
        · refine J_aload_n (pc := 568) C dX11_value_568 rfl rfl ?_
          refine J_get (pc := 569) C dX11_value_569 f_X11_71 rfl rfl ?_
          refine J_iload_n (pc := 572) C dX11_value_572 rfl rfl ?_
          refine J_lload (pc := 573) C dX11_value_573 rfl ?_
          refine J_lastN (pc := 575) C dX11_value_575 rfl (by omega) (by decide) (uM_given _) ?_
          refine J_aload_n (pc := 576) C dX11_value_576 rfl rfl ?_
          refine J_callV0 (pc := 577) C dX11_value_577 m_X11_145 (c_next l G _ _ _ _ _ _ _ _ _ _ hn hX (by omega)) ⟨jle rfl, jle rfl⟩ rfl rfl rfl rfl rfl (jle rfl) ⟨Nat.zero_le _, Nat.zero_le _⟩ ?_
          try dsimp only
          refine J_iconst (pc := 580) (v := nI 1) C dX11_value_580 (by decide) ?_
          exact J_zret (pc := 581) C dX11_value_581 rfl (by first | rfl | decide) (mV_t (by rw [r1, if_pos (show (okP D.1) _ = true from bI_t h545)])) (Nat.zero_le _) (Nat.zero_le _)
        · refine J_goto (pc := 548) (tgt := 562) C dX11_value_548 (by decide) ?_
          refine J_aload_n (pc := 562) C dX11_value_562 rfl rfl ?_
          refine J_iload_n (pc := 563) C dX11_value_563 rfl rfl ?_
          refine J_callV1 (pc := 564) C dX11_value_564 m_X11_142 (c_bad l G _ _ _ _ _ _ _ _ _ _ _) ⟨jle rfl, jle rfl⟩ rfl rfl rfl rfl rfl (jle rfl) ⟨Nat.zero_le _, Nat.zero_le _⟩ ?_
          try dsimp only
          exact J_zret (pc := 567) C dX11_value_567 rfl (by first | rfl | decide) (mV_f (by rw [r1, if_neg (by rw [show (okP D.1) _ = false from bI_f h545]; decide)])) (Nat.zero_le _) (Nat.zero_le _)
  | false =>
    rw [sgn_f] at r1
    refine J_iload (pc := 517) C dX11_value_517 rfl ?_
    refine J_if_eq (pc := 519) (tgt := 527) C dX11_value_519 (by decide) (fun h519 => ?_) (fun h519 => ?_)
    · refine J_iload_n (pc := 527) C dX11_value_527 rfl rfl ?_
      refine J_if_ge (pc := 528) (tgt := 551) C dX11_value_528 (by decide) (fun h528 => ?_) (fun h528 => ?_)
      · exact absurd h528 (by decide)
      · refine J_lload (pc := 531) C dX11_value_531 rfl ?_
        refine J_lconst (pc := 533) (v := 0) C dX11_value_533 (by decide) ?_
        refine J_lconst (pc := 534) (v := 1) C dX11_value_534 (by decide) ?_
        refine J_aload_n (pc := 535) C dX11_value_535 rfl rfl ?_
        refine J_get (pc := 536) C dX11_value_536 f_X11_196 rfl rfl ?_
        try dsimp only
        refine J_lshl (pc := 539) C dX11_value_539 rfl ?_
        rw [shl1 (by omega)]
        refine J_lconst (pc := 540) (v := 1) C dX11_value_540 (by decide) ?_
        refine J_lsub (pc := 541) C dX11_value_541 ?_
        refine J_callS1 (pc := 542) C dX11_value_542 m_X11_89 (c_in l G _ _ _ _) ⟨jle rfl, jle rfl⟩ rfl rfl (jle rfl) ⟨Nat.zero_le _, Nat.zero_le _⟩ ?_
        try dsimp only
        refine J_if_ne (pc := 545) (tgt := 568) C dX11_value_545 (by decide) (fun h545 => ?_) (fun h545 => ?_)
        · refine J_aload_n (pc := 568) C dX11_value_568 rfl rfl ?_
          refine J_get (pc := 569) C dX11_value_569 f_X11_71 rfl rfl ?_
          refine J_iload_n (pc := 572) C dX11_value_572 rfl rfl ?_
          refine J_lload (pc := 573) C dX11_value_573 rfl ?_
          refine J_lastN (pc := 575) C dX11_value_575 rfl (by omega) (by decide) (uM_given _) ?_
          refine J_aload_n (pc := 576) C dX11_value_576 rfl rfl ?_
          refine J_callV0 (pc := 577) C dX11_value_577 m_X11_145 (c_next l G _ _ _ _ _ _ _ _ _ _ hn hX (by omega)) ⟨jle rfl, jle rfl⟩ rfl rfl rfl rfl rfl (jle rfl) ⟨Nat.zero_le _, Nat.zero_le _⟩ ?_
          try dsimp only
          refine J_iconst (pc := 580) (v := nI 1) C dX11_value_580 (by decide) ?_
          exact J_zret (pc := 581) C dX11_value_581 rfl (by first | rfl | decide) (mV_t (by rw [r1, if_pos (show (okP D.1) _ = true from bI_t h545)])) (Nat.zero_le _) (Nat.zero_le _)
        · refine J_goto (pc := 548) (tgt := 562) C dX11_value_548 (by decide) ?_
          refine J_aload_n (pc := 562) C dX11_value_562 rfl rfl ?_
          refine J_iload_n (pc := 563) C dX11_value_563 rfl rfl ?_
          refine J_callV1 (pc := 564) C dX11_value_564 m_X11_142 (c_bad l G _ _ _ _ _ _ _ _ _ _ _) ⟨jle rfl, jle rfl⟩ rfl rfl rfl rfl rfl (jle rfl) ⟨Nat.zero_le _, Nat.zero_le _⟩ ?_
          try dsimp only
          exact J_zret (pc := 567) C dX11_value_567 rfl (by first | rfl | decide) (mV_f (by rw [r1, if_neg (by rw [show (okP D.1) _ = false from bI_f h545]; decide)])) (Nat.zero_le _) (Nat.zero_le _)
    · exact absurd rfl h519
set_option maxHeartbeats 4000000 in
set_option maxRecDepth 100000 in
theorem l_nbhp (l : Launch) (G : jG) {p : Program} {e : Env} {s : State} {m : MethodId} {args : Array Value} {below : List Frame} {meth : Method} {c : Code} (er : Nat) (F X : Nat × (Nat → Nat)) (K : Nat × Nat × Nat) (D : mD) (P : mP) (gv : Nat → Int64) (O : Nat × (Nat → Nat)) (T : jMem) (k a9 : Nat) (pp : Int32) (less : Bool) (j v : Nat) (C : jX0 p l (jR 9 180 0 0) s m args meth c G cX11_value 10 RX11 (some .boolean)) (hn : X.1 ≤ 4000) (hX : ∀ k, X.2 k < 256) (hG : tkN X K) (h3 : K.1 = 3) (hj0 : K.2.1 + 2 ≤ j) (hj : j ≤ K.2.2) (en : hexF X K.2.2 j v = numN X K) (hk : k < 6) (hw9 : D.1 ≤ 32) : J p l e (jR 9 180 0 0) s m args below meth c G 10 0 0 (.inl (some (.int (bI (nb2 X a9 K less (okP D.1) P gv k).1.isNone)), encM er F X (nb2 X a9 K less (okP D.1) P gv k).2.1 (wrI (nb2 X a9 K less (okP D.1) P gv k).1) D (nb2 X a9 K less (okP D.1) P gv k).2.2.1 (nb2 X a9 K less (okP D.1) P gv k).2.2.2 O T)) 452 [some (.ref 1000), some (.int (-1)), some (.int (nI k)), some (.int (nI a9)), some (.int (pp)), some (.int (bI less)), some (.long (lN v)), none, some (.int (nI j)), none] [] (encM er F X K (-1) D P gv O T) 0 0 := by
  have hG' := hG.g
  have b0 : K.2.1 ≤ K.2.2 ∧ K.2.2 ≤ X.1 := ⟨hG'.1.1, hG'.1.2.1⟩
  have hq9 := (hG.hex hX h3).2.2
  induction hm : K.2.2 - j generalizing j v with
  | zero =>
    rw [hexF, if_neg (by omega)] at en
    refine J_iload (pc := 452) C dX11_value_452 rfl ?_
    refine J_aload_n (pc := 454) C dX11_value_454 rfl rfl ?_
    refine J_get (pc := 455) C dX11_value_455 f_X11_110 rfl rfl ?_
    try dsimp only
    refine J_icmp_geN (pc := 458) (tgt := 517) C dX11_value_458 (by decide) (by omega) (by omega) (fun h458 => ?_) (fun h458 => ?_)
    · exact l_nbEp l G er F X K D P gv O T k a9 pp less v _ C hn hX hG' (Or.inl h3) en hk hw9
    · omega
  | succ d ih =>
    have hx4 := hX j
    have hq8 := hq9 j hj0 (by omega)
    rw [hexF, if_pos (by omega)] at en
    refine J_iload (pc := 452) C dX11_value_452 rfl ?_
    refine J_aload_n (pc := 454) C dX11_value_454 rfl rfl ?_
    refine J_get (pc := 455) C dX11_value_455 f_X11_110 rfl rfl ?_
    try dsimp only
    refine J_icmp_geN (pc := 458) (tgt := 517) C dX11_value_458 (by decide) (by omega) (by omega) (fun h458 => ?_) (fun h458 => ?_)
    · omega
    · refine J_aload_n (pc := 461) C dX11_value_461 rfl rfl ?_
      refine J_get (pc := 462) C dX11_value_462 f_X11_120 rfl rfl ?_
      try dsimp only
      refine J_iconst (pc := 465) (v := nI 3) C dX11_value_465 (by decide) ?_
      refine J_icmp_neN (pc := 466) (tgt := 490) C dX11_value_466 (by decide) (by omega) (by omega) (fun h466 => ?_) (fun h466 => ?_)
      · exact absurd h3 h466
      · refine J_ldc2 (pc := 469) C dX11_value_469 l_X11_250 ?_
        refine J_lload (pc := 472) C dX11_value_472 rfl ?_
        refine J_lmul (pc := 474) C dX11_value_474 ?_
        refine J_aload_n (pc := 475) C dX11_value_475 rfl rfl ?_
        refine J_get (pc := 476) C dX11_value_476 f_X11_17 rfl rfl ?_
        refine J_iload (pc := 479) C dX11_value_479 rfl ?_
        refine J_ialdN (pc := 481) C dX11_value_481 rfl (by omega) (by decide) ?_
        try dsimp only
        refine J_callS1 (pc := 482) C dX11_value_482 m_X11_126 (c_hexN l G _ _ (by omega)) ⟨jle rfl, jle rfl⟩ rfl rfl (jle rfl) ⟨Nat.zero_le _, Nat.zero_le _⟩ ?_
        try dsimp only
        rw [lI_n (show hx (X.2 j) ≠ 1000 by omega)]
        refine J_i2l (pc := 485) C dX11_value_485 (nI_l (by omega)) ?_
        refine J_ladd (pc := 486) C dX11_value_486 ?_
        refine J_goto (pc := 487) (tgt := 509) C dX11_value_487 (by decide) ?_
        rw [hstep]
        refine J_lstore (pc := 509) C dX11_value_509 (by decide) rfl ?_
        dsimp only [List.set]
        refine J_iincN (pc := 511) C dX11_value_511 rfl (by decide) rfl ?_
        dsimp only [List.set]
        refine J_goto (pc := 514) (tgt := 452) C dX11_value_514 (by decide) ?_
        exact ih (j + 1) _ (by omega) (by omega) en (by omega)
set_option maxHeartbeats 4000000 in
set_option maxRecDepth 100000 in
theorem l_nbdp (l : Launch) (G : jG) {p : Program} {e : Env} {s : State} {m : MethodId} {args : Array Value} {below : List Frame} {meth : Method} {c : Code} (er : Nat) (F X : Nat × (Nat → Nat)) (K : Nat × Nat × Nat) (D : mD) (P : mP) (gv : Nat → Int64) (O : Nat × (Nat → Nat)) (T : jMem) (k a9 : Nat) (pp : Int32) (less : Bool) (j v : Nat) (C : jX0 p l (jR 9 180 0 0) s m args meth c G cX11_value 10 RX11 (some .boolean)) (hn : X.1 ≤ 4000) (hX : ∀ k, X.2 k < 256) (hG : tkN X K) (h3 : K.1 = 2 ∧ K.2.2 - K.2.1 ≤ 10) (hj0 : K.2.1 ≤ j) (hj : j ≤ K.2.2) (en : decF X K.2.2 j v = numN X K) (hk : k < 6) (hw9 : D.1 ≤ 32) : J p l e (jR 9 180 0 0) s m args below meth c G 10 0 0 (.inl (some (.int (bI (nb2 X a9 K less (okP D.1) P gv k).1.isNone)), encM er F X (nb2 X a9 K less (okP D.1) P gv k).2.1 (wrI (nb2 X a9 K less (okP D.1) P gv k).1) D (nb2 X a9 K less (okP D.1) P gv k).2.2.1 (nb2 X a9 K less (okP D.1) P gv k).2.2.2 O T)) 452 [some (.ref 1000), some (.int (-1)), some (.int (nI k)), some (.int (nI a9)), some (.int (pp)), some (.int (bI less)), some (.long (lN v)), none, some (.int (nI j)), none] [] (encM er F X K (-1) D P gv O T) 0 0 := by
  have hG' := hG.g
  have b0 : K.2.1 ≤ K.2.2 ∧ K.2.2 ≤ X.1 := ⟨hG'.1.1, hG'.1.2.1⟩
  have hq9 := hG.g.2 h3.1
  have h30 := h3.1
  induction hm : K.2.2 - j generalizing j v with
  | zero =>
    rw [decF, if_neg (by omega)] at en
    refine J_iload (pc := 452) C dX11_value_452 rfl ?_
    refine J_aload_n (pc := 454) C dX11_value_454 rfl rfl ?_
    refine J_get (pc := 455) C dX11_value_455 f_X11_110 rfl rfl ?_
    try dsimp only
    refine J_icmp_geN (pc := 458) (tgt := 517) C dX11_value_458 (by decide) (by omega) (by omega) (fun h458 => ?_) (fun h458 => ?_)
    · exact l_nbEp l G er F X K D P gv O T k a9 pp less v _ C hn hX hG' (Or.inr h3) en hk hw9
    · omega
  | succ d ih =>
    have hx4 := hX j
    have hq8 := hq9 j hj0 (by omega)
    rw [decF, if_pos (by omega)] at en
    refine J_iload (pc := 452) C dX11_value_452 rfl ?_
    refine J_aload_n (pc := 454) C dX11_value_454 rfl rfl ?_
    refine J_get (pc := 455) C dX11_value_455 f_X11_110 rfl rfl ?_
    try dsimp only
    refine J_icmp_geN (pc := 458) (tgt := 517) C dX11_value_458 (by decide) (by omega) (by omega) (fun h458 => ?_) (fun h458 => ?_)
    · omega
    · refine J_aload_n (pc := 461) C dX11_value_461 rfl rfl ?_
      refine J_get (pc := 462) C dX11_value_462 f_X11_120 rfl rfl ?_
      try dsimp only
      refine J_iconst (pc := 465) (v := nI 3) C dX11_value_465 (by decide) ?_
      refine J_icmp_neN (pc := 466) (tgt := 490) C dX11_value_466 (by decide) (by omega) (by omega) (fun h466 => ?_) (fun h466 => ?_)
      · refine J_ldc2 (pc := 490) C dX11_value_490 l_X11_248 ?_
        refine J_lload (pc := 493) C dX11_value_493 rfl ?_
        refine J_lmul (pc := 495) C dX11_value_495 ?_
        refine J_aload_n (pc := 496) C dX11_value_496 rfl rfl ?_
        refine J_get (pc := 497) C dX11_value_497 f_X11_17 rfl rfl ?_
        refine J_iload (pc := 500) C dX11_value_500 rfl ?_
        refine J_ialdN (pc := 502) C dX11_value_502 rfl (by omega) (by decide) ?_
        try dsimp only
        refine J_i2l (pc := 503) C dX11_value_503 (nI_l (by omega)) ?_
        refine J_ladd (pc := 504) C dX11_value_504 ?_
        refine J_ldc2 (pc := 505) C dX11_value_505 l_X11_97 ?_
        refine J_lsub (pc := 508) C dX11_value_508 ?_
        rw [dstep hq8.1]
        refine J_lstore (pc := 509) C dX11_value_509 (by decide) rfl ?_
        dsimp only [List.set]
        refine J_iincN (pc := 511) C dX11_value_511 rfl (by decide) rfl ?_
        dsimp only [List.set]
        refine J_goto (pc := 514) (tgt := 452) C dX11_value_514 (by decide) ?_
        exact ih (j + 1) _ (by omega) (by omega) en (by omega)
      · omega
set_option maxHeartbeats 4000000 in
set_option maxRecDepth 100000 in
theorem l_nbp (l : Launch) (G : jG) {p : Program} {e : Env} {s : State} {m : MethodId} {args : Array Value} {below : List Frame} {meth : Method} {c : Code} (er : Nat) (F X : Nat × (Nat → Nat)) (K : Nat × Nat × Nat) (D : mD) (P : mP) (gv : Nat → Int64) (O : Nat × (Nat → Nat)) (T : jMem) (k a9 : Nat) (pp : Int32) (less : Bool) (C : jX0 p l (jR 9 180 0 0) s m args meth c G cX11_value 10 RX11 (some .boolean)) (hn : X.1 ≤ 4000) (hX : ∀ k, X.2 k < 256) (hG : tkN X K) (hk : k < 6) (hw9 : D.1 ≤ 32) : J p l e (jR 9 180 0 0) s m args below meth c G 10 0 0 (.inl (some (.int (bI (nb2 X a9 K less (okP D.1) P gv k).1.isNone)), encM er F X (nb2 X a9 K less (okP D.1) P gv k).2.1 (wrI (nb2 X a9 K less (okP D.1) P gv k).1) D (nb2 X a9 K less (okP D.1) P gv k).2.2.1 (nb2 X a9 K less (okP D.1) P gv k).2.2.2 O T)) 387 [some (.ref 1000), some (.int (-1)), some (.int (nI k)), some (.int (nI a9)), some (.int (pp)), some (.int (bI less)), none, none, none, none] [] (encM er F X K (-1) D P gv O T) 0 0 := by
  have hG' := hG.g
  have b0 : K.2.1 ≤ K.2.2 ∧ K.2.2 ≤ X.1 ∧ K.1 ≤ 5 := ⟨hG'.1.1, hG'.1.2.1, hG'.1.2.2.2.1⟩
  refine J_aload_n (pc := 387) C dX11_value_387 rfl rfl ?_
  refine J_get (pc := 388) C dX11_value_388 f_X11_120 rfl rfl ?_
  try dsimp only
  refine J_iconst (pc := 391) (v := nI 3) C dX11_value_391 (by decide) ?_
  refine J_icmp_eqN (pc := 392) (tgt := 426) C dX11_value_392 (by decide) (by omega) (by omega) (fun h392 => ?_) (fun h392 => ?_)
  · refine J_lconst (pc := 426) (v := lN 0) C dX11_value_426 (by decide) ?_
    refine J_lstore (pc := 427) C dX11_value_427 (by decide) rfl ?_
    dsimp only [List.set]
    refine J_aload_n (pc := 429) C dX11_value_429 rfl rfl ?_
    refine J_get (pc := 430) C dX11_value_430 f_X11_120 rfl rfl ?_
    try dsimp only
    refine J_iconst (pc := 433) (v := nI 3) C dX11_value_433 (by decide) ?_
    refine J_icmp_neN (pc := 434) (tgt := 446) C dX11_value_434 (by decide) (by omega) (by omega) (fun h434 => ?_) (fun h434 => ?_)
    · refine J_aload_n (pc := 446) C dX11_value_446 rfl rfl ?_
      refine J_get (pc := 447) C dX11_value_447 f_X11_113 rfl rfl ?_
      try dsimp only
      refine J_istore (pc := 450) C dX11_value_450 (by decide) rfl ?_
      dsimp only [List.set]
      first
        | (have h3 : K.1 = 3 := h392
           exact l_nbhp l G er F X K D P gv O T k a9 pp less (K.2.1 + 2) 0 C hn hX hG h3 (Nat.le_refl _) (hG.hex hX h3).1 (by rw [numN, if_pos h3]) hk hw9)
        | (have h3 : K.1 = 3 := h434
           exact absurd h3 h392)
        | exact absurd h392 h434
        | (exact l_nbdp l G er F X K D P gv O T k a9 pp less K.2.1 0 C hn hX hG ⟨h400, by omega⟩ (Nat.le_refl _) b0.1 (by rw [numN, if_neg h392]) hk hw9)
    · refine J_aload_n (pc := 437) C dX11_value_437 rfl rfl ?_
      refine J_get (pc := 438) C dX11_value_438 f_X11_113 rfl rfl ?_
      try dsimp only
      refine J_iconst (pc := 441) (v := nI 2) C dX11_value_441 (by decide) ?_
      refine J_iaddN (pc := 442) C dX11_value_442 ?_
      refine J_goto (pc := 443) (tgt := 450) C dX11_value_443 (by decide) ?_
      refine J_istore (pc := 450) C dX11_value_450 (by decide) rfl ?_
      dsimp only [List.set]
      first
        | (have h3 : K.1 = 3 := h392
           exact l_nbhp l G er F X K D P gv O T k a9 pp less (K.2.1 + 2) 0 C hn hX hG h3 (Nat.le_refl _) (hG.hex hX h3).1 (by rw [numN, if_pos h3]) hk hw9)
        | (have h3 : K.1 = 3 := h434
           exact absurd h3 h392)
        | exact absurd h392 h434
        | (exact l_nbdp l G er F X K D P gv O T k a9 pp less K.2.1 0 C hn hX hG ⟨h400, by omega⟩ (Nat.le_refl _) b0.1 (by rw [numN, if_neg h392]) hk hw9)
  · refine J_aload_n (pc := 395) C dX11_value_395 rfl rfl ?_
    refine J_get (pc := 396) C dX11_value_396 f_X11_120 rfl rfl ?_
    try dsimp only
    refine J_iconst (pc := 399) (v := nI 2) C dX11_value_399 (by decide) ?_
    refine J_icmp_neN (pc := 400) (tgt := 417) C dX11_value_400 (by decide) (by omega) (by omega) (fun h400 => ?_) (fun h400 => ?_)
    · refine J_aload_n (pc := 417) C dX11_value_417 rfl rfl ?_
      refine J_aload_n (pc := 418) C dX11_value_418 rfl rfl ?_
      refine J_get (pc := 419) C dX11_value_419 f_X11_113 rfl rfl ?_
      try dsimp only
      refine J_callV1 (pc := 422) C dX11_value_422 m_X11_142 (c_bad l G _ _ _ _ _ _ _ _ _ _ _) ⟨jle rfl, jle rfl⟩ rfl rfl rfl rfl rfl (jle rfl) ⟨Nat.zero_le _, Nat.zero_le _⟩ ?_
      try dsimp only
      exact J_zret (pc := 425) C dX11_value_425 rfl (by first | rfl | decide) (mV_f (by rw [nb2, if_neg (by omega)])) (Nat.zero_le _) (Nat.zero_le _)
    · refine J_aload_n (pc := 403) C dX11_value_403 rfl rfl ?_
      refine J_get (pc := 404) C dX11_value_404 f_X11_110 rfl rfl ?_
      try dsimp only
      refine J_aload_n (pc := 407) C dX11_value_407 rfl rfl ?_
      refine J_get (pc := 408) C dX11_value_408 f_X11_113 rfl rfl ?_
      try dsimp only
      refine J_isubN (pc := 411) C dX11_value_411 (by omega) ?_
      refine J_bipush (pc := 412) (v := nI 10) C dX11_value_412 (by decide) ?_
      refine J_icmp_leN (pc := 414) (tgt := 426) C dX11_value_414 (by decide) (by omega) (by omega) (fun h414 => ?_) (fun h414 => ?_)
      · refine J_lconst (pc := 426) (v := lN 0) C dX11_value_426 (by decide) ?_
        refine J_lstore (pc := 427) C dX11_value_427 (by decide) rfl ?_
        dsimp only [List.set]
        refine J_aload_n (pc := 429) C dX11_value_429 rfl rfl ?_
        refine J_get (pc := 430) C dX11_value_430 f_X11_120 rfl rfl ?_
        try dsimp only
        refine J_iconst (pc := 433) (v := nI 3) C dX11_value_433 (by decide) ?_
        refine J_icmp_neN (pc := 434) (tgt := 446) C dX11_value_434 (by decide) (by omega) (by omega) (fun h434 => ?_) (fun h434 => ?_)
        · refine J_aload_n (pc := 446) C dX11_value_446 rfl rfl ?_
          refine J_get (pc := 447) C dX11_value_447 f_X11_113 rfl rfl ?_
          try dsimp only
          refine J_istore (pc := 450) C dX11_value_450 (by decide) rfl ?_
          dsimp only [List.set]
          first
            | (have h3 : K.1 = 3 := h392
               exact l_nbhp l G er F X K D P gv O T k a9 pp less (K.2.1 + 2) 0 C hn hX hG h3 (Nat.le_refl _) (hG.hex hX h3).1 (by rw [numN, if_pos h3]) hk hw9)
            | (have h3 : K.1 = 3 := h434
               exact absurd h3 h392)
            | exact absurd h392 h434
            | (exact l_nbdp l G er F X K D P gv O T k a9 pp less K.2.1 0 C hn hX hG ⟨h400, by omega⟩ (Nat.le_refl _) b0.1 (by rw [numN, if_neg h392]) hk hw9)
        · refine J_aload_n (pc := 437) C dX11_value_437 rfl rfl ?_
          refine J_get (pc := 438) C dX11_value_438 f_X11_113 rfl rfl ?_
          try dsimp only
          refine J_iconst (pc := 441) (v := nI 2) C dX11_value_441 (by decide) ?_
          refine J_iaddN (pc := 442) C dX11_value_442 ?_
          refine J_goto (pc := 443) (tgt := 450) C dX11_value_443 (by decide) ?_
          refine J_istore (pc := 450) C dX11_value_450 (by decide) rfl ?_
          dsimp only [List.set]
          first
            | (have h3 : K.1 = 3 := h392
               exact l_nbhp l G er F X K D P gv O T k a9 pp less (K.2.1 + 2) 0 C hn hX hG h3 (Nat.le_refl _) (hG.hex hX h3).1 (by rw [numN, if_pos h3]) hk hw9)
            | (have h3 : K.1 = 3 := h434
               exact absurd h3 h392)
            | exact absurd h392 h434
            | (exact l_nbdp l G er F X K D P gv O T k a9 pp less K.2.1 0 C hn hX hG ⟨h400, by omega⟩ (Nat.le_refl _) b0.1 (by rw [numN, if_neg h392]) hk hw9)
      · refine J_aload_n (pc := 417) C dX11_value_417 rfl rfl ?_
        refine J_aload_n (pc := 418) C dX11_value_418 rfl rfl ?_
        refine J_get (pc := 419) C dX11_value_419 f_X11_113 rfl rfl ?_
        try dsimp only
        refine J_callV1 (pc := 422) C dX11_value_422 m_X11_142 (c_bad l G _ _ _ _ _ _ _ _ _ _ _) ⟨jle rfl, jle rfl⟩ rfl rfl rfl rfl rfl (jle rfl) ⟨Nat.zero_le _, Nat.zero_le _⟩ ?_
        try dsimp only
        exact J_zret (pc := 425) C dX11_value_425 rfl (by first | rfl | decide) (mV_f (by rw [nb2, if_neg (by omega)])) (Nat.zero_le _) (Nat.zero_le _)
set_option maxHeartbeats 4000000 in
set_option maxRecDepth 100000 in
theorem l_ncp (l : Launch) (G : jG) {p : Program} {e : Env} {s : State} {m : MethodId} {args : Array Value} {below : List Frame} {meth : Method} {c : Code} (er : Nat) (F X : Nat × (Nat → Nat)) (K : Nat × Nat × Nat) (D : mD) (P : mP) (gv : Nat → Int64) (O : Nat × (Nat → Nat)) (T : jMem) (k a9 : Nat) (pp : Int32) (C : jX0 p l (jR 9 180 0 0) s m args meth c G cX11_value 10 RX11 (some .boolean)) (hn : X.1 ≤ 4000) (hX : ∀ k, X.2 k < 256) (hG : tkN X K) (ha : a9 = K.2.1) (hk : k < 6) (hw9 : D.1 ≤ 32) : J p l e (jR 9 180 0 0) s m args below meth c G 10 0 0 (.inl (some (.int (bI (nb1 X K (okP D.1) P gv k).1.isNone)), encM er F X (nb1 X K (okP D.1) P gv k).2.1 (wrI (nb1 X K (okP D.1) P gv k).1) D (nb1 X K (okP D.1) P gv k).2.2.1 (nb1 X K (okP D.1) P gv k).2.2.2 O T)) 370 [some (.ref 1000), some (.int (-1)), some (.int (nI k)), some (.int (nI a9)), some (.int (pp)), none, none, none, none, none] [] (encM er F X K (-1) D P gv O T) 0 0 := by
  have k0 := hG.g.1
  have b0 : K.2.1 ≤ K.2.2 ∧ K.2.2 ≤ X.1 ∧ K.1 ≤ 5 := ⟨k0.1, k0.2.1, k0.2.2.2.1⟩
  subst ha
  refine J_aload_n (pc := 370) C dX11_value_370 rfl rfl ?_
  refine J_bipush (pc := 371) (v := nI 45) C dX11_value_371 (by decide) ?_
  refine J_callV1 (pc := 373) C dX11_value_373 m_X11_139 (c_isSign l G _ _ _ _ _ _ _ _ _ _ _ hn hX (by first | assumption | exact (nextF_g (by omega)).1) (by omega)) ⟨jle rfl, jle rfl⟩ rfl rfl rfl rfl rfl (jle rfl) ⟨Nat.zero_le _, Nat.zero_le _⟩ ?_
  try dsimp only
  refine J_istore (pc := 376) C dX11_value_376 (by decide) rfl ?_
  dsimp only [List.set]
  refine J_iload (pc := 378) C dX11_value_378 rfl ?_
  refine J_if_eq (pc := 380) (tgt := 387) C dX11_value_380 (by decide) (fun h380 => ?_) (fun h380 => ?_)
  · first
      | (have hs := bI_f h380
         rw [nb1, if_neg (by rw [hs]; decide), hs]
         exact l_nbp l G er F X K D P gv O T k K.2.1 pp false C hn hX hG hk hw9)
      | (rw [nb1, if_pos (bI_t h380)]
         exact l_nbp l G er F X _ D P gv O T k K.2.1 pp true C hn hX hG.nx hk hw9)
  · rw [bI_t h380]
    refine J_aload_n (pc := 383) C dX11_value_383 rfl rfl ?_
    refine J_callV0 (pc := 384) C dX11_value_384 m_X11_145 (c_next l G _ _ _ _ _ _ _ _ _ _ hn hX (by omega)) ⟨jle rfl, jle rfl⟩ rfl rfl rfl rfl rfl (jle rfl) ⟨Nat.zero_le _, Nat.zero_le _⟩ ?_
    try dsimp only
    first
      | (have hs := bI_f h380
         rw [nb1, if_neg (by rw [hs]; decide), hs]
         exact l_nbp l G er F X K D P gv O T k K.2.1 pp false C hn hX hG hk hw9)
      | (rw [nb1, if_pos (bI_t h380)]
         exact l_nbp l G er F X _ D P gv O T k K.2.1 pp true C hn hX hG.nx hk hw9)
set_option maxHeartbeats 4000000 in
set_option maxRecDepth 100000 in
theorem l_nbEo (l : Launch) (G : jG) {p : Program} {e : Env} {s : State} {m : MethodId} {args : Array Value} {below : List Frame} {meth : Method} {c : Code} (er : Nat) (F X : Nat × (Nat → Nat)) (K : Nat × Nat × Nat) (D : mD) (P : mP) (gv : Nat → Int64) (O : Nat × (Nat → Nat)) (T : jMem) (o k a9 p9 : Nat) (less : Bool) (n : Nat) (v8 : Option Value) (C : jX0 p l (jR 9 180 0 0) s m args meth c G cX11_value 10 RX11 (some .boolean)) (hn : X.1 ≤ 4000) (hX : ∀ k, X.2 k < 256) (hG : tkG X K) (h3 : K.1 = 3 ∨ (K.1 = 2 ∧ K.2.2 - K.2.1 ≤ 10)) (en : n = numN X K) (hk : k < 6) (ho : o < 60) (hp : p9 < 360) (hP : pG D p9) : J p l e (jR 9 180 0 0) s m args below meth c G 10 0 0 (.inl (some (.int (bI (nb2 X a9 K less (fitF (mKind D p9) (bitsN D p9)) P gv k).1.isNone)), encM er F X (nb2 X a9 K less (fitF (mKind D p9) (bitsN D p9)) P gv k).2.1 (wrI (nb2 X a9 K less (fitF (mKind D p9) (bitsN D p9)) P gv k).1) D (nb2 X a9 K less (fitF (mKind D p9) (bitsN D p9)) P gv k).2.2.1 (nb2 X a9 K less (fitF (mKind D p9) (bitsN D p9)) P gv k).2.2.2 O T)) 517 [some (.ref 1000), some (.int (nI o)), some (.int (nI k)), some (.int (nI a9)), some (.int (nI p9)), some (.int (bI less)), some (.long (lN n)), none, v8, none] [] (encM er F X K (-1) D P gv O T) 0 0 := by
  have b0 : K.2.1 ≤ K.2.2 ∧ K.2.2 ≤ X.1 := ⟨hG.1.1, hG.1.2.1⟩
  subst en
  have r1 : nb2 X a9 K less (fitF (mKind D p9) (bitsN D p9)) P gv k = if (fitF (mKind D p9) (bitsN D p9)) (sgn less (lN (numN X K))) = true then (none, nextF X K.2.2, P, va_up gv k (sgn less (lN (numN X K)))) else (some a9, K, P, gv) := by rw [nb2, if_pos h3]
  cases less with
  | true =>
    rw [sgn_t] at r1
    refine J_iload (pc := 517) C dX11_value_517 rfl ?_
    refine J_if_eq (pc := 519) (tgt := 527) C dX11_value_519 (by decide) (fun h519 => ?_) (fun h519 => ?_)
    · exact absurd h519 (by decide)
    · refine J_lload (pc := 522) C dX11_value_522 rfl ?_
      refine J_lneg (pc := 524) C dX11_value_524 ?_
      refine J_lstore (pc := 525) C dX11_value_525 (by decide) rfl ?_
      dsimp only [List.set]
      refine J_iload_n (pc := 527) C dX11_value_527 rfl rfl ?_
      refine J_if_ge (pc := 528) (tgt := 551) C dX11_value_528 (by decide) (fun h528 => ?_) (fun h528 => ?_)
      · refine J_aload_n (pc := 551) C dX11_value_551 rfl rfl ?_
        refine J_iload (pc := 552) C dX11_value_552 rfl ?_
        refine J_lload (pc := 554) C dX11_value_554 rfl ?_
        refine J_callV1 (pc := 556) C dX11_value_556 m_X11_252 (c_fits l G _ _ _ _ _ _ _ _ _ _ _ _ hp hP) ⟨jle rfl, jle rfl⟩ rfl rfl rfl rfl rfl (jle rfl) ⟨Nat.zero_le _, Nat.zero_le _⟩ ?_
        try dsimp only
        refine J_if_ne (pc := 559) (tgt := 568) C dX11_value_559 (by decide) (fun h559 => ?_) (fun h559 => ?_)
        · refine J_aload_n (pc := 568) C dX11_value_568 rfl rfl ?_
          refine J_get (pc := 569) C dX11_value_569 f_X11_71 rfl rfl ?_
          refine J_iload_n (pc := 572) C dX11_value_572 rfl rfl ?_
          refine J_lload (pc := 573) C dX11_value_573 rfl ?_
          refine J_lastN (pc := 575) C dX11_value_575 rfl (by omega) (by decide) (uM_given _) ?_
          refine J_aload_n (pc := 576) C dX11_value_576 rfl rfl ?_
          refine J_callV0 (pc := 577) C dX11_value_577 m_X11_145 (c_next l G _ _ _ _ _ _ _ _ _ _ hn hX (by omega)) ⟨jle rfl, jle rfl⟩ rfl rfl rfl rfl rfl (jle rfl) ⟨Nat.zero_le _, Nat.zero_le _⟩ ?_
          try dsimp only
          refine J_iconst (pc := 580) (v := nI 1) C dX11_value_580 (by decide) ?_
          exact J_zret (pc := 581) C dX11_value_581 rfl (by first | rfl | decide) (mV_t (by rw [r1, if_pos (show (fitF (mKind D p9) (bitsN D p9)) _ = true from bI_t h559)])) (Nat.zero_le _) (Nat.zero_le _)
        · refine J_aload_n (pc := 562) C dX11_value_562 rfl rfl ?_
          refine J_iload_n (pc := 563) C dX11_value_563 rfl rfl ?_
          refine J_callV1 (pc := 564) C dX11_value_564 m_X11_142 (c_bad l G _ _ _ _ _ _ _ _ _ _ _) ⟨jle rfl, jle rfl⟩ rfl rfl rfl rfl rfl (jle rfl) ⟨Nat.zero_le _, Nat.zero_le _⟩ ?_
          try dsimp only
          exact J_zret (pc := 567) C dX11_value_567 rfl (by first | rfl | decide) (mV_f (by rw [r1, if_neg (by rw [show (fitF (mKind D p9) (bitsN D p9)) _ = false from bI_f h559]; decide)])) (Nat.zero_le _) (Nat.zero_le _)
      · exact absurd (nI_pos' (by omega)) h528
  | false =>
    rw [sgn_f] at r1
    refine J_iload (pc := 517) C dX11_value_517 rfl ?_
    refine J_if_eq (pc := 519) (tgt := 527) C dX11_value_519 (by decide) (fun h519 => ?_) (fun h519 => ?_)
    · refine J_iload_n (pc := 527) C dX11_value_527 rfl rfl ?_
      refine J_if_ge (pc := 528) (tgt := 551) C dX11_value_528 (by decide) (fun h528 => ?_) (fun h528 => ?_)
      · refine J_aload_n (pc := 551) C dX11_value_551 rfl rfl ?_
        refine J_iload (pc := 552) C dX11_value_552 rfl ?_
        refine J_lload (pc := 554) C dX11_value_554 rfl ?_
        refine J_callV1 (pc := 556) C dX11_value_556 m_X11_252 (c_fits l G _ _ _ _ _ _ _ _ _ _ _ _ hp hP) ⟨jle rfl, jle rfl⟩ rfl rfl rfl rfl rfl (jle rfl) ⟨Nat.zero_le _, Nat.zero_le _⟩ ?_
        try dsimp only
        refine J_if_ne (pc := 559) (tgt := 568) C dX11_value_559 (by decide) (fun h559 => ?_) (fun h559 => ?_)
        · refine J_aload_n (pc := 568) C dX11_value_568 rfl rfl ?_
          refine J_get (pc := 569) C dX11_value_569 f_X11_71 rfl rfl ?_
          refine J_iload_n (pc := 572) C dX11_value_572 rfl rfl ?_
          refine J_lload (pc := 573) C dX11_value_573 rfl ?_
          refine J_lastN (pc := 575) C dX11_value_575 rfl (by omega) (by decide) (uM_given _) ?_
          refine J_aload_n (pc := 576) C dX11_value_576 rfl rfl ?_
          refine J_callV0 (pc := 577) C dX11_value_577 m_X11_145 (c_next l G _ _ _ _ _ _ _ _ _ _ hn hX (by omega)) ⟨jle rfl, jle rfl⟩ rfl rfl rfl rfl rfl (jle rfl) ⟨Nat.zero_le _, Nat.zero_le _⟩ ?_
          try dsimp only
          refine J_iconst (pc := 580) (v := nI 1) C dX11_value_580 (by decide) ?_
          exact J_zret (pc := 581) C dX11_value_581 rfl (by first | rfl | decide) (mV_t (by rw [r1, if_pos (show (fitF (mKind D p9) (bitsN D p9)) _ = true from bI_t h559)])) (Nat.zero_le _) (Nat.zero_le _)
        · refine J_aload_n (pc := 562) C dX11_value_562 rfl rfl ?_
          refine J_iload_n (pc := 563) C dX11_value_563 rfl rfl ?_
          refine J_callV1 (pc := 564) C dX11_value_564 m_X11_142 (c_bad l G _ _ _ _ _ _ _ _ _ _ _) ⟨jle rfl, jle rfl⟩ rfl rfl rfl rfl rfl (jle rfl) ⟨Nat.zero_le _, Nat.zero_le _⟩ ?_
          try dsimp only
          exact J_zret (pc := 567) C dX11_value_567 rfl (by first | rfl | decide) (mV_f (by rw [r1, if_neg (by rw [show (fitF (mKind D p9) (bitsN D p9)) _ = false from bI_f h559]; decide)])) (Nat.zero_le _) (Nat.zero_le _)
      · exact absurd (nI_pos' (by omega)) h528
    · exact absurd rfl h519
set_option maxHeartbeats 4000000 in
set_option maxRecDepth 100000 in
theorem l_nbho (l : Launch) (G : jG) {p : Program} {e : Env} {s : State} {m : MethodId} {args : Array Value} {below : List Frame} {meth : Method} {c : Code} (er : Nat) (F X : Nat × (Nat → Nat)) (K : Nat × Nat × Nat) (D : mD) (P : mP) (gv : Nat → Int64) (O : Nat × (Nat → Nat)) (T : jMem) (o k a9 p9 : Nat) (less : Bool) (j v : Nat) (C : jX0 p l (jR 9 180 0 0) s m args meth c G cX11_value 10 RX11 (some .boolean)) (hn : X.1 ≤ 4000) (hX : ∀ k, X.2 k < 256) (hG : tkN X K) (h3 : K.1 = 3) (hj0 : K.2.1 + 2 ≤ j) (hj : j ≤ K.2.2) (en : hexF X K.2.2 j v = numN X K) (hk : k < 6) (ho : o < 60) (hp : p9 < 360) (hP : pG D p9) : J p l e (jR 9 180 0 0) s m args below meth c G 10 0 0 (.inl (some (.int (bI (nb2 X a9 K less (fitF (mKind D p9) (bitsN D p9)) P gv k).1.isNone)), encM er F X (nb2 X a9 K less (fitF (mKind D p9) (bitsN D p9)) P gv k).2.1 (wrI (nb2 X a9 K less (fitF (mKind D p9) (bitsN D p9)) P gv k).1) D (nb2 X a9 K less (fitF (mKind D p9) (bitsN D p9)) P gv k).2.2.1 (nb2 X a9 K less (fitF (mKind D p9) (bitsN D p9)) P gv k).2.2.2 O T)) 452 [some (.ref 1000), some (.int (nI o)), some (.int (nI k)), some (.int (nI a9)), some (.int (nI p9)), some (.int (bI less)), some (.long (lN v)), none, some (.int (nI j)), none] [] (encM er F X K (-1) D P gv O T) 0 0 := by
  have hG' := hG.g
  have b0 : K.2.1 ≤ K.2.2 ∧ K.2.2 ≤ X.1 := ⟨hG'.1.1, hG'.1.2.1⟩
  have hq9 := (hG.hex hX h3).2.2
  induction hm : K.2.2 - j generalizing j v with
  | zero =>
    rw [hexF, if_neg (by omega)] at en
    refine J_iload (pc := 452) C dX11_value_452 rfl ?_
    refine J_aload_n (pc := 454) C dX11_value_454 rfl rfl ?_
    refine J_get (pc := 455) C dX11_value_455 f_X11_110 rfl rfl ?_
    try dsimp only
    refine J_icmp_geN (pc := 458) (tgt := 517) C dX11_value_458 (by decide) (by omega) (by omega) (fun h458 => ?_) (fun h458 => ?_)
    · exact l_nbEo l G er F X K D P gv O T o k a9 p9 less v _ C hn hX hG' (Or.inl h3) en hk ho hp hP
    · omega
  | succ d ih =>
    have hx4 := hX j
    have hq8 := hq9 j hj0 (by omega)
    rw [hexF, if_pos (by omega)] at en
    refine J_iload (pc := 452) C dX11_value_452 rfl ?_
    refine J_aload_n (pc := 454) C dX11_value_454 rfl rfl ?_
    refine J_get (pc := 455) C dX11_value_455 f_X11_110 rfl rfl ?_
    try dsimp only
    refine J_icmp_geN (pc := 458) (tgt := 517) C dX11_value_458 (by decide) (by omega) (by omega) (fun h458 => ?_) (fun h458 => ?_)
    · omega
    · refine J_aload_n (pc := 461) C dX11_value_461 rfl rfl ?_
      refine J_get (pc := 462) C dX11_value_462 f_X11_120 rfl rfl ?_
      try dsimp only
      refine J_iconst (pc := 465) (v := nI 3) C dX11_value_465 (by decide) ?_
      refine J_icmp_neN (pc := 466) (tgt := 490) C dX11_value_466 (by decide) (by omega) (by omega) (fun h466 => ?_) (fun h466 => ?_)
      · exact absurd h3 h466
      · refine J_ldc2 (pc := 469) C dX11_value_469 l_X11_250 ?_
        refine J_lload (pc := 472) C dX11_value_472 rfl ?_
        refine J_lmul (pc := 474) C dX11_value_474 ?_
        refine J_aload_n (pc := 475) C dX11_value_475 rfl rfl ?_
        refine J_get (pc := 476) C dX11_value_476 f_X11_17 rfl rfl ?_
        refine J_iload (pc := 479) C dX11_value_479 rfl ?_
        refine J_ialdN (pc := 481) C dX11_value_481 rfl (by omega) (by decide) ?_
        try dsimp only
        refine J_callS1 (pc := 482) C dX11_value_482 m_X11_126 (c_hexN l G _ _ (by omega)) ⟨jle rfl, jle rfl⟩ rfl rfl (jle rfl) ⟨Nat.zero_le _, Nat.zero_le _⟩ ?_
        try dsimp only
        rw [lI_n (show hx (X.2 j) ≠ 1000 by omega)]
        refine J_i2l (pc := 485) C dX11_value_485 (nI_l (by omega)) ?_
        refine J_ladd (pc := 486) C dX11_value_486 ?_
        refine J_goto (pc := 487) (tgt := 509) C dX11_value_487 (by decide) ?_
        rw [hstep]
        refine J_lstore (pc := 509) C dX11_value_509 (by decide) rfl ?_
        dsimp only [List.set]
        refine J_iincN (pc := 511) C dX11_value_511 rfl (by decide) rfl ?_
        dsimp only [List.set]
        refine J_goto (pc := 514) (tgt := 452) C dX11_value_514 (by decide) ?_
        exact ih (j + 1) _ (by omega) (by omega) en (by omega)
set_option maxHeartbeats 4000000 in
set_option maxRecDepth 100000 in
theorem l_nbdo (l : Launch) (G : jG) {p : Program} {e : Env} {s : State} {m : MethodId} {args : Array Value} {below : List Frame} {meth : Method} {c : Code} (er : Nat) (F X : Nat × (Nat → Nat)) (K : Nat × Nat × Nat) (D : mD) (P : mP) (gv : Nat → Int64) (O : Nat × (Nat → Nat)) (T : jMem) (o k a9 p9 : Nat) (less : Bool) (j v : Nat) (C : jX0 p l (jR 9 180 0 0) s m args meth c G cX11_value 10 RX11 (some .boolean)) (hn : X.1 ≤ 4000) (hX : ∀ k, X.2 k < 256) (hG : tkN X K) (h3 : K.1 = 2 ∧ K.2.2 - K.2.1 ≤ 10) (hj0 : K.2.1 ≤ j) (hj : j ≤ K.2.2) (en : decF X K.2.2 j v = numN X K) (hk : k < 6) (ho : o < 60) (hp : p9 < 360) (hP : pG D p9) : J p l e (jR 9 180 0 0) s m args below meth c G 10 0 0 (.inl (some (.int (bI (nb2 X a9 K less (fitF (mKind D p9) (bitsN D p9)) P gv k).1.isNone)), encM er F X (nb2 X a9 K less (fitF (mKind D p9) (bitsN D p9)) P gv k).2.1 (wrI (nb2 X a9 K less (fitF (mKind D p9) (bitsN D p9)) P gv k).1) D (nb2 X a9 K less (fitF (mKind D p9) (bitsN D p9)) P gv k).2.2.1 (nb2 X a9 K less (fitF (mKind D p9) (bitsN D p9)) P gv k).2.2.2 O T)) 452 [some (.ref 1000), some (.int (nI o)), some (.int (nI k)), some (.int (nI a9)), some (.int (nI p9)), some (.int (bI less)), some (.long (lN v)), none, some (.int (nI j)), none] [] (encM er F X K (-1) D P gv O T) 0 0 := by
  have hG' := hG.g
  have b0 : K.2.1 ≤ K.2.2 ∧ K.2.2 ≤ X.1 := ⟨hG'.1.1, hG'.1.2.1⟩
  have hq9 := hG.g.2 h3.1
  have h30 := h3.1
  induction hm : K.2.2 - j generalizing j v with
  | zero =>
    rw [decF, if_neg (by omega)] at en
    refine J_iload (pc := 452) C dX11_value_452 rfl ?_
    refine J_aload_n (pc := 454) C dX11_value_454 rfl rfl ?_
    refine J_get (pc := 455) C dX11_value_455 f_X11_110 rfl rfl ?_
    try dsimp only
    refine J_icmp_geN (pc := 458) (tgt := 517) C dX11_value_458 (by decide) (by omega) (by omega) (fun h458 => ?_) (fun h458 => ?_)
    · exact l_nbEo l G er F X K D P gv O T o k a9 p9 less v _ C hn hX hG' (Or.inr h3) en hk ho hp hP
    · omega
  | succ d ih =>
    have hx4 := hX j
    have hq8 := hq9 j hj0 (by omega)
    rw [decF, if_pos (by omega)] at en
    refine J_iload (pc := 452) C dX11_value_452 rfl ?_
    refine J_aload_n (pc := 454) C dX11_value_454 rfl rfl ?_
    refine J_get (pc := 455) C dX11_value_455 f_X11_110 rfl rfl ?_
    try dsimp only
    refine J_icmp_geN (pc := 458) (tgt := 517) C dX11_value_458 (by decide) (by omega) (by omega) (fun h458 => ?_) (fun h458 => ?_)
    · omega
    · refine J_aload_n (pc := 461) C dX11_value_461 rfl rfl ?_
      refine J_get (pc := 462) C dX11_value_462 f_X11_120 rfl rfl ?_
      try dsimp only
      refine J_iconst (pc := 465) (v := nI 3) C dX11_value_465 (by decide) ?_
      refine J_icmp_neN (pc := 466) (tgt := 490) C dX11_value_466 (by decide) (by omega) (by omega) (fun h466 => ?_) (fun h466 => ?_)
      · refine J_ldc2 (pc := 490) C dX11_value_490 l_X11_248 ?_
        refine J_lload (pc := 493) C dX11_value_493 rfl ?_
        refine J_lmul (pc := 495) C dX11_value_495 ?_
        refine J_aload_n (pc := 496) C dX11_value_496 rfl rfl ?_
        refine J_get (pc := 497) C dX11_value_497 f_X11_17 rfl rfl ?_
        refine J_iload (pc := 500) C dX11_value_500 rfl ?_
        refine J_ialdN (pc := 502) C dX11_value_502 rfl (by omega) (by decide) ?_
        try dsimp only
        refine J_i2l (pc := 503) C dX11_value_503 (nI_l (by omega)) ?_
        refine J_ladd (pc := 504) C dX11_value_504 ?_
        refine J_ldc2 (pc := 505) C dX11_value_505 l_X11_97 ?_
        refine J_lsub (pc := 508) C dX11_value_508 ?_
        rw [dstep hq8.1]
        refine J_lstore (pc := 509) C dX11_value_509 (by decide) rfl ?_
        dsimp only [List.set]
        refine J_iincN (pc := 511) C dX11_value_511 rfl (by decide) rfl ?_
        dsimp only [List.set]
        refine J_goto (pc := 514) (tgt := 452) C dX11_value_514 (by decide) ?_
        exact ih (j + 1) _ (by omega) (by omega) en (by omega)
      · omega
set_option maxHeartbeats 4000000 in
set_option maxRecDepth 100000 in
theorem l_nbo (l : Launch) (G : jG) {p : Program} {e : Env} {s : State} {m : MethodId} {args : Array Value} {below : List Frame} {meth : Method} {c : Code} (er : Nat) (F X : Nat × (Nat → Nat)) (K : Nat × Nat × Nat) (D : mD) (P : mP) (gv : Nat → Int64) (O : Nat × (Nat → Nat)) (T : jMem) (o k a9 p9 : Nat) (less : Bool) (C : jX0 p l (jR 9 180 0 0) s m args meth c G cX11_value 10 RX11 (some .boolean)) (hn : X.1 ≤ 4000) (hX : ∀ k, X.2 k < 256) (hG : tkN X K) (hk : k < 6) (ho : o < 60) (hp : p9 < 360) (hP : pG D p9) : J p l e (jR 9 180 0 0) s m args below meth c G 10 0 0 (.inl (some (.int (bI (nb2 X a9 K less (fitF (mKind D p9) (bitsN D p9)) P gv k).1.isNone)), encM er F X (nb2 X a9 K less (fitF (mKind D p9) (bitsN D p9)) P gv k).2.1 (wrI (nb2 X a9 K less (fitF (mKind D p9) (bitsN D p9)) P gv k).1) D (nb2 X a9 K less (fitF (mKind D p9) (bitsN D p9)) P gv k).2.2.1 (nb2 X a9 K less (fitF (mKind D p9) (bitsN D p9)) P gv k).2.2.2 O T)) 387 [some (.ref 1000), some (.int (nI o)), some (.int (nI k)), some (.int (nI a9)), some (.int (nI p9)), some (.int (bI less)), none, none, none, none] [] (encM er F X K (-1) D P gv O T) 0 0 := by
  have hG' := hG.g
  have b0 : K.2.1 ≤ K.2.2 ∧ K.2.2 ≤ X.1 ∧ K.1 ≤ 5 := ⟨hG'.1.1, hG'.1.2.1, hG'.1.2.2.2.1⟩
  refine J_aload_n (pc := 387) C dX11_value_387 rfl rfl ?_
  refine J_get (pc := 388) C dX11_value_388 f_X11_120 rfl rfl ?_
  try dsimp only
  refine J_iconst (pc := 391) (v := nI 3) C dX11_value_391 (by decide) ?_
  refine J_icmp_eqN (pc := 392) (tgt := 426) C dX11_value_392 (by decide) (by omega) (by omega) (fun h392 => ?_) (fun h392 => ?_)
  · refine J_lconst (pc := 426) (v := lN 0) C dX11_value_426 (by decide) ?_
    refine J_lstore (pc := 427) C dX11_value_427 (by decide) rfl ?_
    dsimp only [List.set]
    refine J_aload_n (pc := 429) C dX11_value_429 rfl rfl ?_
    refine J_get (pc := 430) C dX11_value_430 f_X11_120 rfl rfl ?_
    try dsimp only
    refine J_iconst (pc := 433) (v := nI 3) C dX11_value_433 (by decide) ?_
    refine J_icmp_neN (pc := 434) (tgt := 446) C dX11_value_434 (by decide) (by omega) (by omega) (fun h434 => ?_) (fun h434 => ?_)
    · refine J_aload_n (pc := 446) C dX11_value_446 rfl rfl ?_
      refine J_get (pc := 447) C dX11_value_447 f_X11_113 rfl rfl ?_
      try dsimp only
      refine J_istore (pc := 450) C dX11_value_450 (by decide) rfl ?_
      dsimp only [List.set]
      first
        | (have h3 : K.1 = 3 := h392
           exact l_nbho l G er F X K D P gv O T o k a9 p9 less (K.2.1 + 2) 0 C hn hX hG h3 (Nat.le_refl _) (hG.hex hX h3).1 (by rw [numN, if_pos h3]) hk ho hp hP)
        | (have h3 : K.1 = 3 := h434
           exact absurd h3 h392)
        | exact absurd h392 h434
        | (exact l_nbdo l G er F X K D P gv O T o k a9 p9 less K.2.1 0 C hn hX hG ⟨h400, by omega⟩ (Nat.le_refl _) b0.1 (by rw [numN, if_neg h392]) hk ho hp hP)
    · refine J_aload_n (pc := 437) C dX11_value_437 rfl rfl ?_
      refine J_get (pc := 438) C dX11_value_438 f_X11_113 rfl rfl ?_
      try dsimp only
      refine J_iconst (pc := 441) (v := nI 2) C dX11_value_441 (by decide) ?_
      refine J_iaddN (pc := 442) C dX11_value_442 ?_
      refine J_goto (pc := 443) (tgt := 450) C dX11_value_443 (by decide) ?_
      refine J_istore (pc := 450) C dX11_value_450 (by decide) rfl ?_
      dsimp only [List.set]
      first
        | (have h3 : K.1 = 3 := h392
           exact l_nbho l G er F X K D P gv O T o k a9 p9 less (K.2.1 + 2) 0 C hn hX hG h3 (Nat.le_refl _) (hG.hex hX h3).1 (by rw [numN, if_pos h3]) hk ho hp hP)
        | (have h3 : K.1 = 3 := h434
           exact absurd h3 h392)
        | exact absurd h392 h434
        | (exact l_nbdo l G er F X K D P gv O T o k a9 p9 less K.2.1 0 C hn hX hG ⟨h400, by omega⟩ (Nat.le_refl _) b0.1 (by rw [numN, if_neg h392]) hk ho hp hP)
  · refine J_aload_n (pc := 395) C dX11_value_395 rfl rfl ?_
    refine J_get (pc := 396) C dX11_value_396 f_X11_120 rfl rfl ?_
    try dsimp only
    refine J_iconst (pc := 399) (v := nI 2) C dX11_value_399 (by decide) ?_
    refine J_icmp_neN (pc := 400) (tgt := 417) C dX11_value_400 (by decide) (by omega) (by omega) (fun h400 => ?_) (fun h400 => ?_)
    · refine J_aload_n (pc := 417) C dX11_value_417 rfl rfl ?_
      refine J_aload_n (pc := 418) C dX11_value_418 rfl rfl ?_
      refine J_get (pc := 419) C dX11_value_419 f_X11_113 rfl rfl ?_
      try dsimp only
      refine J_callV1 (pc := 422) C dX11_value_422 m_X11_142 (c_bad l G _ _ _ _ _ _ _ _ _ _ _) ⟨jle rfl, jle rfl⟩ rfl rfl rfl rfl rfl (jle rfl) ⟨Nat.zero_le _, Nat.zero_le _⟩ ?_
      try dsimp only
      exact J_zret (pc := 425) C dX11_value_425 rfl (by first | rfl | decide) (mV_f (by rw [nb2, if_neg (by omega)])) (Nat.zero_le _) (Nat.zero_le _)
    · refine J_aload_n (pc := 403) C dX11_value_403 rfl rfl ?_
      refine J_get (pc := 404) C dX11_value_404 f_X11_110 rfl rfl ?_
      try dsimp only
      refine J_aload_n (pc := 407) C dX11_value_407 rfl rfl ?_
      refine J_get (pc := 408) C dX11_value_408 f_X11_113 rfl rfl ?_
      try dsimp only
      refine J_isubN (pc := 411) C dX11_value_411 (by omega) ?_
      refine J_bipush (pc := 412) (v := nI 10) C dX11_value_412 (by decide) ?_
      refine J_icmp_leN (pc := 414) (tgt := 426) C dX11_value_414 (by decide) (by omega) (by omega) (fun h414 => ?_) (fun h414 => ?_)
      · refine J_lconst (pc := 426) (v := lN 0) C dX11_value_426 (by decide) ?_
        refine J_lstore (pc := 427) C dX11_value_427 (by decide) rfl ?_
        dsimp only [List.set]
        refine J_aload_n (pc := 429) C dX11_value_429 rfl rfl ?_
        refine J_get (pc := 430) C dX11_value_430 f_X11_120 rfl rfl ?_
        try dsimp only
        refine J_iconst (pc := 433) (v := nI 3) C dX11_value_433 (by decide) ?_
        refine J_icmp_neN (pc := 434) (tgt := 446) C dX11_value_434 (by decide) (by omega) (by omega) (fun h434 => ?_) (fun h434 => ?_)
        · refine J_aload_n (pc := 446) C dX11_value_446 rfl rfl ?_
          refine J_get (pc := 447) C dX11_value_447 f_X11_113 rfl rfl ?_
          try dsimp only
          refine J_istore (pc := 450) C dX11_value_450 (by decide) rfl ?_
          dsimp only [List.set]
          first
            | (have h3 : K.1 = 3 := h392
               exact l_nbho l G er F X K D P gv O T o k a9 p9 less (K.2.1 + 2) 0 C hn hX hG h3 (Nat.le_refl _) (hG.hex hX h3).1 (by rw [numN, if_pos h3]) hk ho hp hP)
            | (have h3 : K.1 = 3 := h434
               exact absurd h3 h392)
            | exact absurd h392 h434
            | (exact l_nbdo l G er F X K D P gv O T o k a9 p9 less K.2.1 0 C hn hX hG ⟨h400, by omega⟩ (Nat.le_refl _) b0.1 (by rw [numN, if_neg h392]) hk ho hp hP)
        · refine J_aload_n (pc := 437) C dX11_value_437 rfl rfl ?_
          refine J_get (pc := 438) C dX11_value_438 f_X11_113 rfl rfl ?_
          try dsimp only
          refine J_iconst (pc := 441) (v := nI 2) C dX11_value_441 (by decide) ?_
          refine J_iaddN (pc := 442) C dX11_value_442 ?_
          refine J_goto (pc := 443) (tgt := 450) C dX11_value_443 (by decide) ?_
          refine J_istore (pc := 450) C dX11_value_450 (by decide) rfl ?_
          dsimp only [List.set]
          first
            | (have h3 : K.1 = 3 := h392
               exact l_nbho l G er F X K D P gv O T o k a9 p9 less (K.2.1 + 2) 0 C hn hX hG h3 (Nat.le_refl _) (hG.hex hX h3).1 (by rw [numN, if_pos h3]) hk ho hp hP)
            | (have h3 : K.1 = 3 := h434
               exact absurd h3 h392)
            | exact absurd h392 h434
            | (exact l_nbdo l G er F X K D P gv O T o k a9 p9 less K.2.1 0 C hn hX hG ⟨h400, by omega⟩ (Nat.le_refl _) b0.1 (by rw [numN, if_neg h392]) hk ho hp hP)
      · refine J_aload_n (pc := 417) C dX11_value_417 rfl rfl ?_
        refine J_aload_n (pc := 418) C dX11_value_418 rfl rfl ?_
        refine J_get (pc := 419) C dX11_value_419 f_X11_113 rfl rfl ?_
        try dsimp only
        refine J_callV1 (pc := 422) C dX11_value_422 m_X11_142 (c_bad l G _ _ _ _ _ _ _ _ _ _ _) ⟨jle rfl, jle rfl⟩ rfl rfl rfl rfl rfl (jle rfl) ⟨Nat.zero_le _, Nat.zero_le _⟩ ?_
        try dsimp only
        exact J_zret (pc := 425) C dX11_value_425 rfl (by first | rfl | decide) (mV_f (by rw [nb2, if_neg (by omega)])) (Nat.zero_le _) (Nat.zero_le _)
set_option maxHeartbeats 4000000 in
set_option maxRecDepth 100000 in
theorem l_nco (l : Launch) (G : jG) {p : Program} {e : Env} {s : State} {m : MethodId} {args : Array Value} {below : List Frame} {meth : Method} {c : Code} (er : Nat) (F X : Nat × (Nat → Nat)) (K : Nat × Nat × Nat) (D : mD) (P : mP) (gv : Nat → Int64) (O : Nat × (Nat → Nat)) (T : jMem) (o k a9 p9 : Nat) (C : jX0 p l (jR 9 180 0 0) s m args meth c G cX11_value 10 RX11 (some .boolean)) (hn : X.1 ≤ 4000) (hX : ∀ k, X.2 k < 256) (hG : tkN X K) (ha : a9 = K.2.1) (hk : k < 6) (ho : o < 60) (hp : p9 < 360) (hP : pG D p9) : J p l e (jR 9 180 0 0) s m args below meth c G 10 0 0 (.inl (some (.int (bI (nb1 X K (fitF (mKind D p9) (bitsN D p9)) P gv k).1.isNone)), encM er F X (nb1 X K (fitF (mKind D p9) (bitsN D p9)) P gv k).2.1 (wrI (nb1 X K (fitF (mKind D p9) (bitsN D p9)) P gv k).1) D (nb1 X K (fitF (mKind D p9) (bitsN D p9)) P gv k).2.2.1 (nb1 X K (fitF (mKind D p9) (bitsN D p9)) P gv k).2.2.2 O T)) 370 [some (.ref 1000), some (.int (nI o)), some (.int (nI k)), some (.int (nI a9)), some (.int (nI p9)), none, none, none, none, none] [] (encM er F X K (-1) D P gv O T) 0 0 := by
  have k0 := hG.g.1
  have b0 : K.2.1 ≤ K.2.2 ∧ K.2.2 ≤ X.1 ∧ K.1 ≤ 5 := ⟨k0.1, k0.2.1, k0.2.2.2.1⟩
  subst ha
  refine J_aload_n (pc := 370) C dX11_value_370 rfl rfl ?_
  refine J_bipush (pc := 371) (v := nI 45) C dX11_value_371 (by decide) ?_
  refine J_callV1 (pc := 373) C dX11_value_373 m_X11_139 (c_isSign l G _ _ _ _ _ _ _ _ _ _ _ hn hX (by first | assumption | exact (nextF_g (by omega)).1) (by omega)) ⟨jle rfl, jle rfl⟩ rfl rfl rfl rfl rfl (jle rfl) ⟨Nat.zero_le _, Nat.zero_le _⟩ ?_
  try dsimp only
  refine J_istore (pc := 376) C dX11_value_376 (by decide) rfl ?_
  dsimp only [List.set]
  refine J_iload (pc := 378) C dX11_value_378 rfl ?_
  refine J_if_eq (pc := 380) (tgt := 387) C dX11_value_380 (by decide) (fun h380 => ?_) (fun h380 => ?_)
  · first
      | (have hs := bI_f h380
         rw [nb1, if_neg (by rw [hs]; decide), hs]
         exact l_nbo l G er F X K D P gv O T o k K.2.1 p9 false C hn hX hG hk ho hp hP)
      | (rw [nb1, if_pos (bI_t h380)]
         exact l_nbo l G er F X _ D P gv O T o k K.2.1 p9 true C hn hX hG.nx hk ho hp hP)
  · rw [bI_t h380]
    refine J_aload_n (pc := 383) C dX11_value_383 rfl rfl ?_
    refine J_callV0 (pc := 384) C dX11_value_384 m_X11_145 (c_next l G _ _ _ _ _ _ _ _ _ _ hn hX (by omega)) ⟨jle rfl, jle rfl⟩ rfl rfl rfl rfl rfl (jle rfl) ⟨Nat.zero_le _, Nat.zero_le _⟩ ?_
    try dsimp only
    first
      | (have hs := bI_f h380
         rw [nb1, if_neg (by rw [hs]; decide), hs]
         exact l_nbo l G er F X K D P gv O T o k K.2.1 p9 false C hn hX hG hk ho hp hP)
      | (rw [nb1, if_pos (bI_t h380)]
         exact l_nbo l G er F X _ D P gv O T o k K.2.1 p9 true C hn hX hG.nx hk ho hp hP)
set_option maxHeartbeats 4000000 in
set_option maxRecDepth 100000 in
theorem c_value_p (l : Launch) (G : jG) (er : Nat) (F X : Nat × (Nat → Nat)) (K : Nat × Nat × Nat) (D : mD) (P : mP) (gv : Nat → Int64) (O : Nat × (Nat → Nat)) (T : jMem) (hn : X.1 ≤ 4000) (hX : ∀ k, X.2 k < 256) (hG : tkN X K) (hw9 : D.1 ≤ 32) : jC l G yX11_value cX11_value 10 (some .boolean) 9 180 0 0 [.ref 1000, .int (-1), .int (nI 0)] (encM er F X K (-1) D P gv O T) (.inl (some (.int (bI (nb1 X K (okP D.1) P gv 0).1.isNone)), encM er F X (nb1 X K (okP D.1) P gv 0).2.1 (wrI (nb1 X K (okP D.1) P gv 0).1) D (nb1 X K (okP D.1) P gv 0).2.2.1 (nb1 X K (okP D.1) P gv 0).2.2.2 O T)) := by
  refine jC.of (by decide) 7 rfl [some (.ref 1000), some (.int (-1)), some (.int (nI 0)), none, none, none, none, none, none, none] rfl (fun p e s m args below meth c C hT9 hNm9 => ?_)
  have hk : 0 < 6 := by decide
  refine J_aload_n (pc := 0) C dX11_value_0 rfl rfl ?_
  refine J_get (pc := 1) C dX11_value_1 f_X11_113 rfl rfl ?_
  try dsimp only
  refine J_istore_n (pc := 4) C dX11_value_4 rfl (by decide) rfl ?_
  dsimp only [List.set]
  refine J_bipush (pc := 5) (v := nI 6) C dX11_value_5 (by decide) ?_
  refine J_iload_n (pc := 7) C dX11_value_7 rfl rfl ?_
  refine J_imul (pc := 8) C dX11_value_8 ?_
  refine J_iload_n (pc := 9) C dX11_value_9 rfl rfl ?_
  refine J_iadd (pc := 10) C dX11_value_10 ?_
  refine J_istore (pc := 11) C dX11_value_11 (by decide) rfl ?_
  dsimp only [List.set]
  refine J_iload_n (pc := 13) C dX11_value_13 rfl rfl ?_
  refine J_if_lt (pc := 14) (tgt := 282) C dX11_value_14 (by decide) (fun h14 => ?_) (fun h14 => ?_)
  · refine J_iload_n (pc := 282) C dX11_value_282 rfl rfl ?_
    refine J_if_lt (pc := 283) (tgt := 370) C dX11_value_283 (by decide) (fun h283 => ?_) (fun h283 => ?_)
    · exact l_ncp l G er F X K D P gv O T 0 K.2.1 _ C hn hX hG rfl hk hw9
    · exact absurd (by decide) h283
  · exact absurd (by decide) h14
set_option maxHeartbeats 4000000 in
set_option maxRecDepth 100000 in
theorem c_value (l : Launch) (G : jG) (er : Nat) (F X : Nat × (Nat → Nat)) (K : Nat × Nat × Nat) (D : mD) (P : mP) (gv : Nat → Int64) (O : Nat × (Nat → Nat)) (T : jMem) (o k : Nat) (hn : X.1 ≤ 4000) (hX : ∀ k, X.2 k < 256) (hG : tkN X K) (hD : dOK D) (ho : o < 60) (hk : k < 6) (hP : pG2 D (6 * o + k)) (hu : P.2.2.1 < 6000) : jC l G yX11_value cX11_value 10 (some .boolean) 9 180 0 0 [.ref 1000, .int (nI o), .int (nI k)] (encM er F X K (-1) D P gv O T) (.inl (some (.int (bI (valF X D o k K P gv).1.isNone)), encM er F X (valF X D o k K P gv).2.1 (wrI (valF X D o k K P gv).1) D (valF X D o k K P gv).2.2.1 (valF X D o k K P gv).2.2.2 O T)) := by
  refine jC.of (by decide) 7 rfl [some (.ref 1000), some (.int (nI o)), some (.int (nI k)), none, none, none, none, none, none, none] rfl (fun p e s m args below meth c C hT9 hNm9 => ?_)
  have k0 := hG.g.1
  have b0 : K.2.1 ≤ K.2.2 ∧ K.2.2 ≤ X.1 ∧ K.1 ≤ 5 := ⟨k0.1, k0.2.1, k0.2.2.2.1⟩
  have hP1 := hP.1
  have hP2 := hP.2
  obtain ⟨hk3, b, hb1, hb2, hb3⟩ := hP.1
  have hb4 : bitsN D (6 * o + k) = b := by unfold bitsN; rw [hb3, nI_clamp (by omega)]
  have hk9 : D.2.2.2.2.2.2.2.2.2.1 (6 * o + k) ≤ 3 := hk3
  have hb5 : D.2.2.2.2.2.2.2.2.2.2.1 (6 * o + k) = nI b := hb3
  refine J_aload_n (pc := 0) C dX11_value_0 rfl rfl ?_
  refine J_get (pc := 1) C dX11_value_1 f_X11_113 rfl rfl ?_
  try dsimp only
  refine J_istore_n (pc := 4) C dX11_value_4 rfl (by decide) rfl ?_
  dsimp only [List.set]
  refine J_bipush (pc := 5) (v := nI 6) C dX11_value_5 (by decide) ?_
  refine J_iload_n (pc := 7) C dX11_value_7 rfl rfl ?_
  refine J_imulN (pc := 8) C dX11_value_8 ?_
  refine J_iload_n (pc := 9) C dX11_value_9 rfl rfl ?_
  refine J_iaddN (pc := 10) C dX11_value_10 ?_
  refine J_istore (pc := 11) C dX11_value_11 (by decide) rfl ?_
  dsimp only [List.set]
  refine J_iload_n (pc := 13) C dX11_value_13 rfl rfl ?_
  refine J_if_ltN (pc := 14) (tgt := 282) C dX11_value_14 (by decide) (by omega) ?_
  refine J_aload_n (pc := 17) C dX11_value_17 rfl rfl ?_
  refine J_get (pc := 18) C dX11_value_18 f_X11_44 rfl rfl ?_
  refine J_iload (pc := 21) C dX11_value_21 rfl ?_
  refine J_ialdN (pc := 23) C dX11_value_23 rfl (by omega) (by decide) ?_
  try dsimp only
  refine J_iconst (pc := 24) (v := nI 3) C dX11_value_24 (by decide) ?_
  refine J_icmp_neN (pc := 25) (tgt := 282) C dX11_value_25 (by decide) (by omega) (by omega) (fun h25 => ?_) (fun h25 => ?_)
  · refine J_iload_n (pc := 282) C dX11_value_282 rfl rfl ?_
    refine J_if_ltN (pc := 283) (tgt := 370) C dX11_value_283 (by decide) (by omega) ?_
    refine J_aload_n (pc := 286) C dX11_value_286 rfl rfl ?_
    refine J_get (pc := 287) C dX11_value_287 f_X11_44 rfl rfl ?_
    refine J_iload (pc := 290) C dX11_value_290 rfl ?_
    refine J_ialdN (pc := 292) C dX11_value_292 rfl (by omega) (by decide) ?_
    try dsimp only
    refine J_iconst (pc := 293) (v := nI 2) C dX11_value_293 (by decide) ?_
    refine J_icmp_neN (pc := 294) (tgt := 370) C dX11_value_294 (by decide) (by omega) (by omega) (fun h294 => ?_) (fun h294 => ?_)
    · rw [show valF X D o k K P gv = nb1 X K (fitF (mKind D (6 * o + k)) (bitsN D (6 * o + k))) P gv k by rw [valF, if_neg h25, if_neg (by intro z; first | exact h294 z.1 | exact absurd (bI_f h301) (by rw [z.2]; decide))]]
      exact l_nco l G er F X K D P gv O T o k K.2.1 (6 * o + k) C hn hX hG rfl hk ho (by omega) hP1
    · refine J_aload_n (pc := 297) C dX11_value_297 rfl rfl ?_
      refine J_callV1 (pc := 298) C dX11_value_298 m_X11_208 (c_isName l G _ _ _ _ _ _ _ _ _ _ hn hX (by first | assumption | exact (nextF_g (by omega)).1)) ⟨jle rfl, jle rfl⟩ rfl rfl rfl rfl rfl (jle rfl) ⟨Nat.zero_le _, Nat.zero_le _⟩ ?_
      try dsimp only
      refine J_if_eq (pc := 301) (tgt := 370) C dX11_value_301 (by decide) (fun h301 => ?_) (fun h301 => ?_)
      · rw [show valF X D o k K P gv = nb1 X K (fitF (mKind D (6 * o + k)) (bitsN D (6 * o + k))) P gv k by rw [valF, if_neg h25, if_neg (by intro z; first | exact h294 z.1 | exact absurd (bI_f h301) (by rw [z.2]; decide))]]
        exact l_nco l G er F X K D P gv O T o k K.2.1 (6 * o + k) C hn hX hG rfl hk ho (by omega) hP1
      · refine J_aload_n (pc := 304) C dX11_value_304 rfl rfl ?_
        refine J_get (pc := 305) C dX11_value_305 f_X11_59 rfl rfl ?_
        refine J_aload_n (pc := 308) C dX11_value_308 rfl rfl ?_
        refine J_get (pc := 309) C dX11_value_309 f_X11_232 rfl rfl ?_
        try dsimp only
        refine J_aload_n (pc := 312) C dX11_value_312 rfl rfl ?_
        refine J_get (pc := 313) C dX11_value_313 f_X11_113 rfl rfl ?_
        try dsimp only
        refine J_iastN (pc := 316) C dX11_value_316 rfl (by omega) (by decide) (uM_useAt _) ?_
        refine J_aload_n (pc := 317) C dX11_value_317 rfl rfl ?_
        refine J_get (pc := 318) C dX11_value_318 f_X11_62 rfl rfl ?_
        refine J_aload_n (pc := 321) C dX11_value_321 rfl rfl ?_
        refine J_get (pc := 322) C dX11_value_322 f_X11_232 rfl rfl ?_
        try dsimp only
        refine J_aload_n (pc := 325) C dX11_value_325 rfl rfl ?_
        refine J_get (pc := 326) C dX11_value_326 f_X11_181 rfl rfl ?_
        try dsimp only
        refine J_iastN (pc := 329) C dX11_value_329 rfl (by omega) (by decide) (uM_useWord _) ?_
        refine J_aload_n (pc := 330) C dX11_value_330 rfl rfl ?_
        refine J_get (pc := 331) C dX11_value_331 f_X11_65 rfl rfl ?_
        refine J_aload_n (pc := 334) C dX11_value_334 rfl rfl ?_
        refine J_get (pc := 335) C dX11_value_335 f_X11_232 rfl rfl ?_
        try dsimp only
        refine J_iload_n (pc := 338) C dX11_value_338 rfl rfl ?_
        refine J_iastN (pc := 339) C dX11_value_339 rfl (by omega) (by decide) (uM_useOperand _) ?_
        refine J_aload_n (pc := 340) C dX11_value_340 rfl rfl ?_
        refine J_get (pc := 341) C dX11_value_341 f_X11_68 rfl rfl ?_
        refine J_aload_n (pc := 344) C dX11_value_344 rfl rfl ?_
        refine J_dup (pc := 345) C dX11_value_345 rfl ?_
        refine J_get (pc := 346) C dX11_value_346 f_X11_232 rfl rfl ?_
        try dsimp only
        refine J_dup_x1 (pc := 349) C dX11_value_349 rfl rfl ?_
        refine J_iconst (pc := 350) (v := nI 1) C dX11_value_350 (by decide) ?_
        refine J_iaddN (pc := 351) C dX11_value_351 ?_
        refine J_putU (pc := 352) C dX11_value_352 p_X11_232 rfl (jlt rfl) rfl rfl (uM_uses _) ?_
        try dsimp only
        refine J_iload_n (pc := 355) C dX11_value_355 rfl rfl ?_
        refine J_iastN (pc := 356) C dX11_value_356 rfl (by omega) (by decide) (uM_useOp _) ?_
        refine J_aload_n (pc := 357) C dX11_value_357 rfl rfl ?_
        refine J_get (pc := 358) C dX11_value_358 f_X11_71 rfl rfl ?_
        refine J_iload_n (pc := 361) C dX11_value_361 rfl rfl ?_
        refine J_lconst (pc := 362) (v := 0) C dX11_value_362 (by decide) ?_
        refine J_lastN (pc := 363) C dX11_value_363 rfl (by omega) (by decide) (uM_given _) ?_
        refine J_aload_n (pc := 364) C dX11_value_364 rfl rfl ?_
        refine J_callV0 (pc := 365) C dX11_value_365 m_X11_145 (c_next l G _ _ _ _ _ _ _ _ _ _ hn hX (by omega)) ⟨jle rfl, jle rfl⟩ rfl rfl rfl rfl rfl (jle rfl) ⟨Nat.zero_le _, Nat.zero_le _⟩ ?_
        try dsimp only
        refine J_iconst (pc := 368) (v := nI 1) C dX11_value_368 (by decide) ?_
        exact J_zret (pc := 369) C dX11_value_369 rfl (by first | rfl | decide) (mV_t (by rw [valF, if_neg h25, if_pos ⟨h294, bI_t h301⟩]; rfl)) (Nat.zero_le _) (Nat.zero_le _)
  · obtain ⟨s9, hs1, hs2⟩ := hP2 h25
    refine J_aload_n (pc := 28) C dX11_value_28 rfl rfl ?_
    refine J_get (pc := 29) C dX11_value_29 f_X11_50 rfl rfl ?_
    refine J_iload (pc := 32) C dX11_value_32 rfl ?_
    refine J_ialdR (pc := 34) C dX11_value_34 rfl (by omega) (by decide) ?_
    try dsimp only
    rw [show D.2.2.2.2.2.2.2.2.2.2.2.1 (6 * o + k) = nI s9 from hs2]
    refine J_istore (pc := 35) C dX11_value_35 (by decide) rfl ?_
    dsimp only [List.set]
    refine J_iconst (pc := 37) (v := nI 0) C dX11_value_37 (by decide) ?_
    refine J_istore (pc := 38) C dX11_value_38 (by decide) rfl ?_
    dsimp only [List.set]
    have hsn : setN D (6 * o + k) = s9 := by unfold setN; rw [show mSetOf D (6 * o + k) = nI s9 from hs2, nI_clamp (by omega)]
    have r1 : valF X D o k K P gv = val1 X K P gv k (regV X K (mSetN D) s9 b) := by rw [valF, if_pos h25, hsn, hb4]
    obtain ⟨n, en⟩ : ∃ z, z = nlF D.2.2.2.2.1 s9 0 := ⟨_, rfl⟩
    have hn12 := nlF_le (nm := D.2.2.2.2.1) (s := s9) (Nat.zero_le 12)
    rw [← en] at hn12
    have en2 : nlF (mSetN D) s9 0 = n := en.symm
    refine l_nl l G er F X K D P gv O T o k K.2.1 (6 * o + k) s9 0 C hs1 hD (Nat.zero_le _) ?_
    rw [← en]
    refine J_aload_n (pc := 69) C dX11_value_69 rfl rfl ?_
    refine J_get (pc := 70) C dX11_value_70 f_X11_120 rfl rfl ?_
    try dsimp only
    refine J_iconst (pc := 73) (v := nI 1) C dX11_value_73 (by decide) ?_
    refine J_icmp_neN (pc := 74) (tgt := 91) C dX11_value_74 (by decide) (by omega) (by omega) (fun h74 => ?_) (fun h74 => ?_)
    · refine J_aload_n (pc := 91) C dX11_value_91 rfl rfl ?_
      refine J_iload_n (pc := 92) C dX11_value_92 rfl rfl ?_
      refine J_callV1 (pc := 93) C dX11_value_93 m_X11_142 (c_bad l G _ _ _ _ _ _ _ _ _ _ _) ⟨jle rfl, jle rfl⟩ rfl rfl rfl rfl rfl (jle rfl) ⟨Nat.zero_le _, Nat.zero_le _⟩ ?_
      try dsimp only
      exact J_zret (pc := 96) C dX11_value_96 rfl (by first | rfl | decide) (mV_f (by rw [r1, reg_0 en2 (by intro z; first | exact h74 z.1 | omega), val1])) (Nat.zero_le _) (Nat.zero_le _)
    · refine J_aload_n (pc := 77) C dX11_value_77 rfl rfl ?_
      refine J_get (pc := 78) C dX11_value_78 f_X11_110 rfl rfl ?_
      try dsimp only
      refine J_aload_n (pc := 81) C dX11_value_81 rfl rfl ?_
      refine J_get (pc := 82) C dX11_value_82 f_X11_113 rfl rfl ?_
      try dsimp only
      refine J_isubN (pc := 85) C dX11_value_85 (by omega) ?_
      refine J_iload (pc := 86) C dX11_value_86 rfl ?_
      refine J_icmp_gtN (pc := 88) (tgt := 97) C dX11_value_88 (by decide) (by omega) (by omega) (fun h88 => ?_) (fun h88 => ?_)
      · refine J_iconst (pc := 97) (v := nI 0) C dX11_value_97 (by decide) ?_
        refine J_istore (pc := 98) C dX11_value_98 (by decide) rfl ?_
        dsimp only [List.set]
        refine l_pre l G er F X K D P gv O T o k K.2.1 (6 * o + k) s9 n 0 C hn hX hs1 hD hn12.2 k0 (by omega) (Nat.zero_le _) (fun z => ?_) (fun hpr => ?_)
        · exact mV_f (by rw [r1, reg_1 en2 z, val1])
        · refine J_lconst (pc := 147) (v := lN 0) C dX11_value_147 (by decide) ?_
          refine J_lstore (pc := 148) C dX11_value_148 (by decide) rfl ?_
          dsimp only [List.set]
          refine J_aload_n (pc := 150) C dX11_value_150 rfl rfl ?_
          refine J_get (pc := 151) C dX11_value_151 f_X11_113 rfl rfl ?_
          try dsimp only
          refine J_iload (pc := 154) C dX11_value_154 rfl ?_
          refine J_iaddN (pc := 156) C dX11_value_156 ?_
          refine J_istore (pc := 157) C dX11_value_157 (by decide) rfl ?_
          dsimp only [List.set]
          refine l_rd l G er F X K D P gv O T o k K.2.1 (6 * o + k) s9 n (K.2.1 + n) 0 C hn hX k0 (by omega) (by omega) (fun z => ?_) (fun hdg => ?_)
          · exact mV_f (by rw [r1, reg_2 en2 z, val1])
          · have hv62 : decF X K.2.2 (K.2.1 + n) 0 < 2 ^ 62 := by
              have h9 := decF_lt 12 (K.2.1 + n) 0 1 (dgF_all hdg) (by have := k0.2.2.2.2.2 h74; omega) (by omega)
              have h8 : (1 * 10 ^ 12 : Nat) < 2 ^ 62 := by decide
              omega
            have hx5 := hX (K.2.1 + n)
            refine J_aload_n (pc := 214) C dX11_value_214 rfl rfl ?_
            refine J_get (pc := 215) C dX11_value_215 f_X11_110 rfl rfl ?_
            try dsimp only
            refine J_aload_n (pc := 218) C dX11_value_218 rfl rfl ?_
            refine J_get (pc := 219) C dX11_value_219 f_X11_113 rfl rfl ?_
            try dsimp only
            refine J_isubN (pc := 222) C dX11_value_222 (by omega) ?_
            refine J_iload (pc := 223) C dX11_value_223 rfl ?_
            refine J_iconst (pc := 225) (v := nI 1) C dX11_value_225 (by decide) ?_
            refine J_iaddN (pc := 226) C dX11_value_226 ?_
            refine J_icmp_leN (pc := 227) (tgt := 247) C dX11_value_227 (by decide) (by omega) (by omega) (fun h227 => ?_) (fun h227 => ?_)
            · refine J_lload (pc := 247) C dX11_value_247 rfl ?_
              refine J_lconst (pc := 249) (v := 1) C dX11_value_249 (by decide) ?_
              refine J_aload_n (pc := 250) C dX11_value_250 rfl rfl ?_
              refine J_get (pc := 251) C dX11_value_251 f_X11_47 rfl rfl ?_
              refine J_iload (pc := 254) C dX11_value_254 rfl ?_
              refine J_ialdR (pc := 256) C dX11_value_256 rfl (by omega) (by decide) ?_
              try dsimp only
              rw [hb5]
              refine J_lshl (pc := 257) C dX11_value_257 rfl ?_
              rw [shl1 (by omega)]
              refine J_lcmp (pc := 258) C dX11_value_258 ?_
              refine J_if_lt (pc := 259) (tgt := 268) C dX11_value_259 (by decide) (fun h259 => ?_) (fun h259 => ?_)
              · refine J_aload_n (pc := 268) C dX11_value_268 rfl rfl ?_
                refine J_get (pc := 269) C dX11_value_269 f_X11_71 rfl rfl ?_
                refine J_iload_n (pc := 272) C dX11_value_272 rfl rfl ?_
                refine J_lload (pc := 273) C dX11_value_273 rfl ?_
                refine J_lastN (pc := 275) C dX11_value_275 rfl (by omega) (by decide) (uM_given _) ?_
                refine J_aload_n (pc := 276) C dX11_value_276 rfl rfl ?_
                refine J_callV0 (pc := 277) C dX11_value_277 m_X11_145 (c_next l G _ _ _ _ _ _ _ _ _ _ hn hX (by omega)) ⟨jle rfl, jle rfl⟩ rfl rfl rfl rfl rfl (jle rfl) ⟨Nat.zero_le _, Nat.zero_le _⟩ ?_
                try dsimp only
                refine J_iconst (pc := 280) (v := nI 1) C dX11_value_280 (by decide) ?_
                exact J_zret (pc := 281) C dX11_value_281 rfl (by first | rfl | decide) (mV_t (by rw [r1, reg_4 en2 ⟨h74, by omega⟩ hpr hdg (by first | (intro z; omega) | (intro z; exact h244 z.2)) ((lcmp_pw hv62 hb2).mp h259), val1])) (Nat.zero_le _) (Nat.zero_le _)
              · refine J_aload_n (pc := 262) C dX11_value_262 rfl rfl ?_
                refine J_iload_n (pc := 263) C dX11_value_263 rfl rfl ?_
                refine J_callV1 (pc := 264) C dX11_value_264 m_X11_142 (c_bad l G _ _ _ _ _ _ _ _ _ _ _) ⟨jle rfl, jle rfl⟩ rfl rfl rfl rfl rfl (jle rfl) ⟨Nat.zero_le _, Nat.zero_le _⟩ ?_
                try dsimp only
                exact J_zret (pc := 267) C dX11_value_267 rfl (by first | rfl | decide) (mV_f (by rw [r1, reg_3 en2 (by first | (intro z; exact z.1 ⟨by omega, h244⟩) | (intro z; exact h259 ((lcmp_pw hv62 hb2).mpr z.2))), val1])) (Nat.zero_le _) (Nat.zero_le _)
            · refine J_aload_n (pc := 230) C dX11_value_230 rfl rfl ?_
              refine J_get (pc := 231) C dX11_value_231 f_X11_17 rfl rfl ?_
              refine J_aload_n (pc := 234) C dX11_value_234 rfl rfl ?_
              refine J_get (pc := 235) C dX11_value_235 f_X11_113 rfl rfl ?_
              try dsimp only
              refine J_iload (pc := 238) C dX11_value_238 rfl ?_
              refine J_iaddN (pc := 240) C dX11_value_240 ?_
              refine J_ialdN (pc := 241) C dX11_value_241 rfl (by omega) (by decide) ?_
              try dsimp only
              refine J_bipush (pc := 242) (v := nI 48) C dX11_value_242 (by decide) ?_
              refine J_icmp_eqN (pc := 244) (tgt := 262) C dX11_value_244 (by decide) (by omega) (by omega) (fun h244 => ?_) (fun h244 => ?_)
              · refine J_aload_n (pc := 262) C dX11_value_262 rfl rfl ?_
                refine J_iload_n (pc := 263) C dX11_value_263 rfl rfl ?_
                refine J_callV1 (pc := 264) C dX11_value_264 m_X11_142 (c_bad l G _ _ _ _ _ _ _ _ _ _ _) ⟨jle rfl, jle rfl⟩ rfl rfl rfl rfl rfl (jle rfl) ⟨Nat.zero_le _, Nat.zero_le _⟩ ?_
                try dsimp only
                exact J_zret (pc := 267) C dX11_value_267 rfl (by first | rfl | decide) (mV_f (by rw [r1, reg_3 en2 (by first | (intro z; exact z.1 ⟨by omega, h244⟩) | (intro z; exact h259 ((lcmp_pw hv62 hb2).mpr z.2))), val1])) (Nat.zero_le _) (Nat.zero_le _)
              · refine J_lload (pc := 247) C dX11_value_247 rfl ?_
                refine J_lconst (pc := 249) (v := 1) C dX11_value_249 (by decide) ?_
                refine J_aload_n (pc := 250) C dX11_value_250 rfl rfl ?_
                refine J_get (pc := 251) C dX11_value_251 f_X11_47 rfl rfl ?_
                refine J_iload (pc := 254) C dX11_value_254 rfl ?_
                refine J_ialdR (pc := 256) C dX11_value_256 rfl (by omega) (by decide) ?_
                try dsimp only
                rw [hb5]
                refine J_lshl (pc := 257) C dX11_value_257 rfl ?_
                rw [shl1 (by omega)]
                refine J_lcmp (pc := 258) C dX11_value_258 ?_
                refine J_if_lt (pc := 259) (tgt := 268) C dX11_value_259 (by decide) (fun h259 => ?_) (fun h259 => ?_)
                · refine J_aload_n (pc := 268) C dX11_value_268 rfl rfl ?_
                  refine J_get (pc := 269) C dX11_value_269 f_X11_71 rfl rfl ?_
                  refine J_iload_n (pc := 272) C dX11_value_272 rfl rfl ?_
                  refine J_lload (pc := 273) C dX11_value_273 rfl ?_
                  refine J_lastN (pc := 275) C dX11_value_275 rfl (by omega) (by decide) (uM_given _) ?_
                  refine J_aload_n (pc := 276) C dX11_value_276 rfl rfl ?_
                  refine J_callV0 (pc := 277) C dX11_value_277 m_X11_145 (c_next l G _ _ _ _ _ _ _ _ _ _ hn hX (by omega)) ⟨jle rfl, jle rfl⟩ rfl rfl rfl rfl rfl (jle rfl) ⟨Nat.zero_le _, Nat.zero_le _⟩ ?_
                  try dsimp only
                  refine J_iconst (pc := 280) (v := nI 1) C dX11_value_280 (by decide) ?_
                  exact J_zret (pc := 281) C dX11_value_281 rfl (by first | rfl | decide) (mV_t (by rw [r1, reg_4 en2 ⟨h74, by omega⟩ hpr hdg (by first | (intro z; omega) | (intro z; exact h244 z.2)) ((lcmp_pw hv62 hb2).mp h259), val1])) (Nat.zero_le _) (Nat.zero_le _)
                · refine J_aload_n (pc := 262) C dX11_value_262 rfl rfl ?_
                  refine J_iload_n (pc := 263) C dX11_value_263 rfl rfl ?_
                  refine J_callV1 (pc := 264) C dX11_value_264 m_X11_142 (c_bad l G _ _ _ _ _ _ _ _ _ _ _) ⟨jle rfl, jle rfl⟩ rfl rfl rfl rfl rfl (jle rfl) ⟨Nat.zero_le _, Nat.zero_le _⟩ ?_
                  try dsimp only
                  exact J_zret (pc := 267) C dX11_value_267 rfl (by first | rfl | decide) (mV_f (by rw [r1, reg_3 en2 (by first | (intro z; exact z.1 ⟨by omega, h244⟩) | (intro z; exact h259 ((lcmp_pw hv62 hb2).mpr z.2))), val1])) (Nat.zero_le _) (Nat.zero_le _)
      · refine J_aload_n (pc := 91) C dX11_value_91 rfl rfl ?_
        refine J_iload_n (pc := 92) C dX11_value_92 rfl rfl ?_
        refine J_callV1 (pc := 93) C dX11_value_93 m_X11_142 (c_bad l G _ _ _ _ _ _ _ _ _ _ _) ⟨jle rfl, jle rfl⟩ rfl rfl rfl rfl rfl (jle rfl) ⟨Nat.zero_le _, Nat.zero_le _⟩ ?_
        try dsimp only
        exact J_zret (pc := 96) C dX11_value_96 rfl (by first | rfl | decide) (mV_f (by rw [r1, reg_0 en2 (by intro z; first | exact h74 z.1 | omega), val1])) (Nat.zero_le _) (Nat.zero_le _)
