set_option maxHeartbeats 4000000 in
set_option maxRecDepth 100000 in
theorem l_pgEp (l : Launch) (G : jG) {p : Program} {e : Env} {s : State} {m : MethodId} {args : Array Value} {below : List Frame} {meth : Method} {c : Code} (er : Nat) (F X : Nat × (Nat → Nat)) (D : mD) (O : Nat × (Nat → Nat)) (T : jMem) (f : Nat) (v4 : Option Value) (K : Nat × Nat × Nat) (P : mP) (gv : Nat → Int64) (v2 v3 v5 v6 : Option Value) (C : jX0 p l (jR 10 209 0 0) s m args meth c G cX11_program 7 RX11 (some .boolean)) (hn : X.1 ≤ 4000) (hX : ∀ k, X.2 k < 256) (ih : ∀ (K : Nat × Nat × Nat) (P : mP) (gv : Nat → Int64) (v1 v2 v3 v4 v5 v6 : Option Value), tkN X K → pI X D K.2.1 P → X.1 - K.2.1 < f → J p l e (jR 10 209 0 0) s m args below meth c G 7 0 0 (.inl (some (.int (bI (pgL X D f K P gv).1.isNone)), encM er F X (pgL X D f K P gv).2.1 (wrI (pgL X D f K P gv).1) D (pgL X D f K P gv).2.2.1 (pgL X D f K P gv).2.2.2 O T)) 0 [some (.ref 1000), v1, v2, v3, v4, v5, v6] [] (encM er F X K (-1) D P gv O T) 0 0) (hG : tkN X K) (hP : pI X D K.2.1 P) (h1000 : P.1 < 1000) (hf : X.1 - K.2.1 < f + 1) : J p l e (jR 10 209 0 0) s m args below meth c G 7 0 0 (.inl (some (.int (bI (pgE X (pgL X D f) (fun gv => (gv 0).toInt32) K P gv).1.isNone)), encM er F X (pgE X (pgL X D f) (fun gv => (gv 0).toInt32) K P gv).2.1 (wrI (pgE X (pgL X D f) (fun gv => (gv 0).toInt32) K P gv).1) D (pgE X (pgL X D f) (fun gv => (gv 0).toInt32) K P gv).2.2.1 (pgE X (pgL X D f) (fun gv => (gv 0).toInt32) K P gv).2.2.2 O T)) 288 [some (.ref 1000), some (.int (nI 1)), v2, v3, v4, v5, v6] [] (encM er F X K (-1) D P gv O T) 0 0 := by
  have k0 := hG.g.1
  have b0 : K.2.1 ≤ K.2.2 ∧ K.2.2 ≤ X.1 ∧ K.1 ≤ 5 := ⟨k0.1, k0.2.1, k0.2.2.2.1⟩
  refine J_aload_n (pc := 288) C dX11_program_288 rfl rfl ?_
  refine J_bipush (pc := 289) (v := nI 59) C dX11_program_289 (by decide) ?_
  refine J_callV1 (pc := 291) C dX11_program_291 m_X11_139 (c_isSign l G _ _ _ _ _ _ _ _ _ _ _ hn hX (by first | assumption | exact (nextF_g (by omega)).1) (by omega)) ⟨jle rfl, jle rfl⟩ rfl rfl rfl rfl rfl (jle rfl) ⟨Nat.zero_le _, Nat.zero_le _⟩ ?_
  try dsimp only
  refine J_if_ne (pc := 294) (tgt := 306) C dX11_program_294 (by decide) (fun h294 => ?_) (fun h294 => ?_)
  · have hs := bI_t h294
    have hs0 : K.1 ≠ 0 := by have := hs; simp [isSignF] at this; omega
    have hlt := hG.g.lt hs0
    have hle := hG.nx.g.lx
    refine J_aload_n (pc := 306) C dX11_program_306 rfl rfl ?_
    refine J_get (pc := 307) C dX11_program_307 f_X11_56 rfl rfl ?_
    refine J_aload_n (pc := 310) C dX11_program_310 rfl rfl ?_
    refine J_dup (pc := 311) C dX11_program_311 rfl ?_
    refine J_get (pc := 312) C dX11_program_312 f_X11_181 rfl rfl ?_
    try dsimp only
    refine J_dup_x1 (pc := 315) C dX11_program_315 rfl rfl ?_
    refine J_iconst (pc := 316) (v := nI 1) C dX11_program_316 (by decide) ?_
    refine J_iaddN (pc := 317) C dX11_program_317 ?_
    refine J_putU (pc := 318) C dX11_program_318 p_X11_181 rfl (jlt rfl) rfl rfl (uM_words _) ?_
    try dsimp only
    refine J_iload_n (pc := 321) C dX11_program_321 rfl rfl ?_
    refine J_if_eqN (pc := 322) (tgt := 335) C dX11_program_322 (by decide) (by omega) (fun h322 => absurd h322 (by decide)) (fun _ => ?_)
    refine J_aload_n (pc := 325) C dX11_program_325 rfl rfl ?_
    refine J_get (pc := 326) C dX11_program_326 f_X11_71 rfl rfl ?_
    refine J_iconst (pc := 329) (v := nI 0) C dX11_program_329 (by decide) ?_
    refine J_laldN (pc := 330) C dX11_program_330 rfl (by omega) (by decide) ?_
    refine J_l2i (pc := 331) C dX11_program_331 rfl ?_
    refine J_goto (pc := 332) (tgt := 341) C dX11_program_332 (by decide) ?_
    refine J_iastR (pc := 341) C dX11_program_341 rfl (by omega) (by decide) (uM_word _) ?_
    refine J_aload_n (pc := 342) C dX11_program_342 rfl rfl ?_
    refine J_callV0 (pc := 343) C dX11_program_343 m_X11_145 (c_next l G _ _ _ _ _ _ _ _ _ _ hn hX (by omega)) ⟨jle rfl, jle rfl⟩ rfl rfl rfl rfl rfl (jle rfl) ⟨Nat.zero_le _, Nat.zero_le _⟩ ?_
    try dsimp only
    refine J_goto (pc := 346) (tgt := 0) C dX11_program_346 (by decide) ?_
    rw [pgE, if_pos hs]
    exact ih _ (pgW P _) gv _ _ _ _ _ _ hG.nx ((pI_W hP h1000).up hG.g.fr) (by omega)
  · refine J_aload_n (pc := 297) C dX11_program_297 rfl rfl ?_
    refine J_aload_n (pc := 298) C dX11_program_298 rfl rfl ?_
    refine J_get (pc := 299) C dX11_program_299 f_X11_113 rfl rfl ?_
    try dsimp only
    refine J_callV1 (pc := 302) C dX11_program_302 m_X11_142 (c_bad l G _ _ _ _ _ _ _ _ _ _ _) ⟨jle rfl, jle rfl⟩ rfl rfl rfl rfl rfl (jle rfl) ⟨Nat.zero_le _, Nat.zero_le _⟩ ?_
    try dsimp only
    exact J_zret (pc := 305) C dX11_program_305 rfl (by first | rfl | decide) (mV_f (by rw [pgE, if_neg (by rw [bI_f h294]; decide)])) (Nat.zero_le _) (Nat.zero_le _)
set_option maxHeartbeats 4000000 in
set_option maxRecDepth 100000 in
theorem l_pgEo (l : Launch) (G : jG) {p : Program} {e : Env} {s : State} {m : MethodId} {args : Array Value} {below : List Frame} {meth : Method} {c : Code} (er : Nat) (F X : Nat × (Nat → Nat)) (D : mD) (O : Nat × (Nat → Nat)) (T : jMem) (f : Nat) (o : Nat) (K : Nat × Nat × Nat) (P : mP) (gv : Nat → Int64) (v2 v3 v5 v6 : Option Value) (C : jX0 p l (jR 10 209 0 0) s m args meth c G cX11_program 7 RX11 (some .boolean)) (hn : X.1 ≤ 4000) (hX : ∀ k, X.2 k < 256) (ho : o < 60) (hw : wOK D.2.2.2.2.2.2.2.2.2.2.2.2 D.1 o) (hw9 : D.1 ≤ 32) (ih : ∀ (K : Nat × Nat × Nat) (P : mP) (gv : Nat → Int64) (v1 v2 v3 v4 v5 v6 : Option Value), tkN X K → pI X D K.2.1 P → X.1 - K.2.1 < f → J p l e (jR 10 209 0 0) s m args below meth c G 7 0 0 (.inl (some (.int (bI (pgL X D f K P gv).1.isNone)), encM er F X (pgL X D f K P gv).2.1 (wrI (pgL X D f K P gv).1) D (pgL X D f K P gv).2.2.1 (pgL X D f K P gv).2.2.2 O T)) 0 [some (.ref 1000), v1, v2, v3, v4, v5, v6] [] (encM er F X K (-1) D P gv O T) 0 0) (hG : tkN X K) (hP : pI X D K.2.1 P) (h1000 : P.1 < 1000) (hf : X.1 - K.2.1 < f + 1) : J p l e (jR 10 209 0 0) s m args below meth c G 7 0 0 (.inl (some (.int (bI (pgE X (pgL X D f) (fun gv => madeF D gv o) K P gv).1.isNone)), encM er F X (pgE X (pgL X D f) (fun gv => madeF D gv o) K P gv).2.1 (wrI (pgE X (pgL X D f) (fun gv => madeF D gv o) K P gv).1) D (pgE X (pgL X D f) (fun gv => madeF D gv o) K P gv).2.2.1 (pgE X (pgL X D f) (fun gv => madeF D gv o) K P gv).2.2.2 O T)) 288 [some (.ref 1000), some (.int (nI 0)), v2, v3, some (.int (nI o)), v5, v6] [] (encM er F X K (-1) D P gv O T) 0 0 := by
  have k0 := hG.g.1
  have b0 : K.2.1 ≤ K.2.2 ∧ K.2.2 ≤ X.1 ∧ K.1 ≤ 5 := ⟨k0.1, k0.2.1, k0.2.2.2.1⟩
  refine J_aload_n (pc := 288) C dX11_program_288 rfl rfl ?_
  refine J_bipush (pc := 289) (v := nI 59) C dX11_program_289 (by decide) ?_
  refine J_callV1 (pc := 291) C dX11_program_291 m_X11_139 (c_isSign l G _ _ _ _ _ _ _ _ _ _ _ hn hX (by first | assumption | exact (nextF_g (by omega)).1) (by omega)) ⟨jle rfl, jle rfl⟩ rfl rfl rfl rfl rfl (jle rfl) ⟨Nat.zero_le _, Nat.zero_le _⟩ ?_
  try dsimp only
  refine J_if_ne (pc := 294) (tgt := 306) C dX11_program_294 (by decide) (fun h294 => ?_) (fun h294 => ?_)
  · have hs := bI_t h294
    have hs0 : K.1 ≠ 0 := by have := hs; simp [isSignF] at this; omega
    have hlt := hG.g.lt hs0
    have hle := hG.nx.g.lx
    refine J_aload_n (pc := 306) C dX11_program_306 rfl rfl ?_
    refine J_get (pc := 307) C dX11_program_307 f_X11_56 rfl rfl ?_
    refine J_aload_n (pc := 310) C dX11_program_310 rfl rfl ?_
    refine J_dup (pc := 311) C dX11_program_311 rfl ?_
    refine J_get (pc := 312) C dX11_program_312 f_X11_181 rfl rfl ?_
    try dsimp only
    refine J_dup_x1 (pc := 315) C dX11_program_315 rfl rfl ?_
    refine J_iconst (pc := 316) (v := nI 1) C dX11_program_316 (by decide) ?_
    refine J_iaddN (pc := 317) C dX11_program_317 ?_
    refine J_putU (pc := 318) C dX11_program_318 p_X11_181 rfl (jlt rfl) rfl rfl (uM_words _) ?_
    try dsimp only
    refine J_iload_n (pc := 321) C dX11_program_321 rfl rfl ?_
    refine J_if_eqN (pc := 322) (tgt := 335) C dX11_program_322 (by decide) (by omega) (fun _ => ?_) (fun h322 => absurd h322 (by decide))
    refine J_aload_n (pc := 335) C dX11_program_335 rfl rfl ?_
    refine J_iload (pc := 336) C dX11_program_336 rfl ?_
    refine J_callV1 (pc := 338) C dX11_program_338 m_X11_245 (c_made l G _ _ _ _ _ _ _ _ _ _ o ho hw9 hw) ⟨jle rfl, jle rfl⟩ rfl rfl rfl rfl rfl (jle rfl) ⟨Nat.zero_le _, Nat.zero_le _⟩ ?_
    try dsimp only
    refine J_iastR (pc := 341) C dX11_program_341 rfl (by omega) (by decide) (uM_word _) ?_
    refine J_aload_n (pc := 342) C dX11_program_342 rfl rfl ?_
    refine J_callV0 (pc := 343) C dX11_program_343 m_X11_145 (c_next l G _ _ _ _ _ _ _ _ _ _ hn hX (by omega)) ⟨jle rfl, jle rfl⟩ rfl rfl rfl rfl rfl (jle rfl) ⟨Nat.zero_le _, Nat.zero_le _⟩ ?_
    try dsimp only
    refine J_goto (pc := 346) (tgt := 0) C dX11_program_346 (by decide) ?_
    rw [pgE, if_pos hs]
    exact ih _ (pgW P _) gv _ _ _ _ _ _ hG.nx ((pI_W hP h1000).up hG.g.fr) (by omega)
  · refine J_aload_n (pc := 297) C dX11_program_297 rfl rfl ?_
    refine J_aload_n (pc := 298) C dX11_program_298 rfl rfl ?_
    refine J_get (pc := 299) C dX11_program_299 f_X11_113 rfl rfl ?_
    try dsimp only
    refine J_callV1 (pc := 302) C dX11_program_302 m_X11_142 (c_bad l G _ _ _ _ _ _ _ _ _ _ _) ⟨jle rfl, jle rfl⟩ rfl rfl rfl rfl rfl (jle rfl) ⟨Nat.zero_le _, Nat.zero_le _⟩ ?_
    try dsimp only
    exact J_zret (pc := 305) C dX11_program_305 rfl (by first | rfl | decide) (mV_f (by rw [pgE, if_neg (by rw [bI_f h294]; decide)])) (Nat.zero_le _) (Nat.zero_le _)
set_option maxHeartbeats 4000000 in
set_option maxRecDepth 100000 in
theorem l_vl (l : Launch) (G : jG) {p : Program} {e : Env} {s : State} {m : MethodId} {args : Array Value} {below : List Frame} {meth : Method} {c : Code} (er : Nat) (F X : Nat × (Nat → Nat)) (D : mD) (O : Nat × (Nat → Nat)) (T : jMem) (f o cn k m9 : Nat) (K : Nat × Nat × Nat) (P : mP) (gv : Nat → Int64) (v2 v3 : Option Value) (C : jX0 p l (jR 10 209 0 0) s m args meth c G cX11_program 7 RX11 (some .boolean)) (hn : X.1 ≤ 4000) (hX : ∀ k, X.2 k < 256) (ho : o < D.2.2.1) (hdA : dA D) (ih : ∀ (K : Nat × Nat × Nat) (P : mP) (gv : Nat → Int64) (v1 v2 v3 v4 v5 v6 : Option Value), tkN X K → pI X D K.2.1 P → X.1 - K.2.1 < f → J p l e (jR 10 209 0 0) s m args below meth c G 7 0 0 (.inl (some (.int (bI (pgL X D f K P gv).1.isNone)), encM er F X (pgL X D f K P gv).2.1 (wrI (pgL X D f K P gv).1) D (pgL X D f K P gv).2.2.1 (pgL X D f K P gv).2.2.2 O T)) 0 [some (.ref 1000), v1, v2, v3, v4, v5, v6] [] (encM er F X K (-1) D P gv O T) 0 0) (hG : tkN X K) (hP : pI X D K.2.1 P) (h1000 : P.1 < 1000) (hf : X.1 - K.2.1 < f + 1) (hm9 : m9 = mOpds D o) (hc : k + cn = m9) : J p l e (jR 10 209 0 0) s m args below meth c G 7 0 0 (.inl (some (.int (bI (vB (vlL X D o cn k K P gv) (pgE X (pgL X D f) (fun gv => madeF D gv o))).1.isNone)), encM er F X (vB (vlL X D o cn k K P gv) (pgE X (pgL X D f) (fun gv => madeF D gv o))).2.1 (wrI (vB (vlL X D o cn k K P gv) (pgE X (pgL X D f) (fun gv => madeF D gv o))).1) D (vB (vlL X D o cn k K P gv) (pgE X (pgL X D f) (fun gv => madeF D gv o))).2.2.1 (vB (vlL X D o cn k K P gv) (pgE X (pgL X D f) (fun gv => madeF D gv o))).2.2.2 O T)) 246 [some (.ref 1000), some (.int (nI 0)), v2, v3, some (.int (nI o)), some (.int (nI m9)), some (.int (nI k))] [] (encM er F X K (-1) D P gv O T) 0 0 := by
  have hoA := hdA.2.2 o ho
  have h60 := hdA.1.2.1
  have h6 := hoA.1
  induction cn generalizing k K P gv with
  | zero =>
    refine J_iload (pc := 246) C dX11_program_246 rfl ?_
    refine J_iload (pc := 248) C dX11_program_248 rfl ?_
    refine J_icmp_geN (pc := 250) (tgt := 288) C dX11_program_250 (by decide) (by omega) (by omega) (fun h250 => ?_) (fun h250 => ?_)
    · rw [vlL, vB_n rfl]
      exact l_pgEo l G er F X D O T f o K P gv _ _ _ _ C hn hX (by omega) hoA.2.1 hdA.2.1 ih hG hP h1000 hf
    · omega
  | succ cn ihc =>
    have k0 := hG.g.1
    have b0 : K.2.1 ≤ K.2.2 ∧ K.2.2 ≤ X.1 ∧ K.1 ≤ 5 := ⟨k0.1, k0.2.1, k0.2.2.2.1⟩
    have hu := hP.2.2.1
    rw [vlL]
    refine J_iload (pc := 246) C dX11_program_246 rfl ?_
    refine J_iload (pc := 248) C dX11_program_248 rfl ?_
    refine J_icmp_geN (pc := 250) (tgt := 288) C dX11_program_250 (by decide) (by omega) (by omega) (fun h250 => ?_) (fun h250 => ?_)
    · omega
    · refine J_iload (pc := 253) C dX11_program_253 rfl ?_
      refine J_if_le (pc := 255) (tgt := 269) C dX11_program_255 (by decide) (fun h255 => ?_) (fun h255 => ?_)
      · have h255' : k = 0 := nI_le0 (by omega) h255
        rw [if_pos h255']
        have g := valF_G (gv := gv) hG hP ho (show k < mOpds D o by omega) h1000
        have c9 := c_value l G er F X K D P gv O T o k hn hX hG hdA.1 (by omega) (by omega) (hoA.2.2 k (by omega)) (by omega)
        have gl := g.1.g.lx
        have gf := hG.g.fr
        obtain ⟨r, er9⟩ : ∃ r, r = valF X D o k K P gv := ⟨_, rfl⟩
        rw [← er9] at g c9 gl ⊢
        have g2 := g.2.1
        refine J_aload_n (pc := 269) C dX11_program_269 rfl rfl ?_
        refine J_iload (pc := 270) C dX11_program_270 rfl ?_
        refine J_iload (pc := 272) C dX11_program_272 rfl ?_
        refine J_callV1 (pc := 274) C dX11_program_274 m_X11_241 (c9) ⟨jle rfl, jle rfl⟩ rfl rfl rfl rfl rfl (jle rfl) ⟨Nat.zero_le _, Nat.zero_le _⟩ ?_
        try dsimp only
        refine J_if_ne (pc := 277) (tgt := 282) C dX11_program_277 (by decide) (fun h277 => ?_) (fun h277 => ?_)
        · refine J_iincN (pc := 282) C dX11_program_282 rfl (by decide) rfl ?_
          dsimp only [List.set]
          refine J_goto (pc := 285) (tgt := 246) C dX11_program_285 (by decide) ?_
          have hz := isN_t h277
          rw [show vB r (vlL X D o cn (k + 1)) = vlL X D o cn (k + 1) r.2.1 r.2.2.1 r.2.2.2 from if_pos hz, hz]
          exact ihc (k + 1) r.2.1 r.2.2.1 r.2.2.2 g.1 g.2.2.1 (by rw [g.2.2.2.1]; exact h1000) (by omega) (by omega)
        · refine J_iconst (pc := 280) (v := nI 0) C dX11_program_280 (by decide) ?_
          exact J_zret (pc := 281) C dX11_program_281 rfl (by first | rfl | decide) (mV_e (by rw [vB_e (isN_f h277), vB_e (isN_f h277)]) (isN_f h277)) (Nat.zero_le _) (Nat.zero_le _)
      · have h255' : ¬ k = 0 := fun z => h255 (by rw [z]; decide)
        rw [if_neg h255']
        refine J_aload_n (pc := 258) C dX11_program_258 rfl rfl ?_
        refine J_bipush (pc := 259) (v := nI 44) C dX11_program_259 (by decide) ?_
        by_cases q261 : isSignF X K 44 = true
        · refine J_callV1 (pc := 261) C dX11_program_261 m_X11_201 (c_sign_t l G _ _ _ _ _ _ _ _ _ _ _ hn hX k0 (by decide) q261) ⟨jle rfl, jle rfl⟩ rfl rfl rfl rfl rfl (jle rfl) ⟨Nat.zero_le _, Nat.zero_le _⟩ ?_
          try dsimp only
          rw [if_pos q261]
          refine J_if_neN (pc := 264) (tgt := 269) C dX11_program_264 (by decide) (by omega) (fun _ => ?_) (fun h264 => absurd h264 (by decide))
          have g := valF_G (gv := gv) hG.nx (hP.up hG.g.fr) ho (show k < mOpds D o by omega) h1000
          have c9 := c_value l G er F X (nextF X K.2.2) D P gv O T o k hn hX hG.nx hdA.1 (by omega) (by omega) (hoA.2.2 k (by omega)) (by omega)
          have gl := g.1.g.lx
          have gf := hG.g.fr
          obtain ⟨r, er9⟩ : ∃ r, r = valF X D o k (nextF X K.2.2) P gv := ⟨_, rfl⟩
          rw [← er9] at g c9 gl ⊢
          have g2 := g.2.1
          refine J_aload_n (pc := 269) C dX11_program_269 rfl rfl ?_
          refine J_iload (pc := 270) C dX11_program_270 rfl ?_
          refine J_iload (pc := 272) C dX11_program_272 rfl ?_
          refine J_callV1 (pc := 274) C dX11_program_274 m_X11_241 (c9) ⟨jle rfl, jle rfl⟩ rfl rfl rfl rfl rfl (jle rfl) ⟨Nat.zero_le _, Nat.zero_le _⟩ ?_
          try dsimp only
          refine J_if_ne (pc := 277) (tgt := 282) C dX11_program_277 (by decide) (fun h277 => ?_) (fun h277 => ?_)
          · refine J_iincN (pc := 282) C dX11_program_282 rfl (by decide) rfl ?_
            dsimp only [List.set]
            refine J_goto (pc := 285) (tgt := 246) C dX11_program_285 (by decide) ?_
            have hz := isN_t h277
            rw [show vB r (vlL X D o cn (k + 1)) = vlL X D o cn (k + 1) r.2.1 r.2.2.1 r.2.2.2 from if_pos hz, hz]
            exact ihc (k + 1) r.2.1 r.2.2.1 r.2.2.2 g.1 g.2.2.1 (by rw [g.2.2.2.1]; exact h1000) (by omega) (by omega)
          · refine J_iconst (pc := 280) (v := nI 0) C dX11_program_280 (by decide) ?_
            exact J_zret (pc := 281) C dX11_program_281 rfl (by first | rfl | decide) (mV_e (by rw [vB_e (isN_f h277), vB_e (isN_f h277)]) (isN_f h277)) (Nat.zero_le _) (Nat.zero_le _)
        · refine J_callV1 (pc := 261) C dX11_program_261 m_X11_201 (c_sign_f l G _ _ _ _ _ _ _ _ _ _ _ hn hX k0 (by decide) q261) ⟨jle rfl, jle rfl⟩ rfl rfl rfl rfl rfl (jle rfl) ⟨Nat.zero_le _, Nat.zero_le _⟩ ?_
          try dsimp only
          refine J_if_neN (pc := 264) (tgt := 269) C dX11_program_264 (by decide) (by omega) (fun h264 => absurd h264 (by decide)) (fun _ => ?_)
          refine J_iconst (pc := 267) (v := nI 0) C dX11_program_267 (by decide) ?_
          exact J_zret (pc := 268) C dX11_program_268 rfl (by first | rfl | decide) (mV_f (by rw [if_neg q261, vB_s])) (Nat.zero_le _) (Nat.zero_le _)
set_option maxHeartbeats 4000000 in
set_option maxRecDepth 100000 in
theorem l_pg (l : Launch) (G : jG) {p : Program} {e : Env} {s : State} {m : MethodId} {args : Array Value} {below : List Frame} {meth : Method} {c : Code} (er : Nat) (F X : Nat × (Nat → Nat)) (D : mD) (O : Nat × (Nat → Nat)) (T : jMem) (f : Nat) (K : Nat × Nat × Nat) (P : mP) (gv : Nat → Int64) (v1 v2 v3 v4 v5 v6 : Option Value) (C : jX0 p l (jR 10 209 0 0) s m args meth c G cX11_program 7 RX11 (some .boolean)) (hn : X.1 ≤ 4000) (hX : ∀ k, X.2 k < 256) (hdA : dA D) (hG : tkN X K) (hP : pI X D K.2.1 P) (hf : X.1 - K.2.1 < f) : J p l e (jR 10 209 0 0) s m args below meth c G 7 0 0 (.inl (some (.int (bI (pgL X D f K P gv).1.isNone)), encM er F X (pgL X D f K P gv).2.1 (wrI (pgL X D f K P gv).1) D (pgL X D f K P gv).2.2.1 (pgL X D f K P gv).2.2.2 O T)) 0 [some (.ref 1000), v1, v2, v3, v4, v5, v6] [] (encM er F X K (-1) D P gv O T) 0 0 := by
  induction f generalizing K P gv v1 v2 v3 v4 v5 v6 with
  | zero => omega
  | succ f ih =>
    have ih' : ∀ (K : Nat × Nat × Nat) (P : mP) (gv : Nat → Int64) (v1 v2 v3 v4 v5 v6 : Option Value), tkN X K → pI X D K.2.1 P → X.1 - K.2.1 < f → J p l e (jR 10 209 0 0) s m args below meth c G 7 0 0 (.inl (some (.int (bI (pgL X D f K P gv).1.isNone)), encM er F X (pgL X D f K P gv).2.1 (wrI (pgL X D f K P gv).1) D (pgL X D f K P gv).2.2.1 (pgL X D f K P gv).2.2.2 O T)) 0 [some (.ref 1000), v1, v2, v3, v4, v5, v6] [] (encM er F X K (-1) D P gv O T) 0 0 := fun K P gv v1 v2 v3 v4 v5 v6 a b c => ih K P gv v1 v2 v3 v4 v5 v6 a b c
    have k0 := hG.g.1
    have b0 : K.2.1 ≤ K.2.2 ∧ K.2.2 ≤ X.1 ∧ K.1 ≤ 5 := ⟨k0.1, k0.2.1, k0.2.2.2.1⟩
    have hP1 := hP.1
    have hP2 := hP.2.1
    have d4 := hdA.1.2.2.2.1
    have d60 := hdA.1.2.1
    have f1 := findF_lt (X := X) (K := K) (nm := P.2.2.2.1) (m := P.2.1) (j := 0)
    have f2 := findF_lt (X := X) (K := K) (nm := D.2.2.2.2.2.2.1) (m := D.2.2.1) (j := 0)
    rw [pgL]
    refine J_aload_n (pc := 0) C dX11_program_0 rfl rfl ?_
    refine J_get (pc := 1) C dX11_program_1 f_X11_120 rfl rfl ?_
    try dsimp only
    refine J_if_eqN (pc := 4) (tgt := 349) C dX11_program_4 (by decide) (by omega) (fun h4 => ?_) (fun h4 => ?_)
    · refine J_iconst (pc := 349) (v := nI 1) C dX11_program_349 (by decide) ?_
      exact J_zret (pc := 350) C dX11_program_350 rfl (by first | rfl | decide) (mV_t (if_pos h4)) (Nat.zero_le _) (Nat.zero_le _)
    · refine J_aload_n (pc := 7) C dX11_program_7 rfl rfl ?_
      refine J_get (pc := 8) C dX11_program_8 f_X11_120 rfl rfl ?_
      try dsimp only
      refine J_iconst (pc := 11) (v := nI 1) C dX11_program_11 (by decide) ?_
      refine J_icmp_neN (pc := 12) (tgt := 28) C dX11_program_12 (by decide) (by omega) (by omega) (fun h12 => ?_) (fun h12 => ?_)
      · have hpl : ¬ (K.1 = 1 ∧ isW X K [119, 111, 114, 100] = true) := by intro z; first | exact h12 z.1 | exact absurd (bI_f h21) (by rw [z.2]; decide)
        rw [if_neg h4, if_neg hpl]
        refine J_iconst (pc := 28) (v := nI 0) C dX11_program_28 (by decide) ?_
        refine J_istore_n (pc := 29) C dX11_program_29 rfl (by decide) rfl ?_
        dsimp only [List.set]
        refine J_iload_n (pc := 30) C dX11_program_30 rfl rfl ?_
        refine J_if_neN (pc := 31) (tgt := 50) C dX11_program_31 (by decide) (by omega) (fun h31 => absurd h31 (by decide)) (fun _ => ?_)
        refine J_aload_n (pc := 34) C dX11_program_34 rfl rfl ?_
        refine J_callV1 (pc := 35) C dX11_program_35 m_X11_208 (c_isName l G _ _ _ _ _ _ _ _ _ _ hn hX (by first | assumption | exact (nextF_g (by omega)).1)) ⟨jle rfl, jle rfl⟩ rfl rfl rfl rfl rfl (jle rfl) ⟨Nat.zero_le _, Nat.zero_le _⟩ ?_
        try dsimp only
        refine J_if_ne (pc := 38) (tgt := 50) C dX11_program_38 (by decide) (fun h38 => ?_) (fun h38 => ?_)
        · have hnm := bI_t h38
          rw [if_pos hnm]
          have hK1 : ((1, K.2.1, K.2.2) : Nat × Nat × Nat) = K := by have := hnm; simp [isNameF] at this; rw [← this.1]
          refine J_aload_n (pc := 50) C dX11_program_50 rfl rfl ?_
          refine J_get (pc := 51) C dX11_program_51 f_X11_113 rfl rfl ?_
          try dsimp only
          refine J_istore_n (pc := 54) C dX11_program_54 rfl (by decide) rfl ?_
          dsimp only [List.set]
          refine J_aload_n (pc := 55) C dX11_program_55 rfl rfl ?_
          refine J_get (pc := 56) C dX11_program_56 f_X11_110 rfl rfl ?_
          try dsimp only
          refine J_istore_n (pc := 59) C dX11_program_59 rfl (by decide) rfl ?_
          dsimp only [List.set]
          refine J_iload_n (pc := 60) C dX11_program_60 rfl rfl ?_
          refine J_if_neN (pc := 61) (tgt := 172) C dX11_program_61 (by decide) (by omega) (fun h61 => absurd h61 (by decide)) (fun _ => ?_)
          refine J_aload_n (pc := 64) C dX11_program_64 rfl rfl ?_
          refine J_callV0 (pc := 65) C dX11_program_65 m_X11_145 (c_next l G _ _ _ _ _ _ _ _ _ _ hn hX (by omega)) ⟨jle rfl, jle rfl⟩ rfl rfl rfl rfl rfl (jle rfl) ⟨Nat.zero_le _, Nat.zero_le _⟩ ?_
          try dsimp only
          refine J_aload_n (pc := 68) C dX11_program_68 rfl rfl ?_
          refine J_bipush (pc := 69) (v := nI 58) C dX11_program_69 (by decide) ?_
          refine J_callV1 (pc := 71) C dX11_program_71 m_X11_139 (c_isSign l G _ _ _ _ _ _ _ _ _ _ _ hn hX (by first | assumption | exact (nextF_g (by omega)).1) (by omega)) ⟨jle rfl, jle rfl⟩ rfl rfl rfl rfl rfl (jle rfl) ⟨Nat.zero_le _, Nat.zero_le _⟩ ?_
          try dsimp only
          refine J_istore (pc := 74) C dX11_program_74 (by decide) rfl ?_
          dsimp only [List.set]
          refine J_aload_n (pc := 76) C dX11_program_76 rfl rfl ?_
          refine J_iload_n (pc := 77) C dX11_program_77 rfl rfl ?_
          refine J_putU (pc := 78) C dX11_program_78 p_X11_113 rfl (jlt rfl) rfl rfl (uM_from _) ?_
          try dsimp only
          refine J_aload_n (pc := 81) C dX11_program_81 rfl rfl ?_
          refine J_iload_n (pc := 82) C dX11_program_82 rfl rfl ?_
          refine J_putU (pc := 83) C dX11_program_83 p_X11_110 rfl (jlt rfl) rfl rfl (uM_to _) ?_
          try dsimp only
          refine J_aload_n (pc := 86) C dX11_program_86 rfl rfl ?_
          refine J_iconst (pc := 87) (v := nI 1) C dX11_program_87 (by decide) ?_
          refine J_putU (pc := 88) C dX11_program_88 p_X11_120 rfl (jlt rfl) rfl rfl (uM_token _) ?_
          try dsimp only
          rw [hK1]
          refine J_iload (pc := 91) C dX11_program_91 rfl ?_
          refine J_if_eq (pc := 93) (tgt := 172) C dX11_program_93 (by decide) (fun h93 => ?_) (fun h93 => ?_)
          · rw [if_neg (by rw [bI_f h93]; decide)]
            refine J_iload_n (pc := 172) C dX11_program_172 rfl rfl ?_
            refine J_if_eqN (pc := 173) (tgt := 180) C dX11_program_173 (by decide) (by omega) (fun _ => ?_) (fun h173 => absurd h173 (by decide))
            refine J_aload_n (pc := 180) C dX11_program_180 rfl rfl ?_
            refine J_aload_n (pc := 181) C dX11_program_181 rfl rfl ?_
            refine J_get (pc := 182) C dX11_program_182 f_X11_29 rfl rfl ?_
            refine J_aload_n (pc := 185) C dX11_program_185 rfl rfl ?_
            refine J_get (pc := 186) C dX11_program_186 f_X11_190 rfl rfl ?_
            try dsimp only
            refine J_callV1 (pc := 189) C dX11_program_189 m_X11_211 (c_find l G _ _ _ _ _ _ _ _ _ _ _ hn hX rfl (by decide) d4 k0 (by omega) (by omega)) ⟨jle rfl, jle rfl⟩ rfl rfl rfl rfl rfl (jle rfl) ⟨Nat.zero_le _, Nat.zero_le _⟩ ?_
            try dsimp only
            refine J_istore (pc := 192) C dX11_program_192 (by decide) rfl ?_
            dsimp only [List.set]
            refine J_iload_n (pc := 194) C dX11_program_194 rfl rfl ?_
            refine J_if_neN (pc := 195) (tgt := 203) C dX11_program_195 (by decide) (by omega) (fun h195 => absurd h195 (by decide)) (fun _ => ?_)
            refine J_iload (pc := 198) C dX11_program_198 rfl ?_
            refine J_if_lt (pc := 200) (tgt := 213) C dX11_program_200 (by decide) (fun h200 => ?_) (fun h200 => ?_)
            · refine J_aload_n (pc := 213) C dX11_program_213 rfl rfl ?_
              refine J_aload_n (pc := 214) C dX11_program_214 rfl rfl ?_
              refine J_get (pc := 215) C dX11_program_215 f_X11_113 rfl rfl ?_
              try dsimp only
              refine J_callV1 (pc := 218) C dX11_program_218 m_X11_142 (c_bad l G _ _ _ _ _ _ _ _ _ _ _) ⟨jle rfl, jle rfl⟩ rfl rfl rfl rfl rfl (jle rfl) ⟨Nat.zero_le _, Nat.zero_le _⟩ ?_
              try dsimp only
              exact J_zret (pc := 221) C dX11_program_221 rfl (by first | rfl | decide) (mV_f (by first | (rw [if_pos h210]; done) | (rw [if_neg (by intro z; first | exact z.2 h210 | exact z.1 ((lI_neg (x := findF X K D.2.2.2.2.2.2.1 D.2.2.1 0) (by omega)).mp h200))]; done))) (Nat.zero_le _) (Nat.zero_le _)
            · have hfo : findF X K D.2.2.2.2.2.2.1 D.2.2.1 0 ≠ 1000 := fun z => h200 ((lI_neg (by omega)).mpr z)
              rw [lI_n hfo]
              refine J_aload_n (pc := 203) C dX11_program_203 rfl rfl ?_
              refine J_get (pc := 204) C dX11_program_204 f_X11_181 rfl rfl ?_
              try dsimp only
              refine J_sipush (pc := 207) (v := nI 1000) C dX11_program_207 (by decide) ?_
              refine J_icmp_neN (pc := 210) (tgt := 222) C dX11_program_210 (by decide) (by omega) (by omega) (fun h210 => ?_) (fun h210 => ?_)
              · rw [if_pos ⟨hfo, h210⟩]
                refine J_aload_n (pc := 222) C dX11_program_222 rfl rfl ?_
                refine J_callV0 (pc := 223) C dX11_program_223 m_X11_145 (c_next l G _ _ _ _ _ _ _ _ _ _ hn hX (by omega)) ⟨jle rfl, jle rfl⟩ rfl rfl rfl rfl rfl (jle rfl) ⟨Nat.zero_le _, Nat.zero_le _⟩ ?_
                try dsimp only
                obtain ⟨o, eo⟩ : ∃ z, z = findF X K D.2.2.2.2.2.2.1 D.2.2.1 0 := ⟨_, rfl⟩
                rw [← eo] at hfo f2
                rw [show findF X K (mOpN D) D.2.2.1 0 = o from eo.symm]
                refine J_iload_n (pc := 226) C dX11_program_226 rfl rfl ?_
                refine J_if_eqN (pc := 227) (tgt := 234) C dX11_program_227 (by decide) (by omega) (fun _ => ?_) (fun h227 => absurd h227 (by decide))
                refine J_aload_n (pc := 234) C dX11_program_234 rfl rfl ?_
                refine J_get (pc := 235) C dX11_program_235 f_X11_41 rfl rfl ?_
                refine J_iload (pc := 238) C dX11_program_238 rfl ?_
                refine J_ialdN (pc := 240) C dX11_program_240 rfl (by omega) (by decide) ?_
                try dsimp only
                refine J_istore (pc := 241) C dX11_program_241 (by decide) rfl ?_
                dsimp only [List.set]
                refine J_iconst (pc := 243) (v := nI 0) C dX11_program_243 (by decide) ?_
                refine J_istore (pc := 244) C dX11_program_244 (by decide) rfl ?_
                dsimp only [List.set]
                exact l_vl l G er F X D O T f o _ 0 _ (nextF X K.2.2) P gv _ _ C hn hX (by omega) hdA ih' hG.nx (hP.up hG.g.fr) (by omega) (by have := hG.g.fr; omega) rfl (Nat.zero_add _)
              · refine J_aload_n (pc := 213) C dX11_program_213 rfl rfl ?_
                refine J_aload_n (pc := 214) C dX11_program_214 rfl rfl ?_
                refine J_get (pc := 215) C dX11_program_215 f_X11_113 rfl rfl ?_
                try dsimp only
                refine J_callV1 (pc := 218) C dX11_program_218 m_X11_142 (c_bad l G _ _ _ _ _ _ _ _ _ _ _) ⟨jle rfl, jle rfl⟩ rfl rfl rfl rfl rfl (jle rfl) ⟨Nat.zero_le _, Nat.zero_le _⟩ ?_
                try dsimp only
                exact J_zret (pc := 221) C dX11_program_221 rfl (by first | rfl | decide) (mV_f (by first | (rw [if_pos h210]; done) | (rw [if_neg (by intro z; first | exact z.2 h210 | exact z.1 ((lI_neg (x := findF X K D.2.2.2.2.2.2.1 D.2.2.1 0) (by omega)).mp h200))]; done))) (Nat.zero_le _) (Nat.zero_le _)
          · rw [if_pos (bI_t h93)]
            refine J_aload_n (pc := 96) C dX11_program_96 rfl rfl ?_
            refine J_get (pc := 97) C dX11_program_97 f_X11_184 rfl rfl ?_
            try dsimp only
            refine J_bipush (pc := 100) (v := nI 60) C dX11_program_100 (by decide) ?_
            refine J_icmp_eqN (pc := 102) (tgt := 120) C dX11_program_102 (by decide) (by omega) (by omega) (fun h102 => ?_) (fun h102 => ?_)
            · refine J_aload_n (pc := 120) C dX11_program_120 rfl rfl ?_
              refine J_aload_n (pc := 121) C dX11_program_121 rfl rfl ?_
              refine J_get (pc := 122) C dX11_program_122 f_X11_113 rfl rfl ?_
              try dsimp only
              refine J_callV1 (pc := 125) C dX11_program_125 m_X11_142 (c_bad l G _ _ _ _ _ _ _ _ _ _ _) ⟨jle rfl, jle rfl⟩ rfl rfl rfl rfl rfl (jle rfl) ⟨Nat.zero_le _, Nat.zero_le _⟩ ?_
              try dsimp only
              exact J_zret (pc := 128) C dX11_program_128 rfl (by first | rfl | decide) (mV_f (by rw [if_neg (by intro z; first | exact z.1 h102 | exact h117 ((lI_neg (by omega)).mpr z.2))])) (Nat.zero_le _) (Nat.zero_le _)
            · refine J_aload_n (pc := 105) C dX11_program_105 rfl rfl ?_
              refine J_aload_n (pc := 106) C dX11_program_106 rfl rfl ?_
              refine J_get (pc := 107) C dX11_program_107 f_X11_35 rfl rfl ?_
              refine J_aload_n (pc := 110) C dX11_program_110 rfl rfl ?_
              refine J_get (pc := 111) C dX11_program_111 f_X11_184 rfl rfl ?_
              try dsimp only
              refine J_callV1 (pc := 114) C dX11_program_114 m_X11_211 (c_find l G _ _ _ _ _ _ _ _ _ _ _ hn hX rfl (by decide) hP.2.2.2.1 k0 (by omega) (by omega)) ⟨jle rfl, jle rfl⟩ rfl rfl rfl rfl rfl (jle rfl) ⟨Nat.zero_le _, Nat.zero_le _⟩ ?_
              try dsimp only
              refine J_if_lt (pc := 117) (tgt := 129) C dX11_program_117 (by decide) (fun h117 => ?_) (fun h117 => ?_)
              · have hfd : findF X K P.2.2.2.1 P.2.1 0 = 1000 := (lI_neg (by omega)).mp h117
                rw [if_pos ⟨h102, hfd⟩]
                refine J_aload_n (pc := 129) C dX11_program_129 rfl rfl ?_
                refine J_aload_n (pc := 130) C dX11_program_130 rfl rfl ?_
                refine J_get (pc := 131) C dX11_program_131 f_X11_35 rfl rfl ?_
                refine J_aload_n (pc := 134) C dX11_program_134 rfl rfl ?_
                refine J_get (pc := 135) C dX11_program_135 f_X11_184 rfl rfl ?_
                try dsimp only
                refine J_callV0 (pc := 138) C dX11_program_138 m_X11_215 (c_keep l G _ _ _ _ _ (fun _ => D) (fun f => (P.1, P.2.1, P.2.2.1, f, P.2.2.2.2)) _ _ _ P.2.2.2.1 P.2.1 hn hX (fun _ => rfl) (fun f g => (uM_labelName g).trans rfl) (by decide) k0 (by omega) (by omega)) ⟨jle rfl, jle rfl⟩ rfl rfl rfl rfl rfl (jle rfl) ⟨Nat.zero_le _, Nat.zero_le _⟩ ?_
                try dsimp only
                refine J_aload_n (pc := 141) C dX11_program_141 rfl rfl ?_
                refine J_get (pc := 142) C dX11_program_142 f_X11_38 rfl rfl ?_
                refine J_aload_n (pc := 145) C dX11_program_145 rfl rfl ?_
                refine J_dup (pc := 146) C dX11_program_146 rfl ?_
                refine J_get (pc := 147) C dX11_program_147 f_X11_184 rfl rfl ?_
                try dsimp only
                refine J_dup_x1 (pc := 150) C dX11_program_150 rfl rfl ?_
                refine J_iconst (pc := 151) (v := nI 1) C dX11_program_151 (by decide) ?_
                refine J_iaddN (pc := 152) C dX11_program_152 ?_
                refine J_putU (pc := 153) C dX11_program_153 p_X11_184 rfl (jlt rfl) rfl rfl (uM_labels _) ?_
                try dsimp only
                refine J_aload_n (pc := 156) C dX11_program_156 rfl rfl ?_
                refine J_get (pc := 157) C dX11_program_157 f_X11_181 rfl rfl ?_
                try dsimp only
                refine J_iastN (pc := 160) C dX11_program_160 rfl (by omega) (by decide) (uM_labelPlace _) ?_
                refine J_aload_n (pc := 161) C dX11_program_161 rfl rfl ?_
                refine J_callV0 (pc := 162) C dX11_program_162 m_X11_145 (c_next l G _ _ _ _ _ _ _ _ _ _ hn hX (by omega)) ⟨jle rfl, jle rfl⟩ rfl rfl rfl rfl rfl (jle rfl) ⟨Nat.zero_le _, Nat.zero_le _⟩ ?_
                try dsimp only
                have hq9 := hG.nx.g.1.2.1
                refine J_aload_n (pc := 165) C dX11_program_165 rfl rfl ?_
                refine J_callV0 (pc := 166) C dX11_program_166 m_X11_145 (c_next l G _ _ _ _ _ _ _ _ _ _ hn hX (by omega)) ⟨jle rfl, jle rfl⟩ rfl rfl rfl rfl rfl (jle rfl) ⟨Nat.zero_le _, Nat.zero_le _⟩ ?_
                try dsimp only
                refine J_goto (pc := 169) (tgt := 0) C dX11_program_169 (by decide) ?_
                have hlt := hG.g.lt h4
                have hfr := hG.nx.g.fr
                have hlx := hG.nx.nx.g.lx
                exact ih (nextF X (nextF X K.2.2).2.2) (labP X K P) gv _ _ _ _ _ _ hG.nx.nx ((pI_lab hX hP h102).up (Nat.le_trans hG.g.fr hfr)) (by omega)
              · refine J_aload_n (pc := 120) C dX11_program_120 rfl rfl ?_
                refine J_aload_n (pc := 121) C dX11_program_121 rfl rfl ?_
                refine J_get (pc := 122) C dX11_program_122 f_X11_113 rfl rfl ?_
                try dsimp only
                refine J_callV1 (pc := 125) C dX11_program_125 m_X11_142 (c_bad l G _ _ _ _ _ _ _ _ _ _ _) ⟨jle rfl, jle rfl⟩ rfl rfl rfl rfl rfl (jle rfl) ⟨Nat.zero_le _, Nat.zero_le _⟩ ?_
                try dsimp only
                exact J_zret (pc := 128) C dX11_program_128 rfl (by first | rfl | decide) (mV_f (by rw [if_neg (by intro z; first | exact z.1 h102 | exact h117 ((lI_neg (by omega)).mpr z.2))])) (Nat.zero_le _) (Nat.zero_le _)
        · refine J_aload_n (pc := 41) C dX11_program_41 rfl rfl ?_
          refine J_aload_n (pc := 42) C dX11_program_42 rfl rfl ?_
          refine J_get (pc := 43) C dX11_program_43 f_X11_113 rfl rfl ?_
          try dsimp only
          refine J_callV1 (pc := 46) C dX11_program_46 m_X11_142 (c_bad l G _ _ _ _ _ _ _ _ _ _ _) ⟨jle rfl, jle rfl⟩ rfl rfl rfl rfl rfl (jle rfl) ⟨Nat.zero_le _, Nat.zero_le _⟩ ?_
          try dsimp only
          exact J_zret (pc := 49) C dX11_program_49 rfl (by first | rfl | decide) (mV_f (by rw [if_neg (by rw [bI_f h38]; decide)])) (Nat.zero_le _) (Nat.zero_le _)
      · refine J_aload_n (pc := 15) C dX11_program_15 rfl rfl ?_
        refine J_ldcS (pc := 16) (i := 23) C dX11_program_16 rfl ?_
        refine J_callV1 (pc := 18) C dX11_program_18 m_X11_150 (c_is l G _ _ _ _ _ _ _ _ _ _ hn hX rfl (by first | assumption | exact (nextF_g (by omega)).1)) ⟨jle rfl, jle rfl⟩ rfl rfl rfl rfl rfl (jle rfl) ⟨Nat.zero_le _, Nat.zero_le _⟩ ?_
        try dsimp only
        refine J_if_eq (pc := 21) (tgt := 28) C dX11_program_21 (by decide) (fun h21 => ?_) (fun h21 => ?_)
        · have hpl : ¬ (K.1 = 1 ∧ isW X K [119, 111, 114, 100] = true) := by intro z; first | exact h12 z.1 | exact absurd (bI_f h21) (by rw [z.2]; decide)
          rw [if_neg h4, if_neg hpl]
          refine J_iconst (pc := 28) (v := nI 0) C dX11_program_28 (by decide) ?_
          refine J_istore_n (pc := 29) C dX11_program_29 rfl (by decide) rfl ?_
          dsimp only [List.set]
          refine J_iload_n (pc := 30) C dX11_program_30 rfl rfl ?_
          refine J_if_neN (pc := 31) (tgt := 50) C dX11_program_31 (by decide) (by omega) (fun h31 => absurd h31 (by decide)) (fun _ => ?_)
          refine J_aload_n (pc := 34) C dX11_program_34 rfl rfl ?_
          refine J_callV1 (pc := 35) C dX11_program_35 m_X11_208 (c_isName l G _ _ _ _ _ _ _ _ _ _ hn hX (by first | assumption | exact (nextF_g (by omega)).1)) ⟨jle rfl, jle rfl⟩ rfl rfl rfl rfl rfl (jle rfl) ⟨Nat.zero_le _, Nat.zero_le _⟩ ?_
          try dsimp only
          refine J_if_ne (pc := 38) (tgt := 50) C dX11_program_38 (by decide) (fun h38 => ?_) (fun h38 => ?_)
          · have hnm := bI_t h38
            rw [if_pos hnm]
            have hK1 : ((1, K.2.1, K.2.2) : Nat × Nat × Nat) = K := by have := hnm; simp [isNameF] at this; rw [← this.1]
            refine J_aload_n (pc := 50) C dX11_program_50 rfl rfl ?_
            refine J_get (pc := 51) C dX11_program_51 f_X11_113 rfl rfl ?_
            try dsimp only
            refine J_istore_n (pc := 54) C dX11_program_54 rfl (by decide) rfl ?_
            dsimp only [List.set]
            refine J_aload_n (pc := 55) C dX11_program_55 rfl rfl ?_
            refine J_get (pc := 56) C dX11_program_56 f_X11_110 rfl rfl ?_
            try dsimp only
            refine J_istore_n (pc := 59) C dX11_program_59 rfl (by decide) rfl ?_
            dsimp only [List.set]
            refine J_iload_n (pc := 60) C dX11_program_60 rfl rfl ?_
            refine J_if_neN (pc := 61) (tgt := 172) C dX11_program_61 (by decide) (by omega) (fun h61 => absurd h61 (by decide)) (fun _ => ?_)
            refine J_aload_n (pc := 64) C dX11_program_64 rfl rfl ?_
            refine J_callV0 (pc := 65) C dX11_program_65 m_X11_145 (c_next l G _ _ _ _ _ _ _ _ _ _ hn hX (by omega)) ⟨jle rfl, jle rfl⟩ rfl rfl rfl rfl rfl (jle rfl) ⟨Nat.zero_le _, Nat.zero_le _⟩ ?_
            try dsimp only
            refine J_aload_n (pc := 68) C dX11_program_68 rfl rfl ?_
            refine J_bipush (pc := 69) (v := nI 58) C dX11_program_69 (by decide) ?_
            refine J_callV1 (pc := 71) C dX11_program_71 m_X11_139 (c_isSign l G _ _ _ _ _ _ _ _ _ _ _ hn hX (by first | assumption | exact (nextF_g (by omega)).1) (by omega)) ⟨jle rfl, jle rfl⟩ rfl rfl rfl rfl rfl (jle rfl) ⟨Nat.zero_le _, Nat.zero_le _⟩ ?_
            try dsimp only
            refine J_istore (pc := 74) C dX11_program_74 (by decide) rfl ?_
            dsimp only [List.set]
            refine J_aload_n (pc := 76) C dX11_program_76 rfl rfl ?_
            refine J_iload_n (pc := 77) C dX11_program_77 rfl rfl ?_
            refine J_putU (pc := 78) C dX11_program_78 p_X11_113 rfl (jlt rfl) rfl rfl (uM_from _) ?_
            try dsimp only
            refine J_aload_n (pc := 81) C dX11_program_81 rfl rfl ?_
            refine J_iload_n (pc := 82) C dX11_program_82 rfl rfl ?_
            refine J_putU (pc := 83) C dX11_program_83 p_X11_110 rfl (jlt rfl) rfl rfl (uM_to _) ?_
            try dsimp only
            refine J_aload_n (pc := 86) C dX11_program_86 rfl rfl ?_
            refine J_iconst (pc := 87) (v := nI 1) C dX11_program_87 (by decide) ?_
            refine J_putU (pc := 88) C dX11_program_88 p_X11_120 rfl (jlt rfl) rfl rfl (uM_token _) ?_
            try dsimp only
            rw [hK1]
            refine J_iload (pc := 91) C dX11_program_91 rfl ?_
            refine J_if_eq (pc := 93) (tgt := 172) C dX11_program_93 (by decide) (fun h93 => ?_) (fun h93 => ?_)
            · rw [if_neg (by rw [bI_f h93]; decide)]
              refine J_iload_n (pc := 172) C dX11_program_172 rfl rfl ?_
              refine J_if_eqN (pc := 173) (tgt := 180) C dX11_program_173 (by decide) (by omega) (fun _ => ?_) (fun h173 => absurd h173 (by decide))
              refine J_aload_n (pc := 180) C dX11_program_180 rfl rfl ?_
              refine J_aload_n (pc := 181) C dX11_program_181 rfl rfl ?_
              refine J_get (pc := 182) C dX11_program_182 f_X11_29 rfl rfl ?_
              refine J_aload_n (pc := 185) C dX11_program_185 rfl rfl ?_
              refine J_get (pc := 186) C dX11_program_186 f_X11_190 rfl rfl ?_
              try dsimp only
              refine J_callV1 (pc := 189) C dX11_program_189 m_X11_211 (c_find l G _ _ _ _ _ _ _ _ _ _ _ hn hX rfl (by decide) d4 k0 (by omega) (by omega)) ⟨jle rfl, jle rfl⟩ rfl rfl rfl rfl rfl (jle rfl) ⟨Nat.zero_le _, Nat.zero_le _⟩ ?_
              try dsimp only
              refine J_istore (pc := 192) C dX11_program_192 (by decide) rfl ?_
              dsimp only [List.set]
              refine J_iload_n (pc := 194) C dX11_program_194 rfl rfl ?_
              refine J_if_neN (pc := 195) (tgt := 203) C dX11_program_195 (by decide) (by omega) (fun h195 => absurd h195 (by decide)) (fun _ => ?_)
              refine J_iload (pc := 198) C dX11_program_198 rfl ?_
              refine J_if_lt (pc := 200) (tgt := 213) C dX11_program_200 (by decide) (fun h200 => ?_) (fun h200 => ?_)
              · refine J_aload_n (pc := 213) C dX11_program_213 rfl rfl ?_
                refine J_aload_n (pc := 214) C dX11_program_214 rfl rfl ?_
                refine J_get (pc := 215) C dX11_program_215 f_X11_113 rfl rfl ?_
                try dsimp only
                refine J_callV1 (pc := 218) C dX11_program_218 m_X11_142 (c_bad l G _ _ _ _ _ _ _ _ _ _ _) ⟨jle rfl, jle rfl⟩ rfl rfl rfl rfl rfl (jle rfl) ⟨Nat.zero_le _, Nat.zero_le _⟩ ?_
                try dsimp only
                exact J_zret (pc := 221) C dX11_program_221 rfl (by first | rfl | decide) (mV_f (by first | (rw [if_pos h210]; done) | (rw [if_neg (by intro z; first | exact z.2 h210 | exact z.1 ((lI_neg (x := findF X K D.2.2.2.2.2.2.1 D.2.2.1 0) (by omega)).mp h200))]; done))) (Nat.zero_le _) (Nat.zero_le _)
              · have hfo : findF X K D.2.2.2.2.2.2.1 D.2.2.1 0 ≠ 1000 := fun z => h200 ((lI_neg (by omega)).mpr z)
                rw [lI_n hfo]
                refine J_aload_n (pc := 203) C dX11_program_203 rfl rfl ?_
                refine J_get (pc := 204) C dX11_program_204 f_X11_181 rfl rfl ?_
                try dsimp only
                refine J_sipush (pc := 207) (v := nI 1000) C dX11_program_207 (by decide) ?_
                refine J_icmp_neN (pc := 210) (tgt := 222) C dX11_program_210 (by decide) (by omega) (by omega) (fun h210 => ?_) (fun h210 => ?_)
                · rw [if_pos ⟨hfo, h210⟩]
                  refine J_aload_n (pc := 222) C dX11_program_222 rfl rfl ?_
                  refine J_callV0 (pc := 223) C dX11_program_223 m_X11_145 (c_next l G _ _ _ _ _ _ _ _ _ _ hn hX (by omega)) ⟨jle rfl, jle rfl⟩ rfl rfl rfl rfl rfl (jle rfl) ⟨Nat.zero_le _, Nat.zero_le _⟩ ?_
                  try dsimp only
                  obtain ⟨o, eo⟩ : ∃ z, z = findF X K D.2.2.2.2.2.2.1 D.2.2.1 0 := ⟨_, rfl⟩
                  rw [← eo] at hfo f2
                  rw [show findF X K (mOpN D) D.2.2.1 0 = o from eo.symm]
                  refine J_iload_n (pc := 226) C dX11_program_226 rfl rfl ?_
                  refine J_if_eqN (pc := 227) (tgt := 234) C dX11_program_227 (by decide) (by omega) (fun _ => ?_) (fun h227 => absurd h227 (by decide))
                  refine J_aload_n (pc := 234) C dX11_program_234 rfl rfl ?_
                  refine J_get (pc := 235) C dX11_program_235 f_X11_41 rfl rfl ?_
                  refine J_iload (pc := 238) C dX11_program_238 rfl ?_
                  refine J_ialdN (pc := 240) C dX11_program_240 rfl (by omega) (by decide) ?_
                  try dsimp only
                  refine J_istore (pc := 241) C dX11_program_241 (by decide) rfl ?_
                  dsimp only [List.set]
                  refine J_iconst (pc := 243) (v := nI 0) C dX11_program_243 (by decide) ?_
                  refine J_istore (pc := 244) C dX11_program_244 (by decide) rfl ?_
                  dsimp only [List.set]
                  exact l_vl l G er F X D O T f o _ 0 _ (nextF X K.2.2) P gv _ _ C hn hX (by omega) hdA ih' hG.nx (hP.up hG.g.fr) (by omega) (by have := hG.g.fr; omega) rfl (Nat.zero_add _)
                · refine J_aload_n (pc := 213) C dX11_program_213 rfl rfl ?_
                  refine J_aload_n (pc := 214) C dX11_program_214 rfl rfl ?_
                  refine J_get (pc := 215) C dX11_program_215 f_X11_113 rfl rfl ?_
                  try dsimp only
                  refine J_callV1 (pc := 218) C dX11_program_218 m_X11_142 (c_bad l G _ _ _ _ _ _ _ _ _ _ _) ⟨jle rfl, jle rfl⟩ rfl rfl rfl rfl rfl (jle rfl) ⟨Nat.zero_le _, Nat.zero_le _⟩ ?_
                  try dsimp only
                  exact J_zret (pc := 221) C dX11_program_221 rfl (by first | rfl | decide) (mV_f (by first | (rw [if_pos h210]; done) | (rw [if_neg (by intro z; first | exact z.2 h210 | exact z.1 ((lI_neg (x := findF X K D.2.2.2.2.2.2.1 D.2.2.1 0) (by omega)).mp h200))]; done))) (Nat.zero_le _) (Nat.zero_le _)
            · rw [if_pos (bI_t h93)]
              refine J_aload_n (pc := 96) C dX11_program_96 rfl rfl ?_
              refine J_get (pc := 97) C dX11_program_97 f_X11_184 rfl rfl ?_
              try dsimp only
              refine J_bipush (pc := 100) (v := nI 60) C dX11_program_100 (by decide) ?_
              refine J_icmp_eqN (pc := 102) (tgt := 120) C dX11_program_102 (by decide) (by omega) (by omega) (fun h102 => ?_) (fun h102 => ?_)
              · refine J_aload_n (pc := 120) C dX11_program_120 rfl rfl ?_
                refine J_aload_n (pc := 121) C dX11_program_121 rfl rfl ?_
                refine J_get (pc := 122) C dX11_program_122 f_X11_113 rfl rfl ?_
                try dsimp only
                refine J_callV1 (pc := 125) C dX11_program_125 m_X11_142 (c_bad l G _ _ _ _ _ _ _ _ _ _ _) ⟨jle rfl, jle rfl⟩ rfl rfl rfl rfl rfl (jle rfl) ⟨Nat.zero_le _, Nat.zero_le _⟩ ?_
                try dsimp only
                exact J_zret (pc := 128) C dX11_program_128 rfl (by first | rfl | decide) (mV_f (by rw [if_neg (by intro z; first | exact z.1 h102 | exact h117 ((lI_neg (by omega)).mpr z.2))])) (Nat.zero_le _) (Nat.zero_le _)
              · refine J_aload_n (pc := 105) C dX11_program_105 rfl rfl ?_
                refine J_aload_n (pc := 106) C dX11_program_106 rfl rfl ?_
                refine J_get (pc := 107) C dX11_program_107 f_X11_35 rfl rfl ?_
                refine J_aload_n (pc := 110) C dX11_program_110 rfl rfl ?_
                refine J_get (pc := 111) C dX11_program_111 f_X11_184 rfl rfl ?_
                try dsimp only
                refine J_callV1 (pc := 114) C dX11_program_114 m_X11_211 (c_find l G _ _ _ _ _ _ _ _ _ _ _ hn hX rfl (by decide) hP.2.2.2.1 k0 (by omega) (by omega)) ⟨jle rfl, jle rfl⟩ rfl rfl rfl rfl rfl (jle rfl) ⟨Nat.zero_le _, Nat.zero_le _⟩ ?_
                try dsimp only
                refine J_if_lt (pc := 117) (tgt := 129) C dX11_program_117 (by decide) (fun h117 => ?_) (fun h117 => ?_)
                · have hfd : findF X K P.2.2.2.1 P.2.1 0 = 1000 := (lI_neg (by omega)).mp h117
                  rw [if_pos ⟨h102, hfd⟩]
                  refine J_aload_n (pc := 129) C dX11_program_129 rfl rfl ?_
                  refine J_aload_n (pc := 130) C dX11_program_130 rfl rfl ?_
                  refine J_get (pc := 131) C dX11_program_131 f_X11_35 rfl rfl ?_
                  refine J_aload_n (pc := 134) C dX11_program_134 rfl rfl ?_
                  refine J_get (pc := 135) C dX11_program_135 f_X11_184 rfl rfl ?_
                  try dsimp only
                  refine J_callV0 (pc := 138) C dX11_program_138 m_X11_215 (c_keep l G _ _ _ _ _ (fun _ => D) (fun f => (P.1, P.2.1, P.2.2.1, f, P.2.2.2.2)) _ _ _ P.2.2.2.1 P.2.1 hn hX (fun _ => rfl) (fun f g => (uM_labelName g).trans rfl) (by decide) k0 (by omega) (by omega)) ⟨jle rfl, jle rfl⟩ rfl rfl rfl rfl rfl (jle rfl) ⟨Nat.zero_le _, Nat.zero_le _⟩ ?_
                  try dsimp only
                  refine J_aload_n (pc := 141) C dX11_program_141 rfl rfl ?_
                  refine J_get (pc := 142) C dX11_program_142 f_X11_38 rfl rfl ?_
                  refine J_aload_n (pc := 145) C dX11_program_145 rfl rfl ?_
                  refine J_dup (pc := 146) C dX11_program_146 rfl ?_
                  refine J_get (pc := 147) C dX11_program_147 f_X11_184 rfl rfl ?_
                  try dsimp only
                  refine J_dup_x1 (pc := 150) C dX11_program_150 rfl rfl ?_
                  refine J_iconst (pc := 151) (v := nI 1) C dX11_program_151 (by decide) ?_
                  refine J_iaddN (pc := 152) C dX11_program_152 ?_
                  refine J_putU (pc := 153) C dX11_program_153 p_X11_184 rfl (jlt rfl) rfl rfl (uM_labels _) ?_
                  try dsimp only
                  refine J_aload_n (pc := 156) C dX11_program_156 rfl rfl ?_
                  refine J_get (pc := 157) C dX11_program_157 f_X11_181 rfl rfl ?_
                  try dsimp only
                  refine J_iastN (pc := 160) C dX11_program_160 rfl (by omega) (by decide) (uM_labelPlace _) ?_
                  refine J_aload_n (pc := 161) C dX11_program_161 rfl rfl ?_
                  refine J_callV0 (pc := 162) C dX11_program_162 m_X11_145 (c_next l G _ _ _ _ _ _ _ _ _ _ hn hX (by omega)) ⟨jle rfl, jle rfl⟩ rfl rfl rfl rfl rfl (jle rfl) ⟨Nat.zero_le _, Nat.zero_le _⟩ ?_
                  try dsimp only
                  have hq9 := hG.nx.g.1.2.1
                  refine J_aload_n (pc := 165) C dX11_program_165 rfl rfl ?_
                  refine J_callV0 (pc := 166) C dX11_program_166 m_X11_145 (c_next l G _ _ _ _ _ _ _ _ _ _ hn hX (by omega)) ⟨jle rfl, jle rfl⟩ rfl rfl rfl rfl rfl (jle rfl) ⟨Nat.zero_le _, Nat.zero_le _⟩ ?_
                  try dsimp only
                  refine J_goto (pc := 169) (tgt := 0) C dX11_program_169 (by decide) ?_
                  have hlt := hG.g.lt h4
                  have hfr := hG.nx.g.fr
                  have hlx := hG.nx.nx.g.lx
                  exact ih (nextF X (nextF X K.2.2).2.2) (labP X K P) gv _ _ _ _ _ _ hG.nx.nx ((pI_lab hX hP h102).up (Nat.le_trans hG.g.fr hfr)) (by omega)
                · refine J_aload_n (pc := 120) C dX11_program_120 rfl rfl ?_
                  refine J_aload_n (pc := 121) C dX11_program_121 rfl rfl ?_
                  refine J_get (pc := 122) C dX11_program_122 f_X11_113 rfl rfl ?_
                  try dsimp only
                  refine J_callV1 (pc := 125) C dX11_program_125 m_X11_142 (c_bad l G _ _ _ _ _ _ _ _ _ _ _) ⟨jle rfl, jle rfl⟩ rfl rfl rfl rfl rfl (jle rfl) ⟨Nat.zero_le _, Nat.zero_le _⟩ ?_
                  try dsimp only
                  exact J_zret (pc := 128) C dX11_program_128 rfl (by first | rfl | decide) (mV_f (by rw [if_neg (by intro z; first | exact z.1 h102 | exact h117 ((lI_neg (by omega)).mpr z.2))])) (Nat.zero_le _) (Nat.zero_le _)
          · refine J_aload_n (pc := 41) C dX11_program_41 rfl rfl ?_
            refine J_aload_n (pc := 42) C dX11_program_42 rfl rfl ?_
            refine J_get (pc := 43) C dX11_program_43 f_X11_113 rfl rfl ?_
            try dsimp only
            refine J_callV1 (pc := 46) C dX11_program_46 m_X11_142 (c_bad l G _ _ _ _ _ _ _ _ _ _ _) ⟨jle rfl, jle rfl⟩ rfl rfl rfl rfl rfl (jle rfl) ⟨Nat.zero_le _, Nat.zero_le _⟩ ?_
            try dsimp only
            exact J_zret (pc := 49) C dX11_program_49 rfl (by first | rfl | decide) (mV_f (by rw [if_neg (by rw [bI_f h38]; decide)])) (Nat.zero_le _) (Nat.zero_le _)
        · have hpl : K.1 = 1 ∧ isW X K [119, 111, 114, 100] = true := ⟨h12, bI_t h21⟩
          rw [if_neg h4, if_pos hpl]
          refine J_iconst (pc := 24) (v := nI 1) C dX11_program_24 (by decide) ?_
          refine J_goto (pc := 25) (tgt := 29) C dX11_program_25 (by decide) ?_
          refine J_istore_n (pc := 29) C dX11_program_29 rfl (by decide) rfl ?_
          dsimp only [List.set]
          refine J_iload_n (pc := 30) C dX11_program_30 rfl rfl ?_
          refine J_if_neN (pc := 31) (tgt := 50) C dX11_program_31 (by decide) (by omega) (fun _ => ?_) (fun h31 => absurd h31 (by decide))
          refine J_aload_n (pc := 50) C dX11_program_50 rfl rfl ?_
          refine J_get (pc := 51) C dX11_program_51 f_X11_113 rfl rfl ?_
          try dsimp only
          refine J_istore_n (pc := 54) C dX11_program_54 rfl (by decide) rfl ?_
          dsimp only [List.set]
          refine J_aload_n (pc := 55) C dX11_program_55 rfl rfl ?_
          refine J_get (pc := 56) C dX11_program_56 f_X11_110 rfl rfl ?_
          try dsimp only
          refine J_istore_n (pc := 59) C dX11_program_59 rfl (by decide) rfl ?_
          dsimp only [List.set]
          refine J_iload_n (pc := 60) C dX11_program_60 rfl rfl ?_
          refine J_if_neN (pc := 61) (tgt := 172) C dX11_program_61 (by decide) (by omega) (fun _ => ?_) (fun h61 => absurd h61 (by decide))
          refine J_iload_n (pc := 172) C dX11_program_172 rfl rfl ?_
          refine J_if_eqN (pc := 173) (tgt := 180) C dX11_program_173 (by decide) (by omega) (fun h173 => absurd h173 (by decide)) (fun _ => ?_)
          refine J_iconst (pc := 176) (v := -1) C dX11_program_176 (by decide) ?_
          refine J_goto (pc := 177) (tgt := 192) C dX11_program_177 (by decide) ?_
          refine J_istore (pc := 192) C dX11_program_192 (by decide) rfl ?_
          dsimp only [List.set]
          refine J_iload_n (pc := 194) C dX11_program_194 rfl rfl ?_
          refine J_if_neN (pc := 195) (tgt := 203) C dX11_program_195 (by decide) (by omega) (fun _ => ?_) (fun h195 => absurd h195 (by decide))
          refine J_aload_n (pc := 203) C dX11_program_203 rfl rfl ?_
          refine J_get (pc := 204) C dX11_program_204 f_X11_181 rfl rfl ?_
          try dsimp only
          refine J_sipush (pc := 207) (v := nI 1000) C dX11_program_207 (by decide) ?_
          refine J_icmp_neN (pc := 210) (tgt := 222) C dX11_program_210 (by decide) (by omega) (by omega) (fun h210 => ?_) (fun h210 => ?_)
          · rw [if_neg h210]
            refine J_aload_n (pc := 222) C dX11_program_222 rfl rfl ?_
            refine J_callV0 (pc := 223) C dX11_program_223 m_X11_145 (c_next l G _ _ _ _ _ _ _ _ _ _ hn hX (by omega)) ⟨jle rfl, jle rfl⟩ rfl rfl rfl rfl rfl (jle rfl) ⟨Nat.zero_le _, Nat.zero_le _⟩ ?_
            try dsimp only
            have hG1 := hG.nx
            have g := nb1_G (gv := gv) (k := 0) (ok := okP D.1) hG1 (hP.up hG.g.fr)
            have c9 := c_value_p l G er F X (nextF X K.2.2) D P gv O T hn hX hG1 hdA.2.1
            have gl := g.1.g.lx
            have gf := hG.g.fr
            have glt := hG.g.lt h4
            obtain ⟨r, er9⟩ : ∃ r, r = nb1 X (nextF X K.2.2) (okP D.1) P gv 0 := ⟨_, rfl⟩
            rw [← er9] at g c9 gl ⊢
            have g2 := g.2.1
            refine J_iload_n (pc := 226) C dX11_program_226 rfl rfl ?_
            refine J_if_eqN (pc := 227) (tgt := 234) C dX11_program_227 (by decide) (by omega) (fun h227 => absurd h227 (by decide)) (fun _ => ?_)
            refine J_iconst (pc := 230) (v := nI 1) C dX11_program_230 (by decide) ?_
            refine J_goto (pc := 231) (tgt := 241) C dX11_program_231 (by decide) ?_
            refine J_istore (pc := 241) C dX11_program_241 (by decide) rfl ?_
            dsimp only [List.set]
            refine J_iconst (pc := 243) (v := nI 0) C dX11_program_243 (by decide) ?_
            refine J_istore (pc := 244) C dX11_program_244 (by decide) rfl ?_
            dsimp only [List.set]
            refine J_iload (pc := 246) C dX11_program_246 rfl ?_
            refine J_iload (pc := 248) C dX11_program_248 rfl ?_
            refine J_icmp_geN (pc := 250) (tgt := 288) C dX11_program_250 (by decide) (by omega) (by omega) (fun h250 => absurd h250 (by decide)) (fun _ => ?_)
            refine J_iload (pc := 253) C dX11_program_253 rfl ?_
            refine J_if_le (pc := 255) (tgt := 269) C dX11_program_255 (by decide) (fun h255 => ?_) (fun h255 => ?_)
            · refine J_aload_n (pc := 269) C dX11_program_269 rfl rfl ?_
              refine J_iload (pc := 270) C dX11_program_270 rfl ?_
              refine J_iload (pc := 272) C dX11_program_272 rfl ?_
              refine J_callV1 (pc := 274) C dX11_program_274 m_X11_241 (c9) ⟨jle rfl, jle rfl⟩ rfl rfl rfl rfl rfl (jle rfl) ⟨Nat.zero_le _, Nat.zero_le _⟩ ?_
              try dsimp only
              refine J_if_ne (pc := 277) (tgt := 282) C dX11_program_277 (by decide) (fun h277 => ?_) (fun h277 => ?_)
              · refine J_iincN (pc := 282) C dX11_program_282 rfl (by decide) rfl ?_
                dsimp only [List.set]
                refine J_goto (pc := 285) (tgt := 246) C dX11_program_285 (by decide) ?_
                refine J_iload (pc := 246) C dX11_program_246 rfl ?_
                refine J_iload (pc := 248) C dX11_program_248 rfl ?_
                refine J_icmp_geN (pc := 250) (tgt := 288) C dX11_program_250 (by decide) (by omega) (by omega) (fun h250 => ?_) (fun h250 => ?_)
                · have hz := isN_t h277
                  rw [vB_n hz, hz]
                  exact l_pgEp l G er F X D O T f _ r.2.1 r.2.2.1 r.2.2.2 _ _ _ _ C hn hX ih' g.1 g.2.2.1 (by rw [g.2.2.2.1]; omega) (by omega)
                · omega
              · refine J_iconst (pc := 280) (v := nI 0) C dX11_program_280 (by decide) ?_
                exact J_zret (pc := 281) C dX11_program_281 rfl (by first | rfl | decide) (mV_e (vB_e (isN_f h277)) (isN_f h277)) (Nat.zero_le _) (Nat.zero_le _)
            · exact absurd (by decide) h255
          · refine J_aload_n (pc := 213) C dX11_program_213 rfl rfl ?_
            refine J_aload_n (pc := 214) C dX11_program_214 rfl rfl ?_
            refine J_get (pc := 215) C dX11_program_215 f_X11_113 rfl rfl ?_
            try dsimp only
            refine J_callV1 (pc := 218) C dX11_program_218 m_X11_142 (c_bad l G _ _ _ _ _ _ _ _ _ _ _) ⟨jle rfl, jle rfl⟩ rfl rfl rfl rfl rfl (jle rfl) ⟨Nat.zero_le _, Nat.zero_le _⟩ ?_
            try dsimp only
            exact J_zret (pc := 221) C dX11_program_221 rfl (by first | rfl | decide) (mV_f (by first | (rw [if_pos h210]; done) | (rw [if_neg (by intro z; first | exact z.2 h210 | exact z.1 ((lI_neg (x := findF X K D.2.2.2.2.2.2.1 D.2.2.1 0) (by omega)).mp h200))]; done))) (Nat.zero_le _) (Nat.zero_le _)
set_option maxHeartbeats 4000000 in
set_option maxRecDepth 100000 in
theorem c_program (l : Launch) (G : jG) (er : Nat) (F X : Nat × (Nat → Nat)) (K : Nat × Nat × Nat) (D : mD) (P : mP) (gv : Nat → Int64) (O : Nat × (Nat → Nat)) (T : jMem) (hn : X.1 ≤ 4000) (hX : ∀ k, X.2 k < 256) (hdA : dA D) (hG : tkN X K) (hP : pI X D K.2.1 P) : jC l G yX11_program cX11_program 7 (some .boolean) 10 209 0 0 [.ref 1000] (encM er F X K (-1) D P gv O T) (.inl (some (.int (bI (pgL X D (X.1 + 1) K P gv).1.isNone)), encM er F X (pgL X D (X.1 + 1) K P gv).2.1 (wrI (pgL X D (X.1 + 1) K P gv).1) D (pgL X D (X.1 + 1) K P gv).2.2.1 (pgL X D (X.1 + 1) K P gv).2.2.2 O T)) := by
  refine jC.of (by decide) 6 rfl [some (.ref 1000), none, none, none, none, none, none] rfl (fun p e s m args below meth c C hT9 hNm9 => ?_)
  exact l_pg l G er F X D O T (X.1 + 1) K P gv _ _ _ _ _ _ C hn hX hdA hG hP (by omega)
