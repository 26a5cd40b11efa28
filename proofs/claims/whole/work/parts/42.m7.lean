set_option maxHeartbeats 4000000 in
set_option maxRecDepth 100000 in
theorem l_apk (l : Launch) (G : jG) {p : Program} {e : Env} {s : State} {m : MethodId} {args : Array Value} {below : List Frame} {meth : Method} {c : Code} (er : Nat) (F X : Nat × (Nat → Nat)) (K : Nat × Nat × Nat) (D : mD) (P : mP) (gv : Nat → Int64) (O : Nat × (Nat → Nat)) (T : jMem) {ou : jO} (a9 o n j k : Nat) (ap : Bool) (C : jX0 p l (jR 10 208 0 0) s m args meth c G cX11_op 7 RX11 (some .boolean)) (ho : o < 60) (hj : j < 60) (hw9 : D.1 ≤ 32) (hk : k ≤ D.1) (kk : J p l e (jR 10 208 0 0) s m args below meth c G 7 0 0 (ou) 346 [some (.ref 1000), some (.int (nI a9)), some (.int (nI o)), some (.int (nI n)), some (.int (nI j)), some (.int (bI (ap || anyF (apF D.2.2.2.2.2.2.2.2.2.2.2.2 o j) D.1 k))), some (.int (nI D.1))] [] (encM er F X K (-1) D P gv O T) 0 0) : J p l e (jR 10 208 0 0) s m args below meth c G 7 0 0 (ou) 262 [some (.ref 1000), some (.int (nI a9)), some (.int (nI o)), some (.int (nI n)), some (.int (nI j)), some (.int (bI ap)), some (.int (nI k))] [] (encM er F X K (-1) D P gv O T) 0 0 := by
  induction hm : D.1 - k generalizing k ap with
  | zero =>
    have h9 : k = D.1 := by omega
    have h1 : anyF (apF D.2.2.2.2.2.2.2.2.2.2.2.2 o j) D.1 k = false := by rw [anyF, if_neg (by omega)]
    rw [h1, Bool.or_false] at kk
    subst h9
    refine J_iload (pc := 262) C dX11_op_262 rfl ?_
    refine J_aload_n (pc := 264) C dX11_op_264 rfl rfl ?_
    refine J_get (pc := 265) C dX11_op_265 f_X11_196 rfl rfl ?_
    try dsimp only
    refine J_icmp_geN (pc := 268) (tgt := 346) C dX11_op_268 (by decide) (by omega) (by omega) (fun h268 => ?_) (fun h268 => ?_)
    · exact kk
    · omega
  | succ d ih =>
    have h1 : anyF (apF D.2.2.2.2.2.2.2.2.2.2.2.2 o j) D.1 k = (apF D.2.2.2.2.2.2.2.2.2.2.2.2 o j k || anyF (apF D.2.2.2.2.2.2.2.2.2.2.2.2 o j) D.1 (k + 1)) := by
      conv => lhs; rw [anyF]
      rw [if_pos (by omega)]
    rw [h1, ← Bool.or_assoc] at kk
    refine J_iload (pc := 262) C dX11_op_262 rfl ?_
    refine J_aload_n (pc := 264) C dX11_op_264 rfl rfl ?_
    refine J_get (pc := 265) C dX11_op_265 f_X11_196 rfl rfl ?_
    try dsimp only
    refine J_icmp_geN (pc := 268) (tgt := 346) C dX11_op_268 (by decide) (by omega) (by omega) (fun h268 => ?_) (fun h268 => ?_)
    · omega
    · refine J_iload (pc := 271) C dX11_op_271 rfl ?_
      refine J_aload_n (pc := 273) C dX11_op_273 rfl rfl ?_
      refine J_get (pc := 274) C dX11_op_274 f_X11_53 rfl rfl ?_
      refine J_bipush (pc := 277) (v := nI 32) C dX11_op_277 (by decide) ?_
      refine J_iload_n (pc := 279) C dX11_op_279 rfl rfl ?_
      refine J_imulN (pc := 280) C dX11_op_280 ?_
      refine J_iload (pc := 281) C dX11_op_281 rfl ?_
      refine J_iaddN (pc := 283) C dX11_op_283 ?_
      refine J_ialdR (pc := 284) C dX11_op_284 rfl (by omega) (by decide) ?_
      try dsimp only
      refine J_if_ge (pc := 285) (tgt := 336) C dX11_op_285 (by decide) (fun h285 => ?_) (fun h285 => ?_)
      · refine J_iconst (pc := 336) (v := 0) C dX11_op_336 (by decide) ?_
        refine J_ior (pc := 337) C dX11_op_337 ?_
        refine J_istore (pc := 338) C dX11_op_338 (by decide) rfl ?_
        dsimp only [List.set]
        refine J_iincN (pc := 340) C dX11_op_340 rfl (by decide) rfl ?_
        dsimp only [List.set]
        refine J_goto (pc := 343) (tgt := 262) C dX11_op_343 (by decide) ?_
        first
          | (have h2 : apF D.2.2.2.2.2.2.2.2.2.2.2.2 o j k = false := by
               unfold apF
               first | simp [Int32.not_lt.mpr h285] | simp [Int32.not_lt.mpr h301] | simp [h329]
             rw [h2, Bool.or_false] at kk
             rw [bI_or0]
             exact ih (k + 1) _ (by omega) kk (by omega))
          | (have h2 : apF D.2.2.2.2.2.2.2.2.2.2.2.2 o j k = true := by
               unfold apF
               simp [Int32.not_le.mp h285, Int32.not_le.mp h301, h329]
             rw [h2, Bool.or_true] at kk
             rw [bI_or1]
             exact ih (k + 1) true (by omega) (by rw [Bool.true_or]; exact kk) (by omega))
      · refine J_aload_n (pc := 288) C dX11_op_288 rfl rfl ?_
        refine J_get (pc := 289) C dX11_op_289 f_X11_53 rfl rfl ?_
        refine J_bipush (pc := 292) (v := nI 32) C dX11_op_292 (by decide) ?_
        refine J_iload (pc := 294) C dX11_op_294 rfl ?_
        refine J_imulN (pc := 296) C dX11_op_296 ?_
        refine J_iload (pc := 297) C dX11_op_297 rfl ?_
        refine J_iaddN (pc := 299) C dX11_op_299 ?_
        refine J_ialdR (pc := 300) C dX11_op_300 rfl (by omega) (by decide) ?_
        try dsimp only
        refine J_if_ge (pc := 301) (tgt := 336) C dX11_op_301 (by decide) (fun h301 => ?_) (fun h301 => ?_)
        · refine J_iconst (pc := 336) (v := 0) C dX11_op_336 (by decide) ?_
          refine J_ior (pc := 337) C dX11_op_337 ?_
          refine J_istore (pc := 338) C dX11_op_338 (by decide) rfl ?_
          dsimp only [List.set]
          refine J_iincN (pc := 340) C dX11_op_340 rfl (by decide) rfl ?_
          dsimp only [List.set]
          refine J_goto (pc := 343) (tgt := 262) C dX11_op_343 (by decide) ?_
          first
            | (have h2 : apF D.2.2.2.2.2.2.2.2.2.2.2.2 o j k = false := by
                 unfold apF
                 first | simp [Int32.not_lt.mpr h285] | simp [Int32.not_lt.mpr h301] | simp [h329]
               rw [h2, Bool.or_false] at kk
               rw [bI_or0]
               exact ih (k + 1) _ (by omega) kk (by omega))
            | (have h2 : apF D.2.2.2.2.2.2.2.2.2.2.2.2 o j k = true := by
                 unfold apF
                 simp [Int32.not_le.mp h285, Int32.not_le.mp h301, h329]
               rw [h2, Bool.or_true] at kk
               rw [bI_or1]
               exact ih (k + 1) true (by omega) (by rw [Bool.true_or]; exact kk) (by omega))
        · refine J_aload_n (pc := 304) C dX11_op_304 rfl rfl ?_
          refine J_get (pc := 305) C dX11_op_305 f_X11_53 rfl rfl ?_
          refine J_bipush (pc := 308) (v := nI 32) C dX11_op_308 (by decide) ?_
          refine J_iload_n (pc := 310) C dX11_op_310 rfl rfl ?_
          refine J_imulN (pc := 311) C dX11_op_311 ?_
          refine J_iload (pc := 312) C dX11_op_312 rfl ?_
          refine J_iaddN (pc := 314) C dX11_op_314 ?_
          refine J_ialdR (pc := 315) C dX11_op_315 rfl (by omega) (by decide) ?_
          try dsimp only
          refine J_aload_n (pc := 316) C dX11_op_316 rfl rfl ?_
          refine J_get (pc := 317) C dX11_op_317 f_X11_53 rfl rfl ?_
          refine J_bipush (pc := 320) (v := nI 32) C dX11_op_320 (by decide) ?_
          refine J_iload (pc := 322) C dX11_op_322 rfl ?_
          refine J_imulN (pc := 324) C dX11_op_324 ?_
          refine J_iload (pc := 325) C dX11_op_325 rfl ?_
          refine J_iaddN (pc := 327) C dX11_op_327 ?_
          refine J_ialdR (pc := 328) C dX11_op_328 rfl (by omega) (by decide) ?_
          try dsimp only
          refine J_icmp_eq (pc := 329) (tgt := 336) C dX11_op_329 (by decide) (fun h329 => ?_) (fun h329 => ?_)
          · refine J_iconst (pc := 336) (v := 0) C dX11_op_336 (by decide) ?_
            refine J_ior (pc := 337) C dX11_op_337 ?_
            refine J_istore (pc := 338) C dX11_op_338 (by decide) rfl ?_
            dsimp only [List.set]
            refine J_iincN (pc := 340) C dX11_op_340 rfl (by decide) rfl ?_
            dsimp only [List.set]
            refine J_goto (pc := 343) (tgt := 262) C dX11_op_343 (by decide) ?_
            first
              | (have h2 : apF D.2.2.2.2.2.2.2.2.2.2.2.2 o j k = false := by
                   unfold apF
                   first | simp [Int32.not_lt.mpr h285] | simp [Int32.not_lt.mpr h301] | simp [h329]
                 rw [h2, Bool.or_false] at kk
                 rw [bI_or0]
                 exact ih (k + 1) _ (by omega) kk (by omega))
              | (have h2 : apF D.2.2.2.2.2.2.2.2.2.2.2.2 o j k = true := by
                   unfold apF
                   simp [Int32.not_le.mp h285, Int32.not_le.mp h301, h329]
                 rw [h2, Bool.or_true] at kk
                 rw [bI_or1]
                 exact ih (k + 1) true (by omega) (by rw [Bool.true_or]; exact kk) (by omega))
          · refine J_iconst (pc := 332) (v := 1) C dX11_op_332 (by decide) ?_
            refine J_goto (pc := 333) (tgt := 337) C dX11_op_333 (by decide) ?_
            refine J_ior (pc := 337) C dX11_op_337 ?_
            refine J_istore (pc := 338) C dX11_op_338 (by decide) rfl ?_
            dsimp only [List.set]
            refine J_iincN (pc := 340) C dX11_op_340 rfl (by decide) rfl ?_
            dsimp only [List.set]
            refine J_goto (pc := 343) (tgt := 262) C dX11_op_343 (by decide) ?_
            first
              | (have h2 : apF D.2.2.2.2.2.2.2.2.2.2.2.2 o j k = false := by
                   unfold apF
                   first | simp [Int32.not_lt.mpr h285] | simp [Int32.not_lt.mpr h301] | simp [h329]
                 rw [h2, Bool.or_false] at kk
                 rw [bI_or0]
                 exact ih (k + 1) _ (by omega) kk (by omega))
              | (have h2 : apF D.2.2.2.2.2.2.2.2.2.2.2.2 o j k = true := by
                   unfold apF
                   simp [Int32.not_le.mp h285, Int32.not_le.mp h301, h329]
                 rw [h2, Bool.or_true] at kk
                 rw [bI_or1]
                 exact ih (k + 1) true (by omega) (by rw [Bool.true_or]; exact kk) (by omega))
set_option maxHeartbeats 4000000 in
set_option maxRecDepth 100000 in
theorem l_ap (l : Launch) (G : jG) {p : Program} {e : Env} {s : State} {m : MethodId} {args : Array Value} {below : List Frame} {meth : Method} {c : Code} (er : Nat) (F X : Nat × (Nat → Nat)) (K : Nat × Nat × Nat) (D : mD) (P : mP) (gv : Nat → Int64) (O : Nat × (Nat → Nat)) (T : jMem) {ou : jO} (a9 o n j : Nat) (v5 v6 : Option Value) (C : jX0 p l (jR 10 208 0 0) s m args meth c G cX11_op 7 RX11 (some .boolean)) (ho : o < 60) (hw9 : D.1 ≤ 32) (hj : j ≤ o) (hf : allF (fun j => anyF (apF (mWhat D) o j) D.1 0) o j = false → ou = .inl (some (.int (nI 0)), encM er F X K (badW (-1) a9) D P gv O T)) (kk : allF (fun j => anyF (apF (mWhat D) o j) D.1 0) o j = true → ∀ v5 v6, J p l e (jR 10 208 0 0) s m args below meth c G 7 0 0 (ou) 363 [some (.ref 1000), some (.int (nI a9)), some (.int (nI o)), some (.int (nI n)), some (.int (nI o)), v5, v6] [] (encM er F X K (-1) D P gv O T) 0 0) : J p l e (jR 10 208 0 0) s m args below meth c G 7 0 0 (ou) 250 [some (.ref 1000), some (.int (nI a9)), some (.int (nI o)), some (.int (nI n)), some (.int (nI j)), v5, v6] [] (encM er F X K (-1) D P gv O T) 0 0 := by
  induction hm : o - j generalizing j v5 v6 with
  | zero =>
    have h9 : j = o := by omega
    have h1 : allF (fun j => anyF (apF (mWhat D) o j) D.1 0) o j = true := by rw [allF, if_neg (by omega)]
    have k1 := kk h1
    subst h9
    refine J_iload (pc := 250) C dX11_op_250 rfl ?_
    refine J_iload_n (pc := 252) C dX11_op_252 rfl rfl ?_
    refine J_icmp_geN (pc := 253) (tgt := 363) C dX11_op_253 (by decide) (by omega) (by omega) (fun h253 => ?_) (fun h253 => ?_)
    · exact k1 _ _
    · omega
  | succ d ih =>
    have h1 : allF (fun j => anyF (apF (mWhat D) o j) D.1 0) o j = (anyF (apF (mWhat D) o j) D.1 0 && allF (fun j => anyF (apF (mWhat D) o j) D.1 0) o (j + 1)) := by
      conv => lhs; rw [allF]
      rw [if_pos (by omega)]
    rw [h1] at hf kk
    refine J_iload (pc := 250) C dX11_op_250 rfl ?_
    refine J_iload_n (pc := 252) C dX11_op_252 rfl rfl ?_
    refine J_icmp_geN (pc := 253) (tgt := 363) C dX11_op_253 (by decide) (by omega) (by omega) (fun h253 => ?_) (fun h253 => ?_)
    · omega
    · refine J_iconst (pc := 256) (v := nI 0) C dX11_op_256 (by decide) ?_
      refine J_istore (pc := 257) C dX11_op_257 (by decide) rfl ?_
      dsimp only [List.set]
      refine J_iconst (pc := 259) (v := nI 0) C dX11_op_259 (by decide) ?_
      refine J_istore (pc := 260) C dX11_op_260 (by decide) rfl ?_
      dsimp only [List.set]
      refine l_apk l G er F X K D P gv O T a9 o n j 0 false C ho (by omega) hw9 (Nat.zero_le _) ?_
      refine J_iload (pc := 346) C dX11_op_346 rfl ?_
      refine J_if_ne (pc := 348) (tgt := 357) C dX11_op_348 (by decide) (fun h348 => ?_) (fun h348 => ?_)
      · refine J_iincN (pc := 357) C dX11_op_357 rfl (by decide) rfl ?_
        dsimp only [List.set]
        refine J_goto (pc := 360) (tgt := 250) C dX11_op_360 (by decide) ?_
        have h2 : anyF (apF (mWhat D) o j) D.1 0 = true := by rw [Bool.false_or] at h348; exact bI_t h348
        rw [h2, Bool.true_and] at hf kk
        exact ih (j + 1) _ _ (by omega) hf kk (by omega)
      · refine J_aload_n (pc := 351) C dX11_op_351 rfl rfl ?_
        refine J_iload_n (pc := 352) C dX11_op_352 rfl rfl ?_
        refine J_callV1 (pc := 353) C dX11_op_353 m_X11_142 (c_bad l G _ _ _ _ _ _ _ _ _ _ _) ⟨jle rfl, jle rfl⟩ rfl rfl rfl rfl rfl (jle rfl) ⟨Nat.zero_le _, Nat.zero_le _⟩ ?_
        try dsimp only
        exact J_zret (pc := 356) C dX11_op_356 rfl (by first | rfl | decide) (hf (by rw [Bool.false_or] at h348; rw [show anyF (apF (mWhat D) o j) D.1 0 = false from bI_f h348]; rfl)) (Nat.zero_le _) (Nat.zero_le _)
set_option maxHeartbeats 4000000 in
set_option maxRecDepth 100000 in
theorem l_stb (l : Launch) (G : jG) {p : Program} {e : Env} {s : State} {m : MethodId} {args : Array Value} {below : List Frame} {meth : Method} {c : Code} (er : Nat) (F X : Nat × (Nat → Nat)) (K : Nat × Nat × Nat) (D : mD) (P : mP) (gv : Nat → Int64) (O : Nat × (Nat → Nat)) (T : jMem) {ou : jO} (a9 o n k b bt : Nat) (v6 : Option Value) (C : jX0 p l (jR 10 208 0 0) s m args meth c G cX11_op 7 RX11 (some .boolean)) (ho : o < 60) (hn9 : n ≤ 32) (hk : k < 6) (hbt : D.2.2.2.2.2.2.2.2.2.2.1 (6 * o + k) = nI bt) (hb2 : bt ≤ 32) (hb : b ≤ bt) (hf : allF (fun b => standsF (mWhat D) o n (32 * k + b) 0) bt b = false → ou = .inl (some (.int (nI 0)), encM er F X K (badW (-1) K.2.1) D P gv O T)) (kk : allF (fun b => standsF (mWhat D) o n (32 * k + b) 0) bt b = true → J p l e (jR 10 208 0 0) s m args below meth c G 7 0 0 (ou) 241 [some (.ref 1000), some (.int (nI a9)), some (.int (nI o)), some (.int (nI n)), some (.int (nI k)), some (.int (nI bt)), v6] [] (encM er F X K (-1) D P gv O T) 0 0) : J p l e (jR 10 208 0 0) s m args below meth c G 7 0 0 (ou) 192 [some (.ref 1000), some (.int (nI a9)), some (.int (nI o)), some (.int (nI n)), some (.int (nI k)), some (.int (nI b)), v6] [] (encM er F X K (-1) D P gv O T) 0 0 := by
  induction hm : bt - b generalizing b with
  | zero =>
    have h9 : b = bt := by omega
    have h1 : allF (fun b => standsF (mWhat D) o n (32 * k + b) 0) bt b = true := by rw [allF, if_neg (by omega)]
    have k1 := kk h1
    subst h9
    refine J_iload (pc := 192) C dX11_op_192 rfl ?_
    refine J_aload_n (pc := 194) C dX11_op_194 rfl rfl ?_
    refine J_get (pc := 195) C dX11_op_195 f_X11_47 rfl rfl ?_
    refine J_bipush (pc := 198) (v := nI 6) C dX11_op_198 (by decide) ?_
    refine J_iload_n (pc := 200) C dX11_op_200 rfl rfl ?_
    refine J_imulN (pc := 201) C dX11_op_201 ?_
    refine J_iload (pc := 202) C dX11_op_202 rfl ?_
    refine J_iaddN (pc := 204) C dX11_op_204 ?_
    refine J_ialdR (pc := 205) C dX11_op_205 rfl (by omega) (by decide) ?_
    try dsimp only
    rw [hbt]
    refine J_icmp_geN (pc := 206) (tgt := 241) C dX11_op_206 (by decide) (by omega) (by omega) (fun h206 => ?_) (fun h206 => ?_)
    · exact k1
    · omega
  | succ d ih =>
    have h1 : allF (fun b => standsF (mWhat D) o n (32 * k + b) 0) bt b = (standsF (mWhat D) o n (32 * k + b) 0 && allF (fun b => standsF (mWhat D) o n (32 * k + b) 0) bt (b + 1)) := by
      conv => lhs; rw [allF]
      rw [if_pos (by omega)]
    rw [h1] at hf kk
    refine J_iload (pc := 192) C dX11_op_192 rfl ?_
    refine J_aload_n (pc := 194) C dX11_op_194 rfl rfl ?_
    refine J_get (pc := 195) C dX11_op_195 f_X11_47 rfl rfl ?_
    refine J_bipush (pc := 198) (v := nI 6) C dX11_op_198 (by decide) ?_
    refine J_iload_n (pc := 200) C dX11_op_200 rfl rfl ?_
    refine J_imulN (pc := 201) C dX11_op_201 ?_
    refine J_iload (pc := 202) C dX11_op_202 rfl ?_
    refine J_iaddN (pc := 204) C dX11_op_204 ?_
    refine J_ialdR (pc := 205) C dX11_op_205 rfl (by omega) (by decide) ?_
    try dsimp only
    rw [hbt]
    refine J_icmp_geN (pc := 206) (tgt := 241) C dX11_op_206 (by decide) (by omega) (by omega) (fun h206 => ?_) (fun h206 => ?_)
    · omega
    · refine J_aload_n (pc := 209) C dX11_op_209 rfl rfl ?_
      refine J_iload_n (pc := 210) C dX11_op_210 rfl rfl ?_
      refine J_iload_n (pc := 211) C dX11_op_211 rfl rfl ?_
      refine J_bipush (pc := 212) (v := nI 32) C dX11_op_212 (by decide) ?_
      refine J_iload (pc := 214) C dX11_op_214 rfl ?_
      refine J_imulN (pc := 216) C dX11_op_216 ?_
      refine J_iload (pc := 217) C dX11_op_217 rfl ?_
      refine J_iaddN (pc := 219) C dX11_op_219 ?_
      refine J_callV1 (pc := 220) C dX11_op_220 m_X11_228 (c_stands l G _ _ _ _ _ _ _ _ _ _ _ _ _ ho hn9) ⟨jle rfl, jle rfl⟩ rfl rfl rfl rfl rfl (jle rfl) ⟨Nat.zero_le _, Nat.zero_le _⟩ ?_
      try dsimp only
      refine J_if_ne (pc := 223) (tgt := 235) C dX11_op_223 (by decide) (fun h223 => ?_) (fun h223 => ?_)
      · refine J_iincN (pc := 235) C dX11_op_235 rfl (by decide) rfl ?_
        dsimp only [List.set]
        refine J_goto (pc := 238) (tgt := 192) C dX11_op_238 (by decide) ?_
        have h2 : standsF (mWhat D) o n (32 * k + b) 0 = true := bI_t h223
        rw [h2, Bool.true_and] at hf kk
        exact ih (b + 1) (by omega) hf kk (by omega)
      · refine J_aload_n (pc := 226) C dX11_op_226 rfl rfl ?_
        refine J_aload_n (pc := 227) C dX11_op_227 rfl rfl ?_
        refine J_get (pc := 228) C dX11_op_228 f_X11_113 rfl rfl ?_
        try dsimp only
        refine J_callV1 (pc := 231) C dX11_op_231 m_X11_142 (c_bad l G _ _ _ _ _ _ _ _ _ _ _) ⟨jle rfl, jle rfl⟩ rfl rfl rfl rfl rfl (jle rfl) ⟨Nat.zero_le _, Nat.zero_le _⟩ ?_
        try dsimp only
        exact J_zret (pc := 234) C dX11_op_234 rfl (by first | rfl | decide) (hf (by rw [show standsF (mWhat D) o n (32 * k + b) 0 = false from bI_f h223]; rfl)) (Nat.zero_le _) (Nat.zero_le _)
set_option maxHeartbeats 4000000 in
set_option maxRecDepth 100000 in
theorem l_st (l : Launch) (G : jG) {p : Program} {e : Env} {s : State} {m : MethodId} {args : Array Value} {below : List Frame} {meth : Method} {c : Code} (er : Nat) (F X : Nat × (Nat → Nat)) (K : Nat × Nat × Nat) (D : mD) (P : mP) (gv : Nat → Int64) (O : Nat × (Nat → Nat)) (T : jMem) {ou : jO} (a9 o n k : Nat) (v5 v6 : Option Value) (C : jX0 p l (jR 10 208 0 0) s m args meth c G cX11_op 7 RX11 (some .boolean)) (ho : o < 60) (hn9 : n ≤ 32) (hO : oG D o) (hk : k ≤ D.2.2.2.2.2.2.2.2.1 o) (hf : allF (fun k => allF (fun b => standsF (mWhat D) o n (32 * k + b) 0) (bitsN D (6 * o + k)) 0) (D.2.2.2.2.2.2.2.2.1 o)  k = false → ou = .inl (some (.int (nI 0)), encM er F X K (badW (-1) K.2.1) D P gv O T)) (kk : allF (fun k => allF (fun b => standsF (mWhat D) o n (32 * k + b) 0) (bitsN D (6 * o + k)) 0) (D.2.2.2.2.2.2.2.2.1 o)  k = true → ∀ v4 v5, jok [some (.ref 1000), none, none, none, v4] 5 = true → J p l e (jR 10 208 0 0) s m args below meth c G 7 0 0 (ou) 247 [some (.ref 1000), some (.int (nI a9)), some (.int (nI o)), some (.int (nI n)), v4, v5, v6] [] (encM er F X K (-1) D P gv O T) 0 0) : J p l e (jR 10 208 0 0) s m args below meth c G 7 0 0 (ou) 178 [some (.ref 1000), some (.int (nI a9)), some (.int (nI o)), some (.int (nI n)), some (.int (nI k)), v5, v6] [] (encM er F X K (-1) D P gv O T) 0 0 := by
  have ho6 : D.2.2.2.2.2.2.2.2.1 o ≤ 6 := hO.1
  induction hm : D.2.2.2.2.2.2.2.2.1 o - k generalizing k v5 with
  | zero =>
    have h9 : k = D.2.2.2.2.2.2.2.2.1 o := by omega
    have h1 : allF (fun k => allF (fun b => standsF (mWhat D) o n (32 * k + b) 0) (bitsN D (6 * o + k)) 0) (D.2.2.2.2.2.2.2.2.1 o)  k = true := by rw [allF, if_neg (by omega)]
    have k1 := kk h1
    refine J_iload (pc := 178) C dX11_op_178 rfl ?_
    refine J_aload_n (pc := 180) C dX11_op_180 rfl rfl ?_
    refine J_get (pc := 181) C dX11_op_181 f_X11_41 rfl rfl ?_
    refine J_iload_n (pc := 184) C dX11_op_184 rfl rfl ?_
    refine J_ialdN (pc := 185) C dX11_op_185 rfl (by omega) (by decide) ?_
    try dsimp only
    refine J_icmp_geN (pc := 186) (tgt := 247) C dX11_op_186 (by decide) (by omega) (by omega) (fun h186 => ?_) (fun h186 => ?_)
    · exact k1 _ _ rfl
    · omega
  | succ d ih =>
    obtain ⟨bt, hb1, hb2, hb3⟩ := hO.2 k (show k < D.2.2.2.2.2.2.2.2.1 o by omega)
    have hb4 : bitsN D (6 * o + k) = bt := by unfold bitsN; rw [hb3, nI_clamp (by omega)]
    have h1 : allF (fun k => allF (fun b => standsF (mWhat D) o n (32 * k + b) 0) (bitsN D (6 * o + k)) 0) (D.2.2.2.2.2.2.2.2.1 o)  k = (allF (fun b => standsF (mWhat D) o n (32 * k + b) 0) bt 0 && allF (fun k => allF (fun b => standsF (mWhat D) o n (32 * k + b) 0) (bitsN D (6 * o + k)) 0) (D.2.2.2.2.2.2.2.2.1 o)  (k + 1)) := by
      conv => lhs; rw [allF]
      rw [if_pos (by omega), hb4]
    rw [h1] at hf kk
    refine J_iload (pc := 178) C dX11_op_178 rfl ?_
    refine J_aload_n (pc := 180) C dX11_op_180 rfl rfl ?_
    refine J_get (pc := 181) C dX11_op_181 f_X11_41 rfl rfl ?_
    refine J_iload_n (pc := 184) C dX11_op_184 rfl rfl ?_
    refine J_ialdN (pc := 185) C dX11_op_185 rfl (by omega) (by decide) ?_
    try dsimp only
    refine J_icmp_geN (pc := 186) (tgt := 247) C dX11_op_186 (by decide) (by omega) (by omega) (fun h186 => ?_) (fun h186 => ?_)
    · omega
    · refine J_iconst (pc := 189) (v := nI 0) C dX11_op_189 (by decide) ?_
      refine J_istore (pc := 190) C dX11_op_190 (by decide) rfl ?_
      dsimp only [List.set]
      refine l_stb l G er F X K D P gv O T a9 o n k 0 bt v6 C ho hn9 (by omega) hb3 hb2 (Nat.zero_le _) (fun z => hf (by rw [z]; rfl)) (fun z => ?_)
      refine J_iincN (pc := 241) C dX11_op_241 rfl (by decide) rfl ?_
      dsimp only [List.set]
      refine J_goto (pc := 244) (tgt := 178) C dX11_op_244 (by decide) ?_
      rw [z, Bool.true_and] at hf kk
      exact ih (k + 1) _ (by omega) hf kk (by omega)
set_option maxHeartbeats 4000000 in
set_option maxRecDepth 100000 in
theorem l_op9 (l : Launch) (G : jG) {p : Program} {e : Env} {s : State} {m : MethodId} {args : Array Value} {below : List Frame} {meth : Method} {c : Code} (er : Nat) (F X : Nat × (Nat → Nat)) (K : Nat × Nat × Nat) (D : mD) (P : mP) (gv : Nat → Int64) (O : Nat × (Nat → Nat)) (T : jMem) (a9 o n : Nat) (C : jX0 p l (jR 10 208 0 0) s m args meth c G cX11_op 7 RX11 (some .boolean)) (hn : X.1 ≤ 4000) (hX : ∀ k, X.2 k < 256) (hG : tkG X K) (hD : dG D) (hO : oG D o) (ho : o < 60) (hn9 : n ≤ D.1) : J p l e (jR 10 208 0 0) s m args below meth c G 7 0 0 (.inl (some (.int (bI (op9 X a9 K D o n).1.isNone)), encM er F X (op9 X a9 K D o n).2.1 (wrI (op9 X a9 K D o n).1) (op9 X a9 K D o n).2.2 P gv O T)) 158 [some (.ref 1000), some (.int (nI a9)), some (.int (nI o)), some (.int (nI n)), none, none, none] [] (encM er F X K (-1) D P gv O T) 0 0 := by
  have hw9 := hD.2.1
  have b0 : K.2.1 ≤ K.2.2 ∧ K.2.2 ≤ X.1 ∧ K.1 ≤ 5 := ⟨hG.1.1, hG.1.2.1, hG.1.2.2.2.1⟩
  have k0 := hG.1
  refine J_iload_n (pc := 158) C dX11_op_158 rfl rfl ?_
  refine J_aload_n (pc := 159) C dX11_op_159 rfl rfl ?_
  refine J_get (pc := 160) C dX11_op_160 f_X11_196 rfl rfl ?_
  try dsimp only
  refine J_icmp_geN (pc := 163) (tgt := 175) C dX11_op_163 (by decide) (by omega) (by omega) (fun h163 => ?_) (fun h163 => ?_)
  · refine J_iconst (pc := 175) (v := nI 0) C dX11_op_175 (by decide) ?_
    refine J_istore (pc := 176) C dX11_op_176 (by decide) rfl ?_
    dsimp only [List.set]
    have hlt : ¬ n < D.1 := by omega
    refine l_st l G er F X K D P gv O T a9 o n 0 _ _ C ho (by omega) hO (Nat.zero_le _) (fun z => ?_) (fun hs9 v4 v5 h45 => ?_)
    · exact mR_f (by rw [op9, if_neg hlt, if_neg (by rw [show stAll D o n = false from z]; decide)])
    · have hs : stAll D o n = true := hs9
      refine J_iconst (pc := 247) (v := nI 0) C dX11_op_247 (by decide) ?_
      refine J_istore (pc := 248) C dX11_op_248 (by decide) rfl ?_
      dsimp only [List.set]
      refine l_ap l G er F X K D P gv O T a9 o n 0 _ _ C ho hw9 (Nat.zero_le _) (fun z => ?_) (fun ha9 v5 v6 => ?_)
      · exact mR_f (by rw [op9, if_neg hlt, if_pos hs, if_neg (by rw [show apAll D o = false from z]; decide)])
      · have ha : apAll D o = true := ha9
        refine J_aload_n (pc := 363) C dX11_op_363 rfl rfl ?_
        refine J_dup (pc := 364) C dX11_op_364 rfl ?_
        refine J_get (pc := 365) C dX11_op_365 f_X11_190 rfl rfl ?_
        try dsimp only
        refine J_iconst (pc := 368) (v := nI 1) C dX11_op_368 (by decide) ?_
        refine J_iaddN (pc := 369) C dX11_op_369 ?_
        refine J_putU (pc := 370) C dX11_op_370 p_X11_190 rfl (jlt rfl) rfl rfl (uM_ops _) ?_
        try dsimp only
        refine J_aload_n (pc := 373) C dX11_op_373 rfl rfl ?_
        refine J_callV0 (pc := 374) C dX11_op_374 m_X11_145 (c_next l G _ _ _ _ _ _ _ _ _ _ hn hX (by omega)) ⟨jle rfl, jle rfl⟩ rfl rfl rfl rfl rfl (jle rfl) ⟨Nat.zero_le _, Nat.zero_le _⟩ ?_
        try dsimp only
        refine J_iconst (pc := 377) (v := nI 1) C dX11_op_377 (by decide) ?_
        exact J_zret (pc := 378) C dX11_op_378 rfl (by first | rfl | decide) (mR_t (by rw [op9, if_neg hlt, if_pos hs, if_pos ha])) (Nat.zero_le _) (Nat.zero_le _)
  · refine J_aload_n (pc := 166) C dX11_op_166 rfl rfl ?_
    refine J_aload_n (pc := 167) C dX11_op_167 rfl rfl ?_
    refine J_get (pc := 168) C dX11_op_168 f_X11_113 rfl rfl ?_
    try dsimp only
    refine J_callV1 (pc := 171) C dX11_op_171 m_X11_142 (c_bad l G _ _ _ _ _ _ _ _ _ _ _) ⟨jle rfl, jle rfl⟩ rfl rfl rfl rfl rfl (jle rfl) ⟨Nat.zero_le _, Nat.zero_le _⟩ ?_
    try dsimp only
    exact J_zret (pc := 174) C dX11_op_174 rfl (by first | rfl | decide) (mR_f (by rw [op9, if_pos (by omega)])) (Nat.zero_le _) (Nat.zero_le _)
set_option maxHeartbeats 4000000 in
set_option maxRecDepth 100000 in
theorem l_fls (l : Launch) (G : jG) {p : Program} {e : Env} {s : State} {m : MethodId} {args : Array Value} {below : List Frame} {meth : Method} {c : Code} (er : Nat) (F X : Nat × (Nat → Nat)) (K : Nat × Nat × Nat) (D : mD) (P : mP) (gv : Nat → Int64) (O : Nat × (Nat → Nat)) (T : jMem) (a9 o n f : Nat) (C : jX0 p l (jR 10 208 0 0) s m args meth c G cX11_op 7 RX11 (some .boolean)) (hn : X.1 ≤ 4000) (hX : ∀ k, X.2 k < 256) (hG : tkG X K) (hD : dG D) (hO : oG D o) (ho : o < 60) (hn9 : n ≤ D.1) (hf : X.1 - K.2.1 < f) : J p l e (jR 10 208 0 0) s m args below meth c G 7 0 0 (.inl (some (.int (bI (op8 X a9 o (flsL X o f K D n)).1.isNone)), encM er F X (op8 X a9 o (flsL X o f K D n)).2.1 (wrI (op8 X a9 o (flsL X o f K D n)).1) (op8 X a9 o (flsL X o f K D n)).2.2 P gv O T)) 136 [some (.ref 1000), some (.int (nI a9)), some (.int (nI o)), some (.int (nI n)), none, none, none] [] (encM er F X K (-1) D P gv O T) 0 0 := by
  induction f generalizing K D n with
  | zero => omega
  | succ f ih =>
    have g := fldF_G (D := D) (o := o) (n := n) hG
    have q := g.1.oG hD hO
    have c9 := c_field l G er F X K D P gv O T o n hn hX hG hD.1 ho hO.1 hD.2.1 hn9 hO.2
    rw [flsL]
    obtain ⟨r, er9⟩ : ∃ r, r = fldF X K D o n := ⟨_, rfl⟩
    rw [← er9] at g q c9 ⊢
    obtain ⟨r1, K', D', n'⟩ := r
    have g1 := g.1.1
    have g2 := g.1.2.2.2
    have hw9 := hD.2.1
    have q4 : D'.1 = D.1 := q.2.2.2
    dsimp only at g g1 g2 q c9 ⊢
    have b0 : K'.2.1 ≤ K'.2.2 ∧ K'.2.2 ≤ X.1 ∧ K'.1 ≤ 5 := ⟨g1.1.1, g1.1.2.1, g1.1.2.2.2.1⟩
    have k1 : tkOK X K' := g1.1
    cases r1 with
    | some p9 =>
      rw [if_neg (by simp), op8, if_neg (by simp)]
      refine J_aload_n (pc := 136) C dX11_op_136 rfl rfl ?_
      refine J_iload_n (pc := 137) C dX11_op_137 rfl rfl ?_
      refine J_iload_n (pc := 138) C dX11_op_138 rfl rfl ?_
      refine J_callV1 (pc := 139) C dX11_op_139 m_X11_224 (c9) ⟨jle rfl, jle rfl⟩ rfl rfl rfl rfl rfl (jle rfl) ⟨Nat.zero_le _, Nat.zero_le _⟩ ?_
      try dsimp only
      refine J_istore_n (pc := 142) C dX11_op_142 rfl (by decide) rfl ?_
      dsimp only [List.set]
      refine J_iload_n (pc := 143) C dX11_op_143 rfl rfl ?_
      refine J_if_ge (pc := 144) (tgt := 149) C dX11_op_144 (by decide) (fun h144 => ?_) (fun h144 => ?_)
      · exact absurd h144 (show ¬ (0 : Int32) ≤ -1 by decide)
      · refine J_iconst (pc := 147) (v := nI 0) C dX11_op_147 (by decide) ?_
        exact J_zret (pc := 148) C dX11_op_148 rfl (by first | rfl | decide) (rfl) (Nat.zero_le _) (Nat.zero_le _)
    | none =>
      have g3 := g2 rfl
      have g4 : K.2.1 < K'.2.1 := g.2 rfl
      rw [if_pos rfl]
      refine J_aload_n (pc := 136) C dX11_op_136 rfl rfl ?_
      refine J_iload_n (pc := 137) C dX11_op_137 rfl rfl ?_
      refine J_iload_n (pc := 138) C dX11_op_138 rfl rfl ?_
      refine J_callV1 (pc := 139) C dX11_op_139 m_X11_224 (c9) ⟨jle rfl, jle rfl⟩ rfl rfl rfl rfl rfl (jle rfl) ⟨Nat.zero_le _, Nat.zero_le _⟩ ?_
      try dsimp only
      refine J_istore_n (pc := 142) C dX11_op_142 rfl (by decide) rfl ?_
      dsimp only [List.set]
      refine J_iload_n (pc := 143) C dX11_op_143 rfl rfl ?_
      refine J_if_ge (pc := 144) (tgt := 149) C dX11_op_144 (by decide) (fun h144 => ?_) (fun h144 => ?_)
      · refine J_aload_n (pc := 149) C dX11_op_149 rfl rfl ?_
        refine J_bipush (pc := 150) (v := nI 59) C dX11_op_150 (by decide) ?_
        refine J_callV1 (pc := 152) C dX11_op_152 m_X11_139 (c_isSign l G _ _ _ _ _ _ _ _ _ _ _ hn hX (by first | assumption | exact (nextF_g (by omega)).1) (by omega)) ⟨jle rfl, jle rfl⟩ rfl rfl rfl rfl rfl (jle rfl) ⟨Nat.zero_le _, Nat.zero_le _⟩ ?_
        try dsimp only
        refine J_if_eq (pc := 155) (tgt := 136) C dX11_op_155 (by decide) (fun h155 => ?_) (fun h155 => ?_)
        · rw [if_neg (by rw [bI_f h155]; decide)]
          exact ih (K := K') (D := D') (n := n') g1 q.1 q.2.1 (by omega) (by omega)
        · rw [if_pos (bI_t h155), op8, if_pos rfl]
          exact l_op9 l G er F X K' D' P gv O T a9 o n' C hn hX g1 q.1 q.2.1 ho (by omega)
      · exact absurd (show 0 ≤ fRet (none, K', D', n') from nI_pos' (n := n') (by omega)) h144
set_option maxHeartbeats 4000000 in
set_option maxRecDepth 100000 in
theorem l_op7 (l : Launch) (G : jG) {p : Program} {e : Env} {s : State} {m : MethodId} {args : Array Value} {below : List Frame} {meth : Method} {c : Code} (er : Nat) (F X : Nat × (Nat → Nat)) (K : Nat × Nat × Nat) (D : mD) (P : mP) (gv : Nat → Int64) (O : Nat × (Nat → Nat)) (T : jMem) (a9 o : Nat) (C : jX0 p l (jR 10 208 0 0) s m args meth c G cX11_op 7 RX11 (some .boolean)) (hn : X.1 ≤ 4000) (hX : ∀ k, X.2 k < 256) (hG : tkG X K) (hD : dG D) (hO : oG D o) (ho : o < 60) : J p l e (jR 10 208 0 0) s m args below meth c G 7 0 0 (.inl (some (.int (bI (op7 X a9 o K D).1.isNone)), encM er F X (op7 X a9 o K D).2.1 (wrI (op7 X a9 o K D).1) (op7 X a9 o K D).2.2 P gv O T)) 123 [some (.ref 1000), some (.int (nI a9)), some (.int (nI o)), none, none, none, none] [] (encM er F X K (-1) D P gv O T) 0 0 := by
  have k0 := hG.1
  have b0 : K.2.1 ≤ K.2.2 ∧ K.2.2 ≤ X.1 ∧ K.1 ≤ 5 := ⟨hG.1.1, hG.1.2.1, hG.1.2.2.2.1⟩
  refine J_aload_n (pc := 123) C dX11_op_123 rfl rfl ?_
  refine J_bipush (pc := 124) (v := nI 61) C dX11_op_124 (by decide) ?_
  by_cases q126 : isSignF X K 61 = true
  · refine J_callV1 (pc := 126) C dX11_op_126 m_X11_201 (c_sign_t l G _ _ _ _ _ _ _ _ _ _ _ hn hX k0 (by decide) q126) ⟨jle rfl, jle rfl⟩ rfl rfl rfl rfl rfl (jle rfl) ⟨Nat.zero_le _, Nat.zero_le _⟩ ?_
    try dsimp only
    refine J_if_neN (pc := 129) (tgt := 134) C dX11_op_129 (by decide) (by omega) (fun _ => ?_) (fun h129 => absurd h129 (by decide))
    refine J_iconst (pc := 134) (v := nI 0) C dX11_op_134 (by decide) ?_
    refine J_istore_n (pc := 135) C dX11_op_135 rfl (by decide) rfl ?_
    dsimp only [List.set]
    rw [op7, if_pos q126]
    exact l_fls l G er F X _ D P gv O T a9 o 0 (X.1 + 1) C hn hX hG.nx hD hO ho (Nat.zero_le _) (by omega)
  · refine J_callV1 (pc := 126) C dX11_op_126 m_X11_201 (c_sign_f l G _ _ _ _ _ _ _ _ _ _ _ hn hX k0 (by decide) q126) ⟨jle rfl, jle rfl⟩ rfl rfl rfl rfl rfl (jle rfl) ⟨Nat.zero_le _, Nat.zero_le _⟩ ?_
    try dsimp only
    refine J_if_neN (pc := 129) (tgt := 134) C dX11_op_129 (by decide) (by omega) (fun h129 => absurd h129 (by decide)) (fun _ => ?_)
    refine J_iconst (pc := 132) (v := nI 0) C dX11_op_132 (by decide) ?_
    exact J_zret (pc := 133) C dX11_op_133 rfl (by first | rfl | decide) (mR_f (by rw [op7, if_neg q126])) (Nat.zero_le _) (Nat.zero_le _)
set_option maxHeartbeats 4000000 in
set_option maxRecDepth 100000 in
theorem l_ops (l : Launch) (G : jG) {p : Program} {e : Env} {s : State} {m : MethodId} {args : Array Value} {below : List Frame} {meth : Method} {c : Code} (er : Nat) (F X : Nat × (Nat → Nat)) (K : Nat × Nat × Nat) (D : mD) (P : mP) (gv : Nat → Int64) (O : Nat × (Nat → Nat)) (T : jMem) (a9 o f : Nat) (C : jX0 p l (jR 10 208 0 0) s m args meth c G cX11_op 7 RX11 (some .boolean)) (hn : X.1 ≤ 4000) (hX : ∀ k, X.2 k < 256) (hG : tkG X K) (hD : dG D) (hO : oG D o) (ho : o < 60) (hf : X.1 - K.2.1 < f) : J p l e (jR 10 208 0 0) s m args below meth c G 7 0 0 (.inl (some (.int (bI (mB (opsL X o f K D) (op7 X a9 o)).1.isNone)), encM er F X (mB (opsL X o f K D) (op7 X a9 o)).2.1 (wrI (mB (opsL X o f K D) (op7 X a9 o)).1) (mB (opsL X o f K D) (op7 X a9 o)).2.2 P gv O T)) 100 [some (.ref 1000), some (.int (nI a9)), some (.int (nI o)), none, none, none, none] [] (encM er F X K (-1) D P gv O T) 0 0 := by
  induction f generalizing K D with
  | zero => omega
  | succ f ih =>
    have k0 := hG.1
    have b0 : K.2.1 ≤ K.2.2 ∧ K.2.2 ≤ X.1 ∧ K.1 ≤ 5 := ⟨hG.1.1, hG.1.2.1, hG.1.2.2.2.1⟩
    have hG1 := hG.nx
    have hf1 := hG.fr
    have g := opdF_G hX hG1 hD hO
    have c9 := c_operand l G er F X (nextF X K.2.2) D P gv O T o hn hX hG1 hD.1 ho hO.1 hD.2.1
    rw [opsL]
    obtain ⟨r, er9⟩ : ∃ r, r = opdF X (nextF X K.2.2) D o := ⟨_, rfl⟩
    rw [← er9] at g c9 ⊢
    obtain ⟨r1, K', D'⟩ := r
    obtain ⟨⟨g1, g2, g3, g4, g5, g6⟩, g7⟩ := g
    dsimp only at g1 g2 g3 g4 g5 g6 g7 c9
    refine J_aload_n (pc := 100) C dX11_op_100 rfl rfl ?_
    refine J_bipush (pc := 101) (v := nI 44) C dX11_op_101 (by decide) ?_
    refine J_callV1 (pc := 103) C dX11_op_103 m_X11_139 (c_isSign l G _ _ _ _ _ _ _ _ _ _ _ hn hX (by first | assumption | exact (nextF_g (by omega)).1) (by omega)) ⟨jle rfl, jle rfl⟩ rfl rfl rfl rfl rfl (jle rfl) ⟨Nat.zero_le _, Nat.zero_le _⟩ ?_
    try dsimp only
    refine J_if_eq (pc := 106) (tgt := 123) C dX11_op_106 (by decide) (fun h106 => ?_) (fun h106 => ?_)
    · rw [if_neg (by rw [bI_f h106]; decide), mB_n]
      exact l_op7 l G er F X K D P gv O T a9 o C hn hX hG hD hO ho
    · rw [if_pos (bI_t h106)]
      cases r1 with
      | some p9 =>
        rw [mB_s, mB_s]
        refine J_aload_n (pc := 109) C dX11_op_109 rfl rfl ?_
        refine J_callV0 (pc := 110) C dX11_op_110 m_X11_145 (c_next l G _ _ _ _ _ _ _ _ _ _ hn hX (by omega)) ⟨jle rfl, jle rfl⟩ rfl rfl rfl rfl rfl (jle rfl) ⟨Nat.zero_le _, Nat.zero_le _⟩ ?_
        try dsimp only
        refine J_aload_n (pc := 113) C dX11_op_113 rfl rfl ?_
        refine J_iload_n (pc := 114) C dX11_op_114 rfl rfl ?_
        refine J_callV1 (pc := 115) C dX11_op_115 m_X11_221 (c9) ⟨jle rfl, jle rfl⟩ rfl rfl rfl rfl rfl (jle rfl) ⟨Nat.zero_le _, Nat.zero_le _⟩ ?_
        try dsimp only
        refine J_if_ne (pc := 118) (tgt := 100) C dX11_op_118 (by decide) (fun h118 => ?_) (fun h118 => ?_)
        · exact absurd rfl h118
        · refine J_iconst (pc := 121) (v := nI 0) C dX11_op_121 (by decide) ?_
          exact J_zret (pc := 122) C dX11_op_122 rfl (by first | rfl | decide) (rfl) (Nat.zero_le _) (Nat.zero_le _)
      | none =>
        rw [mB_n]
        refine J_aload_n (pc := 109) C dX11_op_109 rfl rfl ?_
        refine J_callV0 (pc := 110) C dX11_op_110 m_X11_145 (c_next l G _ _ _ _ _ _ _ _ _ _ hn hX (by omega)) ⟨jle rfl, jle rfl⟩ rfl rfl rfl rfl rfl (jle rfl) ⟨Nat.zero_le _, Nat.zero_le _⟩ ?_
        try dsimp only
        refine J_aload_n (pc := 113) C dX11_op_113 rfl rfl ?_
        refine J_iload_n (pc := 114) C dX11_op_114 rfl rfl ?_
        refine J_callV1 (pc := 115) C dX11_op_115 m_X11_221 (c9) ⟨jle rfl, jle rfl⟩ rfl rfl rfl rfl rfl (jle rfl) ⟨Nat.zero_le _, Nat.zero_le _⟩ ?_
        try dsimp only
        refine J_if_ne (pc := 118) (tgt := 100) C dX11_op_118 (by decide) (fun h118 => ?_) (fun h118 => ?_)
        · exact ih (K := K') (D := D') g1 g3 (g6 rfl) (by have := g7 rfl; have := g1.1.1; have := g1.1.2.1; omega)
        · exact absurd (show bI true = 0 from h118) (by decide)
set_option maxHeartbeats 4000000 in
set_option maxRecDepth 100000 in
theorem c_op (l : Launch) (G : jG) (er : Nat) (F X : Nat × (Nat → Nat)) (K : Nat × Nat × Nat) (D : mD) (P : mP) (gv : Nat → Int64) (O : Nat × (Nat → Nat)) (T : jMem) (hn : X.1 ≤ 4000) (hX : ∀ k, X.2 k < 256) (hG : tkG X K) (hD : dG D) : jC l G yX11_op cX11_op 7 (some .boolean) 10 208 0 0 [.ref 1000] (encM er F X K (-1) D P gv O T) (.inl (some (.int (bI (opF X K D).1.isNone)), encM er F X (opF X K D).2.1 (wrI (opF X K D).1) (opF X K D).2.2 P gv O T)) := by
  refine jC.of (by decide) 6 rfl [some (.ref 1000), none, none, none, none, none, none] rfl (fun p e s m args below meth c C hT9 hNm9 => ?_)
  have hD9 := hD
  obtain ⟨⟨d1, d2, d3, d4, d5⟩, d6, d7⟩ := hD
  have b0 : K.2.1 ≤ K.2.2 ∧ K.2.2 ≤ X.1 ∧ K.1 ≤ 5 := ⟨hG.1.1, hG.1.2.1, hG.1.2.2.2.1⟩
  have k0 := hG.1
  refine J_aload_n (pc := 0) C dX11_op_0 rfl rfl ?_
  refine J_get (pc := 1) C dX11_op_1 f_X11_190 rfl rfl ?_
  try dsimp only
  refine J_bipush (pc := 4) (v := nI 60) C dX11_op_4 (by decide) ?_
  refine J_icmp_neN (pc := 6) (tgt := 18) C dX11_op_6 (by decide) (by omega) (by omega) (fun h6 => ?_) (fun h6 => ?_)
  · refine J_aload_n (pc := 18) C dX11_op_18 rfl rfl ?_
    refine J_callV0 (pc := 19) C dX11_op_19 m_X11_145 (c_next l G _ _ _ _ _ _ _ _ _ _ hn hX (by omega)) ⟨jle rfl, jle rfl⟩ rfl rfl rfl rfl rfl (jle rfl) ⟨Nat.zero_le _, Nat.zero_le _⟩ ?_
    try dsimp only
    have r1 : opF X K D = op1 X (nextF X K.2.2) D := by rw [opF, if_neg h6]
    obtain ⟨K1, e1⟩ : ∃ z, z = nextF X K.2.2 := ⟨_, rfl⟩
    rw [← e1]
    have g1 : tkG X K1 := by rw [e1]; exact nextF_g (by omega)
    have k1 := g1.1
    have b1 : K1.2.1 ≤ K1.2.2 ∧ K1.2.2 ≤ X.1 ∧ K1.1 ≤ 5 := ⟨g1.1.1, g1.1.2.1, g1.1.2.2.2.1⟩
    rw [← e1] at r1
    refine J_aload_n (pc := 22) C dX11_op_22 rfl rfl ?_
    refine J_get (pc := 23) C dX11_op_23 f_X11_113 rfl rfl ?_
    try dsimp only
    refine J_istore_n (pc := 26) C dX11_op_26 rfl (by decide) rfl ?_
    dsimp only [List.set]
    refine J_aload_n (pc := 27) C dX11_op_27 rfl rfl ?_
    refine J_get (pc := 28) C dX11_op_28 f_X11_190 rfl rfl ?_
    try dsimp only
    refine J_istore_n (pc := 31) C dX11_op_31 rfl (by decide) rfl ?_
    dsimp only [List.set]
    refine J_aload_n (pc := 32) C dX11_op_32 rfl rfl ?_
    refine J_callV1 (pc := 33) C dX11_op_33 m_X11_208 (c_isName l G _ _ _ _ _ _ _ _ _ _ hn hX (by first | assumption | exact (nextF_g (by omega)).1)) ⟨jle rfl, jle rfl⟩ rfl rfl rfl rfl rfl (jle rfl) ⟨Nat.zero_le _, Nat.zero_le _⟩ ?_
    try dsimp only
    refine J_if_eq (pc := 36) (tgt := 54) C dX11_op_36 (by decide) (fun h36 => ?_) (fun h36 => ?_)
    · refine J_aload_n (pc := 54) C dX11_op_54 rfl rfl ?_
      refine J_aload_n (pc := 55) C dX11_op_55 rfl rfl ?_
      refine J_get (pc := 56) C dX11_op_56 f_X11_113 rfl rfl ?_
      try dsimp only
      refine J_callV1 (pc := 59) C dX11_op_59 m_X11_142 (c_bad l G _ _ _ _ _ _ _ _ _ _ _) ⟨jle rfl, jle rfl⟩ rfl rfl rfl rfl rfl (jle rfl) ⟨Nat.zero_le _, Nat.zero_le _⟩ ?_
      try dsimp only
      exact J_zret (pc := 62) C dX11_op_62 rfl (by first | rfl | decide) (mR_f (r1.trans (by rw [op1, if_neg (by intro z; first | exact absurd (bI_f h36) (by rw [z.1]; decide) | exact h51 ((lI_neg (by have := findF_lt (X := X) (K := K1) (nm := D.2.2.2.2.2.2.1) (m := D.2.2.1) (j := 0); omega)).mpr z.2))]))) (Nat.zero_le _) (Nat.zero_le _)
    · refine J_aload_n (pc := 39) C dX11_op_39 rfl rfl ?_
      refine J_aload_n (pc := 40) C dX11_op_40 rfl rfl ?_
      refine J_get (pc := 41) C dX11_op_41 f_X11_29 rfl rfl ?_
      refine J_aload_n (pc := 44) C dX11_op_44 rfl rfl ?_
      refine J_get (pc := 45) C dX11_op_45 f_X11_190 rfl rfl ?_
      try dsimp only
      refine J_callV1 (pc := 48) C dX11_op_48 m_X11_211 (c_find l G _ _ _ _ _ _ _ _ _ _ _ hn hX rfl (by decide) d4 k1 (by omega) (by omega)) ⟨jle rfl, jle rfl⟩ rfl rfl rfl rfl rfl (jle rfl) ⟨Nat.zero_le _, Nat.zero_le _⟩ ?_
      try dsimp only
      refine J_if_lt (pc := 51) (tgt := 63) C dX11_op_51 (by decide) (fun h51 => ?_) (fun h51 => ?_)
      · have hfi : findF X K1 (mOpN D) D.2.2.1 0 = 1000 := (lI_neg (by have := findF_lt (X := X) (K := K1) (nm := mOpN D) (m := D.2.2.1) (j := 0); omega)).mp h51
        have r2 := r1
        rw [op1, if_pos ⟨bI_t h36, hfi⟩] at r2
        refine J_aload_n (pc := 63) C dX11_op_63 rfl rfl ?_
        refine J_aload_n (pc := 64) C dX11_op_64 rfl rfl ?_
        refine J_get (pc := 65) C dX11_op_65 f_X11_29 rfl rfl ?_
        refine J_iload_n (pc := 68) C dX11_op_68 rfl rfl ?_
        refine J_callV0 (pc := 69) C dX11_op_69 m_X11_215 (c_keep l G _ _ _ _ _ (fun f => mdP D f) (fun _ => P) _ _ _ D.2.2.2.2.2.2.1 D.2.2.1 hn hX (fun _ => rfl) (fun f g => (uM_opName g).trans rfl) (by decide) k1 (by omega) (by omega)) ⟨jle rfl, jle rfl⟩ rfl rfl rfl rfl rfl (jle rfl) ⟨Nat.zero_le _, Nat.zero_le _⟩ ?_
        try dsimp only
        dsimp only [mdP]
        refine J_aload_n (pc := 72) C dX11_op_72 rfl rfl ?_
        refine J_callV0 (pc := 73) C dX11_op_73 m_X11_145 (c_next l G _ _ _ _ _ _ _ _ _ _ hn hX (by omega)) ⟨jle rfl, jle rfl⟩ rfl rfl rfl rfl rfl (jle rfl) ⟨Nat.zero_le _, Nat.zero_le _⟩ ?_
        try dsimp only
        obtain ⟨K2, e2⟩ : ∃ z, z = nextF X K1.2.2 := ⟨_, rfl⟩
        rw [← e2]
        have g2 : tkG X K2 := by rw [e2]; exact nextF_g (by omega)
        have k2 := g2.1
        have b2 : K2.2.1 ≤ K2.2.2 ∧ K2.2.2 ≤ X.1 ∧ K2.1 ≤ 5 := ⟨g2.1.1, g2.1.2.1, g2.1.2.2.2.1⟩
        rw [← e2] at r2
        refine J_aload_n (pc := 76) C dX11_op_76 rfl rfl ?_
        refine J_get (pc := 77) C dX11_op_77 f_X11_41 rfl rfl ?_
        refine J_iload_n (pc := 80) C dX11_op_80 rfl rfl ?_
        refine J_iconst (pc := 81) (v := nI 0) C dX11_op_81 (by decide) ?_
        refine J_iastN (pc := 82) C dX11_op_82 rfl (by omega) (by decide) (uM_operands _) ?_
        obtain ⟨D2, eD⟩ : ∃ z, z = mdA (mdP D (keepF X K1 (mOpN D) D.2.2.1 12)) (va_up (mOpds D) D.2.2.1 0) := ⟨_, rfl⟩
        rw [← eD] at r2
        have hD2 : dG D2 := by rw [eD]; exact ⟨⟨d1, d2, d3, keepF_lt hX d4 _ _, d5⟩, d6, d7⟩
        have hz : mOpds D2 D.2.2.1 = 0 := by rw [eD]; exact va_up_self _ _ _
        have hO2 : oG D2 D.2.2.1 := ⟨by rw [hz]; decide, fun k hk => by rw [hz] at hk; exact absurd hk (by omega)⟩
        refine J.to (show _ = encM er F X K2 (-1) D2 P gv O T by rw [eD]; rfl) ?_
        have g := opdF_G hX g2 hD2 hO2
        have c9 := c_operand l G er F X K2 D2 P gv O T D.2.2.1 hn hX g2 hD2.1 (by omega) hO2.1 hD2.2.1
        obtain ⟨r, er9⟩ : ∃ r, r = opdF X K2 D2 D.2.2.1 := ⟨_, rfl⟩
        rw [op4, ← er9] at r2
        rw [← er9] at g c9
        obtain ⟨⟨v1, v2, v3, v4, v5, v6⟩, v7⟩ := g
        refine J_aload_n (pc := 83) C dX11_op_83 rfl rfl ?_
        refine J_callV1 (pc := 84) C dX11_op_84 m_X11_208 (c_isName l G _ _ _ _ _ _ _ _ _ _ hn hX (by first | assumption | exact (nextF_g (by omega)).1)) ⟨jle rfl, jle rfl⟩ rfl rfl rfl rfl rfl (jle rfl) ⟨Nat.zero_le _, Nat.zero_le _⟩ ?_
        try dsimp only
        refine J_if_eq (pc := 87) (tgt := 123) C dX11_op_87 (by decide) (fun h87 => ?_) (fun h87 => ?_)
        · rw [r2, if_neg (by rw [bI_f h87]; decide)]
          exact l_op7 l G er F X K2 D2 P gv O T K1.2.1 D.2.2.1 C hn hX g2 hD2 hO2 (by omega)
        · rw [if_pos (bI_t h87)] at r2
          refine J_aload_n (pc := 90) C dX11_op_90 rfl rfl ?_
          refine J_iload_n (pc := 91) C dX11_op_91 rfl rfl ?_
          refine J_callV1 (pc := 92) C dX11_op_92 m_X11_221 (c9) ⟨jle rfl, jle rfl⟩ rfl rfl rfl rfl rfl (jle rfl) ⟨Nat.zero_le _, Nat.zero_le _⟩ ?_
          try dsimp only
          refine J_if_ne (pc := 95) (tgt := 100) C dX11_op_95 (by decide) (fun h95 => ?_) (fun h95 => ?_)
          · have z1 : r.1 = none := isN_t h95
            rw [r2, show mB r (opsL X D.2.2.1 (X.1 + 1)) = opsL X D.2.2.1 (X.1 + 1) r.2.1 r.2.2 from if_pos z1, z1]
            exact l_ops l G er F X r.2.1 r.2.2 P gv O T K1.2.1 D.2.2.1 (X.1 + 1) C hn hX v1 v3 (v6 z1) (by omega) (by have := v1.1.1; have := v1.1.2.1; omega)
          · refine J_iconst (pc := 98) (v := nI 0) C dX11_op_98 (by decide) ?_
            exact J_zret (pc := 99) C dX11_op_99 rfl (by first | rfl | decide) (mR_e (r2.trans (by rw [mB_e (isN_f h95), mB_e (isN_f h95)])) (isN_f h95)) (Nat.zero_le _) (Nat.zero_le _)
      · refine J_aload_n (pc := 54) C dX11_op_54 rfl rfl ?_
        refine J_aload_n (pc := 55) C dX11_op_55 rfl rfl ?_
        refine J_get (pc := 56) C dX11_op_56 f_X11_113 rfl rfl ?_
        try dsimp only
        refine J_callV1 (pc := 59) C dX11_op_59 m_X11_142 (c_bad l G _ _ _ _ _ _ _ _ _ _ _) ⟨jle rfl, jle rfl⟩ rfl rfl rfl rfl rfl (jle rfl) ⟨Nat.zero_le _, Nat.zero_le _⟩ ?_
        try dsimp only
        exact J_zret (pc := 62) C dX11_op_62 rfl (by first | rfl | decide) (mR_f (r1.trans (by rw [op1, if_neg (by intro z; first | exact absurd (bI_f h36) (by rw [z.1]; decide) | exact h51 ((lI_neg (by have := findF_lt (X := X) (K := K1) (nm := D.2.2.2.2.2.2.1) (m := D.2.2.1) (j := 0); omega)).mpr z.2))]))) (Nat.zero_le _) (Nat.zero_le _)
  · refine J_aload_n (pc := 9) C dX11_op_9 rfl rfl ?_
    refine J_aload_n (pc := 10) C dX11_op_10 rfl rfl ?_
    refine J_get (pc := 11) C dX11_op_11 f_X11_113 rfl rfl ?_
    try dsimp only
    refine J_callV1 (pc := 14) C dX11_op_14 m_X11_142 (c_bad l G _ _ _ _ _ _ _ _ _ _ _) ⟨jle rfl, jle rfl⟩ rfl rfl rfl rfl rfl (jle rfl) ⟨Nat.zero_le _, Nat.zero_le _⟩ ?_
    try dsimp only
    exact J_zret (pc := 17) C dX11_op_17 rfl (by first | rfl | decide) (mR_f (by rw [opF, if_pos h6])) (Nat.zero_le _) (Nat.zero_le _)
