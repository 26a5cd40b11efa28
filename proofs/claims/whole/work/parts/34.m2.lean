theorem bI_and1 (b : Bool) : bI b &&& nI 1 = bI b := by cases b <;> decide
theorem bI_and0 (b : Bool) : bI b &&& nI 0 = bI false := by cases b <;> decide
set_option maxHeartbeats 4000000 in
set_option maxRecDepth 100000 in
theorem c_fails_t (l : Launch) (G : jG) (F X : Nat × (Nat → Nat)) (K : Nat × Nat × Nat) (wr : Int32) (D : mD) (P : mP) (gv : Nat → Int64) (O : Nat × (Nat → Nat)) (T : jMem) (cd : Nat) (h2 : cd < 2 ^ 31) (h3 : cd ≠ 0) : jC l G yX11_fails cX11_fails 3 (some .boolean) 1 12 0 0 [.ref 1000, .int (nI 1), .int (nI cd)] (encM 0 F X K wr D P gv O T) (.inl (some (.int (nI 1)), encM cd F X K wr D P gv O T)) := by
  refine jC.of (by decide) 0 rfl [some (.ref 1000), some (.int (nI 1)), some (.int (nI cd))] rfl (fun p e s m args below meth c C hT9 hNm9 => ?_)
  refine J_iload_n (pc := 0) C dX11_fails_0 rfl rfl ?_
  refine J_if_eqN (pc := 1) (tgt := 16) C dX11_fails_1 (by decide) (by omega) (fun h1 => absurd h1 (by decide)) (fun _ => ?_)
  refine J_aload_n (pc := 4) C dX11_fails_4 rfl rfl ?_
  refine J_get (pc := 5) C dX11_fails_5 f_X11_75 rfl rfl ?_
  try dsimp only
  refine J_if_neN (pc := 8) (tgt := 16) C dX11_fails_8 (by decide) (by omega) (fun h8 => ?_) (fun h8 => ?_)
  · exact absurd rfl h8
  · refine J_aload_n (pc := 11) C dX11_fails_11 rfl rfl ?_
    refine J_iload_n (pc := 12) C dX11_fails_12 rfl rfl ?_
    refine J_putU (pc := 13) C dX11_fails_13 p_X11_75 rfl (jlt rfl) rfl rfl (uM_err _) ?_
    try dsimp only
    refine J_aload_n (pc := 16) C dX11_fails_16 rfl rfl ?_
    refine J_get (pc := 17) C dX11_fails_17 f_X11_75 rfl rfl ?_
    try dsimp only
    refine J_if_eqN (pc := 20) (tgt := 27) C dX11_fails_20 (by decide) (by omega) (fun h20 => ?_) (fun h20 => ?_)
    · exact absurd h20 h3
    · refine J_iconst (pc := 23) (v := nI 1) C dX11_fails_23 (by decide) ?_
      refine J_goto (pc := 24) (tgt := 28) C dX11_fails_24 (by decide) ?_
      exact J_zret (pc := 28) C dX11_fails_28 rfl (by first | rfl | decide) (rfl) (Nat.zero_le _) (Nat.zero_le _)
set_option maxHeartbeats 4000000 in
set_option maxRecDepth 100000 in
theorem c_fails_f (l : Launch) (G : jG) (F X : Nat × (Nat → Nat)) (K : Nat × Nat × Nat) (wr : Int32) (D : mD) (P : mP) (gv : Nat → Int64) (O : Nat × (Nat → Nat)) (T : jMem) (cd : Nat)  : jC l G yX11_fails cX11_fails 3 (some .boolean) 1 12 0 0 [.ref 1000, .int (nI 0), .int (nI cd)] (encM 0 F X K wr D P gv O T) (.inl (some (.int (nI 0)), encM 0 F X K wr D P gv O T)) := by
  refine jC.of (by decide) 0 rfl [some (.ref 1000), some (.int (nI 0)), some (.int (nI cd))] rfl (fun p e s m args below meth c C hT9 hNm9 => ?_)
  refine J_iload_n (pc := 0) C dX11_fails_0 rfl rfl ?_
  refine J_if_eqN (pc := 1) (tgt := 16) C dX11_fails_1 (by decide) (by omega) (fun _ => ?_) (fun h1 => absurd h1 (by decide))
  refine J_aload_n (pc := 16) C dX11_fails_16 rfl rfl ?_
  refine J_get (pc := 17) C dX11_fails_17 f_X11_75 rfl rfl ?_
  try dsimp only
  refine J_if_eqN (pc := 20) (tgt := 27) C dX11_fails_20 (by decide) (by omega) (fun h20 => ?_) (fun h20 => ?_)
  · refine J_iconst (pc := 27) (v := nI 0) C dX11_fails_27 (by decide) ?_
    exact J_zret (pc := 28) C dX11_fails_28 rfl (by first | rfl | decide) (rfl) (Nat.zero_le _) (Nat.zero_le _)
  · exact absurd rfl h20
set_option maxHeartbeats 4000000 in
set_option maxRecDepth 100000 in
theorem l_is (l : Launch) (G : jG) {p : Program} {e : Env} {s : State} {m : MethodId} {args : Array Value} {below : List Frame} {meth : Method} {c : Code} (er : Nat) (F X : Nat × (Nat → Nat)) (K : Nat × Nat × Nat) (wr : Int32) (D : mD) (P : mP) (gv : Nat → Int64) (O : Nat × (Nat → Nat)) (T : jMem) {i : Nat} {q : String × Nat × String × List Nat} (k : Nat) (C : jX0 p l (jR 6 118 0 0) s m args meth c G cX11_is 3 RX11 (some .boolean)) (hn : X.1 ≤ 4000) (hX : ∀ k, X.2 k < 256) (hs : jStr[i]? = some q) (hK : tkOK X K) (hl9 : K.2.2 - K.2.1 = q.2.2.2.length) (hk : k ≤ q.2.2.2.length) : J p l e (jR 6 118 0 0) s m args below meth c G 3 0 0 (.inl (some (.int (bI (eqF X K.2.1 q.2.2.2 k))), encM er F X K wr D P gv O T)) 20 [some (.ref 1000), some (.ref (2000 + i)), some (.int (nI k))] [] (encM er F X K wr D P gv O T) 0 0 := by
  obtain ⟨t1, t2, t3, t4, t5, t6⟩ := hK
  have hq := (jStr_get (a := 0) hs).1
  induction hm : q.2.2.2.length - k generalizing k with
  | zero =>
    refine J_iload_n (pc := 20) C dX11_is_20 rfl rfl ?_
    refine J_aload_n (pc := 21) C dX11_is_21 rfl rfl ?_
    refine J_callVS (pc := 22) C dX11_is_22 m_X11_129 rfl hs (c_length l G _ hs) ⟨jle rfl, jle rfl⟩ rfl rfl (jle rfl) ⟨Nat.zero_le _, Nat.zero_le _⟩ ?_
    refine J_icmp_geN (pc := 25) (tgt := 55) C dX11_is_25 (by decide) (by omega) (by omega) (fun h25 => ?_) (fun h25 => ?_)
    · refine J_iconst (pc := 55) (v := nI 1) C dX11_is_55 (by decide) ?_
      exact J_zret (pc := 56) C dX11_is_56 rfl (by first | rfl | decide) (jo (bI_1 (by rw [eqF, if_neg (by omega)]))) (Nat.zero_le _) (Nat.zero_le _)
    · omega
  | succ d ih =>
    have hq2 := (jStr_get (a := k) hs).2
    have hv := hX (K.2.1 + k)
    refine J_iload_n (pc := 20) C dX11_is_20 rfl rfl ?_
    refine J_aload_n (pc := 21) C dX11_is_21 rfl rfl ?_
    refine J_callVS (pc := 22) C dX11_is_22 m_X11_129 rfl hs (c_length l G _ hs) ⟨jle rfl, jle rfl⟩ rfl rfl (jle rfl) ⟨Nat.zero_le _, Nat.zero_le _⟩ ?_
    refine J_icmp_geN (pc := 25) (tgt := 55) C dX11_is_25 (by decide) (by omega) (by omega) (fun h25 => ?_) (fun h25 => ?_)
    · omega
    · refine J_aload_n (pc := 28) C dX11_is_28 rfl rfl ?_
      refine J_get (pc := 29) C dX11_is_29 f_X11_17 rfl rfl ?_
      refine J_aload_n (pc := 32) C dX11_is_32 rfl rfl ?_
      refine J_get (pc := 33) C dX11_is_33 f_X11_113 rfl rfl ?_
      try dsimp only
      refine J_iload_n (pc := 36) C dX11_is_36 rfl rfl ?_
      refine J_iaddN (pc := 37) C dX11_is_37 ?_
      refine J_ialdN (pc := 38) C dX11_is_38 rfl (by omega) (by decide) ?_
      try dsimp only
      refine J_aload_n (pc := 39) C dX11_is_39 rfl rfl ?_
      refine J_iload_n (pc := 40) C dX11_is_40 rfl rfl ?_
      refine J_callVS (pc := 41) C dX11_is_41 m_X11_135 rfl hs (c_charAt l G _ hs _ (by omega)) ⟨jle rfl, jle rfl⟩ rfl rfl (jle rfl) ⟨Nat.zero_le _, Nat.zero_le _⟩ ?_
      refine J_icmp_eqN (pc := 44) (tgt := 49) C dX11_is_44 (by decide) (by omega) (by omega) (fun h44 => ?_) (fun h44 => ?_)
      · refine J_iincN (pc := 49) C dX11_is_49 rfl (by decide) rfl ?_
        dsimp only [List.set]
        refine J_goto (pc := 52) (tgt := 20) C dX11_is_52 (by decide) ?_
        have h1 : eqF X K.2.1 q.2.2.2 k = eqF X K.2.1 q.2.2.2 (k + 1) := by
          conv => lhs; rw [eqF]
          rw [if_pos (by omega), if_pos h44]
        rw [h1]
        exact ih (k + 1) (by omega) (by omega)
      · refine J_iconst (pc := 47) (v := nI 0) C dX11_is_47 (by decide) ?_
        exact J_zret (pc := 48) C dX11_is_48 rfl (by first | rfl | decide) (jo (bI_0 (by rw [eqF, if_pos (by omega), if_neg h44]))) (Nat.zero_le _) (Nat.zero_le _)
set_option maxHeartbeats 4000000 in
set_option maxRecDepth 100000 in
theorem c_is (l : Launch) (G : jG) (er : Nat) (F X : Nat × (Nat → Nat)) (K : Nat × Nat × Nat) (wr : Int32) (D : mD) (P : mP) (gv : Nat → Int64) (O : Nat × (Nat → Nat)) (T : jMem) {i : Nat} {q : String × Nat × String × List Nat} (hn : X.1 ≤ 4000) (hX : ∀ k, X.2 k < 256) (hs : jStr[i]? = some q) (hK : tkOK X K) : jC l G yX11_is cX11_is 3 (some .boolean) 6 118 0 0 [.ref 1000, .ref (2000 + i)] (encM er F X K wr D P gv O T) (.inl (some (.int (bI (isW X K q.2.2.2))), encM er F X K wr D P gv O T)) := by
  refine jC.of (by decide) 1 rfl [some (.ref 1000), some (.ref (2000 + i)), none] rfl (fun p e s m args below meth c C hT9 hNm9 => ?_)
  have hq := (jStr_get (a := 0) hs).1
  have hK9 := hK
  obtain ⟨t1, t2, t3, t4, t5, t6⟩ := hK
  refine J_aload_n (pc := 0) C dX11_is_0 rfl rfl ?_
  refine J_get (pc := 1) C dX11_is_1 f_X11_110 rfl rfl ?_
  try dsimp only
  refine J_aload_n (pc := 4) C dX11_is_4 rfl rfl ?_
  refine J_get (pc := 5) C dX11_is_5 f_X11_113 rfl rfl ?_
  try dsimp only
  refine J_isubN (pc := 8) C dX11_is_8 (by omega) ?_
  refine J_aload_n (pc := 9) C dX11_is_9 rfl rfl ?_
  refine J_callVS (pc := 10) C dX11_is_10 m_X11_129 rfl hs (c_length l G _ hs) ⟨jle rfl, jle rfl⟩ rfl rfl (jle rfl) ⟨Nat.zero_le _, Nat.zero_le _⟩ ?_
  refine J_icmp_eqN (pc := 13) (tgt := 18) C dX11_is_13 (by decide) (by omega) (by omega) (fun h13 => ?_) (fun h13 => ?_)
  · refine J_iconst (pc := 18) (v := nI 0) C dX11_is_18 (by decide) ?_
    refine J_istore_n (pc := 19) C dX11_is_19 rfl (by decide) rfl ?_
    dsimp only [List.set]
    have h1 : isW X K q.2.2.2 = eqF X K.2.1 q.2.2.2 0 := by rw [isW, decide_eq_true h13, Bool.true_and]
    rw [h1]
    exact l_is l G er F X K wr D P gv O T 0 C hn hX hs hK9 h13 (Nat.zero_le _)
  · refine J_iconst (pc := 16) (v := nI 0) C dX11_is_16 (by decide) ?_
    exact J_zret (pc := 17) C dX11_is_17 rfl (by first | rfl | decide) (jo (bI_0 (by rw [isW, decide_eq_false h13, Bool.false_and]))) (Nat.zero_le _) (Nat.zero_le _)
set_option maxHeartbeats 4000000 in
set_option maxRecDepth 100000 in
theorem c_isKey (l : Launch) (G : jG) (er : Nat) (F X : Nat × (Nat → Nat)) (K : Nat × Nat × Nat) (wr : Int32) (D : mD) (P : mP) (gv : Nat → Int64) (O : Nat × (Nat → Nat)) (T : jMem) (hn : X.1 ≤ 4000) (hX : ∀ k, X.2 k < 256) (hK : tkOK X K) : jC l G yX11_isKey cX11_isKey 1 (some .boolean) 7 140 0 0 [.ref 1000] (encM er F X K wr D P gv O T) (.inl (some (.int (bI (isKeyF X K))), encM er F X K wr D P gv O T)) := by
  refine jC.of (by decide) 0 rfl [some (.ref 1000)] rfl (fun p e s m args below meth c C hT9 hNm9 => ?_)
  refine J_aload_n (pc := 0) C dX11_isKey_0 rfl rfl ?_
  refine J_ldcS (pc := 1) (i := 20) C dX11_isKey_1 rfl ?_
  refine J_callV1 (pc := 3) C dX11_isKey_3 m_X11_150 (c_is l G _ _ _ _ _ _ _ _ _ _ hn hX rfl hK) ⟨jle rfl, jle rfl⟩ rfl rfl rfl rfl rfl (jle rfl) ⟨Nat.zero_le _, Nat.zero_le _⟩ ?_
  refine J_if_ne (pc := 6) (tgt := 63) C dX11_isKey_6 (by decide) (fun h6 => ?_) (fun h6 => ?_)
  · refine J_iconst (pc := 63) (v := nI 1) C dX11_isKey_63 (by decide) ?_
    refine J_goto (pc := 64) (tgt := 68) C dX11_isKey_64 (by decide) ?_
    exact J_zret (pc := 68) C dX11_isKey_68 rfl (by first | rfl | decide) (jo (by first | exact bI_1 (isKeyF_t (Or.inl (bI_t h6))) | exact bI_1 (isKeyF_t (Or.inr (Or.inl (bI_t h15)))) | exact bI_1 (isKeyF_t (Or.inr (Or.inr (Or.inl (bI_t h24))))) | exact bI_1 (isKeyF_t (Or.inr (Or.inr (Or.inr (Or.inl (bI_t h33)))))) | exact bI_1 (isKeyF_t (Or.inr (Or.inr (Or.inr (Or.inr (Or.inl (bI_t h42))))))) | exact bI_1 (isKeyF_t (Or.inr (Or.inr (Or.inr (Or.inr (Or.inr (Or.inl (bI_t h51)))))))) | exact bI_1 (isKeyF_t (Or.inr (Or.inr (Or.inr (Or.inr (Or.inr (Or.inr (bI_t h60)))))))) | exact bI_0 (isKeyF_f (bI_f h6) (bI_f h15) (bI_f h24) (bI_f h33) (bI_f h42) (bI_f h51) (bI_f h60)))) (Nat.zero_le _) (Nat.zero_le _)
  · refine J_aload_n (pc := 9) C dX11_isKey_9 rfl rfl ?_
    refine J_ldcS (pc := 10) (i := 21) C dX11_isKey_10 rfl ?_
    refine J_callV1 (pc := 12) C dX11_isKey_12 m_X11_150 (c_is l G _ _ _ _ _ _ _ _ _ _ hn hX rfl hK) ⟨jle rfl, jle rfl⟩ rfl rfl rfl rfl rfl (jle rfl) ⟨Nat.zero_le _, Nat.zero_le _⟩ ?_
    refine J_if_ne (pc := 15) (tgt := 63) C dX11_isKey_15 (by decide) (fun h15 => ?_) (fun h15 => ?_)
    · refine J_iconst (pc := 63) (v := nI 1) C dX11_isKey_63 (by decide) ?_
      refine J_goto (pc := 64) (tgt := 68) C dX11_isKey_64 (by decide) ?_
      exact J_zret (pc := 68) C dX11_isKey_68 rfl (by first | rfl | decide) (jo (by first | exact bI_1 (isKeyF_t (Or.inl (bI_t h6))) | exact bI_1 (isKeyF_t (Or.inr (Or.inl (bI_t h15)))) | exact bI_1 (isKeyF_t (Or.inr (Or.inr (Or.inl (bI_t h24))))) | exact bI_1 (isKeyF_t (Or.inr (Or.inr (Or.inr (Or.inl (bI_t h33)))))) | exact bI_1 (isKeyF_t (Or.inr (Or.inr (Or.inr (Or.inr (Or.inl (bI_t h42))))))) | exact bI_1 (isKeyF_t (Or.inr (Or.inr (Or.inr (Or.inr (Or.inr (Or.inl (bI_t h51)))))))) | exact bI_1 (isKeyF_t (Or.inr (Or.inr (Or.inr (Or.inr (Or.inr (Or.inr (bI_t h60)))))))) | exact bI_0 (isKeyF_f (bI_f h6) (bI_f h15) (bI_f h24) (bI_f h33) (bI_f h42) (bI_f h51) (bI_f h60)))) (Nat.zero_le _) (Nat.zero_le _)
    · refine J_aload_n (pc := 18) C dX11_isKey_18 rfl rfl ?_
      refine J_ldcS (pc := 19) (i := 22) C dX11_isKey_19 rfl ?_
      refine J_callV1 (pc := 21) C dX11_isKey_21 m_X11_150 (c_is l G _ _ _ _ _ _ _ _ _ _ hn hX rfl hK) ⟨jle rfl, jle rfl⟩ rfl rfl rfl rfl rfl (jle rfl) ⟨Nat.zero_le _, Nat.zero_le _⟩ ?_
      refine J_if_ne (pc := 24) (tgt := 63) C dX11_isKey_24 (by decide) (fun h24 => ?_) (fun h24 => ?_)
      · refine J_iconst (pc := 63) (v := nI 1) C dX11_isKey_63 (by decide) ?_
        refine J_goto (pc := 64) (tgt := 68) C dX11_isKey_64 (by decide) ?_
        exact J_zret (pc := 68) C dX11_isKey_68 rfl (by first | rfl | decide) (jo (by first | exact bI_1 (isKeyF_t (Or.inl (bI_t h6))) | exact bI_1 (isKeyF_t (Or.inr (Or.inl (bI_t h15)))) | exact bI_1 (isKeyF_t (Or.inr (Or.inr (Or.inl (bI_t h24))))) | exact bI_1 (isKeyF_t (Or.inr (Or.inr (Or.inr (Or.inl (bI_t h33)))))) | exact bI_1 (isKeyF_t (Or.inr (Or.inr (Or.inr (Or.inr (Or.inl (bI_t h42))))))) | exact bI_1 (isKeyF_t (Or.inr (Or.inr (Or.inr (Or.inr (Or.inr (Or.inl (bI_t h51)))))))) | exact bI_1 (isKeyF_t (Or.inr (Or.inr (Or.inr (Or.inr (Or.inr (Or.inr (bI_t h60)))))))) | exact bI_0 (isKeyF_f (bI_f h6) (bI_f h15) (bI_f h24) (bI_f h33) (bI_f h42) (bI_f h51) (bI_f h60)))) (Nat.zero_le _) (Nat.zero_le _)
      · refine J_aload_n (pc := 27) C dX11_isKey_27 rfl rfl ?_
        refine J_ldcS (pc := 28) (i := 23) C dX11_isKey_28 rfl ?_
        refine J_callV1 (pc := 30) C dX11_isKey_30 m_X11_150 (c_is l G _ _ _ _ _ _ _ _ _ _ hn hX rfl hK) ⟨jle rfl, jle rfl⟩ rfl rfl rfl rfl rfl (jle rfl) ⟨Nat.zero_le _, Nat.zero_le _⟩ ?_
        refine J_if_ne (pc := 33) (tgt := 63) C dX11_isKey_33 (by decide) (fun h33 => ?_) (fun h33 => ?_)
        · refine J_iconst (pc := 63) (v := nI 1) C dX11_isKey_63 (by decide) ?_
          refine J_goto (pc := 64) (tgt := 68) C dX11_isKey_64 (by decide) ?_
          exact J_zret (pc := 68) C dX11_isKey_68 rfl (by first | rfl | decide) (jo (by first | exact bI_1 (isKeyF_t (Or.inl (bI_t h6))) | exact bI_1 (isKeyF_t (Or.inr (Or.inl (bI_t h15)))) | exact bI_1 (isKeyF_t (Or.inr (Or.inr (Or.inl (bI_t h24))))) | exact bI_1 (isKeyF_t (Or.inr (Or.inr (Or.inr (Or.inl (bI_t h33)))))) | exact bI_1 (isKeyF_t (Or.inr (Or.inr (Or.inr (Or.inr (Or.inl (bI_t h42))))))) | exact bI_1 (isKeyF_t (Or.inr (Or.inr (Or.inr (Or.inr (Or.inr (Or.inl (bI_t h51)))))))) | exact bI_1 (isKeyF_t (Or.inr (Or.inr (Or.inr (Or.inr (Or.inr (Or.inr (bI_t h60)))))))) | exact bI_0 (isKeyF_f (bI_f h6) (bI_f h15) (bI_f h24) (bI_f h33) (bI_f h42) (bI_f h51) (bI_f h60)))) (Nat.zero_le _) (Nat.zero_le _)
        · refine J_aload_n (pc := 36) C dX11_isKey_36 rfl rfl ?_
          refine J_ldcS (pc := 37) (i := 24) C dX11_isKey_37 rfl ?_
          refine J_callV1 (pc := 39) C dX11_isKey_39 m_X11_150 (c_is l G _ _ _ _ _ _ _ _ _ _ hn hX rfl hK) ⟨jle rfl, jle rfl⟩ rfl rfl rfl rfl rfl (jle rfl) ⟨Nat.zero_le _, Nat.zero_le _⟩ ?_
          refine J_if_ne (pc := 42) (tgt := 63) C dX11_isKey_42 (by decide) (fun h42 => ?_) (fun h42 => ?_)
          · refine J_iconst (pc := 63) (v := nI 1) C dX11_isKey_63 (by decide) ?_
            refine J_goto (pc := 64) (tgt := 68) C dX11_isKey_64 (by decide) ?_
            exact J_zret (pc := 68) C dX11_isKey_68 rfl (by first | rfl | decide) (jo (by first | exact bI_1 (isKeyF_t (Or.inl (bI_t h6))) | exact bI_1 (isKeyF_t (Or.inr (Or.inl (bI_t h15)))) | exact bI_1 (isKeyF_t (Or.inr (Or.inr (Or.inl (bI_t h24))))) | exact bI_1 (isKeyF_t (Or.inr (Or.inr (Or.inr (Or.inl (bI_t h33)))))) | exact bI_1 (isKeyF_t (Or.inr (Or.inr (Or.inr (Or.inr (Or.inl (bI_t h42))))))) | exact bI_1 (isKeyF_t (Or.inr (Or.inr (Or.inr (Or.inr (Or.inr (Or.inl (bI_t h51)))))))) | exact bI_1 (isKeyF_t (Or.inr (Or.inr (Or.inr (Or.inr (Or.inr (Or.inr (bI_t h60)))))))) | exact bI_0 (isKeyF_f (bI_f h6) (bI_f h15) (bI_f h24) (bI_f h33) (bI_f h42) (bI_f h51) (bI_f h60)))) (Nat.zero_le _) (Nat.zero_le _)
          · refine J_aload_n (pc := 45) C dX11_isKey_45 rfl rfl ?_
            refine J_ldcS (pc := 46) (i := 25) C dX11_isKey_46 rfl ?_
            refine J_callV1 (pc := 48) C dX11_isKey_48 m_X11_150 (c_is l G _ _ _ _ _ _ _ _ _ _ hn hX rfl hK) ⟨jle rfl, jle rfl⟩ rfl rfl rfl rfl rfl (jle rfl) ⟨Nat.zero_le _, Nat.zero_le _⟩ ?_
            refine J_if_ne (pc := 51) (tgt := 63) C dX11_isKey_51 (by decide) (fun h51 => ?_) (fun h51 => ?_)
            · refine J_iconst (pc := 63) (v := nI 1) C dX11_isKey_63 (by decide) ?_
              refine J_goto (pc := 64) (tgt := 68) C dX11_isKey_64 (by decide) ?_
              exact J_zret (pc := 68) C dX11_isKey_68 rfl (by first | rfl | decide) (jo (by first | exact bI_1 (isKeyF_t (Or.inl (bI_t h6))) | exact bI_1 (isKeyF_t (Or.inr (Or.inl (bI_t h15)))) | exact bI_1 (isKeyF_t (Or.inr (Or.inr (Or.inl (bI_t h24))))) | exact bI_1 (isKeyF_t (Or.inr (Or.inr (Or.inr (Or.inl (bI_t h33)))))) | exact bI_1 (isKeyF_t (Or.inr (Or.inr (Or.inr (Or.inr (Or.inl (bI_t h42))))))) | exact bI_1 (isKeyF_t (Or.inr (Or.inr (Or.inr (Or.inr (Or.inr (Or.inl (bI_t h51)))))))) | exact bI_1 (isKeyF_t (Or.inr (Or.inr (Or.inr (Or.inr (Or.inr (Or.inr (bI_t h60)))))))) | exact bI_0 (isKeyF_f (bI_f h6) (bI_f h15) (bI_f h24) (bI_f h33) (bI_f h42) (bI_f h51) (bI_f h60)))) (Nat.zero_le _) (Nat.zero_le _)
            · refine J_aload_n (pc := 54) C dX11_isKey_54 rfl rfl ?_
              refine J_ldcS (pc := 55) (i := 26) C dX11_isKey_55 rfl ?_
              refine J_callV1 (pc := 57) C dX11_isKey_57 m_X11_150 (c_is l G _ _ _ _ _ _ _ _ _ _ hn hX rfl hK) ⟨jle rfl, jle rfl⟩ rfl rfl rfl rfl rfl (jle rfl) ⟨Nat.zero_le _, Nat.zero_le _⟩ ?_
              refine J_if_eq (pc := 60) (tgt := 67) C dX11_isKey_60 (by decide) (fun h60 => ?_) (fun h60 => ?_)
              · refine J_iconst (pc := 67) (v := nI 0) C dX11_isKey_67 (by decide) ?_
                exact J_zret (pc := 68) C dX11_isKey_68 rfl (by first | rfl | decide) (jo (by first | exact bI_1 (isKeyF_t (Or.inl (bI_t h6))) | exact bI_1 (isKeyF_t (Or.inr (Or.inl (bI_t h15)))) | exact bI_1 (isKeyF_t (Or.inr (Or.inr (Or.inl (bI_t h24))))) | exact bI_1 (isKeyF_t (Or.inr (Or.inr (Or.inr (Or.inl (bI_t h33)))))) | exact bI_1 (isKeyF_t (Or.inr (Or.inr (Or.inr (Or.inr (Or.inl (bI_t h42))))))) | exact bI_1 (isKeyF_t (Or.inr (Or.inr (Or.inr (Or.inr (Or.inr (Or.inl (bI_t h51)))))))) | exact bI_1 (isKeyF_t (Or.inr (Or.inr (Or.inr (Or.inr (Or.inr (Or.inr (bI_t h60)))))))) | exact bI_0 (isKeyF_f (bI_f h6) (bI_f h15) (bI_f h24) (bI_f h33) (bI_f h42) (bI_f h51) (bI_f h60)))) (Nat.zero_le _) (Nat.zero_le _)
              · refine J_iconst (pc := 63) (v := nI 1) C dX11_isKey_63 (by decide) ?_
                refine J_goto (pc := 64) (tgt := 68) C dX11_isKey_64 (by decide) ?_
                exact J_zret (pc := 68) C dX11_isKey_68 rfl (by first | rfl | decide) (jo (by first | exact bI_1 (isKeyF_t (Or.inl (bI_t h6))) | exact bI_1 (isKeyF_t (Or.inr (Or.inl (bI_t h15)))) | exact bI_1 (isKeyF_t (Or.inr (Or.inr (Or.inl (bI_t h24))))) | exact bI_1 (isKeyF_t (Or.inr (Or.inr (Or.inr (Or.inl (bI_t h33)))))) | exact bI_1 (isKeyF_t (Or.inr (Or.inr (Or.inr (Or.inr (Or.inl (bI_t h42))))))) | exact bI_1 (isKeyF_t (Or.inr (Or.inr (Or.inr (Or.inr (Or.inr (Or.inl (bI_t h51)))))))) | exact bI_1 (isKeyF_t (Or.inr (Or.inr (Or.inr (Or.inr (Or.inr (Or.inr (bI_t h60)))))))) | exact bI_0 (isKeyF_f (bI_f h6) (bI_f h15) (bI_f h24) (bI_f h33) (bI_f h42) (bI_f h51) (bI_f h60)))) (Nat.zero_le _) (Nat.zero_le _)
set_option maxHeartbeats 4000000 in
set_option maxRecDepth 100000 in
theorem c_isName (l : Launch) (G : jG) (er : Nat) (F X : Nat × (Nat → Nat)) (K : Nat × Nat × Nat) (wr : Int32) (D : mD) (P : mP) (gv : Nat → Int64) (O : Nat × (Nat → Nat)) (T : jMem) (hn : X.1 ≤ 4000) (hX : ∀ k, X.2 k < 256) (hK : tkOK X K) : jC l G yX11_isName cX11_isName 1 (some .boolean) 8 160 0 0 [.ref 1000] (encM er F X K wr D P gv O T) (.inl (some (.int (bI (isNameF X K))), encM er F X K wr D P gv O T)) := by
  refine jC.of (by decide) 0 rfl [some (.ref 1000)] rfl (fun p e s m args below meth c C hT9 hNm9 => ?_)
  have hK9 := hK
  obtain ⟨t1, t2, t3, t4, t5, t6⟩ := hK9
  refine J_aload_n (pc := 0) C dX11_isName_0 rfl rfl ?_
  refine J_get (pc := 1) C dX11_isName_1 f_X11_120 rfl rfl ?_
  try dsimp only
  refine J_iconst (pc := 4) (v := nI 1) C dX11_isName_4 (by decide) ?_
  refine J_icmp_neN (pc := 5) (tgt := 19) C dX11_isName_5 (by decide) (by omega) (by omega) (fun h5 => ?_) (fun h5 => ?_)
  · refine J_iconst (pc := 19) (v := nI 0) C dX11_isName_19 (by decide) ?_
    exact J_zret (pc := 20) C dX11_isName_20 rfl (by first | rfl | decide) (jo (by first | exact bI_1 (by rw [isNameF, decide_eq_true h5, bI_f h12]; rfl) | exact bI_0 (by rw [isNameF, bI_t h12]; simp) | exact bI_0 (by rw [isNameF, decide_eq_false h5, Bool.false_and]))) (Nat.zero_le _) (Nat.zero_le _)
  · refine J_aload_n (pc := 8) C dX11_isName_8 rfl rfl ?_
    refine J_callV1 (pc := 9) C dX11_isName_9 m_X11_165 (c_isKey l G _ _ _ _ _ _ _ _ _ _ hn hX hK) ⟨jle rfl, jle rfl⟩ rfl rfl rfl rfl rfl (jle rfl) ⟨Nat.zero_le _, Nat.zero_le _⟩ ?_
    refine J_if_ne (pc := 12) (tgt := 19) C dX11_isName_12 (by decide) (fun h12 => ?_) (fun h12 => ?_)
    · refine J_iconst (pc := 19) (v := nI 0) C dX11_isName_19 (by decide) ?_
      exact J_zret (pc := 20) C dX11_isName_20 rfl (by first | rfl | decide) (jo (by first | exact bI_1 (by rw [isNameF, decide_eq_true h5, bI_f h12]; rfl) | exact bI_0 (by rw [isNameF, bI_t h12]; simp) | exact bI_0 (by rw [isNameF, decide_eq_false h5, Bool.false_and]))) (Nat.zero_le _) (Nat.zero_le _)
    · refine J_iconst (pc := 15) (v := nI 1) C dX11_isName_15 (by decide) ?_
      refine J_goto (pc := 16) (tgt := 20) C dX11_isName_16 (by decide) ?_
      exact J_zret (pc := 20) C dX11_isName_20 rfl (by first | rfl | decide) (jo (by first | exact bI_1 (by rw [isNameF, decide_eq_true h5, bI_f h12]; rfl) | exact bI_0 (by rw [isNameF, bI_t h12]; simp) | exact bI_0 (by rw [isNameF, decide_eq_false h5, Bool.false_and]))) (Nat.zero_le _) (Nat.zero_le _)
set_option maxHeartbeats 4000000 in
set_option maxRecDepth 100000 in
theorem c_isSign (l : Launch) (G : jG) (er : Nat) (F X : Nat × (Nat → Nat)) (K : Nat × Nat × Nat) (wr : Int32) (D : mD) (P : mP) (gv : Nat → Int64) (O : Nat × (Nat → Nat)) (T : jMem) (x : Nat) (hn : X.1 ≤ 4000) (hX : ∀ k, X.2 k < 256) (hK : tkOK X K) (hx : x < 2 ^ 31) : jC l G yX11_isSign cX11_isSign 2 (some .boolean) 1 12 0 0 [.ref 1000, .int (nI x)] (encM er F X K wr D P gv O T) (.inl (some (.int (bI (isSignF X K x))), encM er F X K wr D P gv O T)) := by
  refine jC.of (by decide) 0 rfl [some (.ref 1000), some (.int (nI x))] rfl (fun p e s m args below meth c C hT9 hNm9 => ?_)
  have hK9 := hK
  obtain ⟨t1, t2, t3, t4, t5, t6⟩ := hK9
  have hv := hX K.2.1
  refine J_aload_n (pc := 0) C dX11_isSign_0 rfl rfl ?_
  refine J_get (pc := 1) C dX11_isSign_1 f_X11_120 rfl rfl ?_
  try dsimp only
  refine J_iconst (pc := 4) (v := nI 4) C dX11_isSign_4 (by decide) ?_
  refine J_icmp_neN (pc := 5) (tgt := 25) C dX11_isSign_5 (by decide) (by omega) (by omega) (fun h5 => ?_) (fun h5 => ?_)
  · refine J_iconst (pc := 25) (v := nI 0) C dX11_isSign_25 (by decide) ?_
    exact J_zret (pc := 26) C dX11_isSign_26 rfl (by first | rfl | decide) (jo (by first | exact bI_1 (by rw [isSignF, decide_eq_true h5, decide_eq_true h18]; rfl) | exact bI_0 (by rw [isSignF, decide_eq_false h18, Bool.and_false]) | exact bI_0 (by rw [isSignF, decide_eq_false h5, Bool.false_and]))) (Nat.zero_le _) (Nat.zero_le _)
  · refine J_aload_n (pc := 8) C dX11_isSign_8 rfl rfl ?_
    refine J_get (pc := 9) C dX11_isSign_9 f_X11_17 rfl rfl ?_
    refine J_aload_n (pc := 12) C dX11_isSign_12 rfl rfl ?_
    refine J_get (pc := 13) C dX11_isSign_13 f_X11_113 rfl rfl ?_
    try dsimp only
    have t7 := t3 (by omega)
    refine J_ialdN (pc := 16) C dX11_isSign_16 rfl (by omega) (by decide) ?_
    try dsimp only
    refine J_iload_n (pc := 17) C dX11_isSign_17 rfl rfl ?_
    refine J_icmp_neN (pc := 18) (tgt := 25) C dX11_isSign_18 (by decide) (by omega) (by omega) (fun h18 => ?_) (fun h18 => ?_)
    · refine J_iconst (pc := 25) (v := nI 0) C dX11_isSign_25 (by decide) ?_
      exact J_zret (pc := 26) C dX11_isSign_26 rfl (by first | rfl | decide) (jo (by first | exact bI_1 (by rw [isSignF, decide_eq_true h5, decide_eq_true h18]; rfl) | exact bI_0 (by rw [isSignF, decide_eq_false h18, Bool.and_false]) | exact bI_0 (by rw [isSignF, decide_eq_false h5, Bool.false_and]))) (Nat.zero_le _) (Nat.zero_le _)
    · refine J_iconst (pc := 21) (v := nI 1) C dX11_isSign_21 (by decide) ?_
      refine J_goto (pc := 22) (tgt := 26) C dX11_isSign_22 (by decide) ?_
      exact J_zret (pc := 26) C dX11_isSign_26 rfl (by first | rfl | decide) (jo (by first | exact bI_1 (by rw [isSignF, decide_eq_true h5, decide_eq_true h18]; rfl) | exact bI_0 (by rw [isSignF, decide_eq_false h18, Bool.and_false]) | exact bI_0 (by rw [isSignF, decide_eq_false h5, Bool.false_and]))) (Nat.zero_le _) (Nat.zero_le _)
set_option maxHeartbeats 4000000 in
set_option maxRecDepth 100000 in
theorem c_sign_t (l : Launch) (G : jG) (er : Nat) (F X : Nat × (Nat → Nat)) (K : Nat × Nat × Nat) (wr : Int32) (D : mD) (P : mP) (gv : Nat → Int64) (O : Nat × (Nat → Nat)) (T : jMem) (x : Nat) (hn : X.1 ≤ 4000) (hX : ∀ k, X.2 k < 256) (hK : tkOK X K) (hx : x < 2 ^ 31) (h : isSignF X K x = true) : jC l G yX11_sign cX11_sign 2 (some .boolean) 5 98 0 0 [.ref 1000, .int (nI x)] (encM er F X K wr D P gv O T) (.inl (some (.int (nI 1)), encM er F X (nextF X K.2.2) wr D P gv O T)) := by
  refine jC.of (by decide) 0 rfl [some (.ref 1000), some (.int (nI x))] rfl (fun p e s m args below meth c C hT9 hNm9 => ?_)
  have hK9 := hK
  obtain ⟨t1, t2, t3, t4, t5, t6⟩ := hK9
  refine J_aload_n (pc := 0) C dX11_sign_0 rfl rfl ?_
  refine J_iload_n (pc := 1) C dX11_sign_1 rfl rfl ?_
  refine J_callV1 (pc := 2) C dX11_sign_2 m_X11_139 (c_isSign l G _ _ _ _ _ _ _ _ _ _ _ hn hX hK (by omega)) ⟨jle rfl, jle rfl⟩ rfl rfl rfl rfl rfl (jle rfl) ⟨Nat.zero_le _, Nat.zero_le _⟩ ?_
  rw [h]
  refine J_if_ne (pc := 5) (tgt := 17) C dX11_sign_5 (by decide) (fun h5 => ?_) (fun h5 => ?_)
  · refine J_aload_n (pc := 17) C dX11_sign_17 rfl rfl ?_
    refine J_callV0 (pc := 18) C dX11_sign_18 m_X11_145 (c_next l G _ _ _ _ _ _ _ _ _ _ hn hX (by omega)) ⟨jle rfl, jle rfl⟩ rfl rfl rfl rfl rfl (jle rfl) ⟨Nat.zero_le _, Nat.zero_le _⟩ ?_
    refine J_iconst (pc := 21) (v := nI 1) C dX11_sign_21 (by decide) ?_
    exact J_zret (pc := 22) C dX11_sign_22 rfl (by first | rfl | decide) (rfl) (Nat.zero_le _) (Nat.zero_le _)
  · exact absurd h5 (by decide)
set_option maxHeartbeats 4000000 in
set_option maxRecDepth 100000 in
theorem c_sign_f (l : Launch) (G : jG) (er : Nat) (F X : Nat × (Nat → Nat)) (K : Nat × Nat × Nat) (wr : Int32) (D : mD) (P : mP) (gv : Nat → Int64) (O : Nat × (Nat → Nat)) (T : jMem) (x : Nat) (hn : X.1 ≤ 4000) (hX : ∀ k, X.2 k < 256) (hK : tkOK X K) (hx : x < 2 ^ 31) (h : ¬ isSignF X K x = true) : jC l G yX11_sign cX11_sign 2 (some .boolean) 5 98 0 0 [.ref 1000, .int (nI x)] (encM er F X K wr D P gv O T) (.inl (some (.int (nI 0)), encM er F X K (badW wr K.2.1) D P gv O T)) := by
  refine jC.of (by decide) 0 rfl [some (.ref 1000), some (.int (nI x))] rfl (fun p e s m args below meth c C hT9 hNm9 => ?_)
  have hK9 := hK
  obtain ⟨t1, t2, t3, t4, t5, t6⟩ := hK9
  refine J_aload_n (pc := 0) C dX11_sign_0 rfl rfl ?_
  refine J_iload_n (pc := 1) C dX11_sign_1 rfl rfl ?_
  refine J_callV1 (pc := 2) C dX11_sign_2 m_X11_139 (c_isSign l G _ _ _ _ _ _ _ _ _ _ _ hn hX hK (by omega)) ⟨jle rfl, jle rfl⟩ rfl rfl rfl rfl rfl (jle rfl) ⟨Nat.zero_le _, Nat.zero_le _⟩ ?_
  rw [Bool.eq_false_iff.mpr h]
  refine J_if_ne (pc := 5) (tgt := 17) C dX11_sign_5 (by decide) (fun h5 => ?_) (fun h5 => ?_)
  · exact absurd rfl h5
  · refine J_aload_n (pc := 8) C dX11_sign_8 rfl rfl ?_
    refine J_aload_n (pc := 9) C dX11_sign_9 rfl rfl ?_
    refine J_get (pc := 10) C dX11_sign_10 f_X11_113 rfl rfl ?_
    try dsimp only
    refine J_callV1 (pc := 13) C dX11_sign_13 m_X11_142 (c_bad l G _ _ _ _ _ _ _ _ _ _ _) ⟨jle rfl, jle rfl⟩ rfl rfl rfl rfl rfl (jle rfl) ⟨Nat.zero_le _, Nat.zero_le _⟩ ?_
    exact J_zret (pc := 16) C dX11_sign_16 rfl (by decide) (rfl) (Nat.zero_le _) (Nat.zero_le _)
set_option maxHeartbeats 4000000 in
set_option maxRecDepth 100000 in
theorem l_same (l : Launch) (G : jG) {p : Program} {e : Env} {s : State} {m : MethodId} {args : Array Value} {below : List Frame} {meth : Method} {c : Code} (er : Nat) (F X : Nat × (Nat → Nat)) (K : Nat × Nat × Nat) (wr : Int32) (D : mD) (P : mP) (gv : Nat → Int64) (O : Nat × (Nat → Nat)) (T : jMem) {a N : Nat} {nm : Nat → Nat} {o : jO} (mm j k : Nat) (sm : Bool) (C : jX0 p l (jR 1 12 0 0) s m args meth c G cX11_find 6 RX11 (some .int)) (hn : X.1 ≤ 4000) (hX : ∀ k, X.2 k < 256)(hM : (encM er F X K wr D P gv O T).1 a = some (nA N nm)) (hN31 : N < 2 ^ 31) (hnm : ∀ k, nm k < 256) (hK : tkOK X K) (hj : 12 * j + 12 ≤ N) (hj2 : j < 100) (hk : k ≤ 12) (kk : J p l e (jR 1 12 0 0) s m args below meth c G 6 0 0 (o) 78 [some (.ref 1000), some (.ref a), some (.int (nI mm)), some (.int (nI j)), some (.int (bI (sm && sameF X K nm j k))), some (.int (nI 12))] [] (encM er F X K wr D P gv O T) 0 0) : J p l e (jR 1 12 0 0) s m args below meth c G 6 0 0 (o) 13 [some (.ref 1000), some (.ref a), some (.int (nI mm)), some (.int (nI j)), some (.int (bI sm)), some (.int (nI k))] [] (encM er F X K wr D P gv O T) 0 0 := by
  obtain ⟨t1, t2, t3, t4, t5, t6⟩ := hK
  induction hm : 12 - k generalizing k sm with
  | zero =>
    have h12 : k = 12 := by omega
    subst h12
    have h1 : sameF X K nm j 12 = true := by rw [sameF, if_neg (by omega)]
    rw [h1, Bool.and_true] at kk
    refine J_iload (pc := 13) C dX11_find_13 rfl ?_
    refine J_bipush (pc := 15) (v := nI 12) C dX11_find_15 (by decide) ?_
    refine J_icmp_geN (pc := 17) (tgt := 78) C dX11_find_17 (by decide) (by omega) (by omega) (fun h17 => ?_) (fun h17 => ?_)
    · exact kk
    · omega
  | succ d ih =>
    have h9 : sameF X K nm j k = (decide (nm (12 * j + k) = tkL X K k) && sameF X K nm j (k + 1)) := by
      conv => lhs; rw [sameF]
      rw [if_pos (by omega)]
    rw [h9, ← Bool.and_assoc] at kk
    have hv1 := hnm (12 * j + k)
    have hv2 := hX (K.2.1 + k)
    refine J_iload (pc := 13) C dX11_find_13 rfl ?_
    refine J_bipush (pc := 15) (v := nI 12) C dX11_find_15 (by decide) ?_
    refine J_icmp_geN (pc := 17) (tgt := 78) C dX11_find_17 (by decide) (by omega) (by omega) (fun h17 => ?_) (fun h17 => ?_)
    · omega
    · refine J_iload (pc := 20) C dX11_find_20 rfl ?_
      refine J_aload_n (pc := 22) C dX11_find_22 rfl rfl ?_
      refine J_bipush (pc := 23) (v := nI 12) C dX11_find_23 (by decide) ?_
      refine J_iload_n (pc := 25) C dX11_find_25 rfl rfl ?_
      refine J_imulN (pc := 26) C dX11_find_26 ?_
      refine J_iload (pc := 27) C dX11_find_27 rfl ?_
      refine J_iaddN (pc := 29) C dX11_find_29 ?_
      refine J_ialdN (pc := 30) C dX11_find_30 hM (by omega) (hN31) ?_
      try dsimp only
      refine J_aload_n (pc := 31) C dX11_find_31 rfl rfl ?_
      refine J_get (pc := 32) C dX11_find_32 f_X11_113 rfl rfl ?_
      try dsimp only
      refine J_iload (pc := 35) C dX11_find_35 rfl ?_
      refine J_iaddN (pc := 37) C dX11_find_37 ?_
      refine J_aload_n (pc := 38) C dX11_find_38 rfl rfl ?_
      refine J_get (pc := 39) C dX11_find_39 f_X11_110 rfl rfl ?_
      try dsimp only
      refine J_icmp_geN (pc := 42) (tgt := 60) C dX11_find_42 (by decide) (by omega) (by omega) (fun h42 => ?_) (fun h42 => ?_)
      · refine J_iconst (pc := 60) (v := nI 0) C dX11_find_60 (by decide) ?_
        refine J_icmp_neN (pc := 61) (tgt := 68) C dX11_find_61 (by decide) (by omega) (by omega) (fun h61 => ?_) (fun h61 => ?_)
        · refine J_iconst (pc := 68) (v := nI 0) C dX11_find_68 (by decide) ?_
          refine J_iand (pc := 69) C dX11_find_69 ?_
          first | rw [bI_and1] | rw [bI_and0]
          refine J_istore (pc := 70) C dX11_find_70 (by decide) rfl ?_
          dsimp only [List.set]
          refine J_iincN (pc := 72) C dX11_find_72 rfl (by decide) rfl ?_
          dsimp only [List.set]
          refine J_goto (pc := 75) (tgt := 13) C dX11_find_75 (by decide) ?_
          refine ih (k + 1) _ (by omega) ?_ (by omega)
          first
            | (have h8 : decide (nm (12 * j + k) = tkL X K k) = true := by
                 rw [decide_eq_true_eq]
                 first | (rw [tkL, if_pos (by omega)]; exact h61) | (rw [tkL, if_neg (by omega)]; exact h61)
               rw [h8, Bool.and_true] at kk
               exact kk)
            | (have h8 : decide (nm (12 * j + k) = tkL X K k) = false := by
                 rw [decide_eq_false_iff_not]
                 first | (rw [tkL, if_pos (by omega)]; exact h61) | (rw [tkL, if_neg (by omega)]; exact h61)
               rw [h8, Bool.and_false] at kk
               exact kk)
        · refine J_iconst (pc := 64) (v := nI 1) C dX11_find_64 (by decide) ?_
          refine J_goto (pc := 65) (tgt := 69) C dX11_find_65 (by decide) ?_
          refine J_iand (pc := 69) C dX11_find_69 ?_
          first | rw [bI_and1] | rw [bI_and0]
          refine J_istore (pc := 70) C dX11_find_70 (by decide) rfl ?_
          dsimp only [List.set]
          refine J_iincN (pc := 72) C dX11_find_72 rfl (by decide) rfl ?_
          dsimp only [List.set]
          refine J_goto (pc := 75) (tgt := 13) C dX11_find_75 (by decide) ?_
          refine ih (k + 1) _ (by omega) ?_ (by omega)
          first
            | (have h8 : decide (nm (12 * j + k) = tkL X K k) = true := by
                 rw [decide_eq_true_eq]
                 first | (rw [tkL, if_pos (by omega)]; exact h61) | (rw [tkL, if_neg (by omega)]; exact h61)
               rw [h8, Bool.and_true] at kk
               exact kk)
            | (have h8 : decide (nm (12 * j + k) = tkL X K k) = false := by
                 rw [decide_eq_false_iff_not]
                 first | (rw [tkL, if_pos (by omega)]; exact h61) | (rw [tkL, if_neg (by omega)]; exact h61)
               rw [h8, Bool.and_false] at kk
               exact kk)
      · refine J_aload_n (pc := 45) C dX11_find_45 rfl rfl ?_
        refine J_get (pc := 46) C dX11_find_46 f_X11_17 rfl rfl ?_
        refine J_aload_n (pc := 49) C dX11_find_49 rfl rfl ?_
        refine J_get (pc := 50) C dX11_find_50 f_X11_113 rfl rfl ?_
        try dsimp only
        refine J_iload (pc := 53) C dX11_find_53 rfl ?_
        refine J_iaddN (pc := 55) C dX11_find_55 ?_
        refine J_ialdN (pc := 56) C dX11_find_56 rfl (by omega) (by decide) ?_
        try dsimp only
        refine J_goto (pc := 57) (tgt := 61) C dX11_find_57 (by decide) ?_
        refine J_icmp_neN (pc := 61) (tgt := 68) C dX11_find_61 (by decide) (by omega) (by omega) (fun h61 => ?_) (fun h61 => ?_)
        · refine J_iconst (pc := 68) (v := nI 0) C dX11_find_68 (by decide) ?_
          refine J_iand (pc := 69) C dX11_find_69 ?_
          first | rw [bI_and1] | rw [bI_and0]
          refine J_istore (pc := 70) C dX11_find_70 (by decide) rfl ?_
          dsimp only [List.set]
          refine J_iincN (pc := 72) C dX11_find_72 rfl (by decide) rfl ?_
          dsimp only [List.set]
          refine J_goto (pc := 75) (tgt := 13) C dX11_find_75 (by decide) ?_
          refine ih (k + 1) _ (by omega) ?_ (by omega)
          first
            | (have h8 : decide (nm (12 * j + k) = tkL X K k) = true := by
                 rw [decide_eq_true_eq]
                 first | (rw [tkL, if_pos (by omega)]; exact h61) | (rw [tkL, if_neg (by omega)]; exact h61)
               rw [h8, Bool.and_true] at kk
               exact kk)
            | (have h8 : decide (nm (12 * j + k) = tkL X K k) = false := by
                 rw [decide_eq_false_iff_not]
                 first | (rw [tkL, if_pos (by omega)]; exact h61) | (rw [tkL, if_neg (by omega)]; exact h61)
               rw [h8, Bool.and_false] at kk
               exact kk)
        · refine J_iconst (pc := 64) (v := nI 1) C dX11_find_64 (by decide) ?_
          refine J_goto (pc := 65) (tgt := 69) C dX11_find_65 (by decide) ?_
          refine J_iand (pc := 69) C dX11_find_69 ?_
          first | rw [bI_and1] | rw [bI_and0]
          refine J_istore (pc := 70) C dX11_find_70 (by decide) rfl ?_
          dsimp only [List.set]
          refine J_iincN (pc := 72) C dX11_find_72 rfl (by decide) rfl ?_
          dsimp only [List.set]
          refine J_goto (pc := 75) (tgt := 13) C dX11_find_75 (by decide) ?_
          refine ih (k + 1) _ (by omega) ?_ (by omega)
          first
            | (have h8 : decide (nm (12 * j + k) = tkL X K k) = true := by
                 rw [decide_eq_true_eq]
                 first | (rw [tkL, if_pos (by omega)]; exact h61) | (rw [tkL, if_neg (by omega)]; exact h61)
               rw [h8, Bool.and_true] at kk
               exact kk)
            | (have h8 : decide (nm (12 * j + k) = tkL X K k) = false := by
                 rw [decide_eq_false_iff_not]
                 first | (rw [tkL, if_pos (by omega)]; exact h61) | (rw [tkL, if_neg (by omega)]; exact h61)
               rw [h8, Bool.and_false] at kk
               exact kk)
set_option maxHeartbeats 4000000 in
set_option maxRecDepth 100000 in
theorem l_find (l : Launch) (G : jG) {p : Program} {e : Env} {s : State} {m : MethodId} {args : Array Value} {below : List Frame} {meth : Method} {c : Code} (er : Nat) (F X : Nat × (Nat → Nat)) (K : Nat × Nat × Nat) (wr : Int32) (D : mD) (P : mP) (gv : Nat → Int64) (O : Nat × (Nat → Nat)) (T : jMem) {a N : Nat} {nm : Nat → Nat} (mm j : Nat) (v4 v5 : Option Value) (C : jX0 p l (jR 1 12 0 0) s m args meth c G cX11_find 6 RX11 (some .int)) (hn : X.1 ≤ 4000) (hX : ∀ k, X.2 k < 256)(hM : (encM er F X K wr D P gv O T).1 a = some (nA N nm)) (hN31 : N < 2 ^ 31) (hnm : ∀ k, nm k < 256) (hK : tkOK X K) (hN : 12 * mm ≤ N) (hm2 : mm ≤ 60) (hj : j ≤ mm) (h34 : jok [some (.ref 1000), some (.ref a), some (.int (nI mm)), some (.int (nI j)), v4, v5] 4 = true) : J p l e (jR 1 12 0 0) s m args below meth c G 6 0 0 (.inl (some (.int (lI (findF X K nm mm j))), encM er F X K wr D P gv O T)) 2 [some (.ref 1000), some (.ref a), some (.int (nI mm)), some (.int (nI j)), v4, v5] [] (encM er F X K wr D P gv O T) 0 0 := by
  induction hm : mm - j generalizing j v4 v5 with
  | zero =>
    have h1 : findF X K nm mm j = 1000 := by rw [findF, if_neg (by omega)]
    rw [h1]
    refine J_iload_n (pc := 2) C dX11_find_2 rfl rfl ?_
    refine J_iload_n (pc := 3) C dX11_find_3 rfl rfl ?_
    refine J_icmp_geN (pc := 4) (tgt := 91) C dX11_find_4 (by decide) (by omega) (by omega) (fun h4 => ?_) (fun h4 => ?_)
    · refine J_iconst (pc := 91) (v := -1) C dX11_find_91 (by decide) ?_
      exact J_iret (pc := 92) C dX11_find_92 rfl (rfl) (Nat.zero_le _) (Nat.zero_le _)
    · omega
  | succ d ih =>
    refine J_iload_n (pc := 2) C dX11_find_2 rfl rfl ?_
    refine J_iload_n (pc := 3) C dX11_find_3 rfl rfl ?_
    refine J_icmp_geN (pc := 4) (tgt := 91) C dX11_find_4 (by decide) (by omega) (by omega) (fun h4 => ?_) (fun h4 => ?_)
    · omega
    · refine J_iconst (pc := 7) (v := nI 1) C dX11_find_7 (by decide) ?_
      refine J_istore (pc := 8) C dX11_find_8 (by decide) rfl ?_
      dsimp only [List.set]
      refine J_iconst (pc := 10) (v := nI 0) C dX11_find_10 (by decide) ?_
      refine J_istore (pc := 11) C dX11_find_11 (by decide) rfl ?_
      dsimp only [List.set]
      refine l_same l G er F X K wr D P gv O T mm j 0 true C hn hX hM hN31 hnm hK (by omega) (by omega) (by omega) ?_
      rw [Bool.true_and]
      refine J_iload (pc := 78) C dX11_find_78 rfl ?_
      refine J_if_eq (pc := 80) (tgt := 85) C dX11_find_80 (by decide) (fun h80 => ?_) (fun h80 => ?_)
      · have h1 : findF X K nm mm j = findF X K nm mm (j + 1) := by
          conv => lhs; rw [findF]
          rw [if_pos (by omega), if_neg (by rw [bI_f h80]; decide)]
        rw [h1]
        refine J_iincN (pc := 85) C dX11_find_85 rfl (by decide) rfl ?_
        dsimp only [List.set]
        refine J_goto (pc := 88) (tgt := 2) C dX11_find_88 (by decide) ?_
        exact ih (j + 1) _ _ (by omega) rfl (by omega)
      · have h1 : findF X K nm mm j = j := by rw [findF, if_pos (by omega), if_pos (bI_t h80)]
        rw [h1, lI_n (by omega)]
        refine J_iload_n (pc := 83) C dX11_find_83 rfl rfl ?_
        exact J_iret (pc := 84) C dX11_find_84 rfl rfl (Nat.zero_le _) (Nat.zero_le _)
set_option maxHeartbeats 4000000 in
set_option maxRecDepth 100000 in
theorem c_find (l : Launch) (G : jG) (er : Nat) (F X : Nat × (Nat → Nat)) (K : Nat × Nat × Nat) (wr : Int32) (D : mD) (P : mP) (gv : Nat → Int64) (O : Nat × (Nat → Nat)) (T : jMem) {a N : Nat} {nm : Nat → Nat} (mm : Nat) (hn : X.1 ≤ 4000) (hX : ∀ k, X.2 k < 256)(hM : (encM er F X K wr D P gv O T).1 a = some (nA N nm)) (hN31 : N < 2 ^ 31) (hnm : ∀ k, nm k < 256) (hK : tkOK X K) (hN : 12 * mm ≤ N) (hm2 : mm ≤ 60) : jC l G yX11_find cX11_find 6 (some .int) 1 12 0 0 [.ref 1000, .ref a, .int (nI mm)] (encM er F X K wr D P gv O T) (.inl (some (.int (lI (findF X K nm mm 0))), encM er F X K wr D P gv O T)) := by
  refine jC.of (by decide) 3 rfl [some (.ref 1000), some (.ref a), some (.int (nI mm)), none, none, none] rfl (fun p e s m args below meth c C hT9 hNm9 => ?_)
  refine J_iconst (pc := 0) (v := nI 0) C dX11_find_0 (by decide) ?_
  refine J_istore_n (pc := 1) C dX11_find_1 rfl (by decide) rfl ?_
  dsimp only [List.set]
  exact l_find l G er F X K wr D P gv O T mm 0 none none C hn hX hM hN31 hnm hK hN hm2 (Nat.zero_le _) rfl
set_option maxHeartbeats 4000000 in
set_option maxRecDepth 100000 in
theorem l_keep (l : Launch) (G : jG) {p : Program} {e : Env} {s : State} {m : MethodId} {args : Array Value} {below : List Frame} {meth : Method} {c : Code} (er : Nat) (F X : Nat × (Nat → Nat)) (K : Nat × Nat × Nat) (wr : Int32) (DD : (Nat → Nat) → mD) (PP : (Nat → Nat) → mP) (gv : Nat → Int64) (O : Nat × (Nat → Nat)) (T : jMem) {a N : Nat} {o : jO} (nm : Nat → Nat) (j k : Nat) (C : jX0 p l (jR 1 12 0 0) s m args meth c G cX11_keep 4 RX11 none) (hn : X.1 ≤ 4000) (hX : ∀ k, X.2 k < 256)(hM : ∀ f, (encM er F X K wr (DD (f)) (PP (f)) gv O T).1 a = some (nA N f)) (hU : ∀ f g, ju (encM er F X K wr (DD (f)) (PP (f)) gv O T) a (nA N g) = encM er F X K wr (DD (g)) (PP (g)) gv O T) (hN31 : N < 2 ^ 31) (hK : tkOK X K) (hj : 12 * j + 12 ≤ N) (hj2 : j < 100) (hk : k ≤ 12) (ho : o = .inl (none, encM er F X K wr (DD (keepF X K nm j 12)) (PP (keepF X K nm j 12)) gv O T)) : J p l e (jR 1 12 0 0) s m args below meth c G 4 0 0 (o) 2 [some (.ref 1000), some (.ref a), some (.int (nI j)), some (.int (nI k))] [] (encM er F X K wr (DD (keepF X K nm j k)) (PP (keepF X K nm j k)) gv O T) 0 0 := by
  obtain ⟨t1, t2, t3, t4, t5, t6⟩ := hK
  induction hm : 12 - k generalizing k with
  | zero =>
    have h12 : k = 12 := by omega
    subst h12
    refine J_iload_n (pc := 2) C dX11_keep_2 rfl rfl ?_
    refine J_bipush (pc := 3) (v := nI 12) C dX11_keep_3 (by decide) ?_
    refine J_icmp_geN (pc := 5) (tgt := 50) C dX11_keep_5 (by decide) (by omega) (by omega) (fun h5 => ?_) (fun h5 => ?_)
    · exact J_vret (pc := 50) C dX11_keep_50 rfl (ho) (Nat.zero_le _) (Nat.zero_le _)
    · omega
  | succ d ih =>
    refine J_iload_n (pc := 2) C dX11_keep_2 rfl rfl ?_
    refine J_bipush (pc := 3) (v := nI 12) C dX11_keep_3 (by decide) ?_
    refine J_icmp_geN (pc := 5) (tgt := 50) C dX11_keep_5 (by decide) (by omega) (by omega) (fun h5 => ?_) (fun h5 => ?_)
    · omega
    · refine J_aload_n (pc := 8) C dX11_keep_8 rfl rfl ?_
      refine J_bipush (pc := 9) (v := nI 12) C dX11_keep_9 (by decide) ?_
      refine J_iload_n (pc := 11) C dX11_keep_11 rfl rfl ?_
      refine J_imulN (pc := 12) C dX11_keep_12 ?_
      refine J_iload_n (pc := 13) C dX11_keep_13 rfl rfl ?_
      refine J_iaddN (pc := 14) C dX11_keep_14 ?_
      refine J_aload_n (pc := 15) C dX11_keep_15 rfl rfl ?_
      refine J_get (pc := 16) C dX11_keep_16 f_X11_113 rfl rfl ?_
      try dsimp only
      refine J_iload_n (pc := 19) C dX11_keep_19 rfl rfl ?_
      refine J_iaddN (pc := 20) C dX11_keep_20 ?_
      refine J_aload_n (pc := 21) C dX11_keep_21 rfl rfl ?_
      refine J_get (pc := 22) C dX11_keep_22 f_X11_110 rfl rfl ?_
      try dsimp only
      refine J_icmp_geN (pc := 25) (tgt := 42) C dX11_keep_25 (by decide) (by omega) (by omega) (fun h25 => ?_) (fun h25 => ?_)
      · refine J_iconst (pc := 42) (v := nI 0) C dX11_keep_42 (by decide) ?_
        refine J_iastN (pc := 43) C dX11_keep_43 (hM _) (by omega) (hN31) (hU _ _) ?_
        refine J_iincN (pc := 44) C dX11_keep_44 rfl (by decide) rfl ?_
        dsimp only [List.set]
        refine J_goto (pc := 47) (tgt := 2) C dX11_keep_47 (by decide) ?_
        have h1 : va_up (keepF X K nm j k) (12 * j + k) (tkL X K k) = keepF X K nm j (k + 1) := rfl
        first
          | (rw [show X.2 (K.2.1 + k) = tkL X K k by rw [tkL, if_pos (by omega)]]; exact ih (k + 1) (by omega) (by omega))
          | (rw [show va_up (keepF X K nm j k) (12 * j + k) 0 = va_up (keepF X K nm j k) (12 * j + k) (tkL X K k) by rw [tkL, if_neg (by omega)]]; exact ih (k + 1) (by omega) (by omega))
      · refine J_aload_n (pc := 28) C dX11_keep_28 rfl rfl ?_
        refine J_get (pc := 29) C dX11_keep_29 f_X11_17 rfl rfl ?_
        refine J_aload_n (pc := 32) C dX11_keep_32 rfl rfl ?_
        refine J_get (pc := 33) C dX11_keep_33 f_X11_113 rfl rfl ?_
        try dsimp only
        refine J_iload_n (pc := 36) C dX11_keep_36 rfl rfl ?_
        refine J_iaddN (pc := 37) C dX11_keep_37 ?_
        refine J_ialdN (pc := 38) C dX11_keep_38 rfl (by omega) (by decide) ?_
        try dsimp only
        refine J_goto (pc := 39) (tgt := 43) C dX11_keep_39 (by decide) ?_
        refine J_iastN (pc := 43) C dX11_keep_43 (hM _) (by omega) (hN31) (hU _ _) ?_
        refine J_iincN (pc := 44) C dX11_keep_44 rfl (by decide) rfl ?_
        dsimp only [List.set]
        refine J_goto (pc := 47) (tgt := 2) C dX11_keep_47 (by decide) ?_
        have h1 : va_up (keepF X K nm j k) (12 * j + k) (tkL X K k) = keepF X K nm j (k + 1) := rfl
        first
          | (rw [show X.2 (K.2.1 + k) = tkL X K k by rw [tkL, if_pos (by omega)]]; exact ih (k + 1) (by omega) (by omega))
          | (rw [show va_up (keepF X K nm j k) (12 * j + k) 0 = va_up (keepF X K nm j k) (12 * j + k) (tkL X K k) by rw [tkL, if_neg (by omega)]]; exact ih (k + 1) (by omega) (by omega))
set_option maxHeartbeats 4000000 in
set_option maxRecDepth 100000 in
theorem c_keep (l : Launch) (G : jG) (er : Nat) (F X : Nat × (Nat → Nat)) (K : Nat × Nat × Nat) (wr : Int32) (DD : (Nat → Nat) → mD) (PP : (Nat → Nat) → mP) (gv : Nat → Int64) (O : Nat × (Nat → Nat)) (T : jMem) {a N : Nat} (nm : Nat → Nat) (j : Nat) (hn : X.1 ≤ 4000) (hX : ∀ k, X.2 k < 256)(hM : ∀ f, (encM er F X K wr (DD (f)) (PP (f)) gv O T).1 a = some (nA N f)) (hU : ∀ f g, ju (encM er F X K wr (DD (f)) (PP (f)) gv O T) a (nA N g) = encM er F X K wr (DD (g)) (PP (g)) gv O T) (hN31 : N < 2 ^ 31) (hK : tkOK X K) (hj : 12 * j + 12 ≤ N) (hj2 : j < 100) : jC l G yX11_keep cX11_keep 4 none 1 12 0 0 [.ref 1000, .ref a, .int (nI j)] (encM er F X K wr (DD (nm)) (PP (nm)) gv O T) (.inl (none, encM er F X K wr (DD (keepF X K nm j 12)) (PP (keepF X K nm j 12)) gv O T)) := by
  refine jC.of (by decide) 1 rfl [some (.ref 1000), some (.ref a), some (.int (nI j)), none] rfl (fun p e s m args below meth c C hT9 hNm9 => ?_)
  refine J_iconst (pc := 0) (v := nI 0) C dX11_keep_0 (by decide) ?_
  refine J_istore_n (pc := 1) C dX11_keep_1 rfl (by decide) rfl ?_
  dsimp only [List.set]
  exact l_keep l G er F X K wr DD PP gv O T nm j 0 C hn hX hM hU hN31 hK hj hj2 (Nat.zero_le _) rfl
set_option maxHeartbeats 4000000 in
set_option maxRecDepth 100000 in
theorem l_small (l : Launch) (G : jG) {p : Program} {e : Env} {s : State} {m : MethodId} {args : Array Value} {below : List Frame} {meth : Method} {c : Code} (er : Nat) (F X : Nat × (Nat → Nat)) (K : Nat × Nat × Nat) (wr : Int32) (D : mD) (P : mP) (gv : Nat → Int64) (O : Nat × (Nat → Nat)) (T : jMem) (v k : Nat) (C : jX0 p l (jR 2 33 0 0) s m args meth c G cX11_small 3 RX11 (some .int)) (hn : X.1 ≤ 4000) (hX : ∀ k, X.2 k < 256) (hK : tkOK X K) (hd9 : ∀ k, K.2.1 ≤ k → k < K.2.2 → 48 ≤ X.2 k ∧ X.2 k ≤ 57) (hk : K.2.1 ≤ k) (hk2 : k ≤ K.2.2) : J p l e (jR 2 33 0 0) s m args below meth c G 3 0 0 (.inl (some (.int (nI (decF X K.2.2 k v))), encM er F X K wr D P gv O T)) 39 [some (.ref 1000), some (.int (nI v)), some (.int (nI k))] [] (encM er F X K wr D P gv O T) 0 0 := by
  obtain ⟨t1, t2, t3, t4, t5, t6⟩ := hK
  induction hm : K.2.2 - k generalizing k v with
  | zero =>
    refine J_iload_n (pc := 39) C dX11_small_39 rfl rfl ?_
    refine J_aload_n (pc := 40) C dX11_small_40 rfl rfl ?_
    refine J_get (pc := 41) C dX11_small_41 f_X11_110 rfl rfl ?_
    try dsimp only
    refine J_icmp_geN (pc := 44) (tgt := 68) C dX11_small_44 (by decide) (by omega) (by omega) (fun h44 => ?_) (fun h44 => ?_)
    · refine J_iload_n (pc := 68) C dX11_small_68 rfl rfl ?_
      exact J_iret (pc := 69) C dX11_small_69 rfl (by rw [decF, if_neg (by omega)]) (Nat.zero_le _) (Nat.zero_le _)
    · omega
  | succ d ih =>
    have hv := hd9 k hk (by omega)
    refine J_iload_n (pc := 39) C dX11_small_39 rfl rfl ?_
    refine J_aload_n (pc := 40) C dX11_small_40 rfl rfl ?_
    refine J_get (pc := 41) C dX11_small_41 f_X11_110 rfl rfl ?_
    try dsimp only
    refine J_icmp_geN (pc := 44) (tgt := 68) C dX11_small_44 (by decide) (by omega) (by omega) (fun h44 => ?_) (fun h44 => ?_)
    · omega
    · refine J_bipush (pc := 47) (v := nI 10) C dX11_small_47 (by decide) ?_
      refine J_iload_n (pc := 49) C dX11_small_49 rfl rfl ?_
      refine J_imulN (pc := 50) C dX11_small_50 ?_
      refine J_aload_n (pc := 51) C dX11_small_51 rfl rfl ?_
      refine J_get (pc := 52) C dX11_small_52 f_X11_17 rfl rfl ?_
      refine J_iload_n (pc := 55) C dX11_small_55 rfl rfl ?_
      refine J_ialdN (pc := 56) C dX11_small_56 rfl (by omega) (by decide) ?_
      try dsimp only
      refine J_iaddN (pc := 57) C dX11_small_57 ?_
      refine J_bipush (pc := 58) (v := nI 48) C dX11_small_58 (by decide) ?_
      refine J_isubN (pc := 60) C dX11_small_60 (by omega) ?_
      refine J_istore_n (pc := 61) C dX11_small_61 rfl (by decide) rfl ?_
      dsimp only [List.set]
      refine J_iincN (pc := 62) C dX11_small_62 rfl (by decide) rfl ?_
      dsimp only [List.set]
      refine J_goto (pc := 65) (tgt := 39) C dX11_small_65 (by decide) ?_
      have h1 : decF X K.2.2 k v = decF X K.2.2 (k + 1) (10 * v + X.2 k - 48) := by
        conv => lhs; rw [decF]
        rw [if_pos (by omega)]
      rw [h1]
      exact ih _ (k + 1) (by omega) (by omega) (by omega)
set_option maxHeartbeats 4000000 in
set_option maxRecDepth 100000 in
theorem c_small_t (l : Launch) (G : jG) (er : Nat) (F X : Nat × (Nat → Nat)) (K : Nat × Nat × Nat) (wr : Int32) (D : mD) (P : mP) (gv : Nat → Int64) (O : Nat × (Nat → Nat)) (T : jMem) (hn : X.1 ≤ 4000) (hX : ∀ k, X.2 k < 256) (hK : tkOK X K) (hd9 : ∀ k, K.2.1 ≤ k → k < K.2.2 → 48 ≤ X.2 k ∧ X.2 k ≤ 57) (h1 : K.1 = 2) (h2 : K.2.2 - K.2.1 ≤ 4) : jC l G yX11_small cX11_small 3 (some .int) 2 33 0 0 [.ref 1000] (encM er F X K wr D P gv O T) (.inl (some (.int (nI (decF X K.2.2 K.2.1 0))), encM er F X K wr D P gv O T)) := by
  refine jC.of (by decide) 2 rfl [some (.ref 1000), none, none] rfl (fun p e s m args below meth c C hT9 hNm9 => ?_)
  have hK9 := hK
  obtain ⟨t1, t2, t3, t4, t5, t6⟩ := hK9
  refine J_aload_n (pc := 0) C dX11_small_0 rfl rfl ?_
  refine J_get (pc := 1) C dX11_small_1 f_X11_120 rfl rfl ?_
  try dsimp only
  refine J_iconst (pc := 4) (v := nI 2) C dX11_small_4 (by decide) ?_
  refine J_icmp_neN (pc := 5) (tgt := 21) C dX11_small_5 (by decide) (by omega) (by omega) (fun h5 => ?_) (fun h5 => ?_)
  · omega
  · refine J_aload_n (pc := 8) C dX11_small_8 rfl rfl ?_
    refine J_get (pc := 9) C dX11_small_9 f_X11_110 rfl rfl ?_
    try dsimp only
    refine J_aload_n (pc := 12) C dX11_small_12 rfl rfl ?_
    refine J_get (pc := 13) C dX11_small_13 f_X11_113 rfl rfl ?_
    try dsimp only
    refine J_isubN (pc := 16) C dX11_small_16 (by omega) ?_
    refine J_iconst (pc := 17) (v := nI 4) C dX11_small_17 (by decide) ?_
    refine J_icmp_leN (pc := 18) (tgt := 32) C dX11_small_18 (by decide) (by omega) (by omega) (fun h18 => ?_) (fun h18 => ?_)
    · refine J_iconst (pc := 32) (v := nI 0) C dX11_small_32 (by decide) ?_
      refine J_istore_n (pc := 33) C dX11_small_33 rfl (by decide) rfl ?_
      dsimp only [List.set]
      refine J_aload_n (pc := 34) C dX11_small_34 rfl rfl ?_
      refine J_get (pc := 35) C dX11_small_35 f_X11_113 rfl rfl ?_
      try dsimp only
      refine J_istore_n (pc := 38) C dX11_small_38 rfl (by decide) rfl ?_
      dsimp only [List.set]
      exact l_small l G er F X K wr D P gv O T 0 _ C hn hX hK hd9 (Nat.le_refl _) t1
    · omega
set_option maxHeartbeats 4000000 in
set_option maxRecDepth 100000 in
theorem c_small_f (l : Launch) (G : jG) (er : Nat) (F X : Nat × (Nat → Nat)) (K : Nat × Nat × Nat) (wr : Int32) (D : mD) (P : mP) (gv : Nat → Int64) (O : Nat × (Nat → Nat)) (T : jMem) (hn : X.1 ≤ 4000) (hX : ∀ k, X.2 k < 256) (hK : tkOK X K) (h1 : ¬ (K.1 = 2 ∧ K.2.2 - K.2.1 ≤ 4)) : jC l G yX11_small cX11_small 3 (some .int) 2 33 0 0 [.ref 1000] (encM er F X K wr D P gv O T) (.inl (some (.int (-1)), encM er F X K (badW wr K.2.1) D P gv O T)) := by
  refine jC.of (by decide) 2 rfl [some (.ref 1000), none, none] rfl (fun p e s m args below meth c C hT9 hNm9 => ?_)
  have hK9 := hK
  obtain ⟨t1, t2, t3, t4, t5, t6⟩ := hK9
  refine J_aload_n (pc := 0) C dX11_small_0 rfl rfl ?_
  refine J_get (pc := 1) C dX11_small_1 f_X11_120 rfl rfl ?_
  try dsimp only
  refine J_iconst (pc := 4) (v := nI 2) C dX11_small_4 (by decide) ?_
  refine J_icmp_neN (pc := 5) (tgt := 21) C dX11_small_5 (by decide) (by omega) (by omega) (fun h5 => ?_) (fun h5 => ?_)
  · refine J_aload_n (pc := 21) C dX11_small_21 rfl rfl ?_
    refine J_aload_n (pc := 22) C dX11_small_22 rfl rfl ?_
    refine J_get (pc := 23) C dX11_small_23 f_X11_113 rfl rfl ?_
    try dsimp only
    refine J_callV1 (pc := 26) C dX11_small_26 m_X11_142 (c_bad l G _ _ _ _ _ _ _ _ _ _ _) ⟨jle rfl, jle rfl⟩ rfl rfl rfl rfl rfl (jle rfl) ⟨Nat.zero_le _, Nat.zero_le _⟩ ?_
    refine J_pop (pc := 29) C dX11_small_29 rfl ?_
    refine J_iconst (pc := 30) (v := -1) C dX11_small_30 (by decide) ?_
    exact J_iret (pc := 31) C dX11_small_31 rfl (rfl) (Nat.zero_le _) (Nat.zero_le _)
  · refine J_aload_n (pc := 8) C dX11_small_8 rfl rfl ?_
    refine J_get (pc := 9) C dX11_small_9 f_X11_110 rfl rfl ?_
    try dsimp only
    refine J_aload_n (pc := 12) C dX11_small_12 rfl rfl ?_
    refine J_get (pc := 13) C dX11_small_13 f_X11_113 rfl rfl ?_
    try dsimp only
    refine J_isubN (pc := 16) C dX11_small_16 (by omega) ?_
    refine J_iconst (pc := 17) (v := nI 4) C dX11_small_17 (by decide) ?_
    refine J_icmp_leN (pc := 18) (tgt := 32) C dX11_small_18 (by decide) (by omega) (by omega) (fun h18 => ?_) (fun h18 => ?_)
    · omega
    · refine J_aload_n (pc := 21) C dX11_small_21 rfl rfl ?_
      refine J_aload_n (pc := 22) C dX11_small_22 rfl rfl ?_
      refine J_get (pc := 23) C dX11_small_23 f_X11_113 rfl rfl ?_
      try dsimp only
      refine J_callV1 (pc := 26) C dX11_small_26 m_X11_142 (c_bad l G _ _ _ _ _ _ _ _ _ _ _) ⟨jle rfl, jle rfl⟩ rfl rfl rfl rfl rfl (jle rfl) ⟨Nat.zero_le _, Nat.zero_le _⟩ ?_
      refine J_pop (pc := 29) C dX11_small_29 rfl ?_
      refine J_iconst (pc := 30) (v := -1) C dX11_small_30 (by decide) ?_
      exact J_iret (pc := 31) C dX11_small_31 rfl (rfl) (Nat.zero_le _) (Nat.zero_le _)
