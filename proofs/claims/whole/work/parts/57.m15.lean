set_option maxHeartbeats 4000000 in
set_option maxRecDepth 100000 in
theorem c_put (l : Launch) (G : jG) (er : Nat) (F X : Nat × (Nat → Nat)) (K : Nat × Nat × Nat) (wr : Int32) (D : mD) (P : mP) (gv : Nat → Int64) (O : Nat × (Nat → Nat)) (T : jMem) (x : Nat) (h4 : O.1 < 400) : jC l G yX11_put cX11_put 2 none 1 12 0 0 [.ref 1000, .int (nI x)] (encM er F X K wr D P gv O T) (.inl (none, encM er F X K wr D P gv (apO O ([x])) T)) := by
  refine jC.of (by decide) 0 rfl [some (.ref 1000), some (.int (nI x))] rfl (fun p e s m args below meth c C hT9 hNm9 => ?_)
  refine J_aload_n (pc := 0) C dX11_put_0 rfl rfl ?_
  refine J_get (pc := 1) C dX11_put_1 f_X11_20 rfl rfl ?_
  refine J_aload_n (pc := 4) C dX11_put_4 rfl rfl ?_
  refine J_dup (pc := 5) C dX11_put_5 rfl ?_
  refine J_get (pc := 6) C dX11_put_6 f_X11_263 rfl rfl ?_
  try dsimp only
  refine J_dup_x1 (pc := 9) C dX11_put_9 rfl rfl ?_
  refine J_iconst (pc := 10) (v := nI 1) C dX11_put_10 (by decide) ?_
  refine J_iaddN (pc := 11) C dX11_put_11 ?_
  refine J_putU (pc := 12) C dX11_put_12 p_X11_263 rfl (jlt rfl) rfl rfl (uM_size _) ?_
  try dsimp only
  refine J_iload_n (pc := 15) C dX11_put_15 rfl rfl ?_
  refine J_iastN (pc := 16) C dX11_put_16 rfl (by omega) (by decide) (uM_out _) ?_
  exact J_vret (pc := 17) C dX11_put_17 rfl (rfl) (Nat.zero_le _) (Nat.zero_le _)
set_option maxHeartbeats 4000000 in
set_option maxRecDepth 100000 in
theorem l_say (l : Launch) (G : jG) {p : Program} {e : Env} {s : State} {m : MethodId} {args : Array Value} {below : List Frame} {meth : Method} {c : Code} (er : Nat) (F X : Nat × (Nat → Nat)) (K : Nat × Nat × Nat) (wr : Int32) (D : mD) (P : mP) (gv : Nat → Int64) (O : Nat × (Nat → Nat)) (T : jMem) {i : Nat} {q : String × Nat × String × List Nat} (k : Nat) (C : jX0 p l (jR 6 118 0 0) s m args meth c G cX11_say 3 RX11 none) (hs : jStr[i]? = some q) (hk : k ≤ q.2.2.2.length) (h4 : O.1 + (q.2.2.2.length - k) ≤ 400) : J p l e (jR 6 118 0 0) s m args below meth c G 3 0 0 (.inl (none, encM er F X K wr D P gv (apO O (q.2.2.2.drop k)) T)) 2 [some (.ref 1000), some (.ref (2000 + i)), some (.int (nI k))] [] (encM er F X K wr D P gv O T) 0 0 := by
  have hq : q.2.2.2.length < 100 := jStr_len hs
  induction hm : q.2.2.2.length - k generalizing k O with
  | zero =>
    rw [List.drop_eq_nil_of_le (by omega)]
    refine J_iload_n (pc := 2) C dX11_say_2 rfl rfl ?_
    refine J_aload_n (pc := 3) C dX11_say_3 rfl rfl ?_
    refine J_callVS (pc := 4) C dX11_say_4 m_X11_129 rfl hs (c_length l G _ hs) ⟨jle rfl, jle rfl⟩ rfl rfl (jle rfl) ⟨Nat.zero_le _, Nat.zero_le _⟩ ?_
    refine J_icmp_geN (pc := 7) (tgt := 25) C dX11_say_7 (by decide) (by omega) (by omega) (fun h7 => ?_) (fun h7 => ?_)
    · exact J_vret (pc := 25) C dX11_say_25 rfl (rfl) (Nat.zero_le _) (Nat.zero_le _)
    · omega
  | succ d ih =>
    rw [drop_c (by omega)]
    refine J_iload_n (pc := 2) C dX11_say_2 rfl rfl ?_
    refine J_aload_n (pc := 3) C dX11_say_3 rfl rfl ?_
    refine J_callVS (pc := 4) C dX11_say_4 m_X11_129 rfl hs (c_length l G _ hs) ⟨jle rfl, jle rfl⟩ rfl rfl (jle rfl) ⟨Nat.zero_le _, Nat.zero_le _⟩ ?_
    refine J_icmp_geN (pc := 7) (tgt := 25) C dX11_say_7 (by decide) (by omega) (by omega) (fun h7 => ?_) (fun h7 => ?_)
    · omega
    · refine J_aload_n (pc := 10) C dX11_say_10 rfl rfl ?_
      refine J_aload_n (pc := 11) C dX11_say_11 rfl rfl ?_
      refine J_iload_n (pc := 12) C dX11_say_12 rfl rfl ?_
      refine J_callVS (pc := 13) C dX11_say_13 m_X11_135 rfl hs (c_charAt l G _ hs _ (by omega)) ⟨jle rfl, jle rfl⟩ rfl rfl (jle rfl) ⟨Nat.zero_le _, Nat.zero_le _⟩ ?_
      refine J_callV0 (pc := 16) C dX11_say_16 m_X11_266 (c_put l G _ _ _ _ _ _ _ _ _ _ _ (by omega)) ⟨jle rfl, jle rfl⟩ rfl rfl rfl rfl rfl (jle rfl) ⟨Nat.zero_le _, Nat.zero_le _⟩ ?_
      try dsimp only
      refine J_iincN (pc := 19) C dX11_say_19 rfl (by decide) rfl ?_
      dsimp only [List.set]
      refine J_goto (pc := 22) (tgt := 2) C dX11_say_22 (by decide) ?_
      exact ih (O := apO O [q.2.2.2.getD k 0]) (k + 1) (by omega) (by rw [apO_1]; simp only [List.length_cons, List.length_nil]; omega) (by omega)
set_option maxHeartbeats 4000000 in
set_option maxRecDepth 100000 in
theorem c_say (l : Launch) (G : jG) (er : Nat) (F X : Nat × (Nat → Nat)) (K : Nat × Nat × Nat) (wr : Int32) (D : mD) (P : mP) (gv : Nat → Int64) (O : Nat × (Nat → Nat)) (T : jMem) {i : Nat} {q : String × Nat × String × List Nat} (hs : jStr[i]? = some q) (h4 : O.1 + q.2.2.2.length ≤ 400) : jC l G yX11_say cX11_say 3 none 6 118 0 0 [.ref 1000, .ref (2000 + i)] (encM er F X K wr D P gv O T) (.inl (none, encM er F X K wr D P gv (apO O (q.2.2.2)) T)) := by
  refine jC.of (by decide) 1 rfl [some (.ref 1000), some (.ref (2000 + i)), none] rfl (fun p e s m args below meth c C hT9 hNm9 => ?_)
  refine J_iconst (pc := 0) (v := nI 0) C dX11_say_0 (by decide) ?_
  refine J_istore_n (pc := 1) C dX11_say_1 rfl (by decide) rfl ?_
  dsimp only [List.set]
  exact l_say l G er F X K wr D P gv O T 0 C hs (Nat.zero_le _) (by omega)
set_option maxHeartbeats 4000000 in
set_option maxRecDepth 100000 in
theorem l_name (l : Launch) (G : jG) {p : Program} {e : Env} {s : State} {m : MethodId} {args : Array Value} {below : List Frame} {meth : Method} {c : Code} (er : Nat) (F X : Nat × (Nat → Nat)) (K : Nat × Nat × Nat) (wr : Int32) (D : mD) (P : mP) (gv : Nat → Int64) (O : Nat × (Nat → Nat)) (T : jMem) {a N : Nat} {nm : Nat → Nat} (j k : Nat) (C : jX0 p l (jR 2 33 0 0) s m args meth c G cX11_name 4 RX11 none) (hM : ∀ O, (encM er F X K wr D P gv O T).1 a = some (nA N nm)) (hN31 : N < 2 ^ 31) (hnm : ∀ k, nm k < 256) (hj : 12 * j + 12 ≤ N) (hj2 : j < 100) (hk : k ≤ 12) (h4 : O.1 + (12 - k) ≤ 400) : J p l e (jR 2 33 0 0) s m args below meth c G 4 0 0 (.inl (none, encM er F X K wr D P gv (apO O (nmR nm j k)) T)) 2 [some (.ref 1000), some (.ref a), some (.int (nI j)), some (.int (nI k))] [] (encM er F X K wr D P gv O T) 0 0 := by
  induction hm : 12 - k generalizing k O with
  | zero =>
    rw [show nmR nm j k = [] by rw [nmR, if_neg (by omega)]]
    refine J_iload_n (pc := 2) C dX11_name_2 rfl rfl ?_
    refine J_bipush (pc := 3) (v := nI 12) C dX11_name_3 (by decide) ?_
    refine J_icmp_geN (pc := 5) (tgt := 37) C dX11_name_5 (by decide) (by omega) (by omega) (fun h5 => ?_) (fun h5 => ?_)
    · exact J_vret (pc := 37) C dX11_name_37 rfl (rfl) (Nat.zero_le _) (Nat.zero_le _)
    · omega
  | succ d ih =>
    have hn4 := hnm (12 * j + k)
    have h1 : nmR nm j k = if k < 12 ∧ nm (12 * j + k) ≠ 0 then nm (12 * j + k) :: nmR nm j (k + 1) else [] := by
      conv => lhs; rw [nmR]
    rw [h1]
    refine J_iload_n (pc := 2) C dX11_name_2 rfl rfl ?_
    refine J_bipush (pc := 3) (v := nI 12) C dX11_name_3 (by decide) ?_
    refine J_icmp_geN (pc := 5) (tgt := 37) C dX11_name_5 (by decide) (by omega) (by omega) (fun h5 => ?_) (fun h5 => ?_)
    · omega
    · refine J_aload_n (pc := 8) C dX11_name_8 rfl rfl ?_
      refine J_bipush (pc := 9) (v := nI 12) C dX11_name_9 (by decide) ?_
      refine J_iload_n (pc := 11) C dX11_name_11 rfl rfl ?_
      refine J_imulN (pc := 12) C dX11_name_12 ?_
      refine J_iload_n (pc := 13) C dX11_name_13 rfl rfl ?_
      refine J_iaddN (pc := 14) C dX11_name_14 ?_
      refine J_ialdN (pc := 15) C dX11_name_15 (hM _) (by omega) (hN31) ?_
      try dsimp only
      refine J_if_eqN (pc := 16) (tgt := 37) C dX11_name_16 (by decide) (by omega) (fun h16 => ?_) (fun h16 => ?_)
      · exact J_vret (pc := 37) C dX11_name_37 rfl (by rw [if_neg (fun z => z.2 h16)]; rfl) (Nat.zero_le _) (Nat.zero_le _)
      · refine J_aload_n (pc := 19) C dX11_name_19 rfl rfl ?_
        refine J_aload_n (pc := 20) C dX11_name_20 rfl rfl ?_
        refine J_bipush (pc := 21) (v := nI 12) C dX11_name_21 (by decide) ?_
        refine J_iload_n (pc := 23) C dX11_name_23 rfl rfl ?_
        refine J_imulN (pc := 24) C dX11_name_24 ?_
        refine J_iload_n (pc := 25) C dX11_name_25 rfl rfl ?_
        refine J_iaddN (pc := 26) C dX11_name_26 ?_
        refine J_ialdN (pc := 27) C dX11_name_27 (hM _) (by omega) (hN31) ?_
        try dsimp only
        refine J_callV0 (pc := 28) C dX11_name_28 m_X11_266 (c_put l G _ _ _ _ _ _ _ _ _ _ _ (by omega)) ⟨jle rfl, jle rfl⟩ rfl rfl rfl rfl rfl (jle rfl) ⟨Nat.zero_le _, Nat.zero_le _⟩ ?_
        try dsimp only
        refine J_iincN (pc := 31) C dX11_name_31 rfl (by decide) rfl ?_
        dsimp only [List.set]
        refine J_goto (pc := 34) (tgt := 2) C dX11_name_34 (by decide) ?_
        rw [if_pos ⟨by omega, h16⟩]
        exact ih (O := apO O [nm (12 * j + k)]) (k + 1) (by omega) (by rw [apO_1]; simp only [List.length_cons, List.length_nil]; omega) (by omega)
set_option maxHeartbeats 4000000 in
set_option maxRecDepth 100000 in
theorem c_name (l : Launch) (G : jG) (er : Nat) (F X : Nat × (Nat → Nat)) (K : Nat × Nat × Nat) (wr : Int32) (D : mD) (P : mP) (gv : Nat → Int64) (O : Nat × (Nat → Nat)) (T : jMem) {a N : Nat} {nm : Nat → Nat} (j : Nat) (hM : ∀ O, (encM er F X K wr D P gv O T).1 a = some (nA N nm)) (hN31 : N < 2 ^ 31) (hnm : ∀ k, nm k < 256) (hj : 12 * j + 12 ≤ N) (hj2 : j < 100) (h4 : O.1 + 12 ≤ 400) : jC l G yX11_name cX11_name 4 none 2 33 0 0 [.ref 1000, .ref a, .int (nI j)] (encM er F X K wr D P gv O T) (.inl (none, encM er F X K wr D P gv (apO O (nmR nm j 0)) T)) := by
  refine jC.of (by decide) 1 rfl [some (.ref 1000), some (.ref a), some (.int (nI j)), none] rfl (fun p e s m args below meth c C hT9 hNm9 => ?_)
  refine J_iconst (pc := 0) (v := nI 0) C dX11_name_0 (by decide) ?_
  refine J_istore_n (pc := 1) C dX11_name_1 rfl (by decide) rfl ?_
  dsimp only [List.set]
  exact l_name l G er F X K wr D P gv O T j 0 C hM hN31 hnm hj hj2 (Nat.zero_le _) (by omega)
set_option maxHeartbeats 4000000 in
set_option maxRecDepth 100000 in
theorem l_dgs (l : Launch) (G : jG) {p : Program} {e : Env} {s : State} {m : MethodId} {args : Array Value} {below : List Frame} {meth : Method} {c : Code} (er : Nat) (F X : Nat × (Nat → Nat)) (K : Nat × Nat × Nat) (wr : Int32) (D : mD) (P : mP) (gv : Nat → Int64) (O : Nat × (Nat → Nat)) (T : jMem) (n u m9 : Nat) (C : jX0 p l (jR 2 33 0 0) s m args meth c G cX11_number 5 RX11 none) (hn : n < 2 ^ 40) (hu : u < 2 ^ 40) (hm9 : u < 10 ^ m9) (h4 : O.1 + m9 ≤ 400) : J p l e (jR 2 33 0 0) s m args below meth c G 5 0 0 (.inl (none, encM er F X K wr D P gv (apO O (dgL n u)) T)) 36 [some (.ref 1000), some (.long (lN n)), none, some (.long (lN u)), none] [] (encM er F X K wr D P gv O T) 0 0 := by
  induction m9 generalizing u O with
  | zero =>
    have h0 : u = 0 := by simp at hm9; omega
    rw [show dgL n u = [] by rw [dgL, if_neg (by omega)]]
    refine J_lload_n (pc := 36) C dX11_number_36 rfl rfl ?_
    refine J_lconst (pc := 37) (v := 0) C dX11_number_37 (by decide) ?_
    refine J_lcmp (pc := 38) C dX11_number_38 ?_
    refine J_if_le (pc := 39) (tgt := 66) C dX11_number_39 (by decide) (fun h39 => ?_) (fun h39 => ?_)
    · exact J_vret (pc := 66) C dX11_number_66 rfl (rfl) (Nat.zero_le _) (Nat.zero_le _)
    · exact absurd ((cmp_0 (by omega)).mpr h0) h39
  | succ m9 ih =>
    by_cases h0 : u = 0
    · rw [show dgL n u = [] by rw [dgL, if_neg (by omega)]]
      refine J_lload_n (pc := 36) C dX11_number_36 rfl rfl ?_
      refine J_lconst (pc := 37) (v := 0) C dX11_number_37 (by decide) ?_
      refine J_lcmp (pc := 38) C dX11_number_38 ?_
      refine J_if_le (pc := 39) (tgt := 66) C dX11_number_39 (by decide) (fun h39 => ?_) (fun h39 => ?_)
      · exact J_vret (pc := 66) C dX11_number_66 rfl (rfl) (Nat.zero_le _) (Nat.zero_le _)
      · exact absurd ((cmp_0 (by omega)).mpr h0) h39
    · rw [show dgL n u = (48 + n / u % 10) :: dgL n (u / 10) by rw [dgL, if_pos (by omega)]]
      have hd : n / u ≤ n := Nat.div_le_self n u
      refine J_lload_n (pc := 36) C dX11_number_36 rfl rfl ?_
      refine J_lconst (pc := 37) (v := 0) C dX11_number_37 (by decide) ?_
      refine J_lcmp (pc := 38) C dX11_number_38 ?_
      refine J_if_le (pc := 39) (tgt := 66) C dX11_number_39 (by decide) (fun h39 => ?_) (fun h39 => ?_)
      · exact absurd ((cmp_0 (by omega)).mp h39) h0
      · refine J_aload_n (pc := 42) C dX11_number_42 rfl rfl ?_
        refine J_bipush (pc := 43) (v := nI 48) C dX11_number_43 (by decide) ?_
        refine J_lload_n (pc := 45) C dX11_number_45 rfl rfl ?_
        refine J_lload_n (pc := 46) C dX11_number_46 rfl rfl ?_
        refine J_ldiv (pc := 47) C dX11_number_47 (lN_ne0 (by omega) (by omega)) ?_
        rw [div_l (by omega) (by omega) (by omega)]
        refine J_ldc2 (pc := 48) C dX11_number_48 l_X11_248 ?_
        refine J_lrem (pc := 51) C dX11_number_51 (by decide) ?_
        rw [rem_10 (by omega)]
        refine J_l2i (pc := 52) C dX11_number_52 rfl ?_
        rw [lN_i]
        refine J_iaddN (pc := 53) C dX11_number_53 ?_
        refine J_callV0 (pc := 54) C dX11_number_54 m_X11_266 (c_put l G _ _ _ _ _ _ _ _ _ _ _ (by omega)) ⟨jle rfl, jle rfl⟩ rfl rfl rfl rfl rfl (jle rfl) ⟨Nat.zero_le _, Nat.zero_le _⟩ ?_
        try dsimp only
        refine J_lload_n (pc := 57) C dX11_number_57 rfl rfl ?_
        refine J_ldc2 (pc := 58) C dX11_number_58 l_X11_248 ?_
        refine J_ldiv (pc := 61) C dX11_number_61 (by decide) ?_
        rw [div_10 (by omega)]
        refine J_lstore_n (pc := 62) C dX11_number_62 rfl (by decide) rfl ?_
        dsimp only [List.set]
        refine J_goto (pc := 63) (tgt := 36) C dX11_number_63 (by decide) ?_
        exact ih (u := u / 10) (O := apO O [48 + n / u % 10]) (by omega) (by rw [Nat.div_lt_iff_lt_mul (by decide)]; rw [Nat.pow_succ] at hm9; exact hm9) (by rw [apO_1]; simp only [List.length_cons, List.length_nil]; omega)
set_option maxHeartbeats 4000000 in
set_option maxRecDepth 100000 in
theorem l_by (l : Launch) (G : jG) {p : Program} {e : Env} {s : State} {m : MethodId} {args : Array Value} {below : List Frame} {meth : Method} {c : Code} (er : Nat) (F X : Nat × (Nat → Nat)) (K : Nat × Nat × Nat) (wr : Int32) (D : mD) (P : mP) (gv : Nat → Int64) (O : Nat × (Nat → Nat)) (T : jMem) {ou : jO} (n u : Nat) (C : jX0 p l (jR 2 33 0 0) s m args meth c G cX11_number 5 RX11 none) (hn : n < 2 ^ 40) (hu : 0 < u) (hu2 : u < 2 ^ 40) (kk : J p l e (jR 2 33 0 0) s m args below meth c G 5 0 0 (ou) 36 [some (.ref 1000), some (.long (lN n)), none, some (.long (lN (byF n u))), none] [] (encM er F X K wr D P gv O T) 0 0) : J p l e (jR 2 33 0 0) s m args below meth c G 5 0 0 (ou) 17 [some (.ref 1000), some (.long (lN n)), none, some (.long (lN u)), none] [] (encM er F X K wr D P gv O T) 0 0 := by
  induction hm : n - u using Nat.strongRecOn generalizing u with
  | _ d ih =>
    have hd : n / u ≤ n := Nat.div_le_self n u
    have h1 : byF n u = if 9 < n / u ∧ 0 < u then byF n (u * 10) else u := by
      conv => lhs; rw [byF]
    rw [h1] at kk
    refine J_lload_n (pc := 17) C dX11_number_17 rfl rfl ?_
    refine J_lload_n (pc := 18) C dX11_number_18 rfl rfl ?_
    refine J_ldiv (pc := 19) C dX11_number_19 (lN_ne0 hu (by omega)) ?_
    rw [div_l (by omega) hu (by omega)]
    refine J_ldc2 (pc := 20) C dX11_number_20 l_X11_269 ?_
    refine J_lcmp (pc := 23) C dX11_number_23 ?_
    refine J_if_le (pc := 24) (tgt := 36) C dX11_number_24 (by decide) (fun h24 => ?_) (fun h24 => ?_)
    · have h2 := (cmp_9 (by omega)).mp h24
      rw [if_neg (by omega)] at kk
      exact kk
    · refine J_lload_n (pc := 27) C dX11_number_27 rfl rfl ?_
      refine J_ldc2 (pc := 28) C dX11_number_28 l_X11_248 ?_
      refine J_lmul (pc := 31) C dX11_number_31 ?_
      rw [mul_10]
      refine J_lstore_n (pc := 32) C dX11_number_32 rfl (by decide) rfl ?_
      dsimp only [List.set]
      refine J_goto (pc := 33) (tgt := 17) C dX11_number_33 (by decide) ?_
      have h2 : ¬ n / u ≤ 9 := fun z => h24 ((cmp_9 (by omega)).mpr z)
      have h3 : u * 10 ≤ n := by
        have := (Nat.le_div_iff_mul_le hu).mp (show 10 ≤ n / u by omega)
        omega
      rw [if_pos ⟨by omega, hu⟩] at kk
      exact ih (n - u * 10) (by omega) (u * 10) (by omega) (by omega) kk rfl
set_option maxHeartbeats 4000000 in
set_option maxRecDepth 100000 in
theorem l_num (l : Launch) (G : jG) {p : Program} {e : Env} {s : State} {m : MethodId} {args : Array Value} {below : List Frame} {meth : Method} {c : Code} (er : Nat) (F X : Nat × (Nat → Nat)) (K : Nat × Nat × Nat) (wr : Int32) (D : mD) (P : mP) (gv : Nat → Int64) (O : Nat × (Nat → Nat)) (T : jMem) (n : Nat) (C : jX0 p l (jR 2 33 0 0) s m args meth c G cX11_number 5 RX11 none) (hn : n < 10 ^ 12) (h4 : O.1 + 12 ≤ 400) : J p l e (jR 2 33 0 0) s m args below meth c G 5 0 0 (.inl (none, encM er F X K wr D P gv (apO O (numL n)) T)) 15 [some (.ref 1000), some (.long (lN n)), none, none, none] [] (encM er F X K wr D P gv O T) 0 0 := by
  have h40 : (10 : Nat) ^ 12 < 2 ^ 40 := by decide
  have hb1 := byF_le (n := n) (u := 1) (m := 10 ^ 12 - 1) (by decide) (by decide) (by omega)
  refine J_lconst (pc := 15) (v := lN 1) C dX11_number_15 (by decide) ?_
  refine J_lstore_n (pc := 16) C dX11_number_16 rfl (by decide) rfl ?_
  dsimp only [List.set]
  refine l_by l G er F X K wr D P gv O T n 1 C (by omega) (by decide) (by decide) ?_
  exact l_dgs l G er F X K wr D P gv O T n (byF n 1) 12 C (by omega) (by omega) (by omega) h4
set_option maxHeartbeats 4000000 in
set_option maxRecDepth 100000 in
theorem c_number (l : Launch) (G : jG) (er : Nat) (F X : Nat × (Nat → Nat)) (K : Nat × Nat × Nat) (wr : Int32) (D : mD) (P : mP) (gv : Nat → Int64) (O : Nat × (Nat → Nat)) (T : jMem) (v : Int64) (hv : v.toInt.natAbs < 10 ^ 12) (h4 : O.1 + 13 ≤ 400) : jC l G yX11_number cX11_number 5 none 2 33 0 0 [.ref 1000, .long v] (encM er F X K wr D P gv O T) (.inl (none, encM er F X K wr D P gv (apO O (nuL v)) T)) := by
  refine jC.of (by decide) 2 rfl [some (.ref 1000), some (.long v), none, none, none] rfl (fun p e s m args below meth c C hT9 hNm9 => ?_)
  have h62 : (10 : Nat) ^ 12 < 2 ^ 62 := by decide
  have hsp := l_split v (by omega)
  refine J_lload_n (pc := 0) C dX11_number_0 rfl rfl ?_
  refine J_lconst (pc := 1) (v := 0) C dX11_number_1 (by decide) ?_
  refine J_lcmp (pc := 2) C dX11_number_2 ?_
  refine J_if_ge (pc := 3) (tgt := 15) C dX11_number_3 (by decide) (fun h3 => ?_) (fun h3 => ?_)
  · have hpos : ¬ v < 0 := Int64.not_lt.mpr ((lg_cmp_ge _ _).mp h3)
    have hv2 : v = lN v.toInt.natAbs := by rcases hsp with z | z; exact z.2; exact absurd z.1 hpos
    rw [nuL_p hpos]
    generalize v.toInt.natAbs = n at hv hv2 ⊢
    subst hv2
    exact l_num l G er F X K wr D P gv O T n C hv (by omega)
  · have hneg : v < 0 := by rw [lg_cmp_ge] at h3; exact Int64.not_le.mp h3
    have hv2 : -v = lN v.toInt.natAbs := by rcases hsp with z | z; exact absurd hneg z.1; exact z.2
    rw [nuL_n hneg]
    refine J_aload_n (pc := 6) C dX11_number_6 rfl rfl ?_
    refine J_bipush (pc := 7) (v := nI 45) C dX11_number_7 (by decide) ?_
    refine J_callV0 (pc := 9) C dX11_number_9 m_X11_266 (c_put l G _ _ _ _ _ _ _ _ _ _ _ (by omega)) ⟨jle rfl, jle rfl⟩ rfl rfl rfl rfl rfl (jle rfl) ⟨Nat.zero_le _, Nat.zero_le _⟩ ?_
    try dsimp only
    refine J_lload_n (pc := 12) C dX11_number_12 rfl rfl ?_
    refine J_lneg (pc := 13) C dX11_number_13 ?_
    rw [hv2]
    refine J_lstore_n (pc := 14) C dX11_number_14 rfl (by decide) rfl ?_
    dsimp only [List.set]
    exact l_num l G er F X K wr D P gv (apO O [45]) T v.toInt.natAbs C hv (by rw [apO_1]; simp only [List.length_cons, List.length_nil]; omega)
set_option maxHeartbeats 4000000 in
set_option maxRecDepth 100000 in
theorem c_let_x (l : Launch) (G : jG) (er : Nat) (F X : Nat × (Nat → Nat)) (K : Nat × Nat × Nat) (wr : Int32) (D : mD) (P : mP) (gv : Nat → Int64) (O : Nat × (Nat → Nat)) (T : jMem) (v : Int32) (hv : v < 0 ∨ nI ((O.1 + 7) / 8) ≤ v) (ho : O.1 ≤ 400) : jC l G yX11_letters cX11_letters 5 (some .long) 2 34 0 0 [.ref 1000, .int v] (encM er F X K wr D P gv O T) (.inl (some (.long 0), encM 1 F X K wr D P gv O T)) := by
  refine jC.of (by decide) 3 rfl [some (.ref 1000), some (.int v), none, none, none] rfl (fun p e s m args below meth c C hT9 hNm9 => ?_)
  refine J_aload_n (pc := 0) C dX11_letters_0 rfl rfl ?_
  refine J_iconst (pc := 1) (v := nI 0) C dX11_letters_1 (by decide) ?_
  refine J_putU (pc := 2) C dX11_letters_2 p_X11_75 rfl (jlt rfl) rfl rfl (uM_err _) ?_
  try dsimp only
  refine J_aload_n (pc := 5) C dX11_letters_5 rfl rfl ?_
  refine J_iload_n (pc := 6) C dX11_letters_6 rfl rfl ?_
  refine J_if_lt (pc := 7) (tgt := 24) C dX11_letters_7 (by decide) (fun h7 => ?_) (fun h7 => ?_)
  · refine J_iconst (pc := 24) (v := nI 1) C dX11_letters_24 (by decide) ?_
    refine J_goto (pc := 25) (tgt := 29) C dX11_letters_25 (by decide) ?_
    refine J_iconst (pc := 29) (v := nI 1) C dX11_letters_29 (by decide) ?_
    refine J_callV1 (pc := 30) C dX11_letters_30 m_X11_81 (c_fails_t l G _ _ _ _ _ _ _ _ _ _ (by omega) (by decide)) ⟨jle rfl, jle rfl⟩ rfl rfl rfl rfl rfl (jle rfl) ⟨Nat.zero_le _, Nat.zero_le _⟩ ?_
    try dsimp only
    refine J_if_eqN (pc := 33) (tgt := 38) C dX11_letters_33 (by decide) (by omega) (fun h33 => absurd h33 (by decide)) (fun _ => ?_)
    refine J_lconst (pc := 36) (v := 0) C dX11_letters_36 (by decide) ?_
    exact J_lret (pc := 37) C dX11_letters_37 rfl (rfl) (Nat.zero_le _) (Nat.zero_le _)
  · refine J_iload_n (pc := 10) C dX11_letters_10 rfl rfl ?_
    refine J_aload_n (pc := 11) C dX11_letters_11 rfl rfl ?_
    refine J_get (pc := 12) C dX11_letters_12 f_X11_263 rfl rfl ?_
    try dsimp only
    refine J_bipush (pc := 15) (v := nI 7) C dX11_letters_15 (by decide) ?_
    refine J_iaddN (pc := 17) C dX11_letters_17 ?_
    refine J_bipush (pc := 18) (v := nI 8) C dX11_letters_18 (by decide) ?_
    refine J_idivN (pc := 20) C dX11_letters_20 (by omega) (by omega) (by omega) ?_
    refine J_icmp_lt (pc := 21) (tgt := 28) C dX11_letters_21 (by decide) (fun h21 => ?_) (fun h21 => ?_)
    · (rcases hv with z | z; exact absurd z h7; exact absurd h21 (Int32.not_lt.mpr z))
    · refine J_iconst (pc := 24) (v := nI 1) C dX11_letters_24 (by decide) ?_
      refine J_goto (pc := 25) (tgt := 29) C dX11_letters_25 (by decide) ?_
      refine J_iconst (pc := 29) (v := nI 1) C dX11_letters_29 (by decide) ?_
      refine J_callV1 (pc := 30) C dX11_letters_30 m_X11_81 (c_fails_t l G _ _ _ _ _ _ _ _ _ _ (by omega) (by decide)) ⟨jle rfl, jle rfl⟩ rfl rfl rfl rfl rfl (jle rfl) ⟨Nat.zero_le _, Nat.zero_le _⟩ ?_
      try dsimp only
      refine J_if_eqN (pc := 33) (tgt := 38) C dX11_letters_33 (by decide) (by omega) (fun h33 => absurd h33 (by decide)) (fun _ => ?_)
      refine J_lconst (pc := 36) (v := 0) C dX11_letters_36 (by decide) ?_
      exact J_lret (pc := 37) C dX11_letters_37 rfl (rfl) (Nat.zero_le _) (Nat.zero_le _)
set_option maxHeartbeats 4000000 in
set_option maxRecDepth 100000 in
theorem l_l8 (l : Launch) (G : jG) {p : Program} {e : Env} {s : State} {m : MethodId} {args : Array Value} {below : List Frame} {meth : Method} {c : Code} (er : Nat) (F X : Nat × (Nat → Nat)) (K : Nat × Nat × Nat) (wr : Int32) (D : mD) (P : mP) (gv : Nat → Int64) (O : Nat × (Nat → Nat)) (T : jMem) (k j : Nat) (v : Int64) (C : jX0 p l (jR 2 34 0 0) s m args meth c G cX11_letters 5 RX11 (some .long)) (hk : k < 50) (hj : j ≤ 8) (ho : O.1 ≤ 400) (hO : ∀ k, O.2 k < 256) : J p l e (jR 2 34 0 0) s m args below meth c G 5 0 0 (.inl (some (.long (l8F O k j v)), encM er F X K wr D P gv O T)) 43 [some (.ref 1000), some (.int (nI k)), some (.long v), none, some (.int (nI j))] [] (encM er F X K wr D P gv O T) 0 0 := by
  induction hm : 8 - j generalizing j v with
  | zero =>
    rw [show l8F O k j v = v by rw [l8F, if_neg (by omega)]]
    refine J_iload (pc := 43) C dX11_letters_43 rfl ?_
    refine J_bipush (pc := 45) (v := nI 8) C dX11_letters_45 (by decide) ?_
    refine J_icmp_geN (pc := 47) (tgt := 93) C dX11_letters_47 (by decide) (by omega) (by omega) (fun h47 => ?_) (fun h47 => ?_)
    · refine J_lload_n (pc := 93) C dX11_letters_93 rfl rfl ?_
      exact J_lret (pc := 94) C dX11_letters_94 rfl (rfl) (Nat.zero_le _) (Nat.zero_le _)
    · omega
  | succ d ih =>
    have hx4 := hO (8 * k + j)
    have h1 : l8F O k j v = l8F O k (j + 1) (v <<< ((nI 8).toInt64 &&& 63) ||| lN (if 8 * k + j < O.1 then O.2 (8 * k + j) else 0)) := by
      conv => lhs; rw [l8F]
      rw [if_pos (by omega)]
    rw [h1]
    refine J_iload (pc := 43) C dX11_letters_43 rfl ?_
    refine J_bipush (pc := 45) (v := nI 8) C dX11_letters_45 (by decide) ?_
    refine J_icmp_geN (pc := 47) (tgt := 93) C dX11_letters_47 (by decide) (by omega) (by omega) (fun h47 => ?_) (fun h47 => ?_)
    · omega
    · refine J_lload_n (pc := 50) C dX11_letters_50 rfl rfl ?_
      refine J_bipush (pc := 51) (v := nI 8) C dX11_letters_51 (by decide) ?_
      refine J_lshl (pc := 53) C dX11_letters_53 rfl ?_
      refine J_bipush (pc := 54) (v := nI 8) C dX11_letters_54 (by decide) ?_
      refine J_iload_n (pc := 56) C dX11_letters_56 rfl rfl ?_
      refine J_imulN (pc := 57) C dX11_letters_57 ?_
      refine J_iload (pc := 58) C dX11_letters_58 rfl ?_
      refine J_iaddN (pc := 60) C dX11_letters_60 ?_
      refine J_aload_n (pc := 61) C dX11_letters_61 rfl rfl ?_
      refine J_get (pc := 62) C dX11_letters_62 f_X11_263 rfl rfl ?_
      try dsimp only
      refine J_icmp_geN (pc := 65) (tgt := 83) C dX11_letters_65 (by decide) (by omega) (by omega) (fun h65 => ?_) (fun h65 => ?_)
      · rw [if_neg (by omega)]
        refine J_iconst (pc := 83) (v := nI 0) C dX11_letters_83 (by decide) ?_
        refine J_i2l (pc := 84) C dX11_letters_84 (nI_l (by omega)) ?_
        refine J_lor (pc := 85) C dX11_letters_85 ?_
        refine J_lstore_n (pc := 86) C dX11_letters_86 rfl (by decide) rfl ?_
        dsimp only [List.set]
        refine J_iincN (pc := 87) C dX11_letters_87 rfl (by decide) rfl ?_
        dsimp only [List.set]
        refine J_goto (pc := 90) (tgt := 43) C dX11_letters_90 (by decide) ?_
        exact ih (j + 1) _ (by omega) (by omega)
      · rw [if_pos (by omega)]
        refine J_aload_n (pc := 68) C dX11_letters_68 rfl rfl ?_
        refine J_get (pc := 69) C dX11_letters_69 f_X11_20 rfl rfl ?_
        refine J_bipush (pc := 72) (v := nI 8) C dX11_letters_72 (by decide) ?_
        refine J_iload_n (pc := 74) C dX11_letters_74 rfl rfl ?_
        refine J_imulN (pc := 75) C dX11_letters_75 ?_
        refine J_iload (pc := 76) C dX11_letters_76 rfl ?_
        refine J_iaddN (pc := 78) C dX11_letters_78 ?_
        refine J_ialdN (pc := 79) C dX11_letters_79 rfl (by omega) (by decide) ?_
        try dsimp only
        refine J_goto (pc := 80) (tgt := 84) C dX11_letters_80 (by decide) ?_
        refine J_i2l (pc := 84) C dX11_letters_84 (nI_l (by omega)) ?_
        refine J_lor (pc := 85) C dX11_letters_85 ?_
        refine J_lstore_n (pc := 86) C dX11_letters_86 rfl (by decide) rfl ?_
        dsimp only [List.set]
        refine J_iincN (pc := 87) C dX11_letters_87 rfl (by decide) rfl ?_
        dsimp only [List.set]
        refine J_goto (pc := 90) (tgt := 43) C dX11_letters_90 (by decide) ?_
        exact ih (j + 1) _ (by omega) (by omega)
set_option maxHeartbeats 4000000 in
set_option maxRecDepth 100000 in
theorem c_let (l : Launch) (G : jG) (er : Nat) (F X : Nat × (Nat → Nat)) (K : Nat × Nat × Nat) (wr : Int32) (D : mD) (P : mP) (gv : Nat → Int64) (O : Nat × (Nat → Nat)) (T : jMem) (k : Nat) (hk : k < (O.1 + 7) / 8) (ho : O.1 ≤ 400) (hO : ∀ k, O.2 k < 256) : jC l G yX11_letters cX11_letters 5 (some .long) 2 34 0 0 [.ref 1000, .int (nI k)] (encM er F X K wr D P gv O T) (.inl (some (.long (l8F O k 0 0)), encM 0 F X K wr D P gv O T)) := by
  refine jC.of (by decide) 3 rfl [some (.ref 1000), some (.int (nI k)), none, none, none] rfl (fun p e s m args below meth c C hT9 hNm9 => ?_)
  refine J_aload_n (pc := 0) C dX11_letters_0 rfl rfl ?_
  refine J_iconst (pc := 1) (v := nI 0) C dX11_letters_1 (by decide) ?_
  refine J_putU (pc := 2) C dX11_letters_2 p_X11_75 rfl (jlt rfl) rfl rfl (uM_err _) ?_
  try dsimp only
  refine J_aload_n (pc := 5) C dX11_letters_5 rfl rfl ?_
  refine J_iload_n (pc := 6) C dX11_letters_6 rfl rfl ?_
  refine J_if_ltN (pc := 7) (tgt := 24) C dX11_letters_7 (by decide) (by omega) ?_
  refine J_iload_n (pc := 10) C dX11_letters_10 rfl rfl ?_
  refine J_aload_n (pc := 11) C dX11_letters_11 rfl rfl ?_
  refine J_get (pc := 12) C dX11_letters_12 f_X11_263 rfl rfl ?_
  try dsimp only
  refine J_bipush (pc := 15) (v := nI 7) C dX11_letters_15 (by decide) ?_
  refine J_iaddN (pc := 17) C dX11_letters_17 ?_
  refine J_bipush (pc := 18) (v := nI 8) C dX11_letters_18 (by decide) ?_
  refine J_idivN (pc := 20) C dX11_letters_20 (by omega) (by omega) (by omega) ?_
  refine J_icmp_ltN (pc := 21) (tgt := 28) C dX11_letters_21 (by decide) (by omega) (by omega) (fun h21 => ?_) (fun h21 => ?_)
  · refine J_iconst (pc := 28) (v := nI 0) C dX11_letters_28 (by decide) ?_
    refine J_iconst (pc := 29) (v := nI 1) C dX11_letters_29 (by decide) ?_
    refine J_callV1 (pc := 30) C dX11_letters_30 m_X11_81 (c_fails_f l G _ _ _ _ _ _ _ _ _ _) ⟨jle rfl, jle rfl⟩ rfl rfl rfl rfl rfl (jle rfl) ⟨Nat.zero_le _, Nat.zero_le _⟩ ?_
    try dsimp only
    refine J_if_eqN (pc := 33) (tgt := 38) C dX11_letters_33 (by decide) (by omega) (fun _ => ?_) (fun h33 => absurd h33 (by decide))
    refine J_lconst (pc := 38) (v := 0) C dX11_letters_38 (by decide) ?_
    refine J_lstore_n (pc := 39) C dX11_letters_39 rfl (by decide) rfl ?_
    dsimp only [List.set]
    refine J_iconst (pc := 40) (v := nI 0) C dX11_letters_40 (by decide) ?_
    refine J_istore (pc := 41) C dX11_letters_41 (by decide) rfl ?_
    dsimp only [List.set]
    exact l_l8 l G 0 F X K wr D P gv O T k 0 0 C (by omega) (Nat.zero_le _) ho hO
  · omega
