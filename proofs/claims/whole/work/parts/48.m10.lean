set_option maxHeartbeats 4000000 in
set_option maxRecDepth 100000 in
theorem c_fits (l : Launch) (G : jG) (er : Nat) (F X : Nat × (Nat → Nat)) (K : Nat × Nat × Nat) (wr : Int32) (D : mD) (P : mP) (gv : Nat → Int64) (O : Nat × (Nat → Nat)) (T : jMem) (p9 : Nat) (v : Int64) (hp : p9 < 360) (hP : pG D p9) : jC l G yX11_fits cX11_fits 5 (some .boolean) 2 37 0 0 [.ref 1000, .int (nI p9), .long v] (encM er F X K wr D P gv O T) (.inl (some (.int (bI (fitF (mKind D p9) (bitsN D p9) v))), encM er F X K wr D P gv O T)) := by
  refine jC.of (by decide) 1 rfl [some (.ref 1000), some (.int (nI p9)), some (.long v), none, none] rfl (fun p e s m args below meth c C hT9 hNm9 => ?_)
  obtain ⟨hk3, b, hb1, hb2, hb3⟩ := hP
  have hb4 : bitsN D p9 = b := by unfold bitsN; rw [hb3, nI_clamp (by omega)]
  have hk : D.2.2.2.2.2.2.2.2.2.1 p9 ≤ 3 := hk3
  rw [hb4]
  refine J_aload_n (pc := 0) C dX11_fits_0 rfl rfl ?_
  refine J_get (pc := 1) C dX11_fits_1 f_X11_47 rfl rfl ?_
  refine J_iload_n (pc := 4) C dX11_fits_4 rfl rfl ?_
  refine J_ialdR (pc := 5) C dX11_fits_5 rfl (by omega) (by decide) ?_
  try dsimp only
  rw [show D.2.2.2.2.2.2.2.2.2.2.1 p9 = nI b from hb3]
  refine J_istore (pc := 6) C dX11_fits_6 (by decide) rfl ?_
  dsimp only [List.set]
  refine J_aload_n (pc := 8) C dX11_fits_8 rfl rfl ?_
  refine J_get (pc := 9) C dX11_fits_9 f_X11_44 rfl rfl ?_
  refine J_iload_n (pc := 12) C dX11_fits_12 rfl rfl ?_
  refine J_ialdN (pc := 13) C dX11_fits_13 rfl (by omega) (by decide) ?_
  try dsimp only
  refine J_iconst (pc := 14) (v := nI 1) C dX11_fits_14 (by decide) ?_
  refine J_icmp_eqN (pc := 15) (tgt := 28) C dX11_fits_15 (by decide) (by omega) (by omega) (fun h15 => ?_) (fun h15 => ?_)
  · refine J_lload_n (pc := 28) C dX11_fits_28 rfl rfl ?_
    refine J_lconst (pc := 29) (v := 1) C dX11_fits_29 (by decide) ?_
    refine J_iload (pc := 30) C dX11_fits_30 rfl ?_
    refine J_iconst (pc := 32) (v := nI 1) C dX11_fits_32 (by decide) ?_
    refine J_isubN (pc := 33) C dX11_fits_33 (by omega) ?_
    refine J_lshl (pc := 34) C dX11_fits_34 rfl ?_
    rw [shl1 (by omega)]
    refine J_lneg (pc := 35) C dX11_fits_35 ?_
    refine J_lconst (pc := 36) (v := 1) C dX11_fits_36 (by decide) ?_
    refine J_iload (pc := 37) C dX11_fits_37 rfl ?_
    refine J_iconst (pc := 39) (v := nI 1) C dX11_fits_39 (by decide) ?_
    refine J_isubN (pc := 40) C dX11_fits_40 (by omega) ?_
    refine J_lshl (pc := 41) C dX11_fits_41 rfl ?_
    rw [shl1 (by omega)]
    refine J_lconst (pc := 42) (v := 1) C dX11_fits_42 (by decide) ?_
    refine J_lsub (pc := 43) C dX11_fits_43 ?_
    refine J_callS1 (pc := 44) C dX11_fits_44 m_X11_89 (c_in l G _ _ _ _) ⟨jle rfl, jle rfl⟩ rfl rfl (jle rfl) ⟨Nat.zero_le _, Nat.zero_le _⟩ ?_
    try dsimp only
    refine J_goto (pc := 47) (tgt := 61) C dX11_fits_47 (by decide) ?_
    exact J_zret (pc := 61) C dX11_fits_61 rfl (bI_nar _) (jo (by first | (rw [fitF, if_pos (Or.inl h15)]) | (rw [fitF, if_pos (Or.inr h25)]) | (rw [fitF, if_neg (by intro z; rcases z with z | z; exact h15 z; exact h25 z)]))) (Nat.zero_le _) (Nat.zero_le _)
  · refine J_aload_n (pc := 18) C dX11_fits_18 rfl rfl ?_
    refine J_get (pc := 19) C dX11_fits_19 f_X11_44 rfl rfl ?_
    refine J_iload_n (pc := 22) C dX11_fits_22 rfl rfl ?_
    refine J_ialdN (pc := 23) C dX11_fits_23 rfl (by omega) (by decide) ?_
    try dsimp only
    refine J_iconst (pc := 24) (v := nI 2) C dX11_fits_24 (by decide) ?_
    refine J_icmp_neN (pc := 25) (tgt := 50) C dX11_fits_25 (by decide) (by omega) (by omega) (fun h25 => ?_) (fun h25 => ?_)
    · refine J_lload_n (pc := 50) C dX11_fits_50 rfl rfl ?_
      refine J_lconst (pc := 51) (v := 0) C dX11_fits_51 (by decide) ?_
      refine J_lconst (pc := 52) (v := 1) C dX11_fits_52 (by decide) ?_
      refine J_iload (pc := 53) C dX11_fits_53 rfl ?_
      refine J_lshl (pc := 55) C dX11_fits_55 rfl ?_
      rw [shl1 (by omega)]
      refine J_lconst (pc := 56) (v := 1) C dX11_fits_56 (by decide) ?_
      refine J_lsub (pc := 57) C dX11_fits_57 ?_
      refine J_callS1 (pc := 58) C dX11_fits_58 m_X11_89 (c_in l G _ _ _ _) ⟨jle rfl, jle rfl⟩ rfl rfl (jle rfl) ⟨Nat.zero_le _, Nat.zero_le _⟩ ?_
      try dsimp only
      exact J_zret (pc := 61) C dX11_fits_61 rfl (bI_nar _) (jo (by first | (rw [fitF, if_pos (Or.inl h15)]) | (rw [fitF, if_pos (Or.inr h25)]) | (rw [fitF, if_neg (by intro z; rcases z with z | z; exact h15 z; exact h25 z)]))) (Nat.zero_le _) (Nat.zero_le _)
    · refine J_lload_n (pc := 28) C dX11_fits_28 rfl rfl ?_
      refine J_lconst (pc := 29) (v := 1) C dX11_fits_29 (by decide) ?_
      refine J_iload (pc := 30) C dX11_fits_30 rfl ?_
      refine J_iconst (pc := 32) (v := nI 1) C dX11_fits_32 (by decide) ?_
      refine J_isubN (pc := 33) C dX11_fits_33 (by omega) ?_
      refine J_lshl (pc := 34) C dX11_fits_34 rfl ?_
      rw [shl1 (by omega)]
      refine J_lneg (pc := 35) C dX11_fits_35 ?_
      refine J_lconst (pc := 36) (v := 1) C dX11_fits_36 (by decide) ?_
      refine J_iload (pc := 37) C dX11_fits_37 rfl ?_
      refine J_iconst (pc := 39) (v := nI 1) C dX11_fits_39 (by decide) ?_
      refine J_isubN (pc := 40) C dX11_fits_40 (by omega) ?_
      refine J_lshl (pc := 41) C dX11_fits_41 rfl ?_
      rw [shl1 (by omega)]
      refine J_lconst (pc := 42) (v := 1) C dX11_fits_42 (by decide) ?_
      refine J_lsub (pc := 43) C dX11_fits_43 ?_
      refine J_callS1 (pc := 44) C dX11_fits_44 m_X11_89 (c_in l G _ _ _ _) ⟨jle rfl, jle rfl⟩ rfl rfl (jle rfl) ⟨Nat.zero_le _, Nat.zero_le _⟩ ?_
      try dsimp only
      refine J_goto (pc := 47) (tgt := 61) C dX11_fits_47 (by decide) ?_
      exact J_zret (pc := 61) C dX11_fits_61 rfl (bI_nar _) (jo (by first | (rw [fitF, if_pos (Or.inl h15)]) | (rw [fitF, if_pos (Or.inr h25)]) | (rw [fitF, if_neg (by intro z; rcases z with z | z; exact h15 z; exact h25 z)]))) (Nat.zero_le _) (Nat.zero_le _)
set_option maxHeartbeats 4000000 in
set_option maxRecDepth 100000 in
theorem l_made (l : Launch) (G : jG) {p : Program} {e : Env} {s : State} {m : MethodId} {args : Array Value} {below : List Frame} {meth : Method} {c : Code} (er : Nat) (F X : Nat × (Nat → Nat)) (K : Nat × Nat × Nat) (wr : Int32) (D : mD) (P : mP) (gv : Nat → Int64) (O : Nat × (Nat → Nat)) (T : jMem) (o k : Nat) (a : Int32) (v4 : Option Value) (C : jX0 p l (jR 1 12 0 0) s m args meth c G cX11_made 5 RX11 (some .int)) (ho : o < 60) (hw9 : D.1 ≤ 32) (hw : wOK D.2.2.2.2.2.2.2.2.2.2.2.2 D.1 o) (hk : k ≤ D.1) : J p l e (jR 1 12 0 0) s m args below meth c G 5 0 0 (.inl (some (.int (mkF D.2.2.2.2.2.2.2.2.2.2.2.2 gv D.1 o k a)), encM er F X K wr D P gv O T)) 4 [some (.ref 1000), some (.int (nI o)), some (.int (a)), some (.int (nI k)), v4] [] (encM er F X K wr D P gv O T) 0 0 := by
  induction hm : D.1 - k generalizing k a v4 with
  | zero =>
    have h1 : mkF D.2.2.2.2.2.2.2.2.2.2.2.2 gv D.1 o k a = a := by rw [mkF, if_neg (by omega)]
    rw [h1]
    refine J_iload_n (pc := 4) C dX11_made_4 rfl rfl ?_
    refine J_aload_n (pc := 5) C dX11_made_5 rfl rfl ?_
    refine J_get (pc := 6) C dX11_made_6 f_X11_196 rfl rfl ?_
    try dsimp only
    refine J_icmp_geN (pc := 9) (tgt := 75) C dX11_made_9 (by decide) (by omega) (by omega) (fun h9 => ?_) (fun h9 => ?_)
    · refine J_iload_n (pc := 75) C dX11_made_75 rfl rfl ?_
      exact J_iret (pc := 76) C dX11_made_76 rfl (rfl) (Nat.zero_le _) (Nat.zero_le _)
    · omega
  | succ d ih =>
    have h1 : mkF D.2.2.2.2.2.2.2.2.2.2.2.2 gv D.1 o k a = mkF D.2.2.2.2.2.2.2.2.2.2.2.2 gv D.1 o (k + 1) (a <<< (nI 1 &&& 31) ||| bitM (D.2.2.2.2.2.2.2.2.2.2.2.2 (32 * o + k)) gv) := by
      conv => lhs; rw [mkF]
      rw [if_pos (by omega)]
    rw [h1]
    rcases hw k (by omega) with hn9 | ⟨x, hx, ex⟩
    · refine J_iload_n (pc := 4) C dX11_made_4 rfl rfl ?_
      refine J_aload_n (pc := 5) C dX11_made_5 rfl rfl ?_
      refine J_get (pc := 6) C dX11_made_6 f_X11_196 rfl rfl ?_
      try dsimp only
      refine J_icmp_geN (pc := 9) (tgt := 75) C dX11_made_9 (by decide) (by omega) (by omega) (fun h9 => ?_) (fun h9 => ?_)
      · omega
      · refine J_aload_n (pc := 12) C dX11_made_12 rfl rfl ?_
        refine J_get (pc := 13) C dX11_made_13 f_X11_53 rfl rfl ?_
        refine J_bipush (pc := 16) (v := nI 32) C dX11_made_16 (by decide) ?_
        refine J_iload_n (pc := 18) C dX11_made_18 rfl rfl ?_
        refine J_imulN (pc := 19) C dX11_made_19 ?_
        refine J_iload_n (pc := 20) C dX11_made_20 rfl rfl ?_
        refine J_iaddN (pc := 21) C dX11_made_21 ?_
        refine J_ialdR (pc := 22) C dX11_made_22 rfl (by omega) (by decide) ?_
        try dsimp only
        refine J_istore (pc := 23) C dX11_made_23 (by decide) rfl ?_
        dsimp only [List.set]
        refine J_iload_n (pc := 25) C dX11_made_25 rfl rfl ?_
        refine J_iconst (pc := 26) (v := nI 1) C dX11_made_26 (by decide) ?_
        refine J_ishl (pc := 27) C dX11_made_27 ?_
        refine J_iload (pc := 28) C dX11_made_28 rfl ?_
        refine J_if_ge (pc := 30) (tgt := 48) C dX11_made_30 (by decide) (fun h30 => ?_) (fun h30 => ?_)
        · exact absurd hn9 (Int32.not_lt.mpr h30)
        · refine J_iload (pc := 33) C dX11_made_33 rfl ?_
          refine J_bipush (pc := 35) (v := -2) C dX11_made_35 (by decide) ?_
          refine J_icmp_ne (pc := 37) (tgt := 44) C dX11_made_37 (by decide) (fun h37 => ?_) (fun h37 => ?_)
          · refine J_iconst (pc := 44) (v := nI 0) C dX11_made_44 (by decide) ?_
            refine J_goto (pc := 45) (tgt := 67) C dX11_made_45 (by decide) ?_
            refine J_ior (pc := 67) C dX11_made_67 ?_
            refine J_istore_n (pc := 68) C dX11_made_68 rfl (by decide) rfl ?_
            dsimp only [List.set]
            refine J_iincN (pc := 69) C dX11_made_69 rfl (by decide) rfl ?_
            dsimp only [List.set]
            refine J_goto (pc := 72) (tgt := 4) C dX11_made_72 (by decide) ?_
            first
              | (rw [show bitM (D.2.2.2.2.2.2.2.2.2.2.2.2 (32 * o + k)) gv = nI 1 by unfold bitM; rw [if_pos hn9, if_pos h37]; rfl]; exact ih (k + 1) _ _ (by omega) (by omega))
              | (rw [show bitM (D.2.2.2.2.2.2.2.2.2.2.2.2 (32 * o + k)) gv = nI 0 by unfold bitM; rw [if_pos hn9, if_neg h37]; rfl]; exact ih (k + 1) _ _ (by omega) (by omega))
          · refine J_iconst (pc := 40) (v := nI 1) C dX11_made_40 (by decide) ?_
            refine J_goto (pc := 41) (tgt := 67) C dX11_made_41 (by decide) ?_
            refine J_ior (pc := 67) C dX11_made_67 ?_
            refine J_istore_n (pc := 68) C dX11_made_68 rfl (by decide) rfl ?_
            dsimp only [List.set]
            refine J_iincN (pc := 69) C dX11_made_69 rfl (by decide) rfl ?_
            dsimp only [List.set]
            refine J_goto (pc := 72) (tgt := 4) C dX11_made_72 (by decide) ?_
            first
              | (rw [show bitM (D.2.2.2.2.2.2.2.2.2.2.2.2 (32 * o + k)) gv = nI 1 by unfold bitM; rw [if_pos hn9, if_pos h37]; rfl]; exact ih (k + 1) _ _ (by omega) (by omega))
              | (rw [show bitM (D.2.2.2.2.2.2.2.2.2.2.2.2 (32 * o + k)) gv = nI 0 by unfold bitM; rw [if_pos hn9, if_neg h37]; rfl]; exact ih (k + 1) _ _ (by omega) (by omega))
    · refine J_iload_n (pc := 4) C dX11_made_4 rfl rfl ?_
      refine J_aload_n (pc := 5) C dX11_made_5 rfl rfl ?_
      refine J_get (pc := 6) C dX11_made_6 f_X11_196 rfl rfl ?_
      try dsimp only
      refine J_icmp_geN (pc := 9) (tgt := 75) C dX11_made_9 (by decide) (by omega) (by omega) (fun h9 => ?_) (fun h9 => ?_)
      · omega
      · refine J_aload_n (pc := 12) C dX11_made_12 rfl rfl ?_
        refine J_get (pc := 13) C dX11_made_13 f_X11_53 rfl rfl ?_
        refine J_bipush (pc := 16) (v := nI 32) C dX11_made_16 (by decide) ?_
        refine J_iload_n (pc := 18) C dX11_made_18 rfl rfl ?_
        refine J_imulN (pc := 19) C dX11_made_19 ?_
        refine J_iload_n (pc := 20) C dX11_made_20 rfl rfl ?_
        refine J_iaddN (pc := 21) C dX11_made_21 ?_
        refine J_ialdR (pc := 22) C dX11_made_22 rfl (by omega) (by decide) ?_
        try dsimp only
        rw [ex]
        refine J_istore (pc := 23) C dX11_made_23 (by decide) rfl ?_
        dsimp only [List.set]
        refine J_iload_n (pc := 25) C dX11_made_25 rfl rfl ?_
        refine J_iconst (pc := 26) (v := nI 1) C dX11_made_26 (by decide) ?_
        refine J_ishl (pc := 27) C dX11_made_27 ?_
        refine J_iload (pc := 28) C dX11_made_28 rfl ?_
        refine J_if_geN (pc := 30) (tgt := 48) C dX11_made_30 (by decide) (by omega) ?_
        refine J_aload_n (pc := 48) C dX11_made_48 rfl rfl ?_
        refine J_get (pc := 49) C dX11_made_49 f_X11_71 rfl rfl ?_
        refine J_iload (pc := 52) C dX11_made_52 rfl ?_
        refine J_bipush (pc := 54) (v := nI 32) C dX11_made_54 (by decide) ?_
        refine J_idivN (pc := 56) C dX11_made_56 (by omega) (by omega) (by omega) ?_
        refine J_laldN (pc := 57) C dX11_made_57 rfl (by omega) (by decide) ?_
        refine J_iload (pc := 58) C dX11_made_58 rfl ?_
        refine J_bipush (pc := 60) (v := nI 32) C dX11_made_60 (by decide) ?_
        refine J_iremN (pc := 62) C dX11_made_62 (by omega) (by omega) (by omega) ?_
        refine J_lshr (pc := 63) C dX11_made_63 rfl ?_
        refine J_l2i (pc := 64) C dX11_made_64 rfl ?_
        refine J_iconst (pc := 65) (v := nI 1) C dX11_made_65 (by decide) ?_
        refine J_iand (pc := 66) C dX11_made_66 ?_
        refine J_ior (pc := 67) C dX11_made_67 ?_
        refine J_istore_n (pc := 68) C dX11_made_68 rfl (by decide) rfl ?_
        dsimp only [List.set]
        refine J_iincN (pc := 69) C dX11_made_69 rfl (by decide) rfl ?_
        dsimp only [List.set]
        refine J_goto (pc := 72) (tgt := 4) C dX11_made_72 (by decide) ?_
        rw [show bitM (nI x) gv = (gv (x / 32) >>> ((nI (x % 32)).toInt64 &&& 63)).toInt32 &&& nI 1 by unfold bitM; rw [if_neg (Int32.not_lt.mpr (nIpos_of hx)), nI_clamp (by omega)]; rfl]
        exact ih (k + 1) _ _ (by omega) (by omega)
set_option maxHeartbeats 4000000 in
set_option maxRecDepth 100000 in
theorem c_made (l : Launch) (G : jG) (er : Nat) (F X : Nat × (Nat → Nat)) (K : Nat × Nat × Nat) (wr : Int32) (D : mD) (P : mP) (gv : Nat → Int64) (O : Nat × (Nat → Nat)) (T : jMem) (o : Nat) (ho : o < 60) (hw9 : D.1 ≤ 32) (hw : wOK D.2.2.2.2.2.2.2.2.2.2.2.2 D.1 o) : jC l G yX11_made cX11_made 5 (some .int) 1 12 0 0 [.ref 1000, .int (nI o)] (encM er F X K wr D P gv O T) (.inl (some (.int (madeF D gv o)), encM er F X K wr D P gv O T)) := by
  refine jC.of (by decide) 3 rfl [some (.ref 1000), some (.int (nI o)), none, none, none] rfl (fun p e s m args below meth c C hT9 hNm9 => ?_)
  refine J_iconst (pc := 0) (v := nI 0) C dX11_made_0 (by decide) ?_
  refine J_istore_n (pc := 1) C dX11_made_1 rfl (by decide) rfl ?_
  dsimp only [List.set]
  refine J_iconst (pc := 2) (v := nI 0) C dX11_made_2 (by decide) ?_
  refine J_istore_n (pc := 3) C dX11_made_3 rfl (by decide) rfl ?_
  dsimp only [List.set]
  exact l_made l G er F X K wr D P gv O T o 0 (nI 0) _ C ho hw9 hw (Nat.zero_le _)
set_option maxHeartbeats 4000000 in
set_option maxRecDepth 100000 in
theorem l_taken (l : Launch) (G : jG) {p : Program} {e : Env} {s : State} {m : MethodId} {args : Array Value} {below : List Frame} {meth : Method} {c : Code} (er : Nat) (F X : Nat × (Nat → Nat)) (K : Nat × Nat × Nat) (wr : Int32) (D : mD) (P : mP) (gv : Nat → Int64) (O : Nat × (Nat → Nat)) (T : jMem) {ou : jO} (o q k : Nat) (w : Int32) (v : Int64) (v7 : Option Value) (C : jX0 p l (jR 1 12 0 0) s m args meth c G cX11_taken 8 RX11 (some .long)) (ho : o < 60) (hq : q < 6) (hw9 : D.1 ≤ 32) (hw : wOK D.2.2.2.2.2.2.2.2.2.2.2.2 D.1 o) (hk : k ≤ D.1) (kk : ∀ v7, J p l e (jR 1 12 0 0) s m args below meth c G 8 0 0 (ou) 74 [some (.ref 1000), some (.int (nI o)), some (.int w), some (.int (nI q)), some (.long (tkF D.2.2.2.2.2.2.2.2.2.2.2.2 D.1 o w q k v)), none, some (.int (nI D.1)), v7] [] (encM er F X K wr D P gv O T) 0 0) : J p l e (jR 1 12 0 0) s m args below meth c G 8 0 0 (ou) 6 [some (.ref 1000), some (.int (nI o)), some (.int w), some (.int (nI q)), some (.long v), none, some (.int (nI k)), v7] [] (encM er F X K wr D P gv O T) 0 0 := by
  induction hm : D.1 - k generalizing k v v7 with
  | zero =>
    have h9 : k = D.1 := by omega
    rw [show tkF D.2.2.2.2.2.2.2.2.2.2.2.2 D.1 o w q k v = v by rw [tkF, if_neg (by omega)]] at kk
    subst h9
    refine J_iload (pc := 6) C dX11_taken_6 rfl ?_
    refine J_aload_n (pc := 8) C dX11_taken_8 rfl rfl ?_
    refine J_get (pc := 9) C dX11_taken_9 f_X11_196 rfl rfl ?_
    try dsimp only
    refine J_icmp_geN (pc := 12) (tgt := 74) C dX11_taken_12 (by decide) (by omega) (by omega) (fun h12 => ?_) (fun h12 => ?_)
    · exact kk _
    · omega
  | succ d ih =>
    have h1 : tkF D.2.2.2.2.2.2.2.2.2.2.2.2 D.1 o w q k v = tkF D.2.2.2.2.2.2.2.2.2.2.2.2 D.1 o w q (k + 1) (if 0 ≤ D.2.2.2.2.2.2.2.2.2.2.2.2 (32 * o + k) ∧ (D.2.2.2.2.2.2.2.2.2.2.2.2 (32 * o + k)).toNatClampNeg / 32 = q then v ||| ((wb1 w D.1 k).toInt64 <<< ((nI ((D.2.2.2.2.2.2.2.2.2.2.2.2 (32 * o + k)).toNatClampNeg % 32)).toInt64 &&& 63)) else v) := by
      conv => lhs; rw [tkF]
      rw [if_pos (by omega)]
    rw [h1] at kk
    rcases hw k (by omega) with hn9 | ⟨x, hx, ex⟩
    · refine J_iload (pc := 6) C dX11_taken_6 rfl ?_
      refine J_aload_n (pc := 8) C dX11_taken_8 rfl rfl ?_
      refine J_get (pc := 9) C dX11_taken_9 f_X11_196 rfl rfl ?_
      try dsimp only
      refine J_icmp_geN (pc := 12) (tgt := 74) C dX11_taken_12 (by decide) (by omega) (by omega) (fun h12 => ?_) (fun h12 => ?_)
      · omega
      · refine J_aload_n (pc := 15) C dX11_taken_15 rfl rfl ?_
        refine J_get (pc := 16) C dX11_taken_16 f_X11_53 rfl rfl ?_
        refine J_bipush (pc := 19) (v := nI 32) C dX11_taken_19 (by decide) ?_
        refine J_iload_n (pc := 21) C dX11_taken_21 rfl rfl ?_
        refine J_imulN (pc := 22) C dX11_taken_22 ?_
        refine J_iload (pc := 23) C dX11_taken_23 rfl ?_
        refine J_iaddN (pc := 25) C dX11_taken_25 ?_
        refine J_ialdR (pc := 26) C dX11_taken_26 rfl (by omega) (by decide) ?_
        try dsimp only
        refine J_istore (pc := 27) C dX11_taken_27 (by decide) rfl ?_
        dsimp only [List.set]
        refine J_iload (pc := 29) C dX11_taken_29 rfl ?_
        refine J_if_lt (pc := 31) (tgt := 68) C dX11_taken_31 (by decide) (fun h31 => ?_) (fun h31 => ?_)
        · refine J_iincN (pc := 68) C dX11_taken_68 rfl (by decide) rfl ?_
          dsimp only [List.set]
          refine J_goto (pc := 71) (tgt := 6) C dX11_taken_71 (by decide) ?_
          rw [if_neg (fun z => absurd hn9 (Int32.not_lt.mpr z.1))] at kk
          exact ih (k + 1) _ _ (by omega) kk (by omega)
        · exact absurd hn9 h31
    · refine J_iload (pc := 6) C dX11_taken_6 rfl ?_
      refine J_aload_n (pc := 8) C dX11_taken_8 rfl rfl ?_
      refine J_get (pc := 9) C dX11_taken_9 f_X11_196 rfl rfl ?_
      try dsimp only
      refine J_icmp_geN (pc := 12) (tgt := 74) C dX11_taken_12 (by decide) (by omega) (by omega) (fun h12 => ?_) (fun h12 => ?_)
      · omega
      · refine J_aload_n (pc := 15) C dX11_taken_15 rfl rfl ?_
        refine J_get (pc := 16) C dX11_taken_16 f_X11_53 rfl rfl ?_
        refine J_bipush (pc := 19) (v := nI 32) C dX11_taken_19 (by decide) ?_
        refine J_iload_n (pc := 21) C dX11_taken_21 rfl rfl ?_
        refine J_imulN (pc := 22) C dX11_taken_22 ?_
        refine J_iload (pc := 23) C dX11_taken_23 rfl ?_
        refine J_iaddN (pc := 25) C dX11_taken_25 ?_
        refine J_ialdR (pc := 26) C dX11_taken_26 rfl (by omega) (by decide) ?_
        try dsimp only
        rw [ex]
        refine J_istore (pc := 27) C dX11_taken_27 (by decide) rfl ?_
        dsimp only [List.set]
        refine J_iload (pc := 29) C dX11_taken_29 rfl ?_
        refine J_if_ltN (pc := 31) (tgt := 68) C dX11_taken_31 (by decide) (by omega) ?_
        refine J_iload (pc := 34) C dX11_taken_34 rfl ?_
        refine J_bipush (pc := 36) (v := nI 32) C dX11_taken_36 (by decide) ?_
        refine J_idivN (pc := 38) C dX11_taken_38 (by omega) (by omega) (by omega) ?_
        refine J_iload_n (pc := 39) C dX11_taken_39 rfl rfl ?_
        refine J_icmp_neN (pc := 40) (tgt := 68) C dX11_taken_40 (by decide) (by omega) (by omega) (fun h40 => ?_) (fun h40 => ?_)
        · refine J_iincN (pc := 68) C dX11_taken_68 rfl (by decide) rfl ?_
          dsimp only [List.set]
          refine J_goto (pc := 71) (tgt := 6) C dX11_taken_71 (by decide) ?_
          rw [ex, nI_clamp (by omega)] at kk
          first
            | (rw [if_pos ⟨nIpos_of hx, h40⟩] at kk; exact ih (k + 1) _ _ (by omega) kk (by omega))
            | (rw [if_neg (fun z => h40 z.2)] at kk; exact ih (k + 1) _ _ (by omega) kk (by omega))
        · refine J_lload (pc := 43) C dX11_taken_43 rfl ?_
          refine J_iload_n (pc := 45) C dX11_taken_45 rfl rfl ?_
          refine J_aload_n (pc := 46) C dX11_taken_46 rfl rfl ?_
          refine J_get (pc := 47) C dX11_taken_47 f_X11_196 rfl rfl ?_
          try dsimp only
          refine J_iconst (pc := 50) (v := nI 1) C dX11_taken_50 (by decide) ?_
          refine J_isubN (pc := 51) C dX11_taken_51 (by omega) ?_
          refine J_iload (pc := 52) C dX11_taken_52 rfl ?_
          refine J_isubN (pc := 54) C dX11_taken_54 (by omega) ?_
          refine J_ishr (pc := 55) C dX11_taken_55 ?_
          refine J_iconst (pc := 56) (v := nI 1) C dX11_taken_56 (by decide) ?_
          refine J_iand (pc := 57) C dX11_taken_57 ?_
          refine J_i2l (pc := 58) C dX11_taken_58 rfl ?_
          refine J_iload (pc := 59) C dX11_taken_59 rfl ?_
          refine J_bipush (pc := 61) (v := nI 32) C dX11_taken_61 (by decide) ?_
          refine J_iremN (pc := 63) C dX11_taken_63 (by omega) (by omega) (by omega) ?_
          refine J_lshl (pc := 64) C dX11_taken_64 rfl ?_
          refine J_lor (pc := 65) C dX11_taken_65 ?_
          refine J_lstore (pc := 66) C dX11_taken_66 (by decide) rfl ?_
          dsimp only [List.set]
          refine J_iincN (pc := 68) C dX11_taken_68 rfl (by decide) rfl ?_
          dsimp only [List.set]
          refine J_goto (pc := 71) (tgt := 6) C dX11_taken_71 (by decide) ?_
          rw [ex, nI_clamp (by omega)] at kk
          first
            | (rw [if_pos ⟨nIpos_of hx, h40⟩] at kk; exact ih (k + 1) _ _ (by omega) kk (by omega))
            | (rw [if_neg (fun z => h40 z.2)] at kk; exact ih (k + 1) _ _ (by omega) kk (by omega))
set_option maxHeartbeats 4000000 in
set_option maxRecDepth 100000 in
theorem c_taken (l : Launch) (G : jG) (er : Nat) (F X : Nat × (Nat → Nat)) (K : Nat × Nat × Nat) (wr : Int32) (D : mD) (P : mP) (gv : Nat → Int64) (O : Nat × (Nat → Nat)) (T : jMem) (o q : Nat) (w : Int32) (ho : o < 60) (hq : q < 6) (hw9 : D.1 ≤ 32) (hw : wOK D.2.2.2.2.2.2.2.2.2.2.2.2 D.1 o) (hP : pG D (6 * o + q)) : jC l G yX11_taken cX11_taken 8 (some .long) 1 12 0 0 [.ref 1000, .int (nI o), .int w, .int (nI q)] (encM er F X K wr D P gv O T) (.inl (some (.long (takenF D o w q)), encM er F X K wr D P gv O T)) := by
  refine jC.of (by decide) 4 rfl [some (.ref 1000), some (.int (nI o)), some (.int w), some (.int (nI q)), none, none, none, none] rfl (fun p e s m args below meth c C hT9 hNm9 => ?_)
  obtain ⟨hk3, b, hb1, hb2, hb3⟩ := hP
  have hb4 : bitsN D (6 * o + q) = b := by unfold bitsN; rw [hb3, nI_clamp (by omega)]
  have hk : D.2.2.2.2.2.2.2.2.2.1 (6 * o + q) ≤ 3 := hk3
  have hb5 : D.2.2.2.2.2.2.2.2.2.2.1 (6 * o + q) = nI b := hb3
  refine J_lconst (pc := 0) (v := 0) C dX11_taken_0 (by decide) ?_
  refine J_lstore (pc := 1) C dX11_taken_1 (by decide) rfl ?_
  dsimp only [List.set]
  refine J_iconst (pc := 3) (v := nI 0) C dX11_taken_3 (by decide) ?_
  refine J_istore (pc := 4) C dX11_taken_4 (by decide) rfl ?_
  dsimp only [List.set]
  refine l_taken l G er F X K wr D P gv O T o q 0 w 0 _ C ho hq hw9 hw (Nat.zero_le _) (fun v7 => ?_)
  refine J_bipush (pc := 74) (v := nI 6) C dX11_taken_74 (by decide) ?_
  refine J_iload_n (pc := 76) C dX11_taken_76 rfl rfl ?_
  refine J_imulN (pc := 77) C dX11_taken_77 ?_
  refine J_iload_n (pc := 78) C dX11_taken_78 rfl rfl ?_
  refine J_iaddN (pc := 79) C dX11_taken_79 ?_
  refine J_istore (pc := 80) C dX11_taken_80 (by decide) rfl ?_
  dsimp only [List.set]
  refine J_aload_n (pc := 82) C dX11_taken_82 rfl rfl ?_
  refine J_get (pc := 83) C dX11_taken_83 f_X11_44 rfl rfl ?_
  refine J_iload (pc := 86) C dX11_taken_86 rfl ?_
  refine J_ialdN (pc := 88) C dX11_taken_88 rfl (by omega) (by decide) ?_
  try dsimp only
  refine J_iconst (pc := 89) (v := nI 1) C dX11_taken_89 (by decide) ?_
  refine J_icmp_eqN (pc := 90) (tgt := 104) C dX11_taken_90 (by decide) (by omega) (by omega) (fun h90 => ?_) (fun h90 => ?_)
  · refine J_iconst (pc := 104) (v := nI 1) C dX11_taken_104 (by decide) ?_
    refine J_goto (pc := 105) (tgt := 109) C dX11_taken_105 (by decide) ?_
    refine J_istore (pc := 109) C dX11_taken_109 (by decide) rfl ?_
    dsimp only [List.set]
    refine J_iload (pc := 111) C dX11_taken_111 rfl ?_
    refine J_if_eqN (pc := 113) (tgt := 150) C dX11_taken_113 (by decide) (by omega) (fun h113 => absurd h113 (by decide)) (fun _ => ?_)
    refine J_lload (pc := 116) C dX11_taken_116 rfl ?_
    refine J_aload_n (pc := 118) C dX11_taken_118 rfl rfl ?_
    refine J_get (pc := 119) C dX11_taken_119 f_X11_47 rfl rfl ?_
    refine J_iload (pc := 122) C dX11_taken_122 rfl ?_
    refine J_ialdR (pc := 124) C dX11_taken_124 rfl (by omega) (by decide) ?_
    try dsimp only
    rw [hb5]
    refine J_iconst (pc := 125) (v := nI 1) C dX11_taken_125 (by decide) ?_
    refine J_isubN (pc := 126) C dX11_taken_126 (by omega) ?_
    refine J_lshr (pc := 127) C dX11_taken_127 rfl ?_
    refine J_lconst (pc := 128) (v := 1) C dX11_taken_128 (by decide) ?_
    refine J_land (pc := 129) C dX11_taken_129 ?_
    refine J_lconst (pc := 130) (v := 0) C dX11_taken_130 (by decide) ?_
    refine J_lcmp (pc := 131) C dX11_taken_131 ?_
    refine J_if_eq (pc := 132) (tgt := 150) C dX11_taken_132 (by decide) (fun h132 => ?_) (fun h132 => ?_)
    · refine J_lload (pc := 150) C dX11_taken_150 rfl ?_
      exact J_lret (pc := 152) C dX11_taken_152 rfl (jol (by first | exact taken_3 h90 h101 | exact taken_2 hb4 h132 | exact taken_1 hb4 (Or.inl h90) h132 | exact taken_1 hb4 (Or.inr h101) h132)) (Nat.zero_le _) (Nat.zero_le _)
    · refine J_lload (pc := 135) C dX11_taken_135 rfl ?_
      refine J_lconst (pc := 137) (v := 1) C dX11_taken_137 (by decide) ?_
      refine J_aload_n (pc := 138) C dX11_taken_138 rfl rfl ?_
      refine J_get (pc := 139) C dX11_taken_139 f_X11_47 rfl rfl ?_
      refine J_iload (pc := 142) C dX11_taken_142 rfl ?_
      refine J_ialdR (pc := 144) C dX11_taken_144 rfl (by omega) (by decide) ?_
      try dsimp only
      rw [hb5]
      refine J_lshl (pc := 145) C dX11_taken_145 rfl ?_
      rw [shl1 (by omega)]
      refine J_lsub (pc := 146) C dX11_taken_146 ?_
      refine J_goto (pc := 147) (tgt := 152) C dX11_taken_147 (by decide) ?_
      exact J_lret (pc := 152) C dX11_taken_152 rfl (jol (by first | exact taken_3 h90 h101 | exact taken_2 hb4 h132 | exact taken_1 hb4 (Or.inl h90) h132 | exact taken_1 hb4 (Or.inr h101) h132)) (Nat.zero_le _) (Nat.zero_le _)
  · refine J_aload_n (pc := 93) C dX11_taken_93 rfl rfl ?_
    refine J_get (pc := 94) C dX11_taken_94 f_X11_44 rfl rfl ?_
    refine J_iload (pc := 97) C dX11_taken_97 rfl ?_
    refine J_ialdN (pc := 99) C dX11_taken_99 rfl (by omega) (by decide) ?_
    try dsimp only
    refine J_iconst (pc := 100) (v := nI 2) C dX11_taken_100 (by decide) ?_
    refine J_icmp_neN (pc := 101) (tgt := 108) C dX11_taken_101 (by decide) (by omega) (by omega) (fun h101 => ?_) (fun h101 => ?_)
    · refine J_iconst (pc := 108) (v := nI 0) C dX11_taken_108 (by decide) ?_
      refine J_istore (pc := 109) C dX11_taken_109 (by decide) rfl ?_
      dsimp only [List.set]
      refine J_iload (pc := 111) C dX11_taken_111 rfl ?_
      refine J_if_eqN (pc := 113) (tgt := 150) C dX11_taken_113 (by decide) (by omega) (fun _ => ?_) (fun h113 => absurd h113 (by decide))
      refine J_lload (pc := 150) C dX11_taken_150 rfl ?_
      exact J_lret (pc := 152) C dX11_taken_152 rfl (jol (by first | exact taken_3 h90 h101 | exact taken_2 hb4 h132 | exact taken_1 hb4 (Or.inl h90) h132 | exact taken_1 hb4 (Or.inr h101) h132)) (Nat.zero_le _) (Nat.zero_le _)
    · refine J_iconst (pc := 104) (v := nI 1) C dX11_taken_104 (by decide) ?_
      refine J_goto (pc := 105) (tgt := 109) C dX11_taken_105 (by decide) ?_
      refine J_istore (pc := 109) C dX11_taken_109 (by decide) rfl ?_
      dsimp only [List.set]
      refine J_iload (pc := 111) C dX11_taken_111 rfl ?_
      refine J_if_eqN (pc := 113) (tgt := 150) C dX11_taken_113 (by decide) (by omega) (fun h113 => absurd h113 (by decide)) (fun _ => ?_)
      refine J_lload (pc := 116) C dX11_taken_116 rfl ?_
      refine J_aload_n (pc := 118) C dX11_taken_118 rfl rfl ?_
      refine J_get (pc := 119) C dX11_taken_119 f_X11_47 rfl rfl ?_
      refine J_iload (pc := 122) C dX11_taken_122 rfl ?_
      refine J_ialdR (pc := 124) C dX11_taken_124 rfl (by omega) (by decide) ?_
      try dsimp only
      rw [hb5]
      refine J_iconst (pc := 125) (v := nI 1) C dX11_taken_125 (by decide) ?_
      refine J_isubN (pc := 126) C dX11_taken_126 (by omega) ?_
      refine J_lshr (pc := 127) C dX11_taken_127 rfl ?_
      refine J_lconst (pc := 128) (v := 1) C dX11_taken_128 (by decide) ?_
      refine J_land (pc := 129) C dX11_taken_129 ?_
      refine J_lconst (pc := 130) (v := 0) C dX11_taken_130 (by decide) ?_
      refine J_lcmp (pc := 131) C dX11_taken_131 ?_
      refine J_if_eq (pc := 132) (tgt := 150) C dX11_taken_132 (by decide) (fun h132 => ?_) (fun h132 => ?_)
      · refine J_lload (pc := 150) C dX11_taken_150 rfl ?_
        exact J_lret (pc := 152) C dX11_taken_152 rfl (jol (by first | exact taken_3 h90 h101 | exact taken_2 hb4 h132 | exact taken_1 hb4 (Or.inl h90) h132 | exact taken_1 hb4 (Or.inr h101) h132)) (Nat.zero_le _) (Nat.zero_le _)
      · refine J_lload (pc := 135) C dX11_taken_135 rfl ?_
        refine J_lconst (pc := 137) (v := 1) C dX11_taken_137 (by decide) ?_
        refine J_aload_n (pc := 138) C dX11_taken_138 rfl rfl ?_
        refine J_get (pc := 139) C dX11_taken_139 f_X11_47 rfl rfl ?_
        refine J_iload (pc := 142) C dX11_taken_142 rfl ?_
        refine J_ialdR (pc := 144) C dX11_taken_144 rfl (by omega) (by decide) ?_
        try dsimp only
        rw [hb5]
        refine J_lshl (pc := 145) C dX11_taken_145 rfl ?_
        rw [shl1 (by omega)]
        refine J_lsub (pc := 146) C dX11_taken_146 ?_
        refine J_goto (pc := 147) (tgt := 152) C dX11_taken_147 (by decide) ?_
        exact J_lret (pc := 152) C dX11_taken_152 rfl (jol (by first | exact taken_3 h90 h101 | exact taken_2 hb4 h132 | exact taken_1 hb4 (Or.inl h90) h132 | exact taken_1 hb4 (Or.inr h101) h132)) (Nat.zero_le _) (Nat.zero_le _)
set_option maxHeartbeats 4000000 in
set_option maxRecDepth 100000 in
theorem l_own (l : Launch) (G : jG) {p : Program} {e : Env} {s : State} {m : MethodId} {args : Array Value} {below : List Frame} {meth : Method} {c : Code} (er : Nat) (F X : Nat × (Nat → Nat)) (K : Nat × Nat × Nat) (wr : Int32) (D : mD) (P : mP) (gv : Nat → Int64) (O : Nat × (Nat → Nat)) (T : jMem) {ou : jO} (o k : Nat) (w : Int32) (b : Bool) (C : jX0 p l (jR 1 12 0 0) s m args meth c G cX11_opOf 5 RX11 (some .int)) (ho : o < 60) (hw9 : D.1 ≤ 32) (hk : k ≤ D.1) (kk : J p l e (jR 1 12 0 0) s m args below meth c G 5 0 0 (ou) 83 [some (.ref 1000), some (.int w), some (.int (nI o)), some (.int (bI (b && allF (ownF D.2.2.2.2.2.2.2.2.2.2.2.2 D.1 w o) D.1 k))), some (.int (nI D.1))] [] (encM er F X K wr D P gv O T) 0 0) : J p l e (jR 1 12 0 0) s m args below meth c G 5 0 0 (ou) 15 [some (.ref 1000), some (.int w), some (.int (nI o)), some (.int (bI b)), some (.int (nI k))] [] (encM er F X K wr D P gv O T) 0 0 := by
  induction hm : D.1 - k generalizing k b with
  | zero =>
    have h9 : k = D.1 := by omega
    rw [show allF (ownF D.2.2.2.2.2.2.2.2.2.2.2.2 D.1 w o) D.1 k = true by rw [allF, if_neg (by omega)], Bool.and_true] at kk
    subst h9
    refine J_iload (pc := 15) C dX11_opOf_15 rfl ?_
    refine J_aload_n (pc := 17) C dX11_opOf_17 rfl rfl ?_
    refine J_get (pc := 18) C dX11_opOf_18 f_X11_196 rfl rfl ?_
    try dsimp only
    refine J_icmp_geN (pc := 21) (tgt := 83) C dX11_opOf_21 (by decide) (by omega) (by omega) (fun h21 => ?_) (fun h21 => ?_)
    · exact kk
    · omega
  | succ d ih =>
    have h1 : allF (ownF D.2.2.2.2.2.2.2.2.2.2.2.2 D.1 w o) D.1 k = (ownF D.2.2.2.2.2.2.2.2.2.2.2.2 D.1 w o k && allF (ownF D.2.2.2.2.2.2.2.2.2.2.2.2 D.1 w o) D.1 (k + 1)) := by
      conv => lhs; rw [allF]
      rw [if_pos (by omega)]
    rw [h1, ← Bool.and_assoc] at kk
    refine J_iload (pc := 15) C dX11_opOf_15 rfl ?_
    refine J_aload_n (pc := 17) C dX11_opOf_17 rfl rfl ?_
    refine J_get (pc := 18) C dX11_opOf_18 f_X11_196 rfl rfl ?_
    try dsimp only
    refine J_icmp_geN (pc := 21) (tgt := 83) C dX11_opOf_21 (by decide) (by omega) (by omega) (fun h21 => ?_) (fun h21 => ?_)
    · omega
    · refine J_iload_n (pc := 24) C dX11_opOf_24 rfl rfl ?_
      refine J_aload_n (pc := 25) C dX11_opOf_25 rfl rfl ?_
      refine J_get (pc := 26) C dX11_opOf_26 f_X11_53 rfl rfl ?_
      refine J_bipush (pc := 29) (v := nI 32) C dX11_opOf_29 (by decide) ?_
      refine J_iload_n (pc := 31) C dX11_opOf_31 rfl rfl ?_
      refine J_imulN (pc := 32) C dX11_opOf_32 ?_
      refine J_iload (pc := 33) C dX11_opOf_33 rfl ?_
      refine J_iaddN (pc := 35) C dX11_opOf_35 ?_
      refine J_ialdR (pc := 36) C dX11_opOf_36 rfl (by omega) (by decide) ?_
      try dsimp only
      refine J_if_ge (pc := 37) (tgt := 70) C dX11_opOf_37 (by decide) (fun h37 => ?_) (fun h37 => ?_)
      · refine J_iconst (pc := 70) (v := nI 1) C dX11_opOf_70 (by decide) ?_
        refine J_goto (pc := 71) (tgt := 75) C dX11_opOf_71 (by decide) ?_
        refine J_iand (pc := 75) C dX11_opOf_75 ?_
        refine J_istore_n (pc := 76) C dX11_opOf_76 rfl (by decide) rfl ?_
        dsimp only [List.set]
        refine J_iincN (pc := 77) C dX11_opOf_77 rfl (by decide) rfl ?_
        dsimp only [List.set]
        refine J_goto (pc := 80) (tgt := 15) C dX11_opOf_80 (by decide) ?_
        first
          | (have h2 := own_1 (W := D.1) (w := w) h37
             rw [h2, Bool.and_true] at kk; rw [bI_an1]; exact ih (k + 1) _ (by omega) kk (by omega))
          | (have h2 := own_2 (W := D.1) (w := w) (o := o) (k := k) h67
             rw [h2, Bool.and_true] at kk; rw [bI_an1]; exact ih (k + 1) _ (by omega) kk (by omega))
          | (have h2 := own_0 (W := D.1) (w := w) h37 h67
             rw [h2, Bool.and_false] at kk; rw [bI_an0]; exact ih (k + 1) _ (by omega) (by rw [Bool.false_and] at kk ⊢; exact kk) (by omega))
      · refine J_aload_n (pc := 40) C dX11_opOf_40 rfl rfl ?_
        refine J_get (pc := 41) C dX11_opOf_41 f_X11_53 rfl rfl ?_
        refine J_bipush (pc := 44) (v := nI 32) C dX11_opOf_44 (by decide) ?_
        refine J_iload_n (pc := 46) C dX11_opOf_46 rfl rfl ?_
        refine J_imulN (pc := 47) C dX11_opOf_47 ?_
        refine J_iload (pc := 48) C dX11_opOf_48 rfl ?_
        refine J_iaddN (pc := 50) C dX11_opOf_50 ?_
        refine J_ialdR (pc := 51) C dX11_opOf_51 rfl (by omega) (by decide) ?_
        try dsimp only
        refine J_iconst (pc := 52) (v := -1) C dX11_opOf_52 (by decide) ?_
        refine J_iload_n (pc := 53) C dX11_opOf_53 rfl rfl ?_
        refine J_aload_n (pc := 54) C dX11_opOf_54 rfl rfl ?_
        refine J_get (pc := 55) C dX11_opOf_55 f_X11_196 rfl rfl ?_
        try dsimp only
        refine J_iconst (pc := 58) (v := nI 1) C dX11_opOf_58 (by decide) ?_
        refine J_isubN (pc := 59) C dX11_opOf_59 (by omega) ?_
        refine J_iload (pc := 60) C dX11_opOf_60 rfl ?_
        refine J_isubN (pc := 62) C dX11_opOf_62 (by omega) ?_
        refine J_ishr (pc := 63) C dX11_opOf_63 ?_
        refine J_iconst (pc := 64) (v := nI 1) C dX11_opOf_64 (by decide) ?_
        refine J_iand (pc := 65) C dX11_opOf_65 ?_
        refine J_isub (pc := 66) C dX11_opOf_66 ?_
        refine J_icmp_ne (pc := 67) (tgt := 74) C dX11_opOf_67 (by decide) (fun h67 => ?_) (fun h67 => ?_)
        · refine J_iconst (pc := 74) (v := nI 0) C dX11_opOf_74 (by decide) ?_
          refine J_iand (pc := 75) C dX11_opOf_75 ?_
          refine J_istore_n (pc := 76) C dX11_opOf_76 rfl (by decide) rfl ?_
          dsimp only [List.set]
          refine J_iincN (pc := 77) C dX11_opOf_77 rfl (by decide) rfl ?_
          dsimp only [List.set]
          refine J_goto (pc := 80) (tgt := 15) C dX11_opOf_80 (by decide) ?_
          first
            | (have h2 := own_1 (W := D.1) (w := w) h37
               rw [h2, Bool.and_true] at kk; rw [bI_an1]; exact ih (k + 1) _ (by omega) kk (by omega))
            | (have h2 := own_2 (W := D.1) (w := w) (o := o) (k := k) h67
               rw [h2, Bool.and_true] at kk; rw [bI_an1]; exact ih (k + 1) _ (by omega) kk (by omega))
            | (have h2 := own_0 (W := D.1) (w := w) h37 h67
               rw [h2, Bool.and_false] at kk; rw [bI_an0]; exact ih (k + 1) _ (by omega) (by rw [Bool.false_and] at kk ⊢; exact kk) (by omega))
        · refine J_iconst (pc := 70) (v := nI 1) C dX11_opOf_70 (by decide) ?_
          refine J_goto (pc := 71) (tgt := 75) C dX11_opOf_71 (by decide) ?_
          refine J_iand (pc := 75) C dX11_opOf_75 ?_
          refine J_istore_n (pc := 76) C dX11_opOf_76 rfl (by decide) rfl ?_
          dsimp only [List.set]
          refine J_iincN (pc := 77) C dX11_opOf_77 rfl (by decide) rfl ?_
          dsimp only [List.set]
          refine J_goto (pc := 80) (tgt := 15) C dX11_opOf_80 (by decide) ?_
          first
            | (have h2 := own_1 (W := D.1) (w := w) h37
               rw [h2, Bool.and_true] at kk; rw [bI_an1]; exact ih (k + 1) _ (by omega) kk (by omega))
            | (have h2 := own_2 (W := D.1) (w := w) (o := o) (k := k) h67
               rw [h2, Bool.and_true] at kk; rw [bI_an1]; exact ih (k + 1) _ (by omega) kk (by omega))
            | (have h2 := own_0 (W := D.1) (w := w) h37 h67
               rw [h2, Bool.and_false] at kk; rw [bI_an0]; exact ih (k + 1) _ (by omega) (by rw [Bool.false_and] at kk ⊢; exact kk) (by omega))
set_option maxHeartbeats 4000000 in
set_option maxRecDepth 100000 in
theorem l_oo (l : Launch) (G : jG) {p : Program} {e : Env} {s : State} {m : MethodId} {args : Array Value} {below : List Frame} {meth : Method} {c : Code} (er : Nat) (F X : Nat × (Nat → Nat)) (K : Nat × Nat × Nat) (wr : Int32) (D : mD) (P : mP) (gv : Nat → Int64) (O : Nat × (Nat → Nat)) (T : jMem) (o : Nat) (w : Int32) (v3 v4 : Option Value) (C : jX0 p l (jR 1 12 0 0) s m args meth c G cX11_opOf 5 RX11 (some .int)) (hw9 : D.1 ≤ 32) (h60 : D.2.2.1 ≤ 60) (ho : o ≤ D.2.2.1) : J p l e (jR 1 12 0 0) s m args below meth c G 5 0 0 (.inl (some (.int (lI (ooF D.2.2.2.2.2.2.2.2.2.2.2.2 D.1 w D.2.2.1 o))), encM er F X K wr D P gv O T)) 2 [some (.ref 1000), some (.int w), some (.int (nI o)), v3, v4] [] (encM er F X K wr D P gv O T) 0 0 := by
  induction hm : D.2.2.1 - o generalizing o v3 v4 with
  | zero =>
    rw [show ooF D.2.2.2.2.2.2.2.2.2.2.2.2 D.1 w D.2.2.1 o = 1000 by rw [ooF, if_neg (by omega)]]
    refine J_iload_n (pc := 2) C dX11_opOf_2 rfl rfl ?_
    refine J_aload_n (pc := 3) C dX11_opOf_3 rfl rfl ?_
    refine J_get (pc := 4) C dX11_opOf_4 f_X11_190 rfl rfl ?_
    try dsimp only
    refine J_icmp_geN (pc := 7) (tgt := 95) C dX11_opOf_7 (by decide) (by omega) (by omega) (fun h7 => ?_) (fun h7 => ?_)
    · refine J_iconst (pc := 95) (v := -1) C dX11_opOf_95 (by decide) ?_
      exact J_iret (pc := 96) C dX11_opOf_96 rfl (rfl) (Nat.zero_le _) (Nat.zero_le _)
    · omega
  | succ d ih =>
    have h1 : ooF D.2.2.2.2.2.2.2.2.2.2.2.2 D.1 w D.2.2.1 o = if allF (ownF D.2.2.2.2.2.2.2.2.2.2.2.2 D.1 w o) D.1 0 = true then o else ooF D.2.2.2.2.2.2.2.2.2.2.2.2 D.1 w D.2.2.1 (o + 1) := by
      conv => lhs; rw [ooF]
      rw [if_pos (by omega)]
    rw [h1]
    refine J_iload_n (pc := 2) C dX11_opOf_2 rfl rfl ?_
    refine J_aload_n (pc := 3) C dX11_opOf_3 rfl rfl ?_
    refine J_get (pc := 4) C dX11_opOf_4 f_X11_190 rfl rfl ?_
    try dsimp only
    refine J_icmp_geN (pc := 7) (tgt := 95) C dX11_opOf_7 (by decide) (by omega) (by omega) (fun h7 => ?_) (fun h7 => ?_)
    · omega
    · refine J_iconst (pc := 10) (v := nI 1) C dX11_opOf_10 (by decide) ?_
      refine J_istore_n (pc := 11) C dX11_opOf_11 rfl (by decide) rfl ?_
      dsimp only [List.set]
      refine J_iconst (pc := 12) (v := nI 0) C dX11_opOf_12 (by decide) ?_
      refine J_istore (pc := 13) C dX11_opOf_13 (by decide) rfl ?_
      dsimp only [List.set]
      refine l_own l G er F X K wr D P gv O T o 0 w true C (by omega) hw9 (Nat.zero_le _) ?_
      refine J_iload_n (pc := 83) C dX11_opOf_83 rfl rfl ?_
      refine J_if_eq (pc := 84) (tgt := 89) C dX11_opOf_84 (by decide) (fun h84 => ?_) (fun h84 => ?_)
      · refine J_iincN (pc := 89) C dX11_opOf_89 rfl (by decide) rfl ?_
        dsimp only [List.set]
        refine J_goto (pc := 92) (tgt := 2) C dX11_opOf_92 (by decide) ?_
        rw [Bool.true_and] at h84
        rw [if_neg (by rw [bI_f h84]; decide)]
        exact ih (o + 1) _ _ (by omega) (by omega)
      · refine J_iload_n (pc := 87) C dX11_opOf_87 rfl rfl ?_
        exact J_iret (pc := 88) C dX11_opOf_88 rfl (by rw [Bool.true_and] at h84; rw [if_pos (bI_t h84), lI_n (by omega)]) (Nat.zero_le _) (Nat.zero_le _)
set_option maxHeartbeats 4000000 in
set_option maxRecDepth 100000 in
theorem c_opOf (l : Launch) (G : jG) (er : Nat) (F X : Nat × (Nat → Nat)) (K : Nat × Nat × Nat) (wr : Int32) (D : mD) (P : mP) (gv : Nat → Int64) (O : Nat × (Nat → Nat)) (T : jMem) (w : Int32) (hw9 : D.1 ≤ 32) (h60 : D.2.2.1 ≤ 60) : jC l G yX11_opOf cX11_opOf 5 (some .int) 1 12 0 0 [.ref 1000, .int w] (encM er F X K wr D P gv O T) (.inl (some (.int (lI (opOfF D w))), encM er F X K wr D P gv O T)) := by
  refine jC.of (by decide) 3 rfl [some (.ref 1000), some (.int w), none, none, none] rfl (fun p e s m args below meth c C hT9 hNm9 => ?_)
  refine J_iconst (pc := 0) (v := nI 0) C dX11_opOf_0 (by decide) ?_
  refine J_istore_n (pc := 1) C dX11_opOf_1 rfl (by decide) rfl ?_
  dsimp only [List.set]
  exact l_oo l G er F X K wr D P gv O T 0 w _ _ C hw9 h60 (Nat.zero_le _)
