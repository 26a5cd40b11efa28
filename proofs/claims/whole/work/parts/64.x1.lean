set_option maxHeartbeats 4000000 in
set_option maxRecDepth 100000 in
theorem x_isBlank (l : Launch) (G : jG) (M : jMem) (x : Nat) (hx9 : x < 1000) : jC l G yX10_isBlank cX10_isBlank 1 (some .boolean) 1 12 0 0 [.int (nI x)] (M) (.inl (some (.int (bI (isBl x))), M)) := by
  refine jC.of (by decide) 0 rfl [some (.int (nI x))] rfl (fun p e s m args below meth c C hT9 hNm9 => ?_)
  refine J_iload_n (pc := 0) C dX10_isBlank_0 rfl rfl ?_
  refine J_bipush (pc := 1) (v := nI 32) C dX10_isBlank_1 (by decide) ?_
  refine J_icmp_eqN (pc := 3) (tgt := 12) C dX10_isBlank_3 (by decide) (by omega) (by omega) (fun h3 => ?_) (fun h3 => ?_)
  · refine J_iconst (pc := 12) (v := nI 1) C dX10_isBlank_12 (by decide) ?_
    refine J_goto (pc := 13) (tgt := 17) C dX10_isBlank_13 (by decide) ?_
    exact J_zret (pc := 17) C dX10_isBlank_17 rfl (by first | rfl | decide) (jo (by first | exact bI_1 (by unfold isBl; simp; omega) | exact bI_0 (by unfold isBl; simp; omega) | exact bI_1 (by unfold isBl; simp; exact bI_t h1) | rfl)) (Nat.zero_le _) (Nat.zero_le _)
  · refine J_iload_n (pc := 6) C dX10_isBlank_6 rfl rfl ?_
    refine J_bipush (pc := 7) (v := nI 10) C dX10_isBlank_7 (by decide) ?_
    refine J_icmp_neN (pc := 9) (tgt := 16) C dX10_isBlank_9 (by decide) (by omega) (by omega) (fun h9 => ?_) (fun h9 => ?_)
    · refine J_iconst (pc := 16) (v := nI 0) C dX10_isBlank_16 (by decide) ?_
      exact J_zret (pc := 17) C dX10_isBlank_17 rfl (by first | rfl | decide) (jo (by first | exact bI_1 (by unfold isBl; simp; omega) | exact bI_0 (by unfold isBl; simp; omega) | exact bI_1 (by unfold isBl; simp; exact bI_t h1) | rfl)) (Nat.zero_le _) (Nat.zero_le _)
    · refine J_iconst (pc := 12) (v := nI 1) C dX10_isBlank_12 (by decide) ?_
      refine J_goto (pc := 13) (tgt := 17) C dX10_isBlank_13 (by decide) ?_
      exact J_zret (pc := 17) C dX10_isBlank_17 rfl (by first | rfl | decide) (jo (by first | exact bI_1 (by unfold isBl; simp; omega) | exact bI_0 (by unfold isBl; simp; omega) | exact bI_1 (by unfold isBl; simp; exact bI_t h1) | rfl)) (Nat.zero_le _) (Nat.zero_le _)
set_option maxHeartbeats 4000000 in
set_option maxRecDepth 100000 in
theorem x_isDigit (l : Launch) (G : jG) (M : jMem) (x : Nat) (hx9 : x < 1000) : jC l G yX10_isDigit cX10_isDigit 1 (some .boolean) 1 12 0 0 [.int (nI x)] (M) (.inl (some (.int (bI (isDig x))), M)) := by
  refine jC.of (by decide) 0 rfl [some (.int (nI x))] rfl (fun p e s m args below meth c C hT9 hNm9 => ?_)
  refine J_iload_n (pc := 0) C dX10_isDigit_0 rfl rfl ?_
  refine J_bipush (pc := 1) (v := nI 48) C dX10_isDigit_1 (by decide) ?_
  refine J_icmp_ltN (pc := 3) (tgt := 16) C dX10_isDigit_3 (by decide) (by omega) (by omega) (fun h3 => ?_) (fun h3 => ?_)
  · refine J_iconst (pc := 16) (v := nI 0) C dX10_isDigit_16 (by decide) ?_
    exact J_zret (pc := 17) C dX10_isDigit_17 rfl (by first | rfl | decide) (jo (by first | exact bI_1 (by unfold isDig; simp; omega) | exact bI_0 (by unfold isDig; simp; omega) | exact bI_1 (by unfold isDig; simp; exact bI_t h1) | rfl)) (Nat.zero_le _) (Nat.zero_le _)
  · refine J_iload_n (pc := 6) C dX10_isDigit_6 rfl rfl ?_
    refine J_bipush (pc := 7) (v := nI 57) C dX10_isDigit_7 (by decide) ?_
    refine J_icmp_gtN (pc := 9) (tgt := 16) C dX10_isDigit_9 (by decide) (by omega) (by omega) (fun h9 => ?_) (fun h9 => ?_)
    · refine J_iconst (pc := 16) (v := nI 0) C dX10_isDigit_16 (by decide) ?_
      exact J_zret (pc := 17) C dX10_isDigit_17 rfl (by first | rfl | decide) (jo (by first | exact bI_1 (by unfold isDig; simp; omega) | exact bI_0 (by unfold isDig; simp; omega) | exact bI_1 (by unfold isDig; simp; exact bI_t h1) | rfl)) (Nat.zero_le _) (Nat.zero_le _)
    · refine J_iconst (pc := 12) (v := nI 1) C dX10_isDigit_12 (by decide) ?_
      refine J_goto (pc := 13) (tgt := 17) C dX10_isDigit_13 (by decide) ?_
      exact J_zret (pc := 17) C dX10_isDigit_17 rfl (by first | rfl | decide) (jo (by first | exact bI_1 (by unfold isDig; simp; omega) | exact bI_0 (by unfold isDig; simp; omega) | exact bI_1 (by unfold isDig; simp; exact bI_t h1) | rfl)) (Nat.zero_le _) (Nat.zero_le _)
set_option maxHeartbeats 4000000 in
set_option maxRecDepth 100000 in
theorem x_beginsName (l : Launch) (G : jG) (M : jMem) (x : Nat) (hx9 : x < 1000) : jC l G yX10_beginsName cX10_beginsName 1 (some .boolean) 1 12 0 0 [.int (nI x)] (M) (.inl (some (.int (bI (isLet x))), M)) := by
  refine jC.of (by decide) 0 rfl [some (.int (nI x))] rfl (fun p e s m args below meth c C hT9 hNm9 => ?_)
  refine J_iload_n (pc := 0) C dX10_beginsName_0 rfl rfl ?_
  refine J_bipush (pc := 1) (v := nI 97) C dX10_beginsName_1 (by decide) ?_
  refine J_icmp_ltN (pc := 3) (tgt := 12) C dX10_beginsName_3 (by decide) (by omega) (by omega) (fun h3 => ?_) (fun h3 => ?_)
  · refine J_iload_n (pc := 12) C dX10_beginsName_12 rfl rfl ?_
    refine J_bipush (pc := 13) (v := nI 65) C dX10_beginsName_13 (by decide) ?_
    refine J_icmp_ltN (pc := 15) (tgt := 24) C dX10_beginsName_15 (by decide) (by omega) (by omega) (fun h15 => ?_) (fun h15 => ?_)
    · refine J_iload_n (pc := 24) C dX10_beginsName_24 rfl rfl ?_
      refine J_bipush (pc := 25) (v := nI 95) C dX10_beginsName_25 (by decide) ?_
      refine J_icmp_neN (pc := 27) (tgt := 34) C dX10_beginsName_27 (by decide) (by omega) (by omega) (fun h27 => ?_) (fun h27 => ?_)
      · refine J_iconst (pc := 34) (v := nI 0) C dX10_beginsName_34 (by decide) ?_
        exact J_zret (pc := 35) C dX10_beginsName_35 rfl (by first | rfl | decide) (jo (by first | exact bI_1 (by unfold isLet; simp; omega) | exact bI_0 (by unfold isLet; simp; omega) | exact bI_1 (by unfold isLet; simp; exact bI_t h1) | rfl)) (Nat.zero_le _) (Nat.zero_le _)
      · refine J_iconst (pc := 30) (v := nI 1) C dX10_beginsName_30 (by decide) ?_
        refine J_goto (pc := 31) (tgt := 35) C dX10_beginsName_31 (by decide) ?_
        exact J_zret (pc := 35) C dX10_beginsName_35 rfl (by first | rfl | decide) (jo (by first | exact bI_1 (by unfold isLet; simp; omega) | exact bI_0 (by unfold isLet; simp; omega) | exact bI_1 (by unfold isLet; simp; exact bI_t h1) | rfl)) (Nat.zero_le _) (Nat.zero_le _)
    · refine J_iload_n (pc := 18) C dX10_beginsName_18 rfl rfl ?_
      refine J_bipush (pc := 19) (v := nI 90) C dX10_beginsName_19 (by decide) ?_
      refine J_icmp_leN (pc := 21) (tgt := 30) C dX10_beginsName_21 (by decide) (by omega) (by omega) (fun h21 => ?_) (fun h21 => ?_)
      · refine J_iconst (pc := 30) (v := nI 1) C dX10_beginsName_30 (by decide) ?_
        refine J_goto (pc := 31) (tgt := 35) C dX10_beginsName_31 (by decide) ?_
        exact J_zret (pc := 35) C dX10_beginsName_35 rfl (by first | rfl | decide) (jo (by first | exact bI_1 (by unfold isLet; simp; omega) | exact bI_0 (by unfold isLet; simp; omega) | exact bI_1 (by unfold isLet; simp; exact bI_t h1) | rfl)) (Nat.zero_le _) (Nat.zero_le _)
      · refine J_iload_n (pc := 24) C dX10_beginsName_24 rfl rfl ?_
        refine J_bipush (pc := 25) (v := nI 95) C dX10_beginsName_25 (by decide) ?_
        refine J_icmp_neN (pc := 27) (tgt := 34) C dX10_beginsName_27 (by decide) (by omega) (by omega) (fun h27 => ?_) (fun h27 => ?_)
        · refine J_iconst (pc := 34) (v := nI 0) C dX10_beginsName_34 (by decide) ?_
          exact J_zret (pc := 35) C dX10_beginsName_35 rfl (by first | rfl | decide) (jo (by first | exact bI_1 (by unfold isLet; simp; omega) | exact bI_0 (by unfold isLet; simp; omega) | exact bI_1 (by unfold isLet; simp; exact bI_t h1) | rfl)) (Nat.zero_le _) (Nat.zero_le _)
        · refine J_iconst (pc := 30) (v := nI 1) C dX10_beginsName_30 (by decide) ?_
          refine J_goto (pc := 31) (tgt := 35) C dX10_beginsName_31 (by decide) ?_
          exact J_zret (pc := 35) C dX10_beginsName_35 rfl (by first | rfl | decide) (jo (by first | exact bI_1 (by unfold isLet; simp; omega) | exact bI_0 (by unfold isLet; simp; omega) | exact bI_1 (by unfold isLet; simp; exact bI_t h1) | rfl)) (Nat.zero_le _) (Nat.zero_le _)
  · refine J_iload_n (pc := 6) C dX10_beginsName_6 rfl rfl ?_
    refine J_bipush (pc := 7) (v := nI 122) C dX10_beginsName_7 (by decide) ?_
    refine J_icmp_leN (pc := 9) (tgt := 30) C dX10_beginsName_9 (by decide) (by omega) (by omega) (fun h9 => ?_) (fun h9 => ?_)
    · refine J_iconst (pc := 30) (v := nI 1) C dX10_beginsName_30 (by decide) ?_
      refine J_goto (pc := 31) (tgt := 35) C dX10_beginsName_31 (by decide) ?_
      exact J_zret (pc := 35) C dX10_beginsName_35 rfl (by first | rfl | decide) (jo (by first | exact bI_1 (by unfold isLet; simp; omega) | exact bI_0 (by unfold isLet; simp; omega) | exact bI_1 (by unfold isLet; simp; exact bI_t h1) | rfl)) (Nat.zero_le _) (Nat.zero_le _)
    · refine J_iload_n (pc := 12) C dX10_beginsName_12 rfl rfl ?_
      refine J_bipush (pc := 13) (v := nI 65) C dX10_beginsName_13 (by decide) ?_
      refine J_icmp_ltN (pc := 15) (tgt := 24) C dX10_beginsName_15 (by decide) (by omega) (by omega) (fun h15 => ?_) (fun h15 => ?_)
      · refine J_iload_n (pc := 24) C dX10_beginsName_24 rfl rfl ?_
        refine J_bipush (pc := 25) (v := nI 95) C dX10_beginsName_25 (by decide) ?_
        refine J_icmp_neN (pc := 27) (tgt := 34) C dX10_beginsName_27 (by decide) (by omega) (by omega) (fun h27 => ?_) (fun h27 => ?_)
        · refine J_iconst (pc := 34) (v := nI 0) C dX10_beginsName_34 (by decide) ?_
          exact J_zret (pc := 35) C dX10_beginsName_35 rfl (by first | rfl | decide) (jo (by first | exact bI_1 (by unfold isLet; simp; omega) | exact bI_0 (by unfold isLet; simp; omega) | exact bI_1 (by unfold isLet; simp; exact bI_t h1) | rfl)) (Nat.zero_le _) (Nat.zero_le _)
        · refine J_iconst (pc := 30) (v := nI 1) C dX10_beginsName_30 (by decide) ?_
          refine J_goto (pc := 31) (tgt := 35) C dX10_beginsName_31 (by decide) ?_
          exact J_zret (pc := 35) C dX10_beginsName_35 rfl (by first | rfl | decide) (jo (by first | exact bI_1 (by unfold isLet; simp; omega) | exact bI_0 (by unfold isLet; simp; omega) | exact bI_1 (by unfold isLet; simp; exact bI_t h1) | rfl)) (Nat.zero_le _) (Nat.zero_le _)
      · refine J_iload_n (pc := 18) C dX10_beginsName_18 rfl rfl ?_
        refine J_bipush (pc := 19) (v := nI 90) C dX10_beginsName_19 (by decide) ?_
        refine J_icmp_leN (pc := 21) (tgt := 30) C dX10_beginsName_21 (by decide) (by omega) (by omega) (fun h21 => ?_) (fun h21 => ?_)
        · refine J_iconst (pc := 30) (v := nI 1) C dX10_beginsName_30 (by decide) ?_
          refine J_goto (pc := 31) (tgt := 35) C dX10_beginsName_31 (by decide) ?_
          exact J_zret (pc := 35) C dX10_beginsName_35 rfl (by first | rfl | decide) (jo (by first | exact bI_1 (by unfold isLet; simp; omega) | exact bI_0 (by unfold isLet; simp; omega) | exact bI_1 (by unfold isLet; simp; exact bI_t h1) | rfl)) (Nat.zero_le _) (Nat.zero_le _)
        · refine J_iload_n (pc := 24) C dX10_beginsName_24 rfl rfl ?_
          refine J_bipush (pc := 25) (v := nI 95) C dX10_beginsName_25 (by decide) ?_
          refine J_icmp_neN (pc := 27) (tgt := 34) C dX10_beginsName_27 (by decide) (by omega) (by omega) (fun h27 => ?_) (fun h27 => ?_)
          · refine J_iconst (pc := 34) (v := nI 0) C dX10_beginsName_34 (by decide) ?_
            exact J_zret (pc := 35) C dX10_beginsName_35 rfl (by first | rfl | decide) (jo (by first | exact bI_1 (by unfold isLet; simp; omega) | exact bI_0 (by unfold isLet; simp; omega) | exact bI_1 (by unfold isLet; simp; exact bI_t h1) | rfl)) (Nat.zero_le _) (Nat.zero_le _)
          · refine J_iconst (pc := 30) (v := nI 1) C dX10_beginsName_30 (by decide) ?_
            refine J_goto (pc := 31) (tgt := 35) C dX10_beginsName_31 (by decide) ?_
            exact J_zret (pc := 35) C dX10_beginsName_35 rfl (by first | rfl | decide) (jo (by first | exact bI_1 (by unfold isLet; simp; omega) | exact bI_0 (by unfold isLet; simp; omega) | exact bI_1 (by unfold isLet; simp; exact bI_t h1) | rfl)) (Nat.zero_le _) (Nat.zero_le _)
set_option maxHeartbeats 4000000 in
set_option maxRecDepth 100000 in
theorem x_isHexDigit (l : Launch) (G : jG) (M : jMem) (x : Nat) (hx9 : x < 1000) : jC l G yX10_isHexDigit cX10_isHexDigit 1 (some .boolean) 2 32 0 0 [.int (nI x)] (M) (.inl (some (.int (bI (hxF x))), M)) := by
  refine jC.of (by decide) 0 rfl [some (.int (nI x))] rfl (fun p e s m args below meth c C hT9 hNm9 => ?_)
  refine J_iload_n (pc := 0) C dX10_isHexDigit_0 rfl rfl ?_
  refine J_callS1 (pc := 1) C dX10_isHexDigit_1 m_X10_191 (x_isDigit l G _ _ (by omega)) ⟨jle rfl, jle rfl⟩ rfl rfl (jle rfl) ⟨Nat.zero_le _, Nat.zero_le _⟩ ?_
  try dsimp only
  refine J_if_ne (pc := 4) (tgt := 19) C dX10_isHexDigit_4 (by decide) (fun h4 => ?_) (fun h4 => ?_)
  · refine J_iconst (pc := 19) (v := nI 1) C dX10_isHexDigit_19 (by decide) ?_
    refine J_goto (pc := 20) (tgt := 24) C dX10_isHexDigit_20 (by decide) ?_
    exact J_zret (pc := 24) C dX10_isHexDigit_24 rfl (by first | rfl | decide) (jo (by first | exact bI_1 (hxF_d (bI_t h4)) | exact bI_1 (hxF_a (by omega) (by omega)) | exact bI_0 (hxF_f (bI_f h4) (by omega)))) (Nat.zero_le _) (Nat.zero_le _)
  · refine J_iload_n (pc := 7) C dX10_isHexDigit_7 rfl rfl ?_
    refine J_bipush (pc := 8) (v := nI 97) C dX10_isHexDigit_8 (by decide) ?_
    refine J_icmp_ltN (pc := 10) (tgt := 23) C dX10_isHexDigit_10 (by decide) (by omega) (by omega) (fun h10 => ?_) (fun h10 => ?_)
    · refine J_iconst (pc := 23) (v := nI 0) C dX10_isHexDigit_23 (by decide) ?_
      exact J_zret (pc := 24) C dX10_isHexDigit_24 rfl (by first | rfl | decide) (jo (by first | exact bI_1 (hxF_d (bI_t h4)) | exact bI_1 (hxF_a (by omega) (by omega)) | exact bI_0 (hxF_f (bI_f h4) (by omega)))) (Nat.zero_le _) (Nat.zero_le _)
    · refine J_iload_n (pc := 13) C dX10_isHexDigit_13 rfl rfl ?_
      refine J_bipush (pc := 14) (v := nI 102) C dX10_isHexDigit_14 (by decide) ?_
      refine J_icmp_gtN (pc := 16) (tgt := 23) C dX10_isHexDigit_16 (by decide) (by omega) (by omega) (fun h16 => ?_) (fun h16 => ?_)
      · refine J_iconst (pc := 23) (v := nI 0) C dX10_isHexDigit_23 (by decide) ?_
        exact J_zret (pc := 24) C dX10_isHexDigit_24 rfl (by first | rfl | decide) (jo (by first | exact bI_1 (hxF_d (bI_t h4)) | exact bI_1 (hxF_a (by omega) (by omega)) | exact bI_0 (hxF_f (bI_f h4) (by omega)))) (Nat.zero_le _) (Nat.zero_le _)
      · refine J_iconst (pc := 19) (v := nI 1) C dX10_isHexDigit_19 (by decide) ?_
        refine J_goto (pc := 20) (tgt := 24) C dX10_isHexDigit_20 (by decide) ?_
        exact J_zret (pc := 24) C dX10_isHexDigit_24 rfl (by first | rfl | decide) (jo (by first | exact bI_1 (hxF_d (bI_t h4)) | exact bI_1 (hxF_a (by omega) (by omega)) | exact bI_0 (hxF_f (bI_f h4) (by omega)))) (Nat.zero_le _) (Nat.zero_le _)
