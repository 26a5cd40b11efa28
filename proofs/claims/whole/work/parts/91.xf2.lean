set_option maxHeartbeats 4000000 in
set_option maxRecDepth 100000 in
theorem l_fill9 (l : Launch) (G : jG) {p : Program} {e : Env} {s : State} {m : MethodId} {args : Array Value} {below : List Frame} {meth : Method} {c : Code} {X : Nat × (Nat → Nat)} {D : mD} {P : mP} {gv : Nat → Int64} {nz : Nat} (A : xA) (S : xS) (B : xB) (Z : xZ) (Q : xN) (L : xL) (T : jMem) (t : xT) (C9 : xC) (V : xV) (u c9 : Nat) (K : Nat × Nat × Nat) (C : jX0 p l (jR 11 203 1 6) s m args meth c G cX0_readProgram 2 RX0 none) (hT9 : ∀ x ∈ c.exceptionTable.toList, False) (hst : l.stackTraces = false) (hT2 : T.2 = some nz) (hx : xcx X A S) (hA8 : ∀ k, A.2.1 k < 256) (hg : gC C9) (hp : pR X D P C9 V) (hd : dR D B Z D.2.2.1) (hb : nB B.2.2.1 12 ∧ nB B.2.2.2.2 60) (hu : u + c9 = P.2.2.1) (hV : P.2.2.1 ≤ 2000) (hK : uK D P u) (hz9 : s.heap.size = G.1 + nz) : Jp p l e (jR 11 203 1 6) s m args below meth c G 2 1 6 (vQ X A S B Z Q L T D (lkL X D c9 u K P gv)) 78 [some (.ref 867), some (.int (nI u))] [] (encX A S t (-1) B Z C9 Q V L T) 0 0 := by
  induction c9 generalizing u K P gv t C9 V with
  | zero =>
    have hv := hp.2.2.2.2.1
    refine E_iload_n (pc := 78) C dX0_readProgram_78 rfl rfl ?_
    refine E_aload_n (pc := 79) C dX0_readProgram_79 rfl rfl ?_
    refine E_get (pc := 80) C dX0_readProgram_80 f_X0_27 rfl rfl ?_
    try dsimp only [tt]
    refine E_icmp_geN (pc := 83) (tgt := 97) C dX0_readProgram_83 (by decide) (by omega) (by omega) (fun h83 => ?_) (fun h83 => ?_)
    · exact E_vret (pc := 97) C dX0_readProgram_97 rfl (vQ.t rfl hg hp) (Nat.zero_le _) (Nat.zero_le _)
    · omega
  | succ c9 ih =>
    have hv := hp.2.2.2.2.1
    have hu9 : u < P.2.2.1 := by omega
    have hu1 := hp.2.2.2.2.2 u hu9
    have hKs := fun e => lkF_K (X := X) (gv := gv) hd.2.2.2.2 hK hu9 hu1.2.2.2.1 hu1.2.2.2.2 e
    refine E_iload_n (pc := 78) C dX0_readProgram_78 rfl rfl ?_
    refine E_aload_n (pc := 79) C dX0_readProgram_79 rfl rfl ?_
    refine E_get (pc := 80) C dX0_readProgram_80 f_X0_27 rfl rfl ?_
    try dsimp only [tt]
    refine E_icmp_geN (pc := 83) (tgt := 97) C dX0_readProgram_83 (by decide) (by omega) (by omega) (fun h83 => ?_) (fun h83 => ?_)
    · omega
    · refine E_aload_n (pc := 86) C dX0_readProgram_86 rfl rfl ?_
      refine E_iload_n (pc := 87) C dX0_readProgram_87 rfl rfl ?_
      refine E_callVp (pc := 88) C hT9 dX0_readProgram_88 m_X0_66 (x_fillWanted l G A S B Z Q L T _ _ _ u hst hx hA8 hg hp hd hb hu9 hV hK) ⟨jle rfl, jle rfl⟩ rfl rfl rfl rfl rfl (jle rfl) ⟨jle rfl, jle rfl⟩ (jle rfl) (jle rfl) (fun E9 M9 h9 => vQ.thr h9 (fun p hp => vB_x hp)) (fun v9 M9 h9 => ?_)
      obtain ⟨e0, ev, t2, C2, V2, hg2, hR2, eM⟩ := vQ.ret h9
      subst ev eM
      have hK2 := hKs e0
      rw [show lkL X D (c9 + 1) u K P gv = _ from vB_n e0]
      refine E_low hz9 hT2 ?_
      try dsimp only [tt]
      refine E_iincN (pc := 91) C dX0_readProgram_91 rfl (by decide) rfl ?_
      dsimp only [List.set]
      refine E_goto (pc := 94) (tgt := 78) C dX0_readProgram_94 (by decide) ?_
      exact ih t2 C2 V2 (u + 1) _ hg2 hR2 (by rw [hK2.2]; omega) (by rw [hK2.2]; exact hV) hK2.1
set_option maxHeartbeats 4000000 in
set_option maxRecDepth 100000 in
theorem l_prog9 (l : Launch) (G : jG) {p : Program} {e : Env} {s : State} {m : MethodId} {args : Array Value} {below : List Frame} {meth : Method} {c : Code} {X : Nat × (Nat → Nat)} {ix : Nat} {K : Nat × Nat × Nat} {D : mD} {P : mP} {gv : Nat → Int64} {nz : Nat} (A : xA) (S : xS) (B : xB) (Z : xZ) (Q : xN) (L : xL) (T : jMem) (C9 : xC) (V : xV) (tn f9 : Nat) (C : jX0 p l (jR 11 203 1 6) s m args meth c G cX0_readProgram 2 RX0 none) (hT9 : ∀ x ∈ c.exceptionTable.toList, False) (hst : l.stackTraces = false) (hT2 : T.2 = some nz) (hx : xcx X A S) (hA8 : ∀ k, A.2.1 k < 256) (hk : xtk X S ix K) (hg : gC C9) (hp : pR X D P C9 V) (hd : dR D B Z D.2.2.1) (hb : nB B.2.2.1 12 ∧ nB B.2.2.2.2 60) (hz9 : s.heap.size = G.1 + nz) (hu : 2 * P.2.2.1 ≤ K.2.1) (hpI : pI X D K.2.1 P) (hK : uK D P 0) (hf9 : X.1 + 1 ≤ K.2.1 + f9) (htn : tn ≤ K.2.1) : Jp p l e (jR 11 203 1 6) s m args below meth c G 2 1 6 (vQ X A S B Z Q L T D (vB (pgL X D f9 K P gv) (fun K P gv => lkL X D P.2.2.1 0 K P gv))) 26 [some (.ref 867), some (.int (nI tn))] [] (encX A S (tt X ix K) (-1) B Z C9 Q V L T) 0 0 := by
  have hX1 := hx.1
  have hX2 := hx.2.1
  have hoc := hx.2.2.1
  have hS := hx.2.2.2.1
  have hok := hx.2.2.2.2
  induction f9 generalizing tn K P gv ix C9 V with
  | zero =>
    exfalso
    have := hk.n.g.1.1
    have := hk.n.g.1.2.1
    omega
  | succ f9 ih =>
    have hn := hk.n
    have hg1 := hn.g.1
    have hg2 := hg1.1
    have hg3 := hg1.2.1
    have hkl := kcl_lt hX2 (K := K)
    have hto := tk_one hn
    refine E_iload_n (pc := 26) C dX0_readProgram_26 rfl rfl ?_
    refine E_sipush (pc := 27) (v := nI 4000) C dX0_readProgram_27 (by decide) ?_
    refine E_icmp_geN (pc := 30) (tgt := 76) C dX0_readProgram_30 (by decide) (by omega) (by omega) (fun h30 => ?_) (fun h30 => ?_)
    · have h0 : K.1 = 0 := by first | exact (kcl_0 hn hok).mp h43 | (refine Classical.byContradiction (fun z => ?_); have := hto.2.2.2.2.2.2 z; omega)
      rw [show pgL X D (f9 + 1) K P gv = (none, K, P, gv) from if_pos h0, vB_n (r := (none, K, P, gv)) rfl]
      refine E_iconst (pc := 76) (v := nI 0) C dX0_readProgram_76 (by decide) ?_
      refine E_istore_n (pc := 77) C dX0_readProgram_77 rfl (by decide) rfl ?_
      dsimp only [List.set]
      exact l_fill9 l G A S B Z Q L T _ C9 V 0 _ _ C hT9 hst hT2 hx hA8 hg hp hd hb (by omega) (by omega) hK hz9
    · refine E_aload_n (pc := 33) C dX0_readProgram_33 rfl rfl ?_
      refine E_get (pc := 34) C dX0_readProgram_34 f_X0_31 rfl rfl ?_
      refine E_get (pc := 37) C dX0_readProgram_37 f_X0_55 rfl rfl ?_
      try dsimp only [tt]
      refine E_sipush (pc := 40) (v := nI 128) C dX0_readProgram_40 (by decide) ?_
      refine E_icmp_eqN (pc := 43) (tgt := 76) C dX0_readProgram_43 (by decide) (by omega) (by omega) (fun h43 => ?_) (fun h43 => ?_)
      · have h0 : K.1 = 0 := by first | exact (kcl_0 hn hok).mp h43 | (refine Classical.byContradiction (fun z => ?_); have := hto.2.2.2.2.2.2 z; omega)
        rw [show pgL X D (f9 + 1) K P gv = (none, K, P, gv) from if_pos h0, vB_n (r := (none, K, P, gv)) rfl]
        refine E_iconst (pc := 76) (v := nI 0) C dX0_readProgram_76 (by decide) ?_
        refine E_istore_n (pc := 77) C dX0_readProgram_77 rfl (by decide) rfl ?_
        dsimp only [List.set]
        exact l_fill9 l G A S B Z Q L T _ C9 V 0 _ _ C hT9 hst hT2 hx hA8 hg hp hd hb (by omega) (by omega) hK hz9
      · have h0 : K.1 ≠ 0 := fun z => h43 ((kcl_0 hn hok).mpr z)
        have hlx := hto.2.2.2.2.2.2 h0
        refine E_aload_n (pc := 46) C dX0_readProgram_46 rfl rfl ?_
        refine E_get (pc := 47) C dX0_readProgram_47 f_X0_31 rfl rfl ?_
        refine E_get (pc := 50) C dX0_readProgram_50 f_X0_55 rfl rfl ?_
        try dsimp only [tt]
        refine E_sipush (pc := 53) (v := nI 135) C dX0_readProgram_53 (by decide) ?_
        refine E_icmp_neN (pc := 56) (tgt := 66) C dX0_readProgram_56 (by decide) (by omega) (by omega) (fun h56 => ?_) (fun h56 => ?_)
        · have hw3 : ¬ (K.1 = 1 ∧ isW X K [119, 111, 114, 100] = true) := fun z => h56 ((kcl_w hn hok (by decide) (by decide)).mpr ⟨z.1, kw_135.mpr z.2⟩)
          have r1 : pgL X D (f9 + 1) K P gv = vB (pnF X D K P gv) (pgL X D f9) := by rw [pgL_st h0, if_neg hw3]
          have hI := pnF_I (gv := gv) hX2 hn h0 hpI hK hu
          refine E_aload_n (pc := 66) C dX0_readProgram_66 rfl rfl ?_
          refine E_callVp (pc := 67) C hT9 dX0_readProgram_67 m_X0_63 (x_readNamed l G A S B Z Q L T _ _ hst hT2 hx hA8 hk hg hp hd hb hu hpI) ⟨jle rfl, jle rfl⟩ rfl rfl rfl rfl rfl (jle rfl) ⟨jle rfl, jle rfl⟩ (jle rfl) (jle rfl) (fun E9 M9 h9 => vP.q h9 (fun p hp => by rw [r1]; exact vB_x (vB_x hp))) (fun v9 M9 h9 => ?_)
          obtain ⟨e0, ev, ix2, C2, V2, hk2, hg2, hR2, eM⟩ := vP.ret h9
          subst ev eM
          have r2 := r1.trans (vB_n e0)
          rw [r2]
          have hI2 := hI e0
          have hle := hk2.n.g.1.1
          have hle2 := hk2.n.g.1.2.1
          refine E_low hz9 hT2 ?_
          try dsimp only [tt]
          refine E_iincN (pc := 70) C dX0_readProgram_70 rfl (by decide) rfl ?_
          dsimp only [List.set]
          refine E_goto (pc := 73) (tgt := 26) C dX0_readProgram_73 (by decide) ?_
          exact ih C2 V2 (tn + 1) hk2 hg2 hR2 hI2.2.2.2.2 hI2.2.1 hI2.2.2.2.1 (by have := hI2.2.2.1; omega) (by have := hI2.2.2.1; omega)
        · have hw := (kcl_w hn hok (by decide) (by decide)).mp h56
          have r1 : pgL X D (f9 + 1) K P gv = vB (ppF X D K P gv) (pgL X D f9) := by rw [pgL_st h0, if_pos ⟨hw.1, kw_135.mp hw.2⟩]
          have hI := ppF_I (gv := gv) hn h0 hpI hK hu
          refine E_aload_n (pc := 59) C dX0_readProgram_59 rfl rfl ?_
          refine E_callVp (pc := 60) C hT9 dX0_readProgram_60 m_X0_60 (x_readPlainWord l G A S B Z Q L T _ _ hst hT2 hx hA8 hk hg hp hd hb) ⟨jle rfl, jle rfl⟩ rfl rfl rfl rfl rfl (jle rfl) ⟨jle rfl, jle rfl⟩ (jle rfl) (jle rfl) (fun E9 M9 h9 => vP.q h9 (fun p hp => by rw [r1]; exact vB_x (vB_x hp))) (fun v9 M9 h9 => ?_)
          obtain ⟨e0, ev, ix2, C2, V2, hk2, hg2, hR2, eM⟩ := vP.ret h9
          subst ev eM
          have r2 := r1.trans (vB_n e0)
          rw [r2]
          have hI2 := hI e0
          have hle := hk2.n.g.1.1
          have hle2 := hk2.n.g.1.2.1
          refine E_low hz9 hT2 ?_
          try dsimp only [tt]
          refine E_goto (pc := 63) (tgt := 70) C dX0_readProgram_63 (by decide) ?_
          refine E_iincN (pc := 70) C dX0_readProgram_70 rfl (by decide) rfl ?_
          dsimp only [List.set]
          refine E_goto (pc := 73) (tgt := 26) C dX0_readProgram_73 (by decide) ?_
          exact ih C2 V2 (tn + 1) hk2 hg2 hR2 hI2.2.2.2.2 hI2.2.1 hI2.2.2.2.1 (by have := hI2.2.2.1; omega) (by have := hI2.2.2.1; omega)
set_option maxHeartbeats 4000000 in
set_option maxRecDepth 100000 in
theorem x_readProgram (l : Launch) (G : jG) {X : Nat × (Nat → Nat)} {ix : Nat} {K : Nat × Nat × Nat} {D : mD} {P : mP} {gv : Nat → Int64} {nz : Nat} (A : xA) (S : xS) (B : xB) (Z : xZ) (Q : xN) (L : xL) (T : jMem) (C9 : xC) (V : xV) (hst : l.stackTraces = false) (hT2 : T.2 = some nz) (hx : xcx X A S) (hA8 : ∀ k, A.2.1 k < 256) (hk : xtk X S ix K) (hg : gC C9) (hd : dR D B Z D.2.2.1) (hb : nB B.2.2.1 12 ∧ nB B.2.2.2.2 60) (h0 : P.1 = 0 ∧ P.2.1 = 0 ∧ P.2.2.1 = 0) (hpI : pI X D K.2.1 P) : jCp l G yX0_readProgram cX0_readProgram 2 none 11 203 1 6 [.ref 867] (encX A S (tt X ix K) (-1) B Z C9 Q V L T) (vQ X A S B Z Q L T D (vB (pgL X D (X.1 + 1) K P gv) (fun K P gv => lkL X D P.2.2.1 0 K P gv))) := by
  refine jCp.of (by decide) 1 rfl [some (.ref 867), none] rfl (fun p e s m args below meth c C hT9 hz9 => ?_)
  have hz9 := hz9 _ hT2
  have hg0 : gC (0, C9.2.1, C9.2.2.1, (0, C9.2.2.2.1.2.1, C9.2.2.2.1.2.2), C9.2.2.2.2) := ⟨nB_0 hg.1, hg.2⟩
  have hp : pR X D P (0, C9.2.1, C9.2.2.1, (0, C9.2.2.2.1.2.1, C9.2.2.2.1.2.2), C9.2.2.2.2) (0, V.2.1, V.2.2.1, V.2.2.2.1, V.2.2.2.2.1, V.2.2.2.2.2) := ⟨⟨h0.1.symm, by omega⟩, ⟨h0.2.1.symm, fun i hi => by omega⟩, fun j hj => by omega, fun w hw => by omega, h0.2.2.symm, fun u hu => by omega⟩
  have hK : uK D P 0 := ⟨fun u _ hu => by omega, fun u v _ hv => by omega⟩
  refine E_aload_n (pc := 0) C dX0_readProgram_0 rfl rfl ?_
  refine E_get (pc := 1) C dX0_readProgram_1 f_X0_39 rfl rfl ?_
  refine E_iconst (pc := 4) (v := nI 0) C dX0_readProgram_4 (by decide) ?_
  refine E_putU (pc := 5) C dX0_readProgram_5 p_X0_43 rfl (jlt rfl) rfl rfl (uX_psize _) ?_
  try dsimp only [tt]
  refine E_aload_n (pc := 8) C dX0_readProgram_8 rfl rfl ?_
  refine E_get (pc := 9) C dX0_readProgram_9 f_X0_39 rfl rfl ?_
  refine E_get (pc := 12) C dX0_readProgram_12 f_X0_48 rfl rfl ?_
  refine E_iconst (pc := 15) (v := nI 0) C dX0_readProgram_15 (by decide) ?_
  refine E_putU (pc := 16) C dX0_readProgram_16 p_X0_52 rfl (jlt rfl) rfl rfl (uX_lnsize _) ?_
  try dsimp only [tt]
  refine E_aload_n (pc := 19) C dX0_readProgram_19 rfl rfl ?_
  refine E_iconst (pc := 20) (v := nI 0) C dX0_readProgram_20 (by decide) ?_
  refine E_putU (pc := 21) C dX0_readProgram_21 p_X0_27 rfl (jlt rfl) rfl rfl (uX_wanted _) ?_
  try dsimp only [tt]
  refine E_iconst (pc := 24) (v := nI 0) C dX0_readProgram_24 (by decide) ?_
  refine E_istore_n (pc := 25) C dX0_readProgram_25 rfl (by decide) rfl ?_
  dsimp only [List.set]
  exact l_prog9 l G A S B Z Q L T _ _ 0 (X.1 + 1) C hT9 hst hT2 hx hA8 hk hg0 hp hd hb hz9 (by omega) hpI hK (by omega) (Nat.zero_le _)
