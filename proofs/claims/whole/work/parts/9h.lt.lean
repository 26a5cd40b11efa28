set_option maxHeartbeats 4000000 in
theorem st_describe {l : Launch} {G : jG} {er : Nat} {f : Nat → Int64} {nz : Nat} {M : jMem} (hst : l.stackTraces = false) (hE : lE er f (some nz) M) (v0 : Int32) : ∃ c1 s1, c1 ≤ 1 ∧ s1 ≤ 6 ∧ jCw l G yL_describe cL_describe 4 (some .int) [(0, 9, 12, 13), (0, 9, 15, 19)] 13 273 c1 s1 [.ref 0, .int v0, .ref 1021] M (stI l G yX11_describe cX11_describe 2 12 255 [.ref 1000, .int v0]) := by
  obtain ⟨A, S, t, wr, B, Z, P, Q, V, L, F, X, K, D, Pm, gv, O, ⟨hA, hB, hP9, hL⟩, rfl⟩ := hE
  have hA0 := hA
  have hB0 := hB
  have hP0 := hP9
  have hL0 := hL
  obtain ⟨a1, a2, a3, a4, a5⟩ := hA
  obtain ⟨b1, b2, b3, b4, b5, b6, b7⟩ := hB
  obtain ⟨c1, c2, c3, c4, c5, c6⟩ := hP9
  obtain ⟨d1, d2, d3, d4⟩ := hL
  rcases i_idxle (v := v0) (n := A.1) (by omega) with h | ⟨n, hn, rfl⟩
  ·
    refine ⟨1, 6, by omega, by omega, jCw.mono (fun o ho => ?_) (h_describe (fr := 12) (lo := 231) v0 (x_describe_x l G A S t wr B Z P Q V L _ v0 hst h) rfl (by rintro v M' h; cases h) (by rintro E M' h; cases h; simp))⟩
    have ho := hP_ex (k := 1) (by intro k9 h9; simp (decide := true) at h9; exact h9) ho
    rw [l_no, l_comm] at ho
    refine ⟨1, _, _, _, _, _, ho, by omega, by rw [← l_comm]; exact l_1000, c_describe_x l G _ F X K wr D Pm gv O _ v0 (by rw [← a1]; exact h), ⟨_, _, _, _, _, _, _, _, _, _, _, _, _, _, _, _, _, ?_, l_comm.symm⟩, fun h => absurd h (by decide)⟩
    exact ⟨hA0, hB0, hP0, hL0⟩
  · have hX2 := cpF_lt9 (n := n) a4 a5
    have Kc := x_describe l G (X := (n, cpF F.2 X.2 n)) (D := d0 D) (nz := nz) A S t wr B Z P Q V L (encM er F X K wr D Pm gv O (T0 f (some nz))) hst rfl (by show n ≤ 4000; omega) hX2 (fun k hk => by show A.2.1 k = cpF F.2 X.2 n k; rw [a2]; exact (if_pos hk).symm) (fun k => by rw [a2]; exact a4 k) hn (by omega) ⟨b4, b5, b6⟩ ⟨rfl, rfl⟩ (dG_0 b7)
    have hG := dsR_G (X := (n, cpF F.2 X.2 n)) hX2 (dG_0 b7)
    have K2 := fun T => c_describe l G er F X K wr D Pm gv O T n (by omega) (by omega) a3 a4 a5 b7
    obtain ⟨r, hr⟩ : ∃ r, r = dsR (n, cpF F.2 X.2 n) (d0 D) := ⟨_, rfl⟩
    rw [← hr] at Kc hG K2
    refine ⟨1, 6, by omega, by omega, jCw.mono (fun o ho => ?_) (h_describe (fr := 12) (lo := 231) (nI n) Kc rfl ?_ ?_)⟩
    · rcases ho with ⟨v, x, M', f', hΨ, hv, hM, ho⟩ | ⟨E, M', k, hk, hΨ, ho⟩
      · rcases hΨ with ⟨hn9, S', t', B', Z', Q', hdR, hg, hs, he⟩ | ⟨p, S', t', B', Z', Q', -, -, he⟩
        · cases he
          cases hv
          have ef := lA_inj (Option.some.inj (hM.symm.trans l_1021))
          subst ef
          rw [l_ju, l_comm] at ho
          have K3 := K2 (encX (0, A.2) S' t' (-1) B' Z' (P.1, 0, P.2.2.1, P.2.2.2.1, P.2.2.2.2) Q' V L (T0 (va_up f' 0 (nI r.2.2.2.2.1).toInt64) (some nz)))
          rw [if_pos hn9, if_pos hn9, dsE_n hn9, hn9] at K3
          refine ⟨0, _, _, _, _, _, ho, by omega, by rw [← l_comm]; exact l_1000, K3, ⟨_, _, _, _, _, _, _, _, _, _, _, _, _, _, _, _, _, ?_, l_comm.symm⟩, fun _ => va_up_self _ _ _⟩
          exact ⟨⟨rfl, a2, Nat.zero_le _, a4, hX2⟩, ⟨hs, by omega, fun _ => hdR, hg.1, hg.2.1, hg.2.2.1, hG.2.1⟩, ⟨Nat.zero_le _, c2, fun h => absurd (show 0 = 1 from h) (by decide), fun _ => ⟨rfl, rfl⟩, Nat.zero_le _, c6⟩, hL0⟩
        · cases he
      · rcases hΨ with ⟨-, S', t', B', Z', Q', -, -, -, he⟩ | ⟨p, S', t', B', Z', Q', hp, hg, he⟩
        · cases he
        · cases he
          have hk2 : k = 2 := by simpa (decide := true) using hk
          subst hk2
          rw [l_no, l_comm] at ho
          have hne : r.1 ≠ none := by rw [hp]; exact fun h => nomatch h
          have K3 := K2 (encX (0, A.2) S' t' (nI p) B' Z' (P.1, 0, P.2.2.1, P.2.2.2.1, P.2.2.2.2) Q' V L (T0 f none))
          rw [if_neg hne, if_neg hne, dsE_s hne, hp] at K3
          refine ⟨2, _, _, _, _, _, ho, by omega, by rw [← l_comm]; exact l_1000, K3, ⟨_, _, _, _, _, _, _, _, _, _, _, _, _, _, _, _, _, ?_, l_comm.symm⟩, fun h => absurd h (by decide)⟩
          have hb0 := hg.2.2.2
          exact ⟨⟨rfl, a2, Nat.zero_le _, a4, hX2⟩, ⟨hb0.trans hG.2.2.1.symm, by omega, fun h => absurd h (by omega), hg.1, hg.2.1, hg.2.2.1, ⟨⟨Nat.zero_le _, Nat.zero_le _, hG.2.1.1.2.2⟩, Nat.zero_le _, fun s hs => absurd hs (Nat.not_lt_zero s)⟩⟩, ⟨Nat.zero_le _, c2, fun h => absurd (show 0 = 1 from h) (by decide), fun _ => ⟨rfl, rfl⟩, Nat.zero_le _, c6⟩, hL0⟩
    · rintro v M' (⟨-, S', t', B', Z', Q', -, -, -, h⟩ | ⟨p, S', t', B', Z', Q', -, -, h⟩)
      · cases h; exact ⟨_, _, rfl, l_1021⟩
      · cases h
    · rintro E M' (⟨-, S', t', B', Z', Q', -, -, -, h⟩ | ⟨p, S', t', B', Z', Q', -, -, h⟩)
      · cases h
      · cases h; exact Or.inr rfl
set_option maxHeartbeats 4000000 in
theorem st_assemble {l : Launch} {G : jG} {er : Nat} {f : Nat → Int64} {nz : Nat} {M : jMem} (hst : l.stackTraces = false) (hE : lE er f (some nz) M) (v0 : Int32) : ∃ c1 s1, c1 ≤ 1 ∧ s1 ≤ 6 ∧ jCw l G yL_assemble cL_assemble 4 (some .int) [(0, 9, 12, 13), (0, 9, 15, 24), (0, 9, 18, 19)] 13 273 c1 s1 [.ref 0, .int v0, .ref 1021] M (stI l G yX11_assemble cX11_assemble 3 11 235 [.ref 1000, .int v0]) := by
  obtain ⟨A, S, t, wr, B, Z, P, Q, V, L, F, X, K, D, Pm, gv, O, ⟨hA, hB, hP9, hL⟩, rfl⟩ := hE
  have hA0 := hA
  have hB0 := hB
  have hP0 := hP9
  have hL0 := hL
  obtain ⟨a1, a2, a3, a4, a5⟩ := hA
  obtain ⟨b1, b2, b3, b4, b5, b6, b7⟩ := hB
  obtain ⟨c1, c2, c3, c4, c5, c6⟩ := hP9
  obtain ⟨d1, d2, d3, d4⟩ := hL
  rcases i_idxle (v := v0) (n := A.1) (by omega) with h | ⟨n, hn, rfl⟩
  ·
    refine ⟨1, 6, by omega, by omega, jCw.mono (fun o ho => ?_) (h_assemble (fr := 12) (lo := 231) v0 (x_assemble_x l G A S t wr B Z P Q V L _ v0 hst h) rfl (by rintro v M' h; cases h) (by rintro E M' h; cases h; simp))⟩
    have ho := hP_ex (k := 1) (by intro k9 h9; simp (decide := true) at h9; exact h9) ho
    rw [l_no, l_comm] at ho
    refine ⟨1, _, _, _, _, _, ho, by omega, by rw [← l_comm]; exact l_1000, c_assemble_x l G _ F X K wr D Pm gv O _ v0 (by rw [← a1]; exact h), ⟨_, _, _, _, _, _, _, _, _, _, _, _, _, _, _, _, _, ?_, l_comm.symm⟩, fun h => absurd h (by decide)⟩
    exact ⟨hA0, hB0, hP0, hL0⟩
  · by_cases hs0 : B.2.1 = 0
    ·
      refine ⟨1, 6, by omega, by omega, jCw.mono (fun o ho => ?_) (h_assemble (fr := 12) (lo := 231) (nI n) (x_assemble_n l G A S t wr B Z P Q V L _ n hst hn (by omega) hs0) rfl (by rintro v M' h; cases h) (by rintro E M' h; cases h; simp))⟩
      have ho := hP_ex (k := 2) (by intro k9 h9; simp (decide := true) at h9; exact h9) ho
      rw [l_no, l_comm] at ho
      refine ⟨2, _, _, _, _, _, ho, by omega, by rw [← l_comm]; exact l_1000, c_assemble_n l G _ F X K wr D Pm gv O _ n (by omega) a3 (by omega), ⟨_, _, _, _, _, _, _, _, _, _, _, _, _, _, _, _, _, ?_, l_comm.symm⟩, fun h => absurd h (by decide)⟩
      exact ⟨hA0, hB0, hP0, hL0⟩
    · have hs1 : B.2.1 = 1 := by omega
      have hd := b3 hs1
      have hdA := hd.dA b4 b7
      have hX2 := cpF_lt9 (n := n) a4 a5
      have Kc := x_assemble l G (X := (n, cpF F.2 X.2 n)) (D := D) (Pm := (0, 0, 0, Pm.2.2.2)) (gv := gv) (nz := nz) A S t wr B Z P Q V L (encM er F X K wr D Pm gv O (T0 f (some nz))) hst rfl (by show n ≤ 4000; omega) hX2 (fun k hk => by show A.2.1 k = cpF F.2 X.2 n k; rw [a2]; exact (if_pos hk).symm) (fun k => by rw [a2]; exact a4 k) hn (by omega) hd ⟨b4, b5⟩ hs1 c2 ⟨rfl, rfl, rfl⟩ c6
      have hI := (asR_G (X := (n, cpF F.2 X.2 n)) hX2 (D := D) (P := (0, 0, 0, Pm.2.2.2)) (gv := gv) ⟨Nat.zero_le _, Nat.zero_le _, Nat.le_refl _, c6, fun j h => absurd h (Nat.not_lt_zero j), fun u h => absurd h (Nat.not_lt_zero u)⟩).1
      have K2 := fun T => c_assemble l G er F X K wr D Pm gv O T n (by omega) (by omega) a3 a4 a5 hdA (by omega) c6
      obtain ⟨r, hr⟩ : ∃ r, r = asR (n, cpF F.2 X.2 n) D (0, 0, 0, Pm.2.2.2) gv := ⟨_, rfl⟩
      rw [← hr] at Kc hI K2
      refine ⟨1, 6, by omega, by omega, jCw.mono (fun o ho => ?_) (h_assemble (fr := 12) (lo := 231) (nI n) Kc rfl ?_ ?_)⟩
      · rcases ho with ⟨v, x, M', f', hΨ, hv, hM, ho⟩ | ⟨E, M', k, hk, hΨ, ho⟩
        · rcases hΨ with ⟨hn9, S', t', C', V', hg, hC, hp, he⟩ | ⟨p, S', t', C', V', -, -, he⟩
          · cases he
            cases hv
            have ef := lA_inj (Option.some.inj (hM.symm.trans l_1021))
            subst ef
            rw [l_ju, l_comm] at ho
            have K3 := K2 (encX (0, A.2) S' t' (-1) B Z C' Q V' L (T0 (va_up f' 0 (nI r.2.2.1.1).toInt64) (some nz)))
            rw [if_pos hn9, if_pos hn9, show asE r = r.2.2.1 from if_pos hn9, hn9] at K3
            refine ⟨0, _, _, _, _, _, ho, by omega, by rw [← l_comm]; exact l_1000, K3, ⟨_, _, _, _, _, _, _, _, _, _, _, _, _, _, _, _, _, ?_, l_comm.symm⟩, fun _ => va_up_self _ _ _⟩
            exact ⟨⟨rfl, a2, Nat.zero_le _, a4, hX2⟩, hB0, ⟨by omega, hg.1, fun _ => ⟨hp.1.1, hp.2.1.1, hp.2.2.2.1⟩, fun h => absurd h (by omega), hp.1.2, hI.2.2.2.1⟩, hL0⟩
          · cases he
        · rcases hΨ with ⟨-, S', t', C', V', -, -, -, he⟩ | ⟨p, S', t', C', V', hp, hg, he⟩
          · cases he
          · cases he
            have hk2 : k = 3 := by simpa (decide := true) using hk
            subst hk2
            rw [l_no, l_comm] at ho
            have hne : r.1 ≠ none := by rw [hp]; exact fun h => nomatch h
            have K3 := K2 (encX (0, A.2) S' t' (nI p) B Z C' Q V' L (T0 f none))
            rw [if_neg hne, if_neg hne, show asE r = (0, 0, r.2.2.1.2.2) from if_neg hne, hp] at K3
            refine ⟨3, _, _, _, _, _, ho, by omega, by rw [← l_comm]; exact l_1000, K3, ⟨_, _, _, _, _, _, _, _, _, _, _, _, _, _, _, _, _, ?_, l_comm.symm⟩, fun h => absurd h (by decide)⟩
            have hb0 := hg.2
            exact ⟨⟨rfl, a2, Nat.zero_le _, a4, hX2⟩, hB0, ⟨by omega, hg.1, fun h => absurd h (by omega), fun _ => ⟨rfl, rfl⟩, Nat.zero_le _, hI.2.2.2.1⟩, hL0⟩
      · rintro v M' (⟨-, S', t', C', V', -, -, -, h⟩ | ⟨p, S', t', C', V', -, -, h⟩)
        · cases h; exact ⟨_, _, rfl, l_1021⟩
        · cases h
      · rintro E M' (⟨-, S', t', C', V', -, -, -, h⟩ | ⟨p, S', t', C', V', -, -, h⟩)
        · cases h
        · cases h; exact Or.inr (Or.inr rfl)
theorem lE_0 (f : Nat → Int64) (n : Option Nat) : lE 0 f n (e0 (m0 (T0 f n))) := by
  refine ⟨_, _, _, _, _, _, _, _, _, _, _, _, _, _, _, _, _, ?_, rfl⟩
  have hn : ∀ ml, ml ≤ 60 → nB (0, (fun _ => 0), (fun _ => 0)) ml := fun ml h => ⟨⟨Nat.zero_le _, h⟩, fun _ => jlt rfl, fun _ => jle rfl⟩
  refine ⟨⟨rfl, rfl, Nat.zero_le _, fun _ => jlt rfl, fun _ => jlt rfl⟩, ⟨rfl, Nat.zero_le _, fun h => absurd (show 0 = 1 from h) (by decide), hn 12 (by omega), hn 60 (by omega), hn 6 (by omega), ?_⟩, ⟨Nat.zero_le _, hn 60 (by omega), fun h => absurd (show 0 = 1 from h) (by decide), fun _ => ⟨rfl, rfl⟩, Nat.zero_le _, fun _ => jlt rfl⟩, ⟨rfl, Nat.zero_le _, fun q h => absurd h (Nat.not_lt_zero q), fun _ => jlt rfl⟩⟩
  exact ⟨⟨Nat.zero_le _, Nat.zero_le _, fun _ => jlt rfl, fun _ => jlt rfl, fun _ => jlt rfl⟩, Nat.zero_le _, fun s hs => absurd hs (Nat.not_lt_zero s)⟩
