/-! LAW: a call of each kind -/
def stI (l : Launch) (G : jG) (y2 : MethodName) (cc2 : ByteArray) (ml2 fr2 lo2 : Nat) (As2 : List Value) (o : jO) : Prop := ∃ (k : Nat) (M1 M2 : jMem) (b : Int32) (f : Nat → Int64) (n : Option Nat), o = .inl (some (.int (nI k)), M1) ∧ k < 4 ∧ (∃ fs, M1.1 1000 = some (.inr (11, fs))) ∧ jC l G y2 cc2 ml2 (some .int) fr2 lo2 0 0 As2 M1 (.inl (some (.int b), M2)) ∧ lE k f n M2 ∧ (k = 0 → f 0 = b.toInt64)
def stJ (l : Launch) (G : jG) (y2 : MethodName) (cc2 : ByteArray) (ml2 fr2 lo2 : Nat) (As2 : List Value) (o : jO) : Prop := ∃ (k : Nat) (M1 M2 : jMem) (b : Int64) (f : Nat → Int64) (n : Option Nat), o = .inl (some (.int (nI k)), M1) ∧ k < 4 ∧ (∃ fs, M1.1 1000 = some (.inr (11, fs))) ∧ jC l G y2 cc2 ml2 (some .long) fr2 lo2 0 0 As2 M1 (.inl (some (.long b), M2)) ∧ lE k f n M2 ∧ (k = 0 → f 0 = b)
set_option maxHeartbeats 4000000 in
theorem st_feed {l : Launch} {G : jG} {er : Nat} {f : Nat → Int64} {nz : Nat} {M : jMem} (hst : l.stackTraces = false) (hE : lE er f (some nz) M) (v0 : Int32) (v1 : Int32) (v2 : Int32) (v3 : Int32) (v4 : Int32) : ∃ c1 s1, c1 ≤ 1 ∧ s1 ≤ 6 ∧ jCw l G yL_feed cL_feed 8 (some .int) [(0, 16, 19, 13)] 7 128 c1 s1 [.ref 0, .int v0, .int v1, .int v2, .int v3, .int v4, .ref 1021] M (stI l G yX11_feed cX11_feed 8 2 34 [.ref 1000, .int v0, .int v1, .int v2, .int v3, .int v4]) := by
  obtain ⟨A, S, t, wr, B, Z, P, Q, V, L, F, X, K, D, Pm, gv, O, ⟨hA, hB, hP9, hL⟩, rfl⟩ := hE
  have hA0 := hA
  have hB0 := hB
  have hP0 := hP9
  have hL0 := hL
  obtain ⟨a1, a2, a3, a4, a5⟩ := hA
  obtain ⟨b1, b2, b3, b4, b5, b6, b7⟩ := hB
  obtain ⟨c1, c2, c3, c4, c5, c6⟩ := hP9
  obtain ⟨d1, d2, d3, d4⟩ := hL
  by_cases hf : A.1 + 20 ≤ 4000
  ·
    refine ⟨0, 0, by omega, by omega, jCw.mono (fun o ho => ?_) (h_feed (fr := 6) (lo := 82) v0 v1 v2 v3 v4 (x_feed l G A S t wr B Z P Q V L _ v0 v1 v2 v3 v4 hf).p rfl (by rintro v M' h; cases h; exact ⟨_, _, rfl, l_1021⟩) (by rintro E M' h; cases h))⟩
    have ho := hP_ok rfl l_1021 ho
    rw [l_ju, l_comm] at ho
    refine ⟨0, _, _, _, _, _, ho, by omega, by rw [← l_comm]; exact l_1000, c_feed l G _ F X K wr D Pm gv O _ v0 v1 v2 v3 v4 (by omega), ⟨_, _, _, _, _, _, _, _, _, _, _, _, _, _, _, _, _, ?_, l_comm.symm⟩, fun _ => by rw [va_up_self, a1]⟩
    exact ⟨⟨by show A.1 + 20 = F.1 + 20; omega, by show fdF A.2.1 A.1 v0 v1 v2 v3 v4 20 = fdF F.2 F.1 v0 v1 v2 v3 v4 20; rw [a1, a2], by show F.1 + 20 ≤ 4000; omega, fun k => fdF_lt a4 20 k, a5⟩, hB0, hP0, hL0⟩
  ·
    refine ⟨1, 6, by omega, by omega, jCw.mono (fun o ho => ?_) (h_feed (fr := 6) (lo := 82) v0 v1 v2 v3 v4 (x_feed_x l G A S t wr B Z P Q V L _ v0 v1 v2 v3 v4 hst (by omega) (by omega)) rfl (by rintro v M' h; cases h) (by rintro E M' h; cases h; simp))⟩
    have ho := hP_ex (k := 1) (by intro k9 h9; simp (decide := true) at h9; exact h9) ho
    rw [l_no, l_comm] at ho
    refine ⟨1, _, _, _, _, _, ho, by omega, by rw [← l_comm]; exact l_1000, c_feed_x l G _ F X K wr D Pm gv O _ v0 v1 v2 v3 v4 (by omega) a3, ⟨_, _, _, _, _, _, _, _, _, _, _, _, _, _, _, _, _, ?_, l_comm.symm⟩, fun h => absurd h (by decide)⟩
    exact ⟨hA0, hB0, hP0, hL0⟩
set_option maxHeartbeats 4000000 in
theorem st_word {l : Launch} {G : jG} {er : Nat} {f : Nat → Int64} {nz : Nat} {M : jMem} (hst : l.stackTraces = false) (hE : lE er f (some nz) M) (v0 : Int32) : ∃ c1 s1, c1 ≤ 1 ∧ s1 ≤ 6 ∧ jCw l G yL_word cL_word 4 (some .int) [(0, 9, 12, 13)] 7 124 c1 s1 [.ref 0, .int v0, .ref 1021] M (stI l G yX11_word cX11_word 2 2 37 [.ref 1000, .int v0]) := by
  obtain ⟨A, S, t, wr, B, Z, P, Q, V, L, F, X, K, D, Pm, gv, O, ⟨hA, hB, hP9, hL⟩, rfl⟩ := hE
  have hA0 := hA
  have hB0 := hB
  have hP0 := hP9
  have hL0 := hL
  obtain ⟨a1, a2, a3, a4, a5⟩ := hA
  obtain ⟨b1, b2, b3, b4, b5, b6, b7⟩ := hB
  obtain ⟨c1, c2, c3, c4, c5, c6⟩ := hP9
  obtain ⟨d1, d2, d3, d4⟩ := hL
  have hx : (P.2.1 = 0 ∨ v0 < 0 ∨ nI P.1 ≤ v0) ∧ (v0 < 0 ∨ nI Pm.1 ≤ v0) ∨ ∃ k, v0 = nI k ∧ P.2.1 = 1 ∧ k < Pm.1 ∧ P.1 = Pm.1 := by
    by_cases hp : P.2.1 = 0
    · have h0 := (c4 hp).1
      refine Or.inl ⟨Or.inl hp, ?_⟩
      rcases i_idx (v := v0) (n := Pm.1) (by omega) with h | ⟨k, hk, -⟩
      · exact h
      · omega
    · have hp1 : P.2.1 = 1 := by omega
      obtain ⟨e1, -, -⟩ := c3 hp1
      rcases i_idx (v := v0) (n := Pm.1) (by omega) with h | ⟨k, hk, e⟩
      · exact Or.inl ⟨Or.inr (by rw [e1]; exact h), h⟩
      · exact Or.inr ⟨k, e, hp1, hk, e1⟩
  rcases hx with ⟨h1, h2⟩ | ⟨k, rfl, hp1, hk, e1⟩
  ·
    refine ⟨1, 6, by omega, by omega, jCw.mono (fun o ho => ?_) (h_word (fr := 6) (lo := 82) v0 (x_word_x l G A S t wr B Z P Q V L _ v0 hst h1 c1) rfl (by rintro v M' h; cases h) (by rintro E M' h; cases h; simp))⟩
    have ho := hP_ex (k := 1) (by intro k9 h9; simp (decide := true) at h9; exact h9) ho
    rw [l_no, l_comm] at ho
    refine ⟨1, _, _, _, _, _, ho, by omega, by rw [← l_comm]; exact l_1000, c_word_x l G _ F X K wr D Pm gv O _ v0 h2 c5, ⟨_, _, _, _, _, _, _, _, _, _, _, _, _, _, _, _, _, ?_, l_comm.symm⟩, fun h => absurd h (by decide)⟩
    exact ⟨hA0, hB0, hP0, hL0⟩
  ·
    refine ⟨0, 0, by omega, by omega, jCw.mono (fun o ho => ?_) (h_word (fr := 6) (lo := 82) (nI k) (x_word l G A S t wr B Z P Q V L _ k hp1 (by omega) (by omega)).p rfl (by rintro v M' h; cases h; exact ⟨_, _, rfl, l_1021⟩) (by rintro E M' h; cases h))⟩
    have ho := hP_ok rfl l_1021 ho
    rw [l_ju, l_comm] at ho
    refine ⟨0, _, _, _, _, _, ho, by omega, by rw [← l_comm]; exact l_1000, c_word l G _ F X K wr D Pm gv O _ k hk c5, ⟨_, _, _, _, _, _, _, _, _, _, _, _, _, _, _, _, _, ?_, l_comm.symm⟩, fun _ => by rw [va_up_self, (c3 hp1).2.2 k hk]⟩
    exact ⟨hA0, hB0, hP0, hL0⟩
set_option maxHeartbeats 4000000 in
theorem st_op {l : Launch} {G : jG} {er : Nat} {f : Nat → Int64} {nz : Nat} {M : jMem} (hst : l.stackTraces = false) (hE : lE er f (some nz) M) (v0 : Int32) : ∃ c1 s1, c1 ≤ 1 ∧ s1 ≤ 6 ∧ jCw l G yL_op cL_op 4 (some .int) [(0, 9, 12, 24)] 8 144 c1 s1 [.ref 0, .int v0, .ref 1021] M (stI l G yX11_op_ cX11_op_ 2 2 36 [.ref 1000, .int v0]) := by
  obtain ⟨A, S, t, wr, B, Z, P, Q, V, L, F, X, K, D, Pm, gv, O, ⟨hA, hB, hP9, hL⟩, rfl⟩ := hE
  have hA0 := hA
  have hB0 := hB
  have hP0 := hP9
  have hL0 := hL
  obtain ⟨a1, a2, a3, a4, a5⟩ := hA
  obtain ⟨b1, b2, b3, b4, b5, b6, b7⟩ := hB
  obtain ⟨c1, c2, c3, c4, c5, c6⟩ := hP9
  obtain ⟨d1, d2, d3, d4⟩ := hL
  by_cases hs : B.2.1 = 0
  ·
    refine ⟨1, 6, by omega, by omega, jCw.mono (fun o ho => ?_) (h_op (fr := 7) (lo := 102) v0 (x_op_x l G A S t wr B Z P Q V L _ v0 hst hs) rfl (by rintro v M' h; cases h) (by rintro E M' h; cases h; simp))⟩
    have ho := hP_ex (k := 1) (by intro k9 h9; simp (decide := true) at h9; exact h9) ho
    rw [l_no, l_comm] at ho
    refine ⟨1, _, _, _, _, _, ho, by omega, by rw [← l_comm]; exact l_1000, c_opI_x l G _ F X K wr D Pm gv O _ v0 (by omega), ⟨_, _, _, _, _, _, _, _, _, _, _, _, _, _, _, _, _, ?_, l_comm.symm⟩, fun h => absurd h (by decide)⟩
    exact ⟨hA0, hB0, hP0, hL0⟩
  ·
    have hs1 : B.2.1 = 1 := by omega
    have hd := b3 hs1
    refine ⟨0, 0, by omega, by omega, jCw.mono (fun o ho => ?_) (h_op (fr := 7) (lo := 102) v0 (x_op l G A S t wr B Z P Q V L _ v0 hd ⟨b4, b5⟩ hs1).p rfl (by rintro v M' h; cases h; exact ⟨_, _, rfl, l_1021⟩) (by rintro E M' h; cases h))⟩
    have ho := hP_ok rfl l_1021 ho
    rw [l_ju, l_comm] at ho
    refine ⟨0, _, _, _, _, _, ho, by omega, by rw [← l_comm]; exact l_1000, c_opI l G _ F X K wr D Pm gv O _ v0 (by omega) hd.1.2.1 b7.1.2.1, ⟨_, _, _, _, _, _, _, _, _, _, _, _, _, _, _, _, _, ?_, l_comm.symm⟩, fun _ => va_up_self _ _ _⟩
    exact ⟨hA0, hB0, hP0, hL0⟩
set_option maxHeartbeats 4000000 in
theorem st_operand {l : Launch} {G : jG} {er : Nat} {f : Nat → Int64} {nz : Nat} {M : jMem} (hst : l.stackTraces = false) (hE : lE er f (some nz) M) (v0 : Int32) (v1 : Int32) : ∃ c1 s1, c1 ≤ 1 ∧ s1 ≤ 6 ∧ jCw l G yL_operand cL_operand 5 (some .int) [(0, 9, 12, 24), (0, 9, 16, 13)] 8 146 c1 s1 [.ref 0, .int v0, .int v1, .ref 1021] M (stJ l G yX11_operand_ cX11_operand_ 4 2 39 [.ref 1000, .int v0, .int v1]) := by
  obtain ⟨A, S, t, wr, B, Z, P, Q, V, L, F, X, K, D, Pm, gv, O, ⟨hA, hB, hP9, hL⟩, rfl⟩ := hE
  have hA0 := hA
  have hB0 := hB
  have hP0 := hP9
  have hL0 := hL
  obtain ⟨a1, a2, a3, a4, a5⟩ := hA
  obtain ⟨b1, b2, b3, b4, b5, b6, b7⟩ := hB
  obtain ⟨c1, c2, c3, c4, c5, c6⟩ := hP9
  obtain ⟨d1, d2, d3, d4⟩ := hL
  by_cases hs : B.2.1 = 0
  ·
    refine ⟨1, 6, by omega, by omega, jCw.mono (fun o ho => ?_) (h_operand (fr := 7) (lo := 102) v0 v1 (x_operand_x l G A S t wr B Z P Q V L _ v0 v1 hst hs) rfl (by rintro v M' h; cases h) (by rintro E M' h; cases h; simp))⟩
    have ho := hP_ex (k := 1) (by intro k9 h9; simp (decide := true) at h9; exact h9) ho
    rw [l_no, l_comm] at ho
    refine ⟨1, _, _, _, _, _, ho, by omega, by rw [← l_comm]; exact l_1000, c_opdI_x l G _ F X K wr D Pm gv O _ v0 v1 (by omega), ⟨_, _, _, _, _, _, _, _, _, _, _, _, _, _, _, _, _, ?_, l_comm.symm⟩, fun h => absurd h (by decide)⟩
    exact ⟨hA0, hB0, hP0, hL0⟩
  ·
    have hs1 : B.2.1 = 1 := by omega
    have hd := b3 hs1
    have hdA := hd.dA b4 b7
    by_cases ho9 : opOfF D v0 = 1000
    ·
      refine ⟨1, 6, by omega, by omega, jCw.mono (fun o ho => ?_) (h_operand (fr := 7) (lo := 102) v0 v1 (x_operand_0 l G A S t wr B Z P Q V L _ v0 v1 hst hd ⟨b4, b5⟩ hs1 ho9) rfl (by rintro v M' h; cases h) (by rintro E M' h; cases h; simp))⟩
      have ho := hP_ex (k := 2) (by intro k9 h9; simp (decide := true) at h9; exact h9) ho
      rw [l_no, l_comm] at ho
      refine ⟨2, _, _, _, _, _, ho, by omega, by rw [← l_comm]; exact l_1000, c_opdI_0 l G _ F X K wr D Pm gv O _ v0 v1 (by omega) hd.1.2.1 b7.1.2.1 ho9, ⟨_, _, _, _, _, _, _, _, _, _, _, _, _, _, _, _, _, ?_, l_comm.symm⟩, fun h => absurd h (by decide)⟩
      exact ⟨hA0, hB0, hP0, hL0⟩
    · have hl : opOfF D v0 < D.2.2.1 := by
        rcases ooF_lt (wt := mWhat D) (W := D.1) (w := v0) (m := D.2.2.1) (o := 0) with h | h
        · exact absurd h ho9
        · exact h
      have h60 := b7.1.2.1
      have hoA := hdA.2.2 _ hl
      have h6 := hoA.1
      rcases i_idx (v := v1) (n := mOpds D (opOfF D v0)) (by omega) with h | ⟨k, hk, rfl⟩
      ·
        refine ⟨1, 6, by omega, by omega, jCw.mono (fun o ho => ?_) (h_operand (fr := 7) (lo := 102) v0 v1 (x_operand_1 l G A S t wr B Z P Q V L _ v0 v1 _ hst hd ⟨b4, b5⟩ hs1 rfl hl h) rfl (by rintro v M' h; cases h) (by rintro E M' h; cases h; simp))⟩
        have ho := hP_ex (k := 2) (by intro k9 h9; simp (decide := true) at h9; exact h9) ho
        rw [l_no, l_comm] at ho
        refine ⟨2, _, _, _, _, _, ho, by omega, by rw [← l_comm]; exact l_1000, c_opdI_1 l G _ F X K wr D Pm gv O _ v0 v1 _ (by omega) hd.1.2.1 h60 rfl ho9 (by omega) h6 h, ⟨_, _, _, _, _, _, _, _, _, _, _, _, _, _, _, _, _, ?_, l_comm.symm⟩, fun h => absurd h (by decide)⟩
        exact ⟨hA0, hB0, hP0, hL0⟩
      ·
        refine ⟨0, 0, by omega, by omega, jCw.mono (fun o ho => ?_) (h_operand (fr := 7) (lo := 102) v0 (nI k) (x_operand l G A S t wr B Z P Q V L _ v0 _ k hd ⟨b4, b5⟩ hs1 rfl hl hk).p rfl (by rintro v M' h; cases h; exact ⟨_, _, rfl, l_1021⟩) (by rintro E M' h; cases h))⟩
        have ho := hP_ok rfl l_1021 ho
        rw [l_ju, l_comm] at ho
        refine ⟨0, _, _, _, _, _, ho, by omega, by rw [← l_comm]; exact l_1000, c_opdI l G _ F X K wr D Pm gv O _ v0 _ k (by omega) hd.1.2.1 h60 rfl ho9 (by omega) hoA hk, ⟨_, _, _, _, _, _, _, _, _, _, _, _, _, _, _, _, _, ?_, l_comm.symm⟩, fun _ => va_up_self _ _ _⟩
        exact ⟨hA0, hB0, hP0, hL0⟩
set_option maxHeartbeats 4000000 in
theorem st_encode {l : Launch} {G : jG} {er : Nat} {f : Nat → Int64} {nz : Nat} {M : jMem} (hst : l.stackTraces = false) (hE : lE er f (some nz) M) (v0 : Int32) (v1 : Int64) (v2 : Int64) (v3 : Int64) (v4 : Int64) (v5 : Int64) (v6 : Int64) : ∃ c1 s1, c1 ≤ 1 ∧ s1 ≤ 6 ∧ jCw l G yL_encode cL_encode 16 (some .int) [(0, 21, 24, 24), (0, 21, 28, 13), (0, 21, 32, 19)] 8 159 c1 s1 [.ref 0, .int v0, .long v1, .long v2, .long v3, .long v4, .long v5, .long v6, .ref 1021] M (stI l G yX11_encode cX11_encode 15 3 61 [.ref 1000, .int v0, .long v1, .long v2, .long v3, .long v4, .long v5, .long v6]) := by
  obtain ⟨A, S, t, wr, B, Z, P, Q, V, L, F, X, K, D, Pm, gv, O, ⟨hA, hB, hP9, hL⟩, rfl⟩ := hE
  have hA0 := hA
  have hB0 := hB
  have hP0 := hP9
  have hL0 := hL
  obtain ⟨a1, a2, a3, a4, a5⟩ := hA
  obtain ⟨b1, b2, b3, b4, b5, b6, b7⟩ := hB
  obtain ⟨c1, c2, c3, c4, c5, c6⟩ := hP9
  obtain ⟨d1, d2, d3, d4⟩ := hL
  by_cases hs : B.2.1 = 0
  ·
    refine ⟨1, 6, by omega, by omega, jCw.mono (fun o ho => ?_) (h_encode (fr := 7) (lo := 105) v0 v1 v2 v3 v4 v5 v6 (x_enc_x l G A S t wr B Z P Q V L _ v0 v1 v2 v3 v4 v5 v6 hst hs) rfl (by rintro v M' h; cases h) (by rintro E M' h; cases h; simp))⟩
    have ho := hP_ex (k := 1) (by intro k9 h9; simp (decide := true) at h9; exact h9) ho
    rw [l_no, l_comm] at ho
    refine ⟨1, _, _, _, _, _, ho, by omega, by rw [← l_comm]; exact l_1000, c_enc_x l G _ F X K wr D Pm gv O _ v0 v1 v2 v3 v4 v5 v6 (by omega), ⟨_, _, _, _, _, _, _, _, _, _, _, _, _, _, _, _, _, ?_, l_comm.symm⟩, fun h => absurd h (by decide)⟩
    exact ⟨hA0, hB0, hP0, hL0⟩
  ·
    have hs1 : B.2.1 = 1 := by omega
    have hd := b3 hs1
    have hdA := hd.dA b4 b7
    have h60 := b7.1.2.1
    rcases i_idx (v := v0) (n := D.2.2.1) (by omega) with h | ⟨o, ho, rfl⟩
    ·
      refine ⟨1, 6, by omega, by omega, jCw.mono (fun o ho => ?_) (h_encode (fr := 7) (lo := 105) v0 v1 v2 v3 v4 v5 v6 (x_enc_2 l G A S t wr B Z P Q V L _ v0 v1 v2 v3 v4 v5 v6 hst hd ⟨b4, b5⟩ hs1 h) rfl (by rintro v M' h; cases h) (by rintro E M' h; cases h; simp))⟩
      have ho := hP_ex (k := 2) (by intro k9 h9; simp (decide := true) at h9; exact h9) ho
      rw [l_no, l_comm] at ho
      refine ⟨2, _, _, _, _, _, ho, by omega, by rw [← l_comm]; exact l_1000, c_enc_2 l G _ F X K wr D Pm gv O _ v0 v1 v2 v3 v4 v5 v6 (by omega) h60 h, ⟨_, _, _, _, _, _, _, _, _, _, _, _, _, _, _, _, _, ?_, l_comm.symm⟩, fun h => absurd h (by decide)⟩
      exact ⟨hA0, hB0, hP0, hL0⟩
    · have hoA := hdA.2.2 _ ho
      have hle := (efF_le (D := D) (o := o) (vs := eV v1 v2 v3 v4 v5 v6) (m := mOpds D o) (k := 0) (Nat.zero_le _)).2
      by_cases he : efF D o (eV v1 v2 v3 v4 v5 v6) (mOpds D o) 0 = mOpds D o
      · obtain ⟨g, hg, hgv⟩ := enR_ok (D := D) (o := o) (m := mOpds D o) (vs := eV v1 v2 v3 v4 v5 v6) 0 gv he
        have hmk : madeF D g o = madeF D (eV v1 v2 v3 v4 v5 v6) o := (hd.2.2.2.2 o ho).1.mcong (fun k b hk _ => by rw [(hgv k hk).1 (Nat.zero_le _)])
        have K2 := c_enc l G er F X K wr D Pm gv O (encX (A.1, A.2.1, vS A.2.2 v1 v2 v3 v4 v5 v6) S t wr B Z P Q V L (T0 (va_up f 0 (madeF D (eV v1 v2 v3 v4 v5 v6) o).toInt64) (some nz))) o v1 v2 v3 v4 v5 v6 (by omega) h60 ho hoA hd.1.2.1
        rw [show enR D gv (eV v1 v2 v3 v4 v5 v6) o (D.2.2.2.2.2.2.2.2.1 o) 0 = (0, madeF D g o, g) from hg, hmk] at K2
        refine ⟨0, 0, by omega, by omega, jCw.mono (fun o ho => ?_) (h_encode (fr := 7) (lo := 105) (nI o) v1 v2 v3 v4 v5 v6 (x_enc l G A S t wr B Z P Q V L _ o v1 v2 v3 v4 v5 v6 hd ⟨b4, b5⟩ hs1 ho he).p rfl (by rintro v M' h; cases h; exact ⟨_, _, rfl, l_1021⟩) (by rintro E M' h; cases h))⟩
        have ho := hP_ok rfl l_1021 ho
        rw [l_ju, l_comm] at ho
        refine ⟨0, _, _, _, _, _, ho, by omega, by rw [← l_comm]; exact l_1000, K2, ⟨_, _, _, _, _, _, _, _, _, _, _, _, _, _, _, _, _, ?_, l_comm.symm⟩, fun _ => va_up_self _ _ _⟩
        exact ⟨hA0, hB0, hP0, hL0⟩
      · obtain ⟨g, hg⟩ := enR_no (D := D) (o := o) (m := mOpds D o) (vs := eV v1 v2 v3 v4 v5 v6) 0 gv (by omega)
        have K2 := c_enc l G er F X K wr D Pm gv O (encX (A.1, A.2.1, vS A.2.2 v1 v2 v3 v4 v5 v6) S t wr B Z P Q V L (T0 f none)) o v1 v2 v3 v4 v5 v6 (by omega) h60 ho hoA hd.1.2.1
        rw [show enR D gv (eV v1 v2 v3 v4 v5 v6) o (D.2.2.2.2.2.2.2.2.1 o) 0 = (3, nI 0, g) from hg] at K2
        refine ⟨1, 6, by omega, by omega, jCw.mono (fun o ho => ?_) (h_encode (fr := 7) (lo := 105) (nI o) v1 v2 v3 v4 v5 v6 (x_enc_3 l G A S t wr B Z P Q V L _ o v1 v2 v3 v4 v5 v6 hst hd ⟨b4, b5⟩ hs1 ho (by omega)) rfl (by rintro v M' h; cases h) (by rintro E M' h; cases h; simp))⟩
        have ho := hP_ex (k := 3) (by intro k9 h9; simp (decide := true) at h9; exact h9) ho
        rw [l_no, l_comm] at ho
        refine ⟨3, _, _, _, _, _, ho, by omega, by rw [← l_comm]; exact l_1000, K2, ⟨_, _, _, _, _, _, _, _, _, _, _, _, _, _, _, _, _, ?_, l_comm.symm⟩, fun h => absurd h (by decide)⟩
        exact ⟨hA0, hB0, hP0, hL0⟩
set_option maxHeartbeats 4000000 in
theorem st_text {l : Launch} {G : jG} {er : Nat} {f : Nat → Int64} {nz : Nat} {M : jMem} (hst : l.stackTraces = false) (hE : lE er f (some nz) M) (v0 : Int32) : ∃ c1 s1, c1 ≤ 1 ∧ s1 ≤ 6 ∧ jCw l G yL_text cL_text 4 (some .int) [(0, 9, 12, 24)] 10 230 c1 s1 [.ref 0, .int v0, .ref 1021] M (stI l G yX11_text cX11_text 5 7 140 [.ref 1000, .int v0]) := by
  obtain ⟨A, S, t, wr, B, Z, P, Q, V, L, F, X, K, D, Pm, gv, O, ⟨hA, hB, hP9, hL⟩, rfl⟩ := hE
  have hA0 := hA
  have hB0 := hB
  have hP0 := hP9
  have hL0 := hL
  obtain ⟨a1, a2, a3, a4, a5⟩ := hA
  obtain ⟨b1, b2, b3, b4, b5, b6, b7⟩ := hB
  obtain ⟨c1, c2, c3, c4, c5, c6⟩ := hP9
  obtain ⟨d1, d2, d3, d4⟩ := hL
  by_cases hs : B.2.1 = 0
  ·
    refine ⟨1, 6, by omega, by omega, jCw.mono (fun o ho => ?_) (h_text (fr := 9) (lo := 188) v0 (x_text_x l G A S t wr B Z P Q V L _ v0 hst hs) rfl (by rintro v M' h; cases h) (by rintro E M' h; cases h; simp))⟩
    have ho := hP_ex (k := 1) (by intro k9 h9; simp (decide := true) at h9; exact h9) ho
    rw [l_no, l_comm] at ho
    refine ⟨1, _, _, _, _, _, ho, by omega, by rw [← l_comm]; exact l_1000, c_text_x l G _ F X K wr D Pm gv O _ v0 (by omega), ⟨_, _, _, _, _, _, _, _, _, _, _, _, _, _, _, _, _, ?_, l_comm.symm⟩, fun h => absurd h (by decide)⟩
    exact ⟨hA0, hB0, hP0, hL0⟩
  ·
    have hs1 : B.2.1 = 1 := by omega
    have hd := b3 hs1
    have hdA := hd.dA b4 b7
    have hln := textL_len (w := v0) hd b4
    refine ⟨0, 0, by omega, by omega, jCw.mono (fun o ho => ?_) (h_text (fr := 9) (lo := 188) v0 (x_text l G A S t wr B Z P Q V L _ v0 hd ⟨b4, b5⟩ hs1).p rfl (by rintro v M' h; cases h; exact ⟨_, _, rfl, l_1021⟩) (by rintro E M' h; cases h))⟩
    have ho := hP_ok rfl l_1021 ho
    rw [l_ju, l_comm] at ho
    refine ⟨0, _, _, _, _, _, ho, by omega, by rw [← l_comm]; exact l_1000, c_text l G _ F X K wr D Pm gv O _ v0 (by omega) hdA (by have := hd.1.2.2.2.1; omega), ⟨_, _, _, _, _, _, _, _, _, _, _, _, _, _, _, _, _, ?_, l_comm.symm⟩, fun _ => by rw [va_up_self, apO_1, apO_1]⟩
    exact ⟨hA0, hB0, hP0, by rw [apO_1, apO_1], by rw [apO_1]; show 0 + _ ≤ 96; omega, fun q hq => apO_get 0 L.2 O.2 (fun q h => absurd h (Nat.not_lt_zero q)) q (by rw [apO_1] at hq; exact hq), fun k => apO_lt 0 O.2 d4 (textL_lt b7.1) k⟩
set_option maxHeartbeats 4000000 in
theorem st_letters {l : Launch} {G : jG} {er : Nat} {f : Nat → Int64} {nz : Nat} {M : jMem} (hst : l.stackTraces = false) (hE : lE er f (some nz) M) (v0 : Int32) : ∃ c1 s1, c1 ≤ 1 ∧ s1 ≤ 6 ∧ jCw l G yL_letters cL_letters 4 (some .int) [(0, 8, 11, 13)] 7 124 c1 s1 [.ref 0, .int v0, .ref 1021] M (stJ l G yX11_letters cX11_letters 5 2 34 [.ref 1000, .int v0]) := by
  obtain ⟨A, S, t, wr, B, Z, P, Q, V, L, F, X, K, D, Pm, gv, O, ⟨hA, hB, hP9, hL⟩, rfl⟩ := hE
  have hA0 := hA
  have hB0 := hB
  have hP0 := hP9
  have hL0 := hL
  obtain ⟨a1, a2, a3, a4, a5⟩ := hA
  obtain ⟨b1, b2, b3, b4, b5, b6, b7⟩ := hB
  obtain ⟨c1, c2, c3, c4, c5, c6⟩ := hP9
  obtain ⟨d1, d2, d3, d4⟩ := hL
  rcases i_idx (v := v0) (n := (L.1 + 7) / 8) (by omega) with h | ⟨k, hk, rfl⟩
  ·
    refine ⟨1, 6, by omega, by omega, jCw.mono (fun o ho => ?_) (h_letters (fr := 6) (lo := 82) v0 (x_let_x l G A S t wr B Z P Q V L _ v0 hst h d2) rfl (by rintro v M' h; cases h) (by rintro E M' h; cases h; simp))⟩
    have ho := hP_ex (k := 1) (by intro k9 h9; simp (decide := true) at h9; exact h9) ho
    rw [l_no, l_comm] at ho
    refine ⟨1, _, _, _, _, _, ho, by omega, by rw [← l_comm]; exact l_1000, c_let_x l G _ F X K wr D Pm gv O _ v0 (by rw [← d1]; exact h) (by omega), ⟨_, _, _, _, _, _, _, _, _, _, _, _, _, _, _, _, _, ?_, l_comm.symm⟩, fun h => absurd h (by decide)⟩
    exact ⟨hA0, hB0, hP0, hL0⟩
  ·
    refine ⟨0, 0, by omega, by omega, jCw.mono (fun o ho => ?_) (h_letters (fr := 6) (lo := 82) (nI k) (x_let l G A S t wr B Z P Q V L _ k hk d2 (fun q hq => by rw [d3 q hq]; exact d4 q)).p rfl (by rintro v M' h; cases h; exact ⟨_, _, rfl, l_1021⟩) (by rintro E M' h; cases h))⟩
    have ho := hP_ok rfl l_1021 ho
    rw [l_ju, l_comm] at ho
    refine ⟨0, _, _, _, _, _, ho, by omega, by rw [← l_comm]; exact l_1000, c_let l G _ F X K wr D Pm gv O _ k (by rw [← d1]; exact hk) (by omega) d4, ⟨_, _, _, _, _, _, _, _, _, _, _, _, _, _, _, _, _, ?_, l_comm.symm⟩, fun _ => by rw [va_up_self]; exact l8F_cong d1 d3 0 0⟩
    exact ⟨hA0, hB0, hP0, hL0⟩
set_option maxHeartbeats 4000000 in
theorem st_count {l : Launch} {G : jG} {er : Nat} {f : Nat → Int64} {nz : Nat} {M : jMem} (hst : l.stackTraces = false) (hE : lE er f (some nz) M) (v0 : Int32) : ∃ c1 s1, c1 ≤ 1 ∧ s1 ≤ 6 ∧ jCw l G yL_count cL_count 4 (some .int) [(0, 9, 12, 19)] 7 124 c1 s1 [.ref 0, .int v0, .ref 1021] M (stI l G yX11_count cX11_count 2 2 37 [.ref 1000, .int v0]) := by
  obtain ⟨A, S, t, wr, B, Z, P, Q, V, L, F, X, K, D, Pm, gv, O, ⟨hA, hB, hP9, hL⟩, rfl⟩ := hE
  have hA0 := hA
  have hB0 := hB
  have hP0 := hP9
  have hL0 := hL
  obtain ⟨a1, a2, a3, a4, a5⟩ := hA
  obtain ⟨b1, b2, b3, b4, b5, b6, b7⟩ := hB
  obtain ⟨c1, c2, c3, c4, c5, c6⟩ := hP9
  obtain ⟨d1, d2, d3, d4⟩ := hL
  rcases i_idx (v := v0) (n := 6) (by omega) with h | ⟨k, hk, rfl⟩
  ·
    refine ⟨1, 6, by omega, by omega, jCw.mono (fun o ho => ?_) (h_count (fr := 6) (lo := 82) v0 (x_count_x9 l G A S t wr B Z P Q V L _ v0 hst h) rfl (by rintro v M' h; cases h) (by rintro E M' h; cases h; simp))⟩
    have ho := hP_ex (k := 1) (by intro k9 h9; simp (decide := true) at h9; exact h9) ho
    rw [l_no, l_comm] at ho
    refine ⟨1, _, _, _, _, _, ho, by omega, by rw [← l_comm]; exact l_1000, c_count_x l G _ F X K wr D Pm gv O _ v0 h, ⟨_, _, _, _, _, _, _, _, _, _, _, _, _, _, _, _, _, ?_, l_comm.symm⟩, fun h => absurd h (by decide)⟩
    exact ⟨hA0, hB0, hP0, hL0⟩
  ·
    have hk6 : k = 0 ∨ k = 1 ∨ k = 2 ∨ k = 3 ∨ k = 4 ∨ k = 5 := by omega
    have hdes : B.2.1 = 1 → B.1 = D.1 ∧ B.2.2.1.1 = D.2.1 ∧ B.2.2.2.2.1 = D.2.2.1 := fun h => ⟨(b3 h).1.1, (b3 h).2.1.1, (b3 h).2.2.2.1.1⟩
    rcases hk6 with rfl | rfl | rfl | rfl | rfl | rfl
    ·
      refine ⟨0, 0, by omega, by omega, jCw.mono (fun o ho => ?_) (h_count (fr := 6) (lo := 82) (nI 0) (x_count0 l G A S t wr B Z P Q V L _ b2 c1).p rfl (by rintro v M' h; cases h; exact ⟨_, _, rfl, l_1021⟩) (by rintro E M' h; cases h))⟩
      have ho := hP_ok rfl l_1021 ho
      rw [l_ju, l_comm] at ho
      refine ⟨0, _, _, _, _, _, ho, by omega, by rw [← l_comm]; exact l_1000, c_count0 l G _ F X K wr D Pm gv O _ (by omega), ⟨_, _, _, _, _, _, _, _, _, _, _, _, _, _, _, _, _, ?_, l_comm.symm⟩, fun _ => ?_⟩
      · exact ⟨hA0, hB0, hP0, hL0⟩
      · rw [va_up_self]
        by_cases z : B.2.1 = 0
        · rw [if_pos z, if_pos (by omega)]
        · rw [if_neg z, if_neg (by omega), (hdes (by omega)).1]
    ·
      refine ⟨0, 0, by omega, by omega, jCw.mono (fun o ho => ?_) (h_count (fr := 6) (lo := 82) (nI 1) (x_count1 l G A S t wr B Z P Q V L _ b2 c1).p rfl (by rintro v M' h; cases h; exact ⟨_, _, rfl, l_1021⟩) (by rintro E M' h; cases h))⟩
      have ho := hP_ok rfl l_1021 ho
      rw [l_ju, l_comm] at ho
      refine ⟨0, _, _, _, _, _, ho, by omega, by rw [← l_comm]; exact l_1000, c_count1 l G _ F X K wr D Pm gv O _ (by omega), ⟨_, _, _, _, _, _, _, _, _, _, _, _, _, _, _, _, _, ?_, l_comm.symm⟩, fun _ => ?_⟩
      · exact ⟨hA0, hB0, hP0, hL0⟩
      · rw [va_up_self]
        by_cases z : B.2.1 = 0
        · rw [if_pos z, if_pos (by omega)]
        · rw [if_neg z, if_neg (by omega), (hdes (by omega)).2.1]
    ·
      refine ⟨0, 0, by omega, by omega, jCw.mono (fun o ho => ?_) (h_count (fr := 6) (lo := 82) (nI 2) (x_count2 l G A S t wr B Z P Q V L _ b2 c1).p rfl (by rintro v M' h; cases h; exact ⟨_, _, rfl, l_1021⟩) (by rintro E M' h; cases h))⟩
      have ho := hP_ok rfl l_1021 ho
      rw [l_ju, l_comm] at ho
      refine ⟨0, _, _, _, _, _, ho, by omega, by rw [← l_comm]; exact l_1000, c_count2 l G _ F X K wr D Pm gv O _ (by omega), ⟨_, _, _, _, _, _, _, _, _, _, _, _, _, _, _, _, _, ?_, l_comm.symm⟩, fun _ => ?_⟩
      · exact ⟨hA0, hB0, hP0, hL0⟩
      · rw [va_up_self]
        by_cases z : B.2.1 = 0
        · rw [if_pos z, if_pos (by omega)]
        · rw [if_neg z, if_neg (by omega), (hdes (by omega)).2.2]
    ·
      refine ⟨0, 0, by omega, by omega, jCw.mono (fun o ho => ?_) (h_count (fr := 6) (lo := 82) (nI 3) (x_count3 l G A S t wr B Z P Q V L _ b2 c1).p rfl (by rintro v M' h; cases h; exact ⟨_, _, rfl, l_1021⟩) (by rintro E M' h; cases h))⟩
      have ho := hP_ok rfl l_1021 ho
      rw [l_ju, l_comm] at ho
      refine ⟨0, _, _, _, _, _, ho, by omega, by rw [← l_comm]; exact l_1000, c_count3 l G _ F X K wr D Pm gv O _ (by omega), ⟨_, _, _, _, _, _, _, _, _, _, _, _, _, _, _, _, _, ?_, l_comm.symm⟩, fun _ => ?_⟩
      · exact ⟨hA0, hB0, hP0, hL0⟩
      · rw [va_up_self]
        by_cases z : P.2.1 = 0
        · rw [if_pos z, (c4 z).1]
        · rw [if_neg z, (c3 (by omega)).1]
    ·
      refine ⟨0, 0, by omega, by omega, jCw.mono (fun o ho => ?_) (h_count (fr := 6) (lo := 82) (nI 4) (x_count4 l G A S t wr B Z P Q V L _ b2 c1).p rfl (by rintro v M' h; cases h; exact ⟨_, _, rfl, l_1021⟩) (by rintro E M' h; cases h))⟩
      have ho := hP_ok rfl l_1021 ho
      rw [l_ju, l_comm] at ho
      refine ⟨0, _, _, _, _, _, ho, by omega, by rw [← l_comm]; exact l_1000, c_count4 l G _ F X K wr D Pm gv O _ (by omega), ⟨_, _, _, _, _, _, _, _, _, _, _, _, _, _, _, _, _, ?_, l_comm.symm⟩, fun _ => ?_⟩
      · exact ⟨hA0, hB0, hP0, hL0⟩
      · rw [va_up_self]
        by_cases z : P.2.1 = 0
        · rw [if_pos z, (c4 z).2]
        · rw [if_neg z, (c3 (by omega)).2.1]
    ·
      refine ⟨0, 0, by omega, by omega, jCw.mono (fun o ho => ?_) (h_count (fr := 6) (lo := 82) (nI 5) (x_count5 l G A S t wr B Z P Q V L _ b2 c1).p rfl (by rintro v M' h; cases h; exact ⟨_, _, rfl, l_1021⟩) (by rintro E M' h; cases h))⟩
      have ho := hP_ok rfl l_1021 ho
      rw [l_ju, l_comm] at ho
      refine ⟨0, _, _, _, _, _, ho, by omega, by rw [← l_comm]; exact l_1000, c_count5 l G _ F X K wr D Pm gv O _ (by omega), ⟨_, _, _, _, _, _, _, _, _, _, _, _, _, _, _, _, _, ?_, l_comm.symm⟩, fun _ => ?_⟩
      · exact ⟨hA0, hB0, hP0, hL0⟩
      · rw [va_up_self, a1]
