/-! THE CLASS: its face -/
def fd4 (oc : Nat → Nat) (n : Nat) (v : Int32) : Nat → Nat := va_up (va_up (va_up (va_up oc n (octN v 24)) (n + 1) (octN v 16)) (n + 1 + 1) (octN v 8)) (n + 1 + 1 + 1) (octN v 0)
theorem fd4_fd (oc : Nat → Nat) (n : Nat) (a b c d e : Int32) : fd4 (fd4 (fd4 (fd4 (fd4 oc n a) (n + 4) b) (n + 8) c) (n + 12) d) (n + 16) e = fdF oc n a b c d e 20 := rfl
theorem fbF_ok {X : Nat × (Nat → Nat)} {k : Nat} (h : fbF X k = none) : ∀ j, k ≤ j → j < X.1 → okL (X.2 j) = true := by
  induction hm : X.1 - k generalizing k with
  | zero => intro j h1 h2; omega
  | succ d ih =>
    intro j h1 h2
    have e1 : fbF X k = if okL (X.2 k) = true then fbF X (k + 1) else some k := by
      conv => lhs; rw [fbF]
      rw [if_pos (by omega)]
    rw [e1] at h
    by_cases e : okL (X.2 k) = true
    · rw [if_pos e] at h
      by_cases e2 : j = k
      · subst e2; exact e
      · exact ih h (by omega) j (by omega) h2
    · rw [if_neg e] at h; cases h
/-- compose: which operand is refused first -/
theorem efF_st {D : mD} {o : Nat} {vs : Nat → Int64} {m k : Nat} (h : k < m) : efF D o vs m k = if fitF (mKind D (6 * o + k)) (bitsN D (6 * o + k)) (vs k) = true then efF D o vs m (k + 1) else k := by
  conv => lhs; rw [efF]
  rw [if_pos h]
/-- a description that the class has may be used -/
theorem dR.dA {D : mD} {B : xB} {Z : xZ} (h : dR D B Z D.2.2.1) (hb : nB B.2.2.1 12) (hg : dG D) : dA D := by
  refine ⟨hg.1, h.1.2.1, fun o ho => ?_⟩
  obtain ⟨hR, hW⟩ := h.2.2.2.2 o ho
  have h6 := hR.1.2.1
  refine ⟨h6, fun k hk => ?_, fun k hk => ?_⟩
  · rcases hR.2.2.2.2.1 k hk with z | z | ⟨k', b, c1, c2, c3, c4⟩
    · exact Or.inl (by rw [z]; decide)
    · exact Or.inl (by rw [z]; decide)
    · have := (hR.2.1 k' c1).2.2.1
      exact Or.inr ⟨_, by omega, c3⟩
  · obtain ⟨p1, p2, p3, p4, p5⟩ := hR.2.1 k hk
    refine ⟨⟨p1, _, p3.1, p3.2, p4⟩, fun z => ?_⟩
    obtain ⟨s, s1, s2, -, -⟩ := p5 z
    exact ⟨s, by have := h.2.1.1; have := hb.1; omega, s2⟩
/-- what describe comes to -/
def deP (A : xA) (P : xC) (V : xV) (L : xL) (T : jMem) (r : mR) (o : jO) : Prop :=
  (r.1 = none ∧ ∃ S t B Z Q, dR r.2.2 B Z r.2.2.2.2.1 ∧ gB (B.1, 0, B.2.2) Q ∧ B.2.1 = 1 ∧ o = .inl (some (.int (nI r.2.2.2.2.1)), encX (0, A.2) S t (-1) B Z P Q V L T)) ∨
  (∃ p S t B Z Q, r.1 = some p ∧ gB B Q ∧ o = .inr (eIA, jno (encX (0, A.2) S t (nI p) B Z P Q V L T)))
/-- what assemble comes to -/
def asP (X : Nat × (Nat → Nat)) (D : mD) (A : xA) (B : xB) (Z : xZ) (Q : xN) (L : xL) (T : jMem) (r : mV) (o : jO) : Prop :=
  (r.1 = none ∧ ∃ S t C V, gC (C.1, 0, C.2.2) ∧ C.2.1 = 1 ∧ pR X D r.2.2.1 (C.1, 0, C.2.2) V ∧ o = .inl (some (.int (nI r.2.2.1.1)), encX (0, A.2) S t (-1) B Z C Q V L T)) ∨
  (∃ p S t C V, r.1 = some p ∧ gC C ∧ o = .inr (eIA, jno (encX (0, A.2) S t (nI p) B Z C Q V L T)))
def vS (gv : Nat → Int64) (a b c d e f : Int64) : Nat → Int64 := va_up (va_up (va_up (va_up (va_up (va_up gv 0 a) 1 b) 2 c) 3 d) 4 e) 5 f
theorem vS_eV {gv : Nat → Int64} {a b c d e f : Int64} {k : Nat} (hk : k < 6) : vS gv a b c d e f k = eV a b c d e f k := by
  have : k = 0 ∨ k = 1 ∨ k = 2 ∨ k = 3 ∨ k = 4 ∨ k = 5 := by omega
  rcases this with h | h | h | h | h | h <;> subst h <;> rfl
theorem efF_e {D : mD} {o : Nat} {vs : Nat → Int64} {m k : Nat} (h : ¬ k < m) : efF D o vs m k = m := by rw [efF, if_neg h]
theorem efF_cong {D : mD} {o : Nat} {vs vs' : Nat → Int64} {m k : Nat} (h : ∀ j, j < m → vs j = vs' j) : efF D o vs m k = efF D o vs' m k := by
  induction hm : m - k generalizing k with
  | zero => rw [efF_e (by omega), efF_e (by omega)]
  | succ d ih => rw [efF_st (vs := vs) (k := k) (by omega), efF_st (vs := vs') (k := k) (by omega), h k (by omega), ih (k := k + 1) (by omega)]
