/-! THE CLASS: ops in its memory -/
section XG
variable {A : xA} {S : xS} {t : xT} {wr : Int32} {B : xB} {Z : xZ} {P : xC} {Q : xN} {V : xV} {L : xL} {T : jMem}
theorem gX_pd {i k kd : Nat} (hi : i < 60) (hk : k < 6) (h : (Z.2.1 (6 * i + k)).1 = 136 + kd) : (encX A S t wr B Z P Q V L T).1 (19 + 14 * i + 2 * k) = some (.inr (6, [.ref (20 + 14 * i + 2 * k), .int (nI (136 + kd)), .int (nI (Z.2.1 (6 * i + k)).2.1), .int (Z.2.1 (6 * i + k)).2.2])) := by
  rw [gX_opd hi hk, h]
end XG
/-- the operands of an op may be read -/
def oU (Z : xZ) (i : Nat) : Prop := (Z.1 i).1 ≤ 6 ∧ ∀ k, k < (Z.1 i).1 → ∃ kd, kd ≤ 3 ∧ (Z.2.1 (6 * i + k)).1 = 136 + kd ∧ 1 ≤ (Z.2.1 (6 * i + k)).2.1 ∧ (Z.2.1 (6 * i + k)).2.1 ≤ 32
theorem opR.us {D : mD} {Z : xZ} {o n : Nat} (h : opR D Z o n) : oU Z o := by
  refine ⟨by rw [h.1.1]; exact h.1.2.1, fun k hk => ?_⟩
  rw [h.1.1] at hk
  obtain ⟨h1, h2, h3, h4, h5⟩ := h.2.1 k hk
  exact ⟨_, h1, h2, h3⟩
def iwF (Z : xZ) (i : Nat) : Nat → Bool := fun k => swF (Z.2.2 (6 * i + k)) (Z.2.1 (6 * i + k)).2.1 0
def shZ (Z : xZ) (i o : Nat) : Bool := shF (Z.1 i).2.2.1 (Z.1 i).2.2.2 (Z.1 o).2.2.1 (Z.1 o).2.2.2
def xoF (Z : xZ) (w : Int32) (m i : Nat) : Nat := if i < m then if owF (Z.1 i).2.2.1 (Z.1 i).2.2.2 w = true then i else xoF Z w m (i + 1) else 1000
termination_by m - i
theorem xoF_eq {D : mD} {Z : xZ} {w : Int32} {m : Nat} (h : ∀ o, o < m → opR D Z o D.1) (i : Nat) : xoF Z w m i = ooF (mWhat D) D.1 w m i := by
  induction hm : m - i generalizing i with
  | zero => rw [xoF, if_neg (by omega), ooF, if_neg (by omega)]
  | succ d ih =>
    have e1 : xoF Z w m i = if owF (Z.1 i).2.2.1 (Z.1 i).2.2.2 w = true then i else xoF Z w m (i + 1) := by
      conv => lhs; rw [xoF]
      rw [if_pos (by omega)]
    have e2 : ooF (mWhat D) D.1 w m i = if allF (ownF (mWhat D) D.1 w i) D.1 0 = true then i else ooF (mWhat D) D.1 w m (i + 1) := by
      conv => lhs; rw [ooF]
      rw [if_pos (by omega)]
    rw [e1, e2, (h i (by omega)).own, ih (i + 1) (by omega)]
theorem allF_st {f : Nat → Bool} {n k : Nat} (h : k < n) : allF f n k = (f k && allF f n (k + 1)) := by
  conv => lhs; rw [allF]
  rw [if_pos h]
theorem anyF_st {f : Nat → Bool} {n k : Nat} (h : k < n) : anyF f n k = (f k || anyF f n (k + 1)) := by
  conv => lhs; rw [anyF]
  rw [if_pos h]
theorem allF_e {f : Nat → Bool} {n k : Nat} (h : ¬ k < n) : allF f n k = true := by rw [allF, if_neg h]
theorem anyF_e {f : Nat → Bool} {n k : Nat} (h : ¬ k < n) : anyF f n k = false := by rw [anyF, if_neg h]
theorem shares_eq {D : mD} {Z : xZ} {o : Nat} (h : ∀ i, i ≤ o → opR D Z i D.1) : anyF (fun i => shZ Z i o) o 0 = !apAll D o := by
  unfold apAll
  rw [Bool.eq_iff_iff, anyF_iff, Bool.not_eq_true', ← Bool.not_eq_true, allF_iff]
  constructor
  · rintro ⟨j, -, h1, h2⟩ z
    have z1 := z j (Nat.zero_le _) h1
    unfold shZ at h2
    rw [(h o (Nat.le_refl _)).shr (h j (by omega)), z1] at h2
    cases h2
  · intro z
    by_cases e : ∃ j, 0 ≤ j ∧ j < o ∧ shZ Z j o = true
    · exact e
    · refine absurd (fun j _ hj => ?_) z
      cases e2 : anyF (apF (mWhat D) o j) D.1 0 with
      | true => rfl
      | false =>
        refine absurd ⟨j, Nat.zero_le _, hj, ?_⟩ e
        unfold shZ
        rw [(h o (Nat.le_refl _)).shr (h j (by omega)), e2]
        rfl
/-! THE CLASS: parting the text -/
/-- the tokens before the letter a are kept, the last of them ends at b -/
def spI (X : Nat × (Nat → Nat)) (S : xS) (c a b : Nat) : Prop := S.1 = X.1 ∧ S.2.1 = c ∧ c ≤ b ∧ b ≤ X.1 ∧ (∀ i, i < c → S.2.2.1 i = kcl X (tokA X i) ∧ S.2.2.2.1 i = (tokA X i).2.1 ∧ S.2.2.2.2 i = (tokA X i).2.2 ∧ (tokA X i).1 ≠ 0) ∧ tokA X c = nextF X b ∧ (a ≤ b ∨ skip X b = skip X a)
def sAdd (S : xS) (k a b : Nat) : xS := (S.1, S.2.1 + 1, va_up S.2.2.1 S.2.1 k, va_up S.2.2.2.1 S.2.1 a, va_up S.2.2.2.2 S.2.1 b)
theorem skip_nb {X : Nat × (Nat → Nat)} {a : Nat} (h : isBl (X.2 a) = false) : skip X a = a := by rw [skip, if_neg (by rw [h]; exact fun z => absurd z.2 (by decide))]
theorem skip_bl {X : Nat × (Nat → Nat)} {a : Nat} (h1 : a < X.1) (h : isBl (X.2 a) = true) : skip X a = skip X (a + 1) := by
  conv => lhs; rw [skip]
  rw [if_pos ⟨h1, h⟩]
theorem skip_end {X : Nat × (Nat → Nat)} : skip X X.1 = X.1 := by rw [skip, if_neg (by omega)]
theorem nextK_fr {X : Nat × (Nat → Nat)} {q : Nat} (h : q < X.1) : (nextK X q).2.1 = q ∧ (nextK X q).1 ≠ 0 ∧ q < (nextK X q).2.2 := by
  have h1 := nextK_to (Nat.le_of_lt h)
  refine ⟨h1.1, ?_, h1.2.2.2.1 h⟩
  unfold nextK
  rw [if_pos h]
  split
  · dsimp only; omega
  · split
    · dsimp only; omega
    · split
      · dsimp only; omega
      · dsimp only
        split <;> omega
theorem spI.none {X : Nat × (Nat → Nat)} {S : xS} {c a b : Nat} (h : spI X S c a b) (hn : a < b ∨ (a < X.1 ∧ isBl (X.2 a) = true)) : spI X S c (a + 1) b := by
  obtain ⟨h1, h2, h3, h4, h5, h6, h7⟩ := h
  refine ⟨h1, h2, h3, h4, h5, h6, ?_⟩
  rcases hn with hn | ⟨hn, hb⟩
  · exact Or.inl hn
  · rcases h7 with h7 | h7
    · by_cases e : a < b
      · exact Or.inl e
      · have e2 : a = b := by omega
        subst e2
        exact Or.inr (skip_bl hn hb)
    · exact Or.inr (h7.trans (skip_bl hn hb))
theorem spI.add {X : Nat × (Nat → Nat)} {S : xS} {c a b : Nat} (h : spI X S c a b) (hb : b ≤ a) (ha : a < X.1) (hn : isBl (X.2 a) = false) : spI X (sAdd S (kcl X (nextK X a)) a (nextK X a).2.2) (c + 1) (a + 1) (nextK X a).2.2 := by
  obtain ⟨h1, h2, h3, h4, h5, h6, h7⟩ := h
  have hs : skip X b = a := by
    rcases h7 with h7 | h7
    · have e2 : a = b := by omega
      subst e2
      exact skip_nb hn
    · rw [h7, skip_nb hn]
  have ht : tokA X c = nextK X a := by rw [h6, nextF, hs]
  obtain ⟨f1, f2, f3⟩ := nextK_fr ha
  have hto := nextK_to (Nat.le_of_lt ha)
  refine ⟨h1, by show S.2.1 + 1 = _; rw [h2], by omega, by omega, fun i hi => ?_, ?_, Or.inl (by omega)⟩
  · show va_up S.2.2.1 S.2.1 _ i = _ ∧ va_up S.2.2.2.1 S.2.1 _ i = _ ∧ va_up S.2.2.2.2 S.2.1 _ i = _ ∧ _
    rw [h2]
    by_cases e : i = c
    · subst e
      rw [va_up_self, va_up_self, va_up_self, ht]
      exact ⟨rfl, f1.symm, rfl, f2⟩
    · rw [va_up_ne _ _ e, va_up_ne _ _ e, va_up_ne _ _ e]
      exact h5 i (by omega)
  · show nextF X (tokA X c).2.2 = _
    rw [ht]
theorem spI.fin {X : Nat × (Nat → Nat)} {S : xS} {c b : Nat} (hX : X.1 ≤ 4000) (h : spI X S c X.1 b) : sOK X (sAdd S 128 X.1 X.1) := by
  obtain ⟨h1, h2, h3, h4, h5, h6, h7⟩ := h
  have hs : skip X b = X.1 := by
    rcases h7 with h7 | h7
    · have e2 : b = X.1 := by omega
      rw [e2]; exact skip_end
    · rw [h7]; exact skip_end
  have ht : tokA X c = (0, X.1, X.1) := by rw [h6, nextF, hs, nextK, if_neg (by omega)]
  refine ⟨h1, by show S.2.1 + 1 ≤ 4001; omega, fun i hi => ?_⟩
  have hi : i < S.2.1 + 1 := hi
  show va_up S.2.2.1 S.2.1 _ i = _ ∧ va_up S.2.2.2.1 S.2.1 _ i = _ ∧ va_up S.2.2.2.2 S.2.1 _ i = _ ∧ (_ ↔ i + 1 = S.2.1 + 1)
  rw [h2] at hi ⊢
  by_cases e : i = c
  · subst e
    rw [va_up_self, va_up_self, va_up_self, ht]
    exact ⟨rfl, rfl, rfl, by simp⟩
  · rw [va_up_ne _ _ e, va_up_ne _ _ e, va_up_ne _ _ e]
    obtain ⟨d1, d2, d3, d4⟩ := h5 i (by omega)
    exact ⟨d1, d2, d3, ⟨fun z => absurd z d4, fun z => by omega⟩⟩
