/-! positions go on; what stays -/
theorem nextF_fr {X : Nat × (Nat → Nat)} {p : Nat} (h : p ≤ X.1) : p ≤ (nextF X p).2.1 := by
  show p ≤ (nextK X (skip X p)).2.1
  rw [(nextK_to (skip_le h)).1]
  exact skip_ge
theorem tkG.le {X : Nat × (Nat → Nat)} {K : Nat × Nat × Nat} (h : tkG X K) : K.2.1 ≤ K.2.2 := h.1.1
theorem tkG.nx {X : Nat × (Nat → Nat)} {K : Nat × Nat × Nat} (h : tkG X K) : tkG X (nextF X K.2.2) := nextF_g h.1.2.1
theorem tkG.fr {X : Nat × (Nat → Nat)} {K : Nat × Nat × Nat} (h : tkG X K) : K.2.1 ≤ (nextF X K.2.2).2.1 := Nat.le_trans h.1.1 (nextF_fr h.1.2.1)
theorem tkG.lt {X : Nat × (Nat → Nat)} {K : Nat × Nat × Nat} (h : tkG X K) (h0 : K.1 ≠ 0) : K.2.1 < (nextF X K.2.2).2.1 := Nat.lt_of_lt_of_le (h.1.2.2.1 h0) (nextF_fr h.1.2.1)
/-- what every description is, while it is read -/
def dG (D : mD) : Prop := dOK D ∧ D.1 ≤ 32 ∧ ∀ s, s < D.2.1 → 1 ≤ mSetB D s ∧ mSetB D s ≤ 6
def oG (D : mD) (o : Nat) : Prop := mOpds D o ≤ 6 ∧ ∀ k, k < mOpds D o → ∃ b, 1 ≤ b ∧ b ≤ 32 ∧ mBits D (6 * o + k) = nI b
abbrev mOpN (D : mD) : Nat → Nat := D.2.2.2.2.2.2.1
/-- only op o changed -/
def opFr (o : Nat) (D D' : mD) : Prop := (D'.1 = D.1 ∧ D'.2.1 = D.2.1 ∧ D'.2.2.1 = D.2.2.1 ∧ D'.2.2.2.1 = D.2.2.2.1 ∧ mSetN D' = mSetN D ∧ mSetB D' = mSetB D ∧ mOpN D' = mOpN D) ∧ (∀ j, j ≠ o → mOpds D' j = mOpds D j) ∧ (∀ q, q < 6 * o → mKind D' q = mKind D q ∧ mBits D' q = mBits D q ∧ mSetOf D' q = mSetOf D q) ∧ (∀ q, q < 32 * o → mWhat D' q = mWhat D q)
theorem opFr.rfl {o : Nat} {D : mD} : opFr o D D := ⟨⟨Eq.refl _, Eq.refl _, Eq.refl _, Eq.refl _, Eq.refl _, Eq.refl _, Eq.refl _⟩, fun _ _ => Eq.refl _, fun _ _ => ⟨Eq.refl _, Eq.refl _, Eq.refl _⟩, fun _ _ => Eq.refl _⟩
theorem opFr.trans {o : Nat} {D D' D'' : mD} (h : opFr o D D') (k : opFr o D' D'') : opFr o D D'' := by
  obtain ⟨⟨a1, a2, a3, a4, a5, a6, a7⟩, a8, a9, a10⟩ := h
  obtain ⟨⟨b1, b2, b3, b4, b5, b6, b7⟩, b8, b9, b10⟩ := k
  exact ⟨⟨b1.trans a1, b2.trans a2, b3.trans a3, b4.trans a4, b5.trans a5, b6.trans a6, b7.trans a7⟩, fun j hj => (b8 j hj).trans (a8 j hj), fun q hq => ⟨(b9 q hq).1.trans (a9 q hq).1, (b9 q hq).2.1.trans (a9 q hq).2.1, (b9 q hq).2.2.trans (a9 q hq).2.2⟩, fun q hq => (b10 q hq).trans (a10 q hq)⟩
theorem opFr.O {o : Nat} {D : mD} {f : Nat → Nat} : opFr o D (mdO D f) := ⟨⟨Eq.refl _, Eq.refl _, Eq.refl _, Eq.refl _, Eq.refl _, Eq.refl _, Eq.refl _⟩, fun _ _ => Eq.refl _, fun _ _ => ⟨Eq.refl _, Eq.refl _, Eq.refl _⟩, fun _ _ => Eq.refl _⟩
theorem opFr.A {o x : Nat} {D : mD} : opFr o D (mdA D (va_up (mOpds D) o x)) := ⟨⟨Eq.refl _, Eq.refl _, Eq.refl _, Eq.refl _, Eq.refl _, Eq.refl _, Eq.refl _⟩, fun j hj => va_up_ne _ _ hj, fun _ _ => ⟨Eq.refl _, Eq.refl _, Eq.refl _⟩, fun _ _ => Eq.refl _⟩
theorem opFr.K {o p x : Nat} {D : mD} (h : 6 * o ≤ p) : opFr o D (mdK D (va_up (mKind D) p x)) := ⟨⟨Eq.refl _, Eq.refl _, Eq.refl _, Eq.refl _, Eq.refl _, Eq.refl _, Eq.refl _⟩, fun _ _ => Eq.refl _, fun q hq => ⟨va_up_ne _ _ (by omega), Eq.refl _, Eq.refl _⟩, fun _ _ => Eq.refl _⟩
theorem opFr.B {o p : Nat} {x : Int32} {D : mD} (h : 6 * o ≤ p) : opFr o D (mdB D (va_up (mBits D) p x)) := ⟨⟨Eq.refl _, Eq.refl _, Eq.refl _, Eq.refl _, Eq.refl _, Eq.refl _, Eq.refl _⟩, fun _ _ => Eq.refl _, fun q hq => ⟨Eq.refl _, va_up_ne _ _ (by omega), Eq.refl _⟩, fun _ _ => Eq.refl _⟩
theorem opFr.S {o p : Nat} {x : Int32} {D : mD} (h : 6 * o ≤ p) : opFr o D (mdS D (va_up (mSetOf D) p x)) := ⟨⟨Eq.refl _, Eq.refl _, Eq.refl _, Eq.refl _, Eq.refl _, Eq.refl _, Eq.refl _⟩, fun _ _ => Eq.refl _, fun q hq => ⟨Eq.refl _, Eq.refl _, va_up_ne _ _ (by omega)⟩, fun _ _ => Eq.refl _⟩
theorem opFr.W {o : Nat} {f : Nat → Int32} {D : mD} (h : ∀ q, q < 32 * o → f q = mWhat D q) : opFr o D (mdW D f) := ⟨⟨Eq.refl _, Eq.refl _, Eq.refl _, Eq.refl _, Eq.refl _, Eq.refl _, Eq.refl _⟩, fun _ _ => Eq.refl _, fun q hq => ⟨Eq.refl _, Eq.refl _, Eq.refl _⟩, h⟩
theorem tkL_lt {X : Nat × (Nat → Nat)} (hX : ∀ k, X.2 k < 256) (K : Nat × Nat × Nat) (k : Nat) : tkL X K k < 256 := by
  unfold tkL
  split
  · exact hX _
  · omega
theorem keepF_lt {X : Nat × (Nat → Nat)} (hX : ∀ k, X.2 k < 256) {K : Nat × Nat × Nat} {nm : Nat → Nat} (h : ∀ k, nm k < 256) (j n : Nat) : ∀ k, keepF X K nm j n k < 256 := by
  induction n with
  | zero => exact h
  | succ n ih =>
    intro k
    show va_up (keepF X K nm j n) (12 * j + n) (tkL X K n) k < 256
    by_cases e : k = 12 * j + n
    · subst e; rw [va_up_self]; exact tkL_lt hX K n
    · rw [va_up_ne _ _ e]; exact ih k
theorem keepF_ne {X : Nat × (Nat → Nat)} {K : Nat × Nat × Nat} {nm : Nat → Nat} (j n q : Nat) (h : q < 12 * j ∨ 12 * j + n ≤ q) : keepF X K nm j n q = nm q := by
  induction n with
  | zero => rfl
  | succ n ih =>
    show va_up (keepF X K nm j n) (12 * j + n) (tkL X K n) q = _
    rw [va_up_ne _ _ (by omega), ih (by omega)]
theorem keepF_at {X : Nat × (Nat → Nat)} {K : Nat × Nat × Nat} {nm : Nat → Nat} (j n k : Nat) (h : k < n) : keepF X K nm j n (12 * j + k) = tkL X K k := by
  induction n with
  | zero => omega
  | succ n ih =>
    show va_up (keepF X K nm j n) (12 * j + n) (tkL X K n) (12 * j + k) = _
    by_cases e : k = n
    · subst e; rw [va_up_self]
    · rw [va_up_ne _ _ (by omega), ih (by omega)]
/-- the outcome of a part -/
def rG (X : Nat × (Nat → Nat)) (K : Nat × Nat × Nat) (D : mD) (o : Nat) (r : mR) : Prop := tkG X r.2.1 ∧ K.2.1 ≤ r.2.1.2.1 ∧ dG r.2.2 ∧ opFr o D r.2.2 ∧ mOpds r.2.2 o ≤ 6 ∧ (r.1 = none → oG r.2.2 o)
theorem opd9_G {X : Nat × (Nat → Nat)} {K : Nat × Nat × Nat} {D : mD} {o b : Nat} (hG : tkG X K) (hD : dG D) (hO : oG D o) (h6 : mOpds D o < 6) (hb : mBits D (6 * o + mOpds D o) = nI b) (h1 : 1 ≤ b) (h2 : b ≤ 32) : rG X K D o (opd9 X K D o) := by
  have e : va_up (mOpds D) o (mOpds D o + 1) o = mOpds D o + 1 := va_up_self _ _ _
  refine ⟨hG.nx, hG.fr, hD, opFr.A, ?_, fun _ => ⟨?_, fun k hk => ?_⟩⟩
  · show va_up (mOpds D) o (mOpds D o + 1) o ≤ 6; rw [e]; omega
  · show va_up (mOpds D) o (mOpds D o + 1) o ≤ 6; rw [e]; omega
  · have hk : k < va_up (mOpds D) o (mOpds D o + 1) o := hk
    rw [e] at hk
    by_cases q : k = mOpds D o
    · subst q; exact ⟨b, h1, h2, hb⟩
    · exact hO.2 k (by omega)
theorem oG_B {D : mD} {o : Nat} {x : Int32} (h : oG D o) : oG (mdB D (va_up (mBits D) (6 * o + mOpds D o) x)) o := by
  refine ⟨h.1, fun k hk => ?_⟩
  obtain ⟨b, h1, h2, h3⟩ := h.2 k hk
  have hk : k < mOpds D o := hk
  exact ⟨b, h1, h2, (va_up_ne _ _ (by omega)).trans h3⟩
theorem rG.of {X : Nat × (Nat → Nat)} {K K' : Nat × Nat × Nat} {D D' : mD} {o : Nat} {r : mR} (h : rG X K' D' o r) (hk : K.2.1 ≤ K'.2.1) (hf : opFr o D D') : rG X K D o r := ⟨h.1, Nat.le_trans hk h.2.1, h.2.2.1, hf.trans h.2.2.2.1, h.2.2.2.2⟩
theorem rG.bad {X : Nat × (Nat → Nat)} {K : Nat × Nat × Nat} {D D' : mD} {o p : Nat} (hG : tkG X K) (hD : dG D') (hO : mOpds D' o ≤ 6) (hf : opFr o D D') : rG X K D o (some p, K, D') := ⟨hG, Nat.le_refl _, hD, hf, hO, fun h => nomatch h⟩
theorem opd5_G {X : Nat × (Nat → Nat)} {K : Nat × Nat × Nat} {D : mD} {o : Nat} (hG : tkG X K) (hD : dG D) (hO : oG D o) (h6 : mOpds D o < 6) : rG X K D o (opd5 X K D o (6 * o + mOpds D o)) := by
  unfold opd5
  split
  · split
    · rename_i h1 h2
      exact rG.of (D' := mdB D (va_up (mBits D) (6 * o + mOpds D o) (nI (decF X K.2.2 K.2.1 0)))) (opd9_G (b := decF X K.2.2 K.2.1 0) hG hD (oG_B hO) h6 (va_up_self _ _ _) h2.1 (Nat.le_trans h2.2 hD.2.1)) (Nat.le_refl _) (opFr.B (Nat.le_add_right _ _))
    · exact rG.bad hG hD hO.1 (opFr.B (Nat.le_add_right _ _))
  · exact rG.bad hG hD hO.1 (opFr.B (Nat.le_add_right _ _))
theorem opd4_G {X : Nat × (Nat → Nat)} {K : Nat × Nat × Nat} {D : mD} {o : Nat} (hG : tkG X K) (hD : dG D) (hO : oG D o) (h6 : mOpds D o < 6) : rG X K D o (opd4 X K D o (6 * o + mOpds D o)) := by
  unfold opd4
  split
  · exact rG.bad hG hD hO.1 (opFr.S (Nat.le_add_right _ _))
  · rename_i h1
    have h2 : soF X K D < D.2.1 := by
      unfold soF at h1 ⊢
      split
      · rename_i h3; rw [if_pos h3] at h1; exact absurd rfl h1
      · rename_i h3
        rw [if_neg h3] at h1
        rcases findF_lt (X := X) (K := K) (nm := mSetN D) (m := D.2.1) (j := 0) with h4 | h4
        · exact absurd h4 h1
        · exact h4
    have h3 := hD.2.2 _ h2
    have h5 : oG (mdS D (va_up (mSetOf D) (6 * o + mOpds D o) (lI (soF X K D)))) o := hO
    exact rG.of (D' := mdB (mdS D (va_up (mSetOf D) (6 * o + mOpds D o) (lI (soF X K D)))) (va_up (mBits D) (6 * o + mOpds D o) (nI (mSetB D (soF X K D))))) (opd9_G (b := mSetB D (soF X K D)) hG hD (oG_B h5) h6 (va_up_self _ _ _) h3.1 (by omega)) (Nat.le_refl _) (opFr.trans (D' := mdS D (va_up (mSetOf D) (6 * o + mOpds D o) (lI (soF X K D)))) (opFr.S (Nat.le_add_right _ _)) (opFr.B (Nat.le_add_right _ _)))
theorem opd3_G {X : Nat × (Nat → Nat)} {K : Nat × Nat × Nat} {D : mD} {o : Nat} (hG : tkG X K) (hD : dG D) (hO : oG D o) (h6 : mOpds D o < 6) : rG X K D o (opd3 X K D o (6 * o + mOpds D o)) := by
  unfold opd3
  split
  · split
    · exact rG.of (D' := mdK D (va_up (mKind D) (6 * o + mOpds D o) (kdF X K))) (opd4_G hG hD hO h6) (Nat.le_refl _) (opFr.K (Nat.le_add_right _ _))
    · exact rG.of (D' := mdK D (va_up (mKind D) (6 * o + mOpds D o) (kdF X K))) (opd5_G hG.nx hD hO h6) hG.fr (opFr.K (Nat.le_add_right _ _))
  · exact rG.bad hG hD hO.1 opFr.rfl
theorem opd2_G {X : Nat × (Nat → Nat)} {K : Nat × Nat × Nat} {D : mD} {o : Nat} (hG : tkG X K) (hD : dG D) (hO : oG D o) (h6 : mOpds D o < 6) : rG X K D o (opd2 X K D o (6 * o + mOpds D o)) := by
  unfold opd2
  split
  · exact (opd3_G hG.nx hD hO h6).of hG.fr opFr.rfl
  · exact rG.bad hG hD hO.1 opFr.rfl
theorem dG_O {X : Nat × (Nat → Nat)} (hX : ∀ k, X.2 k < 256) {K : Nat × Nat × Nat} {D : mD} {j : Nat} (hD : dG D) : dG (mdO D (keepF X K (mOpdN D) j 12)) := by
  obtain ⟨⟨d1, d2, d3, d4, d5⟩, d6, d7⟩ := hD
  exact ⟨⟨d1, d2, d3, d4, keepF_lt hX d5 _ _⟩, d6, d7⟩
theorem opdF_G {X : Nat × (Nat → Nat)} (hX : ∀ k, X.2 k < 256) {K : Nat × Nat × Nat} {D : mD} {o : Nat} (hG : tkG X K) (hD : dG D) (hO : oG D o) : rG X K D o (opdF X K D o) ∧ ((opdF X K D o).1 = none → K.2.1 < (opdF X K D o).2.1.2.1) := by
  unfold opdF
  split
  · rename_i h
    have h0 : K.1 = 1 := by
      have := h.1
      simp [isNameF] at this
      exact this.1
    have h1 := opd2_G (K := nextF X K.2.2) (D := mdO D (keepF X K (mOpdN D) (mOpds D o) 12)) (o := o) hG.nx (dG_O hX hD) hO (by have := hO.1; have := h.2.1; show mOpds D o < 6; omega)
    exact ⟨h1.of hG.fr opFr.O, fun _ => Nat.lt_of_lt_of_le (hG.lt (by omega)) h1.2.1⟩
  · exact ⟨rG.bad hG hD hO.1 opFr.rfl, fun h => nomatch h⟩
/-- the outcome of a field -/
def fG (X : Nat × (Nat → Nat)) (K : Nat × Nat × Nat) (D : mD) (o n : Nat) (r : mF) : Prop := tkG X r.2.1 ∧ K.2.1 ≤ r.2.1.2.1 ∧ (∃ f, r.2.2.1 = mdW D f ∧ ∀ q, q < 32 * o → f q = mWhat D q) ∧ (r.1 = none → r.2.2.2 ≤ D.1)
theorem fG.bad {X : Nat × (Nat → Nat)} {K : Nat × Nat × Nat} {D : mD} {o n p : Nat} (hG : tkG X K) : fG X K D o n (some p, K, D, n) := ⟨hG, Nat.le_refl _, ⟨mWhat D, rfl, fun _ _ => rfl⟩, fun h => nomatch h⟩
theorem fG.of {X : Nat × (Nat → Nat)} {K K' : Nat × Nat × Nat} {D : mD} {o n : Nat} {r : mF} (h : fG X K' D o n r) (hk : K.2.1 ≤ K'.2.1) : fG X K D o n r := ⟨h.1, Nat.le_trans hk h.2.1, h.2.2⟩
theorem fldL_G {X : Nat × (Nat → Nat)} {a : Nat} {K : Nat × Nat × Nat} {o n k lo : Nat} (hG : tkG X K) : ∀ (c : Nat) (D : mD) (m : Nat), m + c ≤ D.1 → fG X K D o n (fldL a K o n k lo c D m) := by
  intro c
  induction c with
  | zero => intro D m h; exact ⟨hG, Nat.le_refl _, ⟨mWhat D, rfl, fun _ _ => rfl⟩, fun _ => h⟩
  | succ c ih =>
    intro D m h
    rw [fldL]
    split
    · exact ⟨hG, Nat.le_refl _, ⟨mWhat D, rfl, fun _ _ => rfl⟩, fun h => nomatch h⟩
    · obtain ⟨h1, h2, ⟨f, h3, h4⟩, h5⟩ := ih (mdW D (va_up (mWhat D) (32 * o + m) (nI (32 * k + (lo + c))))) (m + 1) (by show m + 1 + c ≤ D.1; omega)
      exact ⟨h1, h2, ⟨f, h3, fun q hq => (h4 q hq).trans (va_up_ne _ _ (by omega))⟩, h5⟩
theorem fld9_G {X : Nat × (Nat → Nat)} {a : Nat} {K : Nat × Nat × Nat} {D : mD} {o n k h lo : Nat} (hG : tkG X K) (hl : lo ≤ h) : fG X K D o n (fld9 a K D o n k h lo) := by
  unfold fld9
  split
  · exact fldL_G hG _ _ _ (by omega)
  · exact fG.bad hG
theorem fld6_G {X : Nat × (Nat → Nat)} {a : Nat} {K : Nat × Nat × Nat} {D : mD} {o n k h lo : Nat} (hG : tkG X K) (hl : lo ≤ h) : fG X K D o n (fld6 X a K D o n k h lo) := by
  unfold fld6
  split
  · exact (fld9_G hG.nx hl).of hG.fr
  · exact fG.bad hG
theorem fld5_G {X : Nat × (Nat → Nat)} {a : Nat} {K : Nat × Nat × Nat} {D : mD} {o n k h : Nat} (hG : tkG X K) : fG X K D o n (fld5 X a K D o n k h) := by
  unfold fld5
  split
  · split
    · rename_i h1 h2; exact (fld6_G hG.nx h2).of hG.fr
    · exact fG.bad hG
  · exact fG.bad hG
theorem fld4_G {X : Nat × (Nat → Nat)} {a : Nat} {K : Nat × Nat × Nat} {D : mD} {o n k h : Nat} (hG : tkG X K) : fG X K D o n (fld4 X a K D o n k h) := by
  unfold fld4
  split
  · exact (fld5_G hG.nx).of hG.fr
  · exact fG.bad hG
theorem fld3_G {X : Nat × (Nat → Nat)} {a : Nat} {K : Nat × Nat × Nat} {D : mD} {o n k : Nat} (hG : tkG X K) : fG X K D o n (fld3 X a K D o n k) := by
  unfold fld3
  split
  · split
    · exact (fld4_G hG.nx).of hG.fr
    · exact fG.bad hG
  · exact fG.bad hG
theorem fld2_G {X : Nat × (Nat → Nat)} {a : Nat} {K : Nat × Nat × Nat} {D : mD} {o n k : Nat} (hG : tkG X K) : fG X K D o n (fld2 X a K D o n k) := by
  unfold fld2
  split
  · exact (fld3_G hG.nx).of hG.fr
  · exact fld9_G hG (Nat.zero_le _)
theorem fixW_ne {X : Nat × (Nat → Nat)} {b : Nat} : ∀ (c a j : Nat) (wt : Nat → Int32), b - a = c → ∀ q, (q < j ∨ j + (b - a) ≤ q) → fixW X wt b a j q = wt q := by
  intro c
  induction c with
  | zero => intro a j wt h q hq; rw [fixW, if_neg (by omega)]
  | succ c ih =>
    intro a j wt h q hq
    rw [fixW, if_pos (by omega), ih (a + 1) (j + 1) _ (by omega) q (by omega)]
    exact va_up_ne _ _ (by omega)
theorem fldF_G0 {X : Nat × (Nat → Nat)} {K : Nat × Nat × Nat} {D : mD} {o n : Nat} (hG : tkG X K) {r : mF} (hr : fldF X K D o n = r) : fG X K D o n r ∧ (r.1 = none → K.2.1 < r.2.1.2.1) := by
  unfold fldF at hr
  split at hr
  · rename_i h0
    split at hr
    · split at hr
      · rename_i h1 h2
        subst hr
        exact ⟨⟨hG.nx, hG.fr, ⟨_, rfl, fun q hq => fixW_ne _ _ _ _ rfl q (by omega)⟩, fun _ => by show n + (K.2.2 - K.2.1) ≤ D.1; have := hG.le; omega⟩, fun _ => hG.lt (by omega)⟩
      · subst hr; exact ⟨fG.bad hG, fun h => nomatch h⟩
    · subst hr; exact ⟨fG.bad hG, fun h => nomatch h⟩
  · by_cases e : isNameF X K = true
    · rw [if_pos e] at hr
      have h0 : K.1 = 1 := by
        simp [isNameF] at e
        exact e.1
      unfold fld1 at hr
      split at hr
      · subst hr; exact ⟨fG.bad hG, fun h => nomatch h⟩
      · have h3 := fld2_G (a := K.2.1) (D := D) (o := o) (n := n) (k := findF X K (mOpdN D) (mOpds D o) 0) hG.nx
        rw [hr] at h3
        exact ⟨h3.of hG.fr, fun _ => Nat.lt_of_lt_of_le (hG.lt (by omega)) h3.2.1⟩
    · rw [if_neg e] at hr
      unfold fld1 at hr
      rw [if_pos rfl] at hr
      subst hr; exact ⟨fG.bad hG, fun h => nomatch h⟩
theorem fldF_G {X : Nat × (Nat → Nat)} {K : Nat × Nat × Nat} {D : mD} {o n : Nat} (hG : tkG X K) : fG X K D o n (fldF X K D o n) ∧ ((fldF X K D o n).1 = none → K.2.1 < (fldF X K D o n).2.1.2.1) := fldF_G0 hG rfl
theorem fG.oG {X : Nat × (Nat → Nat)} {K : Nat × Nat × Nat} {D : mD} {o n : Nat} {r : mF} (h : fG X K D o n r) (hD : dG D) (hO : oG D o) : dG r.2.2.1 ∧ oG r.2.2.1 o ∧ opFr o D r.2.2.1 ∧ r.2.2.1.1 = D.1 := by
  obtain ⟨f, h1, h2⟩ := h.2.2.1
  rw [h1]
  exact ⟨hD, hO, opFr.W h2, rfl⟩
/-! op() -/
def allF (f : Nat → Bool) (n k : Nat) : Bool := if k < n then f k && allF f n (k + 1) else true
termination_by n - k
def anyF (f : Nat → Bool) (n k : Nat) : Bool := if k < n then f k || anyF f n (k + 1) else false
termination_by n - k
theorem allF_iff {f : Nat → Bool} {n k : Nat} : allF f n k = true ↔ ∀ j, k ≤ j → j < n → f j = true := by
  induction hm : n - k generalizing k with
  | zero => rw [allF, if_neg (by omega)]; exact ⟨fun _ j h1 h2 => absurd h2 (by omega), fun _ => rfl⟩
  | succ d ih =>
    rw [allF, if_pos (by omega), Bool.and_eq_true, ih (by omega)]
    constructor
    · rintro ⟨h1, h2⟩ j h3 h4
      by_cases e : j = k
      · subst e; exact h1
      · exact h2 j (by omega) h4
    · intro h
      exact ⟨h k (Nat.le_refl _) (by omega), fun j h3 h4 => h j (by omega) h4⟩
theorem anyF_iff {f : Nat → Bool} {n k : Nat} : anyF f n k = true ↔ ∃ j, k ≤ j ∧ j < n ∧ f j = true := by
  induction hm : n - k generalizing k with
  | zero => rw [anyF, if_neg (by omega)]; exact ⟨fun h => (nomatch h), fun ⟨j, h1, h2, _⟩ => absurd h2 (by omega)⟩
  | succ d ih =>
    rw [anyF, if_pos (by omega), Bool.or_eq_true, ih (by omega)]
    constructor
    · rintro (h1 | ⟨j, h1, h2, h3⟩)
      · exact ⟨k, Nat.le_refl _, by omega, h1⟩
      · exact ⟨j, by omega, h2, h3⟩
    · rintro ⟨j, h1, h2, h3⟩
      by_cases e : j = k
      · subst e; exact Or.inl h3
      · exact Or.inr ⟨j, by omega, h2, h3⟩
def mB (r : mR) (f : Nat × Nat × Nat → mD → mR) : mR := if r.1 = none then f r.2.1 r.2.2 else r
/-- the operands behind the first -/
def opsL (X : Nat × (Nat → Nat)) (o : Nat) : Nat → Nat × Nat × Nat → mD → mR
  | 0, K, D => (none, K, D)
  | f + 1, K, D => if isSignF X K 44 = true then mB (opdF X (nextF X K.2.2) D o) (opsL X o f) else (none, K, D)
/-- the fields -/
def flsL (X : Nat × (Nat → Nat)) (o : Nat) : Nat → Nat × Nat × Nat → mD → Nat → mF
  | 0, K, D, n => (none, K, D, n)
  | f + 1, K, D, n => if (fldF X K D o n).1 = none then if isSignF X (fldF X K D o n).2.1 59 = true then fldF X K D o n else flsL X o f (fldF X K D o n).2.1 (fldF X K D o n).2.2.1 (fldF X K D o n).2.2.2 else fldF X K D o n
def apF (wt : Nat → Int32) (o j k : Nat) : Bool := decide (wt (32 * o + k) < 0) && (decide (wt (32 * j + k) < 0) && decide (wt (32 * o + k) ≠ wt (32 * j + k)))
/-- every bit of every operand stands -/
def stAll (D : mD) (o n : Nat) : Bool := allF (fun k => allF (fun b => standsF (mWhat D) o n (32 * k + b) 0) (bitsN D (6 * o + k)) 0) (mOpds D o) 0
def apAll (D : mD) (o : Nat) : Bool := allF (fun j => anyF (apF (mWhat D) o j) D.1 0) o 0
def op9 (X : Nat × (Nat → Nat)) (at9 : Nat) (K : Nat × Nat × Nat) (D : mD) (o n : Nat) : mR :=
  if n < D.1 then (some K.2.1, K, D)
  else if stAll D o n = true then if apAll D o = true then (none, nextF X K.2.2, (D.1, D.2.1, D.2.2.1 + 1, D.2.2.2)) else (some at9, K, D)
  else (some K.2.1, K, D)
def op8 (X : Nat × (Nat → Nat)) (at9 o : Nat) (r : mF) : mR := if r.1 = none then op9 X at9 r.2.1 r.2.2.1 o r.2.2.2 else (r.1, r.2.1, r.2.2.1)
def op7 (X : Nat × (Nat → Nat)) (at9 o : Nat) (K : Nat × Nat × Nat) (D : mD) : mR := if isSignF X K 61 = true then op8 X at9 o (flsL X o (X.1 + 1) (nextF X K.2.2) D 0) else (some K.2.1, K, D)
def op4 (X : Nat × (Nat → Nat)) (at9 o : Nat) (K : Nat × Nat × Nat) (D : mD) : mR := if isNameF X K = true then mB (mB (opdF X K D o) (opsL X o (X.1 + 1))) (op7 X at9 o) else op7 X at9 o K D
def mdP (D : mD) (f : Nat → Nat) : mD := (D.1, D.2.1, D.2.2.1, D.2.2.2.1, D.2.2.2.2.1, D.2.2.2.2.2.1, f, D.2.2.2.2.2.2.2)
def op1 (X : Nat × (Nat → Nat)) (K : Nat × Nat × Nat) (D : mD) : mR := if isNameF X K = true ∧ findF X K (mOpN D) D.2.2.1 0 = 1000 then op4 X K.2.1 D.2.2.1 (nextF X K.2.2) (mdA (mdP D (keepF X K (mOpN D) D.2.2.1 12)) (va_up (mOpds D) D.2.2.1 0)) else (some K.2.1, K, D)
/-- op() -/
def opF (X : Nat × (Nat → Nat)) (K : Nat × Nat × Nat) (D : mD) : mR := if D.2.2.1 = 60 then (some K.2.1, K, D) else op1 X (nextF X K.2.2) D
theorem bI_or0 (b : Bool) : bI b ||| 0 = bI b := by cases b <;> decide
theorem bI_or1 (b : Bool) : bI b ||| 1 = bI true := by cases b <;> decide
theorem mB_n {K : Nat × Nat × Nat} {D : mD} {f : Nat × Nat × Nat → mD → mR} : mB (none, K, D) f = f K D := if_pos rfl
theorem mB_s {p : Nat} {K : Nat × Nat × Nat} {D : mD} {f : Nat × Nat × Nat → mD → mR} : mB (some p, K, D) f = (some p, K, D) := if_neg (fun h => nomatch h)
theorem mB_e {r : mR} {f : Nat × Nat × Nat → mD → mR} (h : r.1 ≠ none) : mB r f = r := if_neg h
theorem isN_f {x : Option Nat} (h : bI x.isNone = 0) : x ≠ none := by
  intro z
  rw [z] at h
  exact absurd h (by decide)
theorem isN_t {x : Option Nat} (h : ¬ bI x.isNone = 0) : x = none := by
  cases x with
  | none => rfl
  | some x => exact absurd rfl h
theorem mR_e {er : Nat} {F X : Nat × (Nat → Nat)} {P : mP} {gv : Nat → Int64} {O : Nat × (Nat → Nat)} {T : jMem} {q r : mR} (h : q = r) (hn : r.1 ≠ none) : (.inl (some (.int (bI q.1.isNone)), encM er F X q.2.1 (wrI q.1) q.2.2 P gv O T) : jO) = .inl (some (.int (nI 0)), encM er F X r.2.1 (wrI r.1) r.2.2 P gv O T) := by
  rw [h]
  cases e : r.1 with
  | none => exact absurd e hn
  | some x => rfl
