/-! where a text is wrong lies in it -/
def pLe (X : Nat × (Nat → Nat)) (x : Option Nat) : Prop := ∀ p, x = some p → p ≤ X.1
theorem pLe.n {X : Nat × (Nat → Nat)} : pLe X none := fun _ h => nomatch h
theorem pLe.s {X : Nat × (Nat → Nat)} {a : Nat} (h : a ≤ X.1) : pLe X (some a) := fun p hp => by cases hp; exact h
theorem tkG.lx {X : Nat × (Nat → Nat)} {K : Nat × Nat × Nat} (h : tkG X K) : K.2.1 ≤ X.1 := Nat.le_trans h.1.1 h.1.2.1
section PLE
variable {X : Nat × (Nat → Nat)} {K : Nat × Nat × Nat} {D : mD} {o n k h lo a : Nat}
theorem set3_p (hG : tkG X K) : pLe X (set3 X K D).1 := by
  unfold set3; split
  · exact pLe.n
  · exact pLe.s hG.lx
theorem set2_p (hG : tkG X K) : pLe X (set2 X K D).1 := by
  unfold set2; split
  · split
    · exact set3_p hG.nx
    · exact pLe.s hG.lx
  · exact pLe.s hG.lx
theorem set1_p (hG : tkG X K) : pLe X (set1 X K D).1 := by
  unfold set1; split
  · exact set2_p hG.nx
  · exact pLe.s hG.lx
theorem setF_p (hG : tkG X K) : pLe X (setF X K D).1 := by
  unfold setF; split
  · exact pLe.s hG.lx
  · exact set1_p hG.nx
theorem opd5_p (hG : tkG X K) : pLe X (opd5 X K D o n).1 := by
  unfold opd5; split
  · split
    · exact pLe.n
    · exact pLe.s hG.lx
  · exact pLe.s hG.lx
theorem opd4_p (hG : tkG X K) : pLe X (opd4 X K D o n).1 := by
  unfold opd4; split
  · exact pLe.s hG.lx
  · exact pLe.n
theorem opd3_p (hG : tkG X K) : pLe X (opd3 X K D o n).1 := by
  unfold opd3; split
  · split
    · exact opd4_p hG
    · exact opd5_p hG.nx
  · exact pLe.s hG.lx
theorem opd2_p (hG : tkG X K) : pLe X (opd2 X K D o n).1 := by
  unfold opd2; split
  · exact opd3_p hG.nx
  · exact pLe.s hG.lx
theorem opdF_p (hG : tkG X K) : pLe X (opdF X K D o).1 := by
  unfold opdF; split
  · exact opd2_p hG.nx
  · exact pLe.s hG.lx
theorem fldL_p (ha : a ≤ X.1) : ∀ (c : Nat) (D : mD) (m : Nat), pLe X (fldL a K o n k lo c D m).1 := by
  intro c
  induction c with
  | zero => intro D m; exact pLe.n
  | succ c ih =>
    intro D m
    rw [fldL]; split
    · exact pLe.s ha
    · exact ih _ _
theorem fld9_p (ha : a ≤ X.1) : pLe X (fld9 a K D o n k h lo).1 := by
  unfold fld9; split
  · exact fldL_p ha _ _ _
  · exact pLe.s ha
theorem fld6_p (hG : tkG X K) (ha : a ≤ X.1) : pLe X (fld6 X a K D o n k h lo).1 := by
  unfold fld6; split
  · exact fld9_p ha
  · exact pLe.s hG.lx
theorem fld5_p (hG : tkG X K) (ha : a ≤ X.1) : pLe X (fld5 X a K D o n k h).1 := by
  unfold fld5; split
  · split
    · exact fld6_p hG.nx ha
    · exact pLe.s hG.lx
  · exact pLe.s hG.lx
theorem fld4_p (hG : tkG X K) (ha : a ≤ X.1) : pLe X (fld4 X a K D o n k h).1 := by
  unfold fld4; split
  · exact fld5_p hG.nx ha
  · exact pLe.s hG.lx
theorem fld3_p (hG : tkG X K) (ha : a ≤ X.1) : pLe X (fld3 X a K D o n k).1 := by
  unfold fld3; split
  · split
    · exact fld4_p hG.nx ha
    · exact pLe.s hG.lx
  · exact pLe.s hG.lx
theorem fld2_p (hG : tkG X K) (ha : a ≤ X.1) : pLe X (fld2 X a K D o n k).1 := by
  unfold fld2; split
  · exact fld3_p hG.nx ha
  · exact fld9_p ha
theorem fldF_p (hG : tkG X K) : pLe X (fldF X K D o n).1 := by
  unfold fldF; split
  · split
    · split
      · exact pLe.n
      · exact pLe.s hG.lx
    · exact pLe.s hG.lx
  · unfold fld1
    generalize (if isNameF X K = true then findF X K (mOpdN D) (mOpds D o) 0 else 1000) = k
    split
    · exact pLe.s hG.lx
    · exact fld2_p hG.nx hG.lx
theorem flsL_p : ∀ (f : Nat) (K : Nat × Nat × Nat) (D : mD) (n : Nat), tkG X K → pLe X (flsL X o f K D n).1 := by
  intro f
  induction f with
  | zero => intro K D n _; exact pLe.n
  | succ f ih =>
    intro K D n hG
    rw [flsL]
    split
    · split
      · exact fldF_p hG
      · exact ih _ _ _ (fldF_G hG).1.1
    · exact fldF_p hG
theorem op9_p (hG : tkG X K) (ha : a ≤ X.1) : pLe X (op9 X a K D o n).1 := by
  unfold op9; split
  · exact pLe.s hG.lx
  · split
    · split
      · exact pLe.n
      · exact pLe.s ha
    · exact pLe.s hG.lx
theorem op7_p (hG : tkG X K) (ha : a ≤ X.1) : pLe X (op7 X a o K D).1 := by
  unfold op7; split
  · unfold op8; split
    · exact op9_p (flsL_G _ _ _ _ hG.nx (Nat.zero_le _)).1 ha
    · exact flsL_p _ _ _ _ hG.nx
  · exact pLe.s hG.lx
theorem opsL_p (hX : ∀ k, X.2 k < 256) : ∀ (f : Nat) (K : Nat × Nat × Nat) (D : mD), tkG X K → dG D → oG D o → pLe X (opsL X o f K D).1 := by
  intro f
  induction f with
  | zero => intro K D _ _ _; exact pLe.n
  | succ f ih =>
    intro K D hG hD hO
    rw [opsL]
    split
    · have g := (opdF_G hX hG.nx hD hO).1
      unfold mB; split
      · rename_i h1
        exact ih _ _ g.1 g.2.2.1 (g.2.2.2.2.2 h1)
      · exact opdF_p hG.nx
    · exact pLe.n
theorem op4_p (hX : ∀ k, X.2 k < 256) (hG : tkG X K) (hD : dG D) (hO : oG D o) (ha : a ≤ X.1) : pLe X (op4 X a o K D).1 := by
  unfold op4; split
  · have g := (opdF_G hX hG hD hO).1
    have h2 : tkG X (mB (opdF X K D o) (opsL X o (X.1 + 1))).2.1 ∧ pLe X (mB (opdF X K D o) (opsL X o (X.1 + 1))).1 := by
      unfold mB; split
      · rename_i h1
        exact ⟨(opsL_G hX _ _ _ g.1 g.2.2.1 (g.2.2.2.2.2 h1)).1, opsL_p hX _ _ _ g.1 g.2.2.1 (g.2.2.2.2.2 h1)⟩
      · exact ⟨g.1, opdF_p hG⟩
    generalize mB (opdF X K D o) (opsL X o (X.1 + 1)) = r at h2
    unfold mB; split
    · exact op7_p h2.1 ha
    · exact h2.2
  · exact op7_p hG ha
theorem op1_p (hX : ∀ k, X.2 k < 256) (hG : tkG X K) (hD : dG D) : pLe X (op1 X K D).1 := by
  unfold op1; split
  · obtain ⟨⟨d1, d2, d3, d4, d5⟩, d6, d7⟩ := hD
    have hz : mOpds (mdA (mdP D (keepF X K (mOpN D) D.2.2.1 12)) (va_up (mOpds D) D.2.2.1 0)) D.2.2.1 = 0 := va_up_self _ _ _
    exact op4_p hX hG.nx ⟨⟨d1, d2, d3, keepF_lt hX d4 _ _, d5⟩, d6, d7⟩ ⟨by rw [hz]; decide, fun k hk => by rw [hz] at hk; exact absurd hk (by omega)⟩ hG.lx
  · exact pLe.s hG.lx
theorem opF_p (hX : ∀ k, X.2 k < 256) (hG : tkG X K) (hD : dG D) : pLe X (opF X K D).1 := by
  unfold opF; split
  · exact pLe.s hG.lx
  · exact op1_p hX hG.nx hD
/-- the outcome of the whole description -/
theorem dsL_G (hX : ∀ k, X.2 k < 256) : ∀ (f : Nat) (K : Nat × Nat × Nat) (D : mD), tkG X K → dG D → sG X K D (dsL X f K D) ∧ pLe X (dsL X f K D).1 := by
  intro f
  induction f with
  | zero => intro K D hG hD; exact ⟨⟨hG, Nat.le_refl _, hD, rfl, rfl⟩, pLe.n⟩
  | succ f ih =>
    intro K D hG hD
    rw [dsL]
    split
    · exact ⟨⟨hG, Nat.le_refl _, hD, rfl, rfl⟩, pLe.n⟩
    · split
      · have g := (setF_G hX hG hD rfl).1
        unfold mB; split
        · have h := ih _ _ g.1 g.2.2.1
          exact ⟨h.1.of g.2.1 g.2.2.2.1 g.2.2.2.2, h.2⟩
        · exact ⟨g, setF_p hG⟩
      · split
        · have g := (opF_G hX hG hD rfl).1
          unfold mB; split
          · have h := ih _ _ g.1 g.2.2.1
            exact ⟨h.1.of g.2.1 g.2.2.2.1 g.2.2.2.2, h.2⟩
          · exact ⟨g, opF_p hX hG hD⟩
        · exact ⟨sG.bad hG hD, pLe.s hG.lx⟩
def eG (X : Nat × (Nat → Nat)) (D : mD) (r : mR) : Prop := tkG X r.2.1 ∧ dG r.2.2 ∧ r.2.2.2.2.2.1 = D.2.2.2.1 ∧ pLe X r.1
theorem ds3_G (hX : ∀ k, X.2 k < 256) (hG : tkG X K) (hD : dG D) : eG X D (ds3 X K D) := by
  unfold ds3; split
  · have h := dsL_G hX (X.1 + 1) _ D hG.nx hD
    exact ⟨h.1.1, h.1.2.2.1, h.1.2.2.2.1, h.2⟩
  · exact ⟨hG, hD, rfl, pLe.s hG.lx⟩
theorem ds2_G (hX : ∀ k, X.2 k < 256) (hG : tkG X K) (hD : dG D) : eG X D (ds2 X K D) := by
  unfold ds2; split
  · split
    · rename_i h1 h2
      exact ds3_G (D := (decF X K.2.2 K.2.1 0, D.2)) hX hG.nx ⟨hD.1, by show decF X K.2.2 K.2.1 0 ≤ 32; omega, hD.2.2⟩
    · exact ⟨hG, hD, rfl, pLe.s hG.lx⟩
  · exact ⟨hG, hD, rfl, pLe.s hG.lx⟩
theorem dsF_G (hX : ∀ k, X.2 k < 256) (hG : tkG X K) (hD : dG D) : eG X D (dsF X K D) := by
  unfold dsF; split
  · exact ds2_G hX hG.nx hD
  · exact ⟨hG, hD, rfl, pLe.s hG.lx⟩
theorem dsR_G (hX : ∀ k, X.2 k < 256) (hD : dG D) : eG X D (dsR X D) := by
  unfold dsR; split
  · exact dsF_G hX (nextF_g (Nat.zero_le _)) hD
  · refine ⟨nextF_g (Nat.zero_le _), hD, rfl, fun p h => ?_⟩
    have := fbF_lt h
    omega
end PLE
theorem cpF_lt {oc t : Nat → Nat} {k : Nat} (h1 : ∀ j, oc j < 256) (h2 : ∀ j, t j < 256) : ∀ j, cpF oc t k j < 256 := by
  intro j; unfold cpF; split
  · exact h1 j
  · exact h2 j
def d0 (D : mD) : mD := (D.1, 0, 0, 0, D.2.2.2.2)
theorem dG_0 {D : mD} (h : dG D) : dG (d0 D) := ⟨⟨Nat.zero_le _, Nat.zero_le _, h.1.2.2⟩, h.2.1, fun s hs => absurd hs (Nat.not_lt_zero s)⟩
theorem dsE_n {r : mR} (h : r.1 = none) : dsE r = (r.2.2.1, r.2.2.2.1, r.2.2.2.2.1, 1, r.2.2.2.2.2.2) := if_pos h
theorem dsE_s {r : mR} (h : r.1 ≠ none) : dsE r = (0, 0, 0, r.2.2.2.2.2.1, r.2.2.2.2.2.2) := if_neg h
