/-! CLASS AND REFERENCE: an op, the description -/
section FL
variable {X : Nat × (Nat → Nat)} {o f n p : Nat} {K : Nat × Nat × Nat} {D : mD}
theorem flsL_x (h : (fldF X K D o n).1 = some p) : (flsL X o (f + 1) K D n).1 = some p := by
  rw [flsL, if_neg (by rw [h]; exact fun z => nomatch z)]
  exact h
theorem flsL_e (h : (fldF X K D o n).1 = none) (hs : isSignF X (fldF X K D o n).2.1 59 = true) : flsL X o (f + 1) K D n = fldF X K D o n := by rw [flsL, if_pos h, if_pos hs]
theorem flsL_n (h : (fldF X K D o n).1 = none) (hs : ¬ isSignF X (fldF X K D o n).2.1 59 = true) : flsL X o (f + 1) K D n = flsL X o f (fldF X K D o n).2.1 (fldF X K D o n).2.2.1 (fldF X K D o n).2.2.2 := by rw [flsL, if_pos h, if_neg hs]
end FL
theorem flsL_sg {X : Nat × (Nat → Nat)} {o : Nat} : ∀ (f : Nat) (K : Nat × Nat × Nat) (D : mD) (n : Nat), tkG X K → X.1 + 1 ≤ K.2.1 + f → (flsL X o f K D n).1 = none → isSignF X (flsL X o f K D n).2.1 59 = true := by
  intro f
  induction f with
  | zero =>
    intro K D n hG hf _
    have := hG.1.1
    have := hG.1.2.1
    omega
  | succ f ih =>
    intro K D n hG hf h
    have hg := fldF_G (D := D) (o := o) (n := n) hG
    cases e : (fldF X K D o n).1 with
    | some p => rw [flsL_x e] at h; cases h
    | none =>
      by_cases hs : isSignF X (fldF X K D o n).2.1 59 = true
      · rw [flsL_e e hs]; exact hs
      · rw [flsL_n e hs] at h ⊢
        have := hg.2 e
        exact ih _ _ _ hg.1.1 (by omega) h
theorem fldF_sg {X : Nat × (Nat → Nat)} {o n : Nat} {K : Nat × Nat × Nat} {D : mD} (h : isSignF X K 59 = true) : fldF X K D o n = (some K.2.1, K, D, n) := by
  have h4 := sg_4 h
  unfold fldF
  rw [if_neg (by omega), if_neg (by rw [sg_nm h]; decide)]
  rfl
theorem op8_x {X : Nat × (Nat → Nat)} {a o p : Nat} {r : mF} (h : r.1 = some p) : (op8 X a o r).1 = some p := by
  unfold op8
  rw [if_neg (by rw [h]; exact fun z => nomatch z)]
  exact h
theorem op9_w {X : Nat × (Nat → Nat)} {a o n : Nat} {K : Nat × Nat × Nat} {D : mD} (hn : n ≤ D.1) (h : ¬ (stAll D o n = true ∧ n = D.1)) : op9 X a K D o n = (some K.2.1, K, D) := by
  unfold op9
  by_cases e : n < D.1
  · rw [if_pos e]
  · rw [if_neg e, if_neg (fun z => h ⟨z, by omega⟩)]
theorem op9_a {X : Nat × (Nat → Nat)} {a o n : Nat} {K : Nat × Nat × Nat} {D : mD} (h : stAll D o n = true ∧ n = D.1) (ha : apAll D o = false) : op9 X a K D o n = (some a, K, D) := by
  unfold op9
  rw [if_neg (by omega), if_pos h.1, if_neg (by rw [ha]; decide)]
theorem op9_t {X : Nat × (Nat → Nat)} {a o n : Nat} {K : Nat × Nat × Nat} {D : mD} (h : stAll D o n = true ∧ n = D.1) (ha : apAll D o = true) : op9 X a K D o n = (none, nextF X K.2.2, (D.1, D.2.1, D.2.2.1 + 1, D.2.2.2)) := by
  unfold op9
  rw [if_neg (by omega), if_pos h.1, if_pos ha]
/-- an op is begun -/
theorem oS.init {D : mD} {B : xB} {Z : xZ} {Q : xN} {X : Nat × (Nat → Nat)} {K : Nat × Nat × Nat} {oc : Nat → Nat} (h : dR D B Z D.2.2.1) (hK : tkN X K) (hoc : ∀ k, k < X.1 → oc k = X.2 k) (hn : isNameF X K = true) : oS (mdA (mdP D (keepF X K (mOpN D) D.2.2.1 12)) (va_up (mOpds D) D.2.2.1 0)) (B.1, B.2.1, B.2.2.1, B.2.2.2.1, nAdd oc B.2.2.2.2 K.2.1 K.2.2) (zO Z D.2.2.1 (0, 0, 0, 0)) (0, Q.2.1, Q.2.2) D.2.2.1 0 := by
  obtain ⟨h1, h2, h3, h4, h5⟩ := h
  have hz : (zO Z D.2.2.1 (0, 0, 0, 0)).1 D.2.2.1 = (0, 0, 0, 0) := zO_self
  have hs : va_up (mOpds D) D.2.2.1 0 D.2.2.1 = 0 := va_up_self _ _ _
  refine ⟨rfl, ⟨?_, fun k hk => ?_, fun q hq => ?_, fun q hq => ?_, fun j hj => by omega, fun k b hk hb => ?_⟩, ?_, h1, h2, h3, nR_add h4 hK hoc hn, ?_⟩
  · rw [hz]
    exact ⟨hs.symm, by show va_up (mOpds D) D.2.2.1 0 D.2.2.1 ≤ 6; rw [hs]; decide, rfl, Nat.zero_le _, h1.2.1⟩
  · have hk : k < va_up (mOpds D) D.2.2.1 0 D.2.2.1 := hk
    rw [hs] at hk; omega
  · rw [hz]
    show bt 0 q = true ↔ _
    rw [b_0]
    constructor
    · intro z; cases z
    · rintro ⟨_, z, _⟩; omega
  · rw [hz]
    show bt 0 q = true ↔ _
    rw [b_0]
    constructor
    · intro z; cases z
    · rintro ⟨_, z, _⟩; omega
  · have hk : k < va_up (mOpds D) D.2.2.1 0 D.2.2.1 := hk
    rw [hs] at hk; omega
  · show nR _ _ (va_up (mOpds D) D.2.2.1 0 D.2.2.1)
    rw [hs]
    exact ⟨rfl, fun i hi => by omega⟩
  · refine opsFr (D := D) h5 rfl (Nat.le_refl _) (fun _ _ => rfl) (fun i hi => ?_) (fun _ _ => ⟨rfl, rfl, rfl⟩) (fun _ _ => rfl) (fun i hi => ?_) (fun _ _ => ⟨rfl, rfl⟩)
    · show va_up (mOpds D) D.2.2.1 0 i = mOpds D i
      exact va_up_ne _ _ (by have : i < D.2.2.1 := hi; omega)
    · show va_up Z.1 D.2.2.1 _ i = Z.1 i
      exact va_up_ne _ _ (by have : i < D.2.2.1 := hi; omega)
theorem gB.op {B : xB} {Q : xN} {oc : Nat → Nat} {f e : Nat} (h : gB B Q) (h1 : B.2.2.2.2.1 < 60) (h2 : e - f ≤ 12) (ho : ∀ k, oc k < 256) : gB (B.1, B.2.1, B.2.2.1, B.2.2.2.1, nAdd oc B.2.2.2.2 f e) Q := ⟨h.1, nB_add h.2.1 h1 h2 ho, h.2.2⟩
theorem dG.op {D : mD} {X : Nat × (Nat → Nat)} {K : Nat × Nat × Nat} (hX : ∀ k, X.2 k < 256) (h : dG D) : dG (mdA (mdP D (keepF X K (mOpN D) D.2.2.1 12)) (va_up (mOpds D) D.2.2.1 0)) := by
  obtain ⟨⟨d1, d2, d3, d4, d5⟩, d6, d7⟩ := h
  exact ⟨⟨d1, d2, d3, keepF_lt hX d4 _ _, d5⟩, d6, d7⟩
/-- an op is whole -/
theorem oS.done {D : mD} {B : xB} {Z : xZ} {Q : xN} {o : Nat} (h : oS D B Z Q o D.1) (hs : stAll D o D.1 = true) : dR (D.1, D.2.1, D.2.2.1 + 1, D.2.2.2) B Z (D.2.2.1 + 1) := by
  obtain ⟨h0, hR, -, h1, h2, h3, h4, h5⟩ := h
  subst h0
  refine ⟨h1, h2, h3, h4, fun i hi => ?_⟩
  have hi : i < D.2.2.1 + 1 := hi
  by_cases e : i = D.2.2.1
  · subst e; exact ⟨hR, hR.stW hs⟩
  · exact h5 i (by omega)
theorem rwF_G {X : Nat × (Nat → Nat)} (hX : ∀ k, X.2 k < 256) {K : Nat × Nat × Nat} {D : mD} (h : dG D) (e : (rwF X K D).1 = none) : dG (rwF X K D).2.2 := by
  revert e
  unfold rwF
  split
  · unfold rw2
    split
    · split
      · rename_i h8
        unfold rw3
        split
        · intro _
          exact ⟨h.1, by show decF X _ _ 0 ≤ 32; omega, h.2.2⟩
        · intro z; cases z
      · intro z; cases z
    · intro z; cases z
  · intro z; cases z
