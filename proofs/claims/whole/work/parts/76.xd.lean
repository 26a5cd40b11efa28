/-! CLASS AND REFERENCE: the description -/
/-- what stands in the class whatever was read -/
def gB (B : xB) (Q : xN) : Prop := nB B.2.2.1 12 ∧ nB B.2.2.2.2 60 ∧ nB Q 6 ∧ B.2.1 = 0
/-- the description of the class is the reference's; m names of ops are kept -/
def dR (D : mD) (B : xB) (Z : xZ) (m : Nat) : Prop := (B.1 = D.1 ∧ D.1 ≤ 32) ∧ nR B.2.2.1 (mSetN D) D.2.1 ∧ (∀ s, s < D.2.1 → B.2.2.2.1 s = mSetB D s ∧ 1 ≤ mSetB D s ∧ mSetB D s ≤ 6) ∧ nR B.2.2.2.2 (mOpN D) m ∧ ∀ o, o < D.2.2.1 → opR D Z o D.1 ∧ opW D Z o
/-- op o is being read, n bits of it are laid -/
def oS (D : mD) (B : xB) (Z : xZ) (Q : xN) (o n : Nat) : Prop := D.2.2.1 = o ∧ opR D Z o n ∧ nR Q (mOpdN D) (mOpds D o) ∧ dR D B Z (o + 1)
/-- what a part of the description comes to, r: in the reference -/
def dP (X : Nat × (Nat → Nat)) (A : xA) (S : xS) (P : xC) (V : xV) (L : xL) (T : jMem) (R : mD → xB → xZ → xN → Prop) (r : mR) (o : jO) : Prop :=
  (r.1 = none ∧ ∃ ix B Z Q, xtk X S ix r.2.1 ∧ gB B Q ∧ R r.2.2 B Z Q ∧ o = .inl (none, encX A S (tt X ix r.2.1) (-1) B Z P Q V L T)) ∨
  (∃ p t B Z Q, r.1 = some p ∧ gB B Q ∧ o = .inr (eIA, jno (encX A S t (nI p) B Z P Q V L T)))
section DP
variable {X : Nat × (Nat → Nat)} {A : xA} {S : xS} {P : xC} {V : xV} {L : xL} {T : jMem} {R : mD → xB → xZ → xN → Prop} {r : mR} {K : Nat × Nat × Nat} {D : mD}
theorem dP.t {ix : Nat} {B : xB} {Z : xZ} {Q : xN} (h : r = (none, K, D)) (hk : xtk X S ix K) (hg : gB B Q) (hR : R D B Z Q) : dP X A S P V L T R r (.inl (none, encX A S (tt X ix K) (-1) B Z P Q V L T)) := by
  subst h; exact Or.inl ⟨rfl, ix, B, Z, Q, hk, hg, hR, rfl⟩
theorem dP.x {p : Nat} {t : xT} {B : xB} {Z : xZ} {Q : xN} (h : r = (some p, K, D)) (hg : gB B Q) : dP X A S P V L T R r (.inr (eIA, jno (encX A S t (nI p) B Z P Q V L T))) := by
  subst h; exact Or.inr ⟨p, t, B, Z, Q, rfl, hg, rfl⟩
/-- a throw of a part is a throw of the whole -/
theorem dP.thr {R' : mD → xB → xZ → xN → Prop} {r' : mR} {E : String} {M' : jMem} (h : dP X A S P V L T R r (.inr (E, M'))) (he : ∀ p, r.1 = some p → r'.1 = some p) : dP X A S P V L T R' r' (.inr (E, M')) := by
  rcases h with ⟨-, ix, B, Z, Q, -, -, -, h⟩ | ⟨p, t, B, Z, Q, h1, h2, h3⟩
  · cases h
  · exact Or.inr ⟨p, t, B, Z, Q, he p h1, h2, h3⟩
theorem dP.ret {v : Option Value} {M' : jMem} (h : dP X A S P V L T R r (.inl (v, M'))) : r.1 = none ∧ v = none ∧ ∃ ix B Z Q, xtk X S ix r.2.1 ∧ gB B Q ∧ R r.2.2 B Z Q ∧ M' = encX A S (tt X ix r.2.1) (-1) B Z P Q V L T := by
  rcases h with ⟨h0, ix, B, Z, Q, h1, h2, h3, h4⟩ | ⟨p, t, B, Z, Q, h1, h2, h3⟩
  · injection h4 with h4
    injection h4 with h5 h6
    exact ⟨h0, h5, ix, B, Z, Q, h1, h2, h3, h6⟩
  · cases h3
end DP
theorem set2_x {X : Nat × (Nat → Nat)} {K : Nat × Nat × Nat} {D : mD} (h : ¬ (K.1 = 2 ∧ K.2.2 - K.2.1 ≤ 4 ∧ 1 ≤ decF X K.2.2 K.2.1 0 ∧ decF X K.2.2 K.2.1 0 ≤ 6)) : set2 X K D = (some K.2.1, K, D) := by
  unfold set2
  split
  · rename_i h1
    split
    · rename_i h2
      exact absurd ⟨h1.1, h1.2, h2.1, h2.2⟩ h
    · rfl
  · rfl
theorem opsFr {D D' : mD} {Z Z' : xZ} {o : Nat} (h : ∀ i, i < o → opR D Z i D.1 ∧ opW D Z i) (hW : D'.1 = D.1) (hs : D.2.1 ≤ D'.2.1) (hsb : ∀ s, s < D.2.1 → mSetB D' s = mSetB D s) (h1 : ∀ i, i < o → mOpds D' i = mOpds D i) (h2 : ∀ q, q < 6 * o → mKind D' q = mKind D q ∧ mBits D' q = mBits D q ∧ mSetOf D' q = mSetOf D q) (h3 : ∀ q, q < 32 * o → mWhat D' q = mWhat D q) (h4 : ∀ i, i < o → Z'.1 i = Z.1 i) (h5 : ∀ q, q < 6 * o → Z'.2.1 q = Z.2.1 q ∧ Z'.2.2 q = Z.2.2 q) : ∀ i, i < o → opR D' Z' i D'.1 ∧ opW D' Z' i := by
  intro i hi
  obtain ⟨a, b⟩ := h i hi
  refine ⟨?_, fun k b' hk hb => ?_⟩
  · rw [hW]
    exact a.fr hW hs hsb (h1 i hi) (fun k hk => h2 _ (by omega)) (fun j hj => h3 _ (by omega)) (h4 i hi) (fun k hk => h5 _ (by omega))
  · rw [h1 i hi] at hk
    have h6 := a.1.2.1
    have h7 := h5 (6 * i + k) (by omega)
    rw [h7.1] at hb
    rw [h7.2]
    exact b k b' hk hb
/-- a set more -/
theorem dR.set {D : mD} {B : xB} {Z : xZ} {m : Nat} {X : Nat × (Nat → Nat)} {K : Nat × Nat × Nat} {oc : Nat → Nat} {v : Nat} (h : dR D B Z m) (hK : tkN X K) (hoc : ∀ k, k < X.1 → oc k = X.2 k) (hn : isNameF X K = true) (hv : 1 ≤ v ∧ v ≤ 6) : dR (D.1, D.2.1 + 1, D.2.2.1, D.2.2.2.1, keepF X K (mSetN D) D.2.1 12, va_up (mSetB D) D.2.1 v, D.2.2.2.2.2.2) (B.1, B.2.1, nAdd oc B.2.2.1 K.2.1 K.2.2, va_up B.2.2.2.1 B.2.2.1.1 v, B.2.2.2.2) Z m := by
  obtain ⟨h1, h2, h3, h4, h5⟩ := h
  have hm : B.2.2.1.1 = D.2.1 := h2.1
  refine ⟨h1, nR_add h2 hK hoc hn, fun s hs => ?_, h4, ?_⟩
  · show va_up B.2.2.2.1 B.2.2.1.1 v s = va_up (mSetB D) D.2.1 v s ∧ 1 ≤ va_up (mSetB D) D.2.1 v s ∧ va_up (mSetB D) D.2.1 v s ≤ 6
    have hs : s < D.2.1 + 1 := hs
    rw [hm]
    by_cases e : s = D.2.1
    · subst e; rw [va_up_self, va_up_self]; exact ⟨rfl, hv⟩
    · rw [va_up_ne _ _ e, va_up_ne _ _ e]; exact h3 s (by omega)
  · refine opsFr (D := D) h5 rfl (Nat.le_succ _) (fun s hs => ?_) (fun _ _ => rfl) (fun _ _ => ⟨rfl, rfl, rfl⟩) (fun _ _ => rfl) (fun _ _ => rfl) (fun _ _ => ⟨rfl, rfl⟩)
    show va_up (mSetB D) D.2.1 v s = mSetB D s
    exact va_up_ne _ _ (by omega)
theorem gB.set {B : xB} {Q : xN} {oc : Nat → Nat} {f e : Nat} {g : Nat → Nat} (h : gB B Q) (h1 : B.2.2.1.1 < 12) (h2 : e - f ≤ 12) (ho : ∀ k, oc k < 256) : gB (B.1, B.2.1, nAdd oc B.2.2.1 f e, g, B.2.2.2.2) Q := ⟨nB_add h.1 h1 h2 ho, h.2⟩
