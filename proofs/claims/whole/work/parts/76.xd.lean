/-! CLASS AND REFERENCE: the description -/
/-- what stands in the class whatever was read -/
def gB (B : xB) (Q : xN) : Prop := nB B.2.2.1 12 ∧ nB B.2.2.2.2 60 ∧ nB Q 6 ∧ B.2.1 = 0
/-- the description of the class is the reference's; m names of ops are kept -/
def dR (D : mD) (B : xB) (Z : xZ) (m : Nat) : Prop := (B.1 = D.1 ∧ D.1 ≤ 32 ∧ 8 ≤ D.1 ∧ D.1 % 8 = 0 ∧ ∀ s, s < D.2.1 → B.2.2.1.2.2 s ≤ 10) ∧ nR B.2.2.1 (mSetN D) D.2.1 ∧ (∀ s, s < D.2.1 → B.2.2.2.1 s = mSetB D s ∧ 1 ≤ mSetB D s ∧ mSetB D s ≤ 6) ∧ nR B.2.2.2.2 (mOpN D) m ∧ ∀ o, o < D.2.2.1 → opR D Z o D.1 ∧ opW D Z o
/-- op o is being read, n bits of it are laid -/
def oS (D : mD) (B : xB) (Z : xZ) (Q : xN) (o n : Nat) : Prop := D.2.2.1 = o ∧ opR D Z o n ∧ nR Q (mOpdN D) (mOpds D o) ∧ dR D B Z (o + 1)
/-- what a part of the description comes to, r: in the reference -/
def dP (X : Nat × (Nat → Nat)) (A : xA) (S : xS) (P : xC) (V : xV) (L : xL) (T : jMem) (R : mD → xB → xZ → xN → Prop) (r : mR) (o : jO) : Prop :=
  (r.1 = none ∧ ∃ ix B Z Q, xtk X S ix r.2.1 ∧ gB B Q ∧ R r.2.2 B Z Q ∧ o = .inl (none, encX A S (tt X ix r.2.1) (-1) B Z P Q V L T)) ∨
  (∃ p t B Z Q, r.1 = some p ∧ gB B Q ∧ o = .inr (eIA, jno (encX A S t (nI p) B Z P Q V L T)))
section DP
variable {X : Nat × (Nat → Nat)} {A : xA} {S : xS} {P : xC} {V : xV} {L : xL} {T : jMem} {R : mD → xB → xZ → xN → Prop} {r : mR} {K : Nat × Nat × Nat} {D : mD}
theorem dP.t {ix : Nat} {B : xB} {Z : xZ} {Q : xN} (h : r = (none, K, D)) (hk : xtk X S ix K) (hg : gB B Q) (hR : R D B Z Q) : dP X A S P V L T R r (.inl (none, encX A S (tt X ix K) (-1) B Z P Q V L T)) := by
  subst h; exact Or.inl ⟨rfl, ix, B, Z, Q, hk, hg, hR, rfl⟩
theorem dP.x {p : Nat} {t : xT} {B : xB} {Z : xZ} {Q : xN} (h : r = (some p, K, D)) (hg : gB B Q) : dP X A S P V L T R r (.inr (eIA, jno (encX A S t (nI p) B Z P Q V L T))) := by
  subst h; exact Or.inr ⟨p, t, B, Z, Q, rfl, hg, rfl⟩
/-- a throw of a part is a throw of the whole -/
theorem dP.thr {R' : mD → xB → xZ → xN → Prop} {r' : mR} {E : String} {M' : jMem} (h : dP X A S P V L T R r (.inr (E, M'))) (he : ∀ p, r.1 = some p → r'.1 = some p) : dP X A S P V L T R' r' (.inr (E, M')) := by
  rcases h with ⟨-, ix, B, Z, Q, -, -, -, h⟩ | ⟨p, t, B, Z, Q, h1, h2, h3⟩
  · cases h
  · exact Or.inr ⟨p, t, B, Z, Q, he p h1, h2, h3⟩
theorem dP.ret {v : Option Value} {M' : jMem} (h : dP X A S P V L T R r (.inl (v, M'))) : r.1 = none ∧ v = none ∧ ∃ ix B Z Q, xtk X S ix r.2.1 ∧ gB B Q ∧ R r.2.2 B Z Q ∧ M' = encX A S (tt X ix r.2.1) (-1) B Z P Q V L T := by
  rcases h with ⟨h0, ix, B, Z, Q, h1, h2, h3, h4⟩ | ⟨p, t, B, Z, Q, h1, h2, h3⟩
  · injection h4 with h4
    injection h4 with h5 h6
    exact ⟨h0, h5, ix, B, Z, Q, h1, h2, h3, h6⟩
  · cases h3
end DP
theorem set2_x {X : Nat × (Nat → Nat)} {K : Nat × Nat × Nat} {D : mD} (h : ¬ (K.1 = 2 ∧ K.2.2 - K.2.1 ≤ 4 ∧ 1 ≤ decF X K.2.2 K.2.1 0 ∧ decF X K.2.2 K.2.1 0 ≤ 6)) : set2 X K D = (some K.2.1, K, D) := by
  unfold set2
  split
  · rename_i h1
    split
    · rename_i h2
      exact absurd ⟨h1.1, h1.2, h2.1, h2.2⟩ h
    · rfl
  · rfl
theorem opsFr {D D' : mD} {Z Z' : xZ} {o : Nat} (h : ∀ i, i < o → opR D Z i D.1 ∧ opW D Z i) (hW : D'.1 = D.1) (hs : D.2.1 ≤ D'.2.1) (hsb : ∀ s, s < D.2.1 → mSetB D' s = mSetB D s) (h1 : ∀ i, i < o → mOpds D' i = mOpds D i) (h2 : ∀ q, q < 6 * o → mKind D' q = mKind D q ∧ mBits D' q = mBits D q ∧ mSetOf D' q = mSetOf D q) (h3 : ∀ q, q < 32 * o → mWhat D' q = mWhat D q) (h4 : ∀ i, i < o → Z'.1 i = Z.1 i) (h5 : ∀ q, q < 6 * o → Z'.2.1 q = Z.2.1 q ∧ Z'.2.2 q = Z.2.2 q) : ∀ i, i < o → opR D' Z' i D'.1 ∧ opW D' Z' i := by
  intro i hi
  obtain ⟨a, b⟩ := h i hi
  refine ⟨?_, fun k b' hk hb => ?_⟩
  · rw [hW]
    exact a.fr hW hs hsb (h1 i hi) (fun k hk => h2 _ (by omega)) (fun j hj => h3 _ (by omega)) (h4 i hi) (fun k hk => h5 _ (by omega))
  · rw [h1 i hi] at hk
    have h6 := a.1.2.1
    have h7 := h5 (6 * i + k) (by omega)
    rw [h7.1] at hb
    rw [h7.2]
    exact b k b' hk hb
/-- a set more -/
theorem dR.set {D : mD} {B : xB} {Z : xZ} {m : Nat} {X : Nat × (Nat → Nat)} {K : Nat × Nat × Nat} {oc : Nat → Nat} {v : Nat} (h : dR D B Z m) (hK : tkN X K) (hoc : ∀ k, k < X.1 → oc k = X.2 k) (hn : isNameF X K = true) (hl : K.2.2 - K.2.1 ≤ 10) (hv : 1 ≤ v ∧ v ≤ 6) : dR (D.1, D.2.1 + 1, D.2.2.1, D.2.2.2.1, keepF X K (mSetN D) D.2.1 12, va_up (mSetB D) D.2.1 v, D.2.2.2.2.2.2) (B.1, B.2.1, nAdd oc B.2.2.1 K.2.1 K.2.2, va_up B.2.2.2.1 B.2.2.1.1 v, B.2.2.2.2) Z m := by
  obtain ⟨h1, h2, h3, h4, h5⟩ := h
  have hm : B.2.2.1.1 = D.2.1 := h2.1
  refine ⟨⟨h1.1, h1.2.1, h1.2.2.1, h1.2.2.2.1, fun s hs => ?_⟩, nR_add h2 hK hoc hn, fun s hs => ?_, h4, ?_⟩
  · show va_up B.2.2.1.2.2 B.2.2.1.1 (K.2.2 - K.2.1) s ≤ 10
    have hs : s < D.2.1 + 1 := hs
    rw [hm]
    by_cases e : s = D.2.1
    · subst e; rw [va_up_self]; exact hl
    · rw [va_up_ne _ _ e]; exact h1.2.2.2.2 s (by omega)
  · show va_up B.2.2.2.1 B.2.2.1.1 v s = va_up (mSetB D) D.2.1 v s ∧ 1 ≤ va_up (mSetB D) D.2.1 v s ∧ va_up (mSetB D) D.2.1 v s ≤ 6
    have hs : s < D.2.1 + 1 := hs
    rw [hm]
    by_cases e : s = D.2.1
    · subst e; rw [va_up_self, va_up_self]; exact ⟨rfl, hv⟩
    · rw [va_up_ne _ _ e, va_up_ne _ _ e]; exact h3 s (by omega)
  · refine opsFr (D := D) h5 rfl (Nat.le_succ _) (fun s hs => ?_) (fun _ _ => rfl) (fun _ _ => ⟨rfl, rfl, rfl⟩) (fun _ _ => rfl) (fun _ _ => rfl) (fun _ _ => ⟨rfl, rfl⟩)
    show va_up (mSetB D) D.2.1 v s = mSetB D s
    exact va_up_ne _ _ (by omega)
theorem gB.set {B : xB} {Q : xN} {oc : Nat → Nat} {f e : Nat} {g : Nat → Nat} (h : gB B Q) (h1 : B.2.2.1.1 < 12) (h2 : e - f ≤ 12) (ho : ∀ k, oc k < 256) : gB (B.1, B.2.1, nAdd oc B.2.2.1 f e, g, B.2.2.2.2) Q := ⟨nB_add h.1 h1 h2 ho, h.2⟩

/-! the width -/
def rw3 (X : Nat × (Nat → Nat)) (K : Nat × Nat × Nat) (D : mD) : mR := if isSignF X K 59 = true then (none, nextF X K.2.2, D) else (some K.2.1, K, D)
def rw2 (X : Nat × (Nat → Nat)) (K : Nat × Nat × Nat) (D : mD) : mR := if K.1 = 2 ∧ K.2.2 - K.2.1 ≤ 4 then if decF X K.2.2 K.2.1 0 = 8 ∨ decF X K.2.2 K.2.1 0 = 16 ∨ decF X K.2.2 K.2.1 0 = 24 ∨ decF X K.2.2 K.2.1 0 = 32 then rw3 X (nextF X K.2.2) (decF X K.2.2 K.2.1 0, D.2) else (some K.2.1, K, D) else (some K.2.1, K, D)
def rwF (X : Nat × (Nat → Nat)) (K : Nat × Nat × Nat) (D : mD) : mR := if isW X K [119, 105, 100, 116, 104] = true ∧ K.1 = 1 then rw2 X (nextF X K.2.2) D else (some K.2.1, K, D)
theorem dsF_rw {X : Nat × (Nat → Nat)} {K : Nat × Nat × Nat} {D : mD} : dsF X K D = mB (rwF X K D) (dsL X (X.1 + 1)) := by
  unfold dsF rwF
  split
  · unfold ds2 rw2
    split
    · split
      · unfold ds3 rw3
        split
        · rw [mB_n]
        · rw [mB_s]
      · rw [mB_s]
    · rw [mB_s]
  · rw [mB_s]
theorem rw2_x {X : Nat × (Nat → Nat)} {K : Nat × Nat × Nat} {D : mD} (h : ¬ (K.1 = 2 ∧ K.2.2 - K.2.1 ≤ 4 ∧ 8 ≤ decF X K.2.2 K.2.1 0 ∧ decF X K.2.2 K.2.1 0 ≤ 32) ∨ decF X K.2.2 K.2.1 0 % 8 ≠ 0) : rw2 X K D = (some K.2.1, K, D) := by
  unfold rw2
  split
  · rename_i h1
    split
    · rename_i h2
      exfalso
      rcases h with h | h
      · exact h ⟨h1.1, h1.2, by omega, by omega⟩
      · omega
    · rfl
  · rfl
theorem rw2_t {X : Nat × (Nat → Nat)} {K : Nat × Nat × Nat} {D : mD} (h : K.1 = 2 ∧ K.2.2 - K.2.1 ≤ 4 ∧ 8 ≤ decF X K.2.2 K.2.1 0 ∧ decF X K.2.2 K.2.1 0 ≤ 32) (h8 : decF X K.2.2 K.2.1 0 % 8 = 0) : rw2 X K D = rw3 X (nextF X K.2.2) (decF X K.2.2 K.2.1 0, D.2) := by
  unfold rw2
  rw [if_pos ⟨h.1, h.2.1⟩, if_pos (by omega)]
/-! an operand -/
section KD
variable {X : Nat × (Nat → Nat)} {K : Nat × Nat × Nat}
theorem nm_len (hn : tkN X K) (h : isNameF X K = true) : K.2.2 - K.2.1 ≤ 12 ∧ K.1 = 1 := by
  have h1 : K.1 = 1 := by simp [isNameF] at h; exact h.1
  have := hn.g.1.2.2.2.2.2 h1
  omega
theorem kd_t (hn : tkN X K) (hok : ∀ k, k < X.1 → okL (X.2 k) = true) {j : Nat} (hj : j < 3) (h : kcl X K = 136 + j) : K.1 = 1 ∧ kdF X K = j := by
  have h1 := (kcl_w hn hok (c := 136 + j) (by omega) (by omega)).mp h
  refine ⟨h1.1, ?_⟩
  have h2 := kw_kd (X := X) (K := K)
  match j, hj with
  | 0, _ => exact h2.1.mp h1.2
  | 1, _ => exact h2.2.1.mp h1.2
  | 2, _ => exact h2.2.2.mp h1.2
theorem kd_f (hn : tkN X K) (hok : ∀ k, k < X.1 → okL (X.2 k) = true) (h0 : ¬ kcl X K = 136) (h1 : ¬ kcl X K = 137) (h2 : ¬ kcl X K = 138) : K.1 ≠ 1 ∨ kdF X K = 3 := by
  by_cases e : K.1 = 1
  · right
    have h3 := kw_kd (X := X) (K := K)
    have g : ∀ c, 132 ≤ c → c ≤ 138 → kcl X K ≠ c → kwF X K ≠ c := fun c a b z y => z ((kcl_w hn hok a b).mpr ⟨e, y⟩)
    have n0 : kdF X K ≠ 0 := fun z => g 136 (by decide) (by decide) h0 (h3.1.mpr z)
    have n1 : kdF X K ≠ 1 := fun z => g 137 (by decide) (by decide) h1 (h3.2.1.mpr z)
    have n2 : kdF X K ≠ 2 := fun z => g 138 (by decide) (by decide) h2 (h3.2.2.mpr z)
    revert n0 n1 n2
    unfold kdF
    split
    · intro a _ _; exact absurd rfl a
    · split
      · intro _ a _; exact absurd rfl a
      · split
        · intro _ _ a; exact absurd rfl a
        · intro _ _ _; rfl
  · exact Or.inl e
theorem so_eq {D : mD} {N : xN} {oc : Nat → Nat} (h : nR N (mSetN D) D.2.1) (hn : tkN X K) (hoc : ∀ k, k < X.1 → oc k = X.2 k) : xfF oc N K.2.1 K.2.2 0 = if K.1 = 1 then soF X K D else 1000 := by
  rw [nR_find h hn hoc]
  unfold isNameF
  by_cases e : K.1 = 1
  · rw [decide_eq_true e, Bool.true_and, if_pos e]
    cases e2 : isKeyF X K with
    | true => rw [soF_key e2]; rfl
    | false => rw [soF_nk e2]; rfl
  · rw [decide_eq_false e, if_neg e]; rfl
theorem opd3_x {D : mD} {o p : Nat} (h : K.1 ≠ 1 ∨ kdF X K = 3) (hs : (if K.1 = 1 then soF X K D else 1000) = 1000) : ∃ D', opd3 X K D o p = (some K.2.1, K, D') := by
  unfold opd3
  by_cases e : K.1 = 1
  · rw [if_pos e] at hs
    rw [if_pos e, if_pos (h.resolve_left (fun z => z e))]
    unfold opd4
    rw [if_pos (show soF X K (mdK D (va_up (mKind D) p (kdF X K))) = 1000 from hs)]
    exact ⟨_, rfl⟩
  · rw [if_neg e]; exact ⟨_, rfl⟩
theorem opd3_r {D : mD} {o p : Nat} (h : K.1 ≠ 1 ∨ kdF X K = 3) {sx : Nat} (hs : (if K.1 = 1 then soF X K D else 1000) = sx) (hx : sx ≠ 1000) : opd3 X K D o p = opd9 X K (mdB (mdS (mdK D (va_up (mKind D) p 3)) (va_up (mSetOf D) p (nI sx))) (va_up (mBits D) p (nI (mSetB D sx)))) o := by
  unfold opd3
  by_cases e : K.1 = 1
  · rw [if_pos e] at hs
    have h3 := h.resolve_left (fun z => z e)
    rw [if_pos e, if_pos h3, h3]
    have hs' : soF X K (mdK D (va_up (mKind D) p 3)) = sx := hs
    unfold opd4
    rw [hs', if_neg hx]
    have : lI sx = nI sx := by unfold lI; rw [if_neg hx]
    rw [this]
    rfl
  · rw [if_neg e] at hs; exact absurd hs.symm hx
theorem opd5_x {D : mD} {o p : Nat} (h : ¬ (K.1 = 2 ∧ K.2.2 - K.2.1 ≤ 4 ∧ 1 ≤ decF X K.2.2 K.2.1 0 ∧ decF X K.2.2 K.2.1 0 ≤ D.1)) : ∃ D', opd5 X K D o p = (some K.2.1, K, D') := by
  unfold opd5
  split
  · rename_i h1
    split
    · rename_i h2
      exact absurd ⟨h1.1, h1.2, h2.1, h2.2⟩ h
    · exact ⟨_, rfl⟩
  · exact ⟨_, rfl⟩
end KD
theorem oS.opd {D : mD} {B : xB} {Z : xZ} {Q Q' : xN} {o kd sz : Nat} {st : Int32} {f : Nat → Int32} {nm : Nat → Nat} (h : oS D B Z Q o 0) (h6 : mOpds D o < 6) (hQ : nR Q' nm (mOpds D o + 1)) (hkd : kd ≤ 3) (hsz : 1 ≤ sz ∧ sz ≤ 32) (hf : ∀ q, q ≠ 6 * o + mOpds D o → f q = mSetOf D q) (h3 : kd = 3 → ∃ s, s < D.2.1 ∧ f (6 * o + mOpds D o) = nI s ∧ st = nI s ∧ mSetB D s = sz) : oS (D.1, D.2.1, D.2.2.1, D.2.2.2.1, mSetN D, mSetB D, mOpN D, nm, va_up (mOpds D) o (mOpds D o + 1), va_up (mKind D) (6 * o + mOpds D o) kd, va_up (mBits D) (6 * o + mOpds D o) (nI sz), f, mWhat D) B (zO (zL (zP Z (6 * o + (Z.1 o).1) (136 + kd, sz, st)) (6 * o + (Z.1 o).1) (flF (Z.2.2 (6 * o + (Z.1 o).1)) (-1) 32)) o ((Z.1 o).1 + 1, (Z.1 o).2)) Q' o 0 := by
  obtain ⟨h0, hR, hq, hd⟩ := h
  obtain ⟨⟨a1, a2, a3, a4, a5⟩, b1, b2, b3, b4, b5⟩ := hR
  rw [a1]
  have hz : (zO (zL (zP Z (6 * o + mOpds D o) (136 + kd, sz, st)) (6 * o + mOpds D o) (flF (Z.2.2 (6 * o + mOpds D o)) (-1) 32)) o (mOpds D o + 1, (Z.1 o).2)).1 o = (mOpds D o + 1, (Z.1 o).2) := zO_self
  refine ⟨h0, ⟨?_, fun k hk => ?_, fun q hq => ?_, fun q hq => ?_, fun j hj => by omega, fun k b hk hb => ?_⟩, ?_, hd.1, hd.2.1, hd.2.2.1, hd.2.2.2.1, ?_⟩
  · rw [hz]
    refine ⟨?_, ?_, a3, Nat.zero_le _, a5⟩
    · show mOpds D o + 1 = va_up (mOpds D) o (mOpds D o + 1) o
      rw [va_up_self]
    · show va_up (mOpds D) o (mOpds D o + 1) o ≤ 6
      rw [va_up_self]; omega
  · have hk : k < va_up (mOpds D) o (mOpds D o + 1) o := hk
    rw [va_up_self] at hk
    show va_up (mKind D) (6 * o + mOpds D o) kd (6 * o + k) ≤ 3 ∧ (va_up Z.2.1 (6 * o + mOpds D o) (136 + kd, sz, st) (6 * o + k)).1 = 136 + va_up (mKind D) (6 * o + mOpds D o) kd (6 * o + k) ∧ (1 ≤ (va_up Z.2.1 (6 * o + mOpds D o) (136 + kd, sz, st) (6 * o + k)).2.1 ∧ (va_up Z.2.1 (6 * o + mOpds D o) (136 + kd, sz, st) (6 * o + k)).2.1 ≤ 32) ∧ va_up (mBits D) (6 * o + mOpds D o) (nI sz) (6 * o + k) = nI (va_up Z.2.1 (6 * o + mOpds D o) (136 + kd, sz, st) (6 * o + k)).2.1 ∧ (va_up (mKind D) (6 * o + mOpds D o) kd (6 * o + k) = 3 → ∃ s, s < D.2.1 ∧ f (6 * o + k) = nI s ∧ (va_up Z.2.1 (6 * o + mOpds D o) (136 + kd, sz, st) (6 * o + k)).2.2 = nI s ∧ mSetB D s = (va_up Z.2.1 (6 * o + mOpds D o) (136 + kd, sz, st) (6 * o + k)).2.1)
    by_cases e : k = mOpds D o
    · subst e
      rw [va_up_self, va_up_self, va_up_self]
      exact ⟨hkd, rfl, hsz, rfl, h3⟩
    · rw [va_up_ne _ _ (by omega), va_up_ne _ _ (by omega), va_up_ne _ _ (by omega), hf _ (by omega)]
      exact b1 k (by omega)
  · rw [hz]
    have := b2 q hq
    constructor
    · intro z; have := this.mp z; omega
    · rintro ⟨_, z, _⟩; omega
  · rw [hz]
    have := b3 q hq
    constructor
    · intro z; have := this.mp z; omega
    · rintro ⟨_, z, _⟩; omega
  · have hk : k < va_up (mOpds D) o (mOpds D o + 1) o := hk
    rw [va_up_self] at hk
    left
    show va_up Z.2.2 (6 * o + mOpds D o) (flF (Z.2.2 (6 * o + mOpds D o)) (-1) 32) (6 * o + k) b = -1
    have hb : b < (va_up Z.2.1 (6 * o + mOpds D o) (136 + kd, sz, st) (6 * o + k)).2.1 := hb
    by_cases e : k = mOpds D o
    · subst e
      rw [va_up_self] at hb
      rw [va_up_self]
      have hb : b < sz := hb
      unfold flF
      rw [if_pos (by omega)]
    · rw [va_up_ne _ _ (by omega)] at hb
      rw [va_up_ne _ _ (by omega)]
      rcases b5 k b (by omega) hb with z | ⟨j, z, _⟩
      · exact z
      · omega
  · show nR Q' nm (va_up (mOpds D) o (mOpds D o + 1) o)
    rw [va_up_self]; exact hQ
  · have ho : D.2.2.1 = o := h0
    refine opsFr (D := D) hd.2.2.2.2 rfl (Nat.le_refl _) (fun s _ => rfl) (fun i hi => ?_) (fun q hq => ?_) (fun q hq => rfl) (fun i hi => ?_) (fun q hq => ?_)
    · show va_up (mOpds D) o (mOpds D o + 1) i = mOpds D i
      exact va_up_ne _ _ (by have : i < D.2.2.1 := hi; omega)
    · have hq : q < 6 * D.2.2.1 := hq
      show va_up (mKind D) (6 * o + mOpds D o) kd q = mKind D q ∧ va_up (mBits D) (6 * o + mOpds D o) (nI sz) q = mBits D q ∧ f q = mSetOf D q
      exact ⟨va_up_ne _ _ (by omega), va_up_ne _ _ (by omega), hf _ (by omega)⟩
    · show va_up Z.1 o _ i = Z.1 i
      exact va_up_ne _ _ (by have : i < D.2.2.1 := hi; omega)
    · have hq : q < 6 * D.2.2.1 := hq
      show va_up Z.2.1 (6 * o + mOpds D o) _ q = Z.2.1 q ∧ va_up Z.2.2 (6 * o + mOpds D o) _ q = Z.2.2 q
      exact ⟨va_up_ne _ _ (by omega), va_up_ne _ _ (by omega)⟩
theorem gB.q {B : xB} {Q : xN} {oc : Nat → Nat} {f e : Nat} (h : gB B Q) (h1 : Q.1 < 6) (h2 : e - f ≤ 12) (ho : ∀ k, oc k < 256) : gB B (nAdd oc Q f e) := ⟨h.1, h.2.1, nB_add h.2.2.1 h1 h2 ho, h.2.2.2⟩
