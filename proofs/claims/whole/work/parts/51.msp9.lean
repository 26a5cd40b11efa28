/-! the program -/
def vB (r : mV) (f : Nat × Nat × Nat → mP → (Nat → Int64) → mV) : mV := if r.1 = none then f r.2.1 r.2.2.1 r.2.2.2 else r
theorem vB_n {r : mV} {f : Nat × Nat × Nat → mP → (Nat → Int64) → mV} (h : r.1 = none) : vB r f = f r.2.1 r.2.2.1 r.2.2.2 := if_pos h
theorem vB_e {r : mV} {f : Nat × Nat × Nat → mP → (Nat → Int64) → mV} (h : r.1 ≠ none) : vB r f = r := if_neg h
/-- the operands of an op in the program: c of them, from operand k on -/
def vlL (X : Nat × (Nat → Nat)) (D : mD) (o : Nat) : Nat → Nat → Nat × Nat × Nat → mP → (Nat → Int64) → mV
  | 0, _, K, P, gv => (none, K, P, gv)
  | c + 1, k, K, P, gv => if k = 0 then vB (valF X D o k K P gv) (vlL X D o c (k + 1)) else if isSignF X K 44 = true then vB (valF X D o k (nextF X K.2.2) P gv) (vlL X D o c (k + 1)) else (some K.2.1, K, P, gv)
def pgW (P : mP) (w : Int32) : mP := (P.1 + 1, P.2.1, P.2.2.1, P.2.2.2.1, P.2.2.2.2.1, va_up P.2.2.2.2.2.1 P.1 w, P.2.2.2.2.2.2)
def labP (X : Nat × (Nat → Nat)) (K : Nat × Nat × Nat) (P : mP) : mP := (P.1, P.2.1 + 1, P.2.2.1, keepF X K P.2.2.2.1 P.2.1 12, va_up P.2.2.2.2.1 P.2.1 P.1, P.2.2.2.2.2)
def pgE (X : Nat × (Nat → Nat)) (f : Nat × Nat × Nat → mP → (Nat → Int64) → mV) (w : (Nat → Int64) → Int32) (K : Nat × Nat × Nat) (P : mP) (gv : Nat → Int64) : mV := if isSignF X K 59 = true then f (nextF X K.2.2) (pgW P (w gv)) gv else (some K.2.1, K, P, gv)
def pgL (X : Nat × (Nat → Nat)) (D : mD) : Nat → Nat × Nat × Nat → mP → (Nat → Int64) → mV
  | 0, K, P, gv => (none, K, P, gv)
  | f + 1, K, P, gv =>
    if K.1 = 0 then (none, K, P, gv)
    else if K.1 = 1 ∧ isW X K [119, 111, 114, 100] = true then
      if P.1 = 1000 then (some K.2.1, K, P, gv) else vB (nb1 X (nextF X K.2.2) (okP D.1) P gv 0) (pgE X (pgL X D f) (fun gv => (gv 0).toInt32))
    else if isNameF X K = true then
      if isSignF X (nextF X K.2.2) 58 = true then
        if P.2.1 ≠ 60 ∧ findF X K P.2.2.2.1 P.2.1 0 = 1000 then pgL X D f (nextF X (nextF X K.2.2).2.2) (labP X K P) gv else (some K.2.1, K, P, gv)
      else if findF X K (mOpN D) D.2.2.1 0 ≠ 1000 ∧ P.1 ≠ 1000 then vB (vlL X D (findF X K (mOpN D) D.2.2.1 0) (mOpds D (findF X K (mOpN D) D.2.2.1 0)) 0 (nextF X K.2.2) P gv) (pgE X (pgL X D f) (fun gv => madeF D gv (findF X K (mOpN D) D.2.2.1 0)))
      else (some K.2.1, K, P, gv)
    else (some K.2.1, K, P, gv)
/-- an op that may be used -/
def oA (D : mD) (o : Nat) : Prop := mOpds D o ≤ 6 ∧ wOK (mWhat D) D.1 o ∧ ∀ k, k < mOpds D o → pG2 D (6 * o + k)
/-- a description that may be used -/
def dA (D : mD) : Prop := dOK D ∧ D.1 ≤ 32 ∧ ∀ o, o < D.2.2.1 → oA D o
def pI (X : Nat × (Nat → Nat)) (D : mD) (a : Nat) (P : mP) : Prop := P.1 ≤ 1000 ∧ P.2.1 ≤ 60 ∧ P.2.2.1 ≤ a ∧ (∀ k, P.2.2.2.1 k < 256) ∧ (∀ j, j < P.2.1 → P.2.2.2.2.1 j ≤ 1000) ∧ ∀ u, u < P.2.2.1 → P.2.2.2.2.2.2.1 u ≤ X.1 ∧ P.2.2.2.2.2.2.2.1 u < 1000 ∧ P.2.2.2.2.2.2.2.2.2 u < D.2.2.1 ∧ P.2.2.2.2.2.2.2.2.1 u < mOpds D (P.2.2.2.2.2.2.2.2.2 u)
theorem pI.up {X : Nat × (Nat → Nat)} {D : mD} {a b : Nat} {P : mP} (h : pI X D a P) (hb : a ≤ b) : pI X D b P := ⟨h.1, h.2.1, Nat.le_trans h.2.2.1 hb, h.2.2.2⟩
/-- the outcome of a value -/
def vG (X : Nat × (Nat → Nat)) (D : mD) (K : Nat × Nat × Nat) (P : mP) (r : mV) : Prop := tkN X r.2.1 ∧ K.2.1 ≤ r.2.1.2.1 ∧ pI X D r.2.1.2.1 r.2.2.1 ∧ r.2.2.1.1 = P.1 ∧ pLe X r.1
theorem vG.of {X : Nat × (Nat → Nat)} {D : mD} {K K' : Nat × Nat × Nat} {P P' : mP} {r : mV} (h : vG X D K' P' r) (hk : K.2.1 ≤ K'.2.1) (hp : P'.1 = P.1) : vG X D K P r := ⟨h.1, Nat.le_trans hk h.2.1, h.2.2.1, h.2.2.2.1.trans hp, h.2.2.2.2⟩
theorem vG.bad {X : Nat × (Nat → Nat)} {D : mD} {K : Nat × Nat × Nat} {P : mP} {gv : Nat → Int64} {a : Nat} (hG : tkN X K) (hP : pI X D K.2.1 P) (ha : a ≤ X.1) : vG X D K P (some a, K, P, gv) := ⟨hG, Nat.le_refl _, hP, rfl, pLe.s ha⟩
theorem vG.ok {X : Nat × (Nat → Nat)} {D : mD} {K : Nat × Nat × Nat} {P : mP} {gv : Nat → Int64} (hG : tkN X K) (hP : pI X D K.2.1 P) : vG X D K P (none, nextF X K.2.2, P, gv) := ⟨hG.nx, hG.g.fr, hP.up hG.g.fr, rfl, pLe.n⟩
theorem nb2_G {X : Nat × (Nat → Nat)} {D : mD} {K : Nat × Nat × Nat} {P : mP} {gv : Nat → Int64} {a k : Nat} {less : Bool} {ok : Int64 → Bool} (hG : tkN X K) (hP : pI X D K.2.1 P) (ha : a ≤ X.1) : vG X D K P (nb2 X a K less ok P gv k) := by
  unfold nb2; split
  · split
    · exact vG.ok hG hP
    · exact vG.bad hG hP ha
  · exact vG.bad hG hP hG.g.lx
theorem nb1_G {X : Nat × (Nat → Nat)} {D : mD} {K : Nat × Nat × Nat} {P : mP} {gv : Nat → Int64} {k : Nat} {ok : Int64 → Bool} (hG : tkN X K) (hP : pI X D K.2.1 P) : vG X D K P (nb1 X K ok P gv k) := by
  unfold nb1; split
  · exact (nb2_G hG.nx (hP.up hG.g.fr) hG.g.lx).of hG.g.fr rfl
  · exact nb2_G hG hP hG.g.lx
theorem valF_G {X : Nat × (Nat → Nat)} {D : mD} {o k : Nat} {K : Nat × Nat × Nat} {P : mP} {gv : Nat → Int64} (hG : tkN X K) (hP : pI X D K.2.1 P) (ho : o < D.2.2.1) (hk : k < mOpds D o) (hw : P.1 < 1000) : vG X D K P (valF X D o k K P gv) := by
  unfold valF; split
  · generalize regV X K (mSetN D) (setN D (6 * o + k)) (bitsN D (6 * o + k)) = r
    cases r with
    | none => exact vG.bad hG hP hG.g.lx
    | some v => exact vG.ok hG hP
  · split
    · rename_i h1 h2
      have h0 : K.1 = 1 := by
        have := h2.2
        simp [isNameF] at this
        exact this.1
      have h3 := hG.g.lt (by omega)
      obtain ⟨p1, p2, p3, p4, p5, p6⟩ := hP
      refine ⟨hG.nx, hG.g.fr, ⟨p1, p2, ?_, p4, p5, fun u hu => ?_⟩, rfl, pLe.n⟩
      · show P.2.2.1 + 1 ≤ (nextF X K.2.2).2.1; omega
      · have hu : u < P.2.2.1 + 1 := hu
        show va_up P.2.2.2.2.2.2.1 P.2.2.1 K.2.1 u ≤ X.1 ∧ va_up P.2.2.2.2.2.2.2.1 P.2.2.1 P.1 u < 1000 ∧ va_up P.2.2.2.2.2.2.2.2.2 P.2.2.1 o u < D.2.2.1 ∧ va_up P.2.2.2.2.2.2.2.2.1 P.2.2.1 k u < mOpds D (va_up P.2.2.2.2.2.2.2.2.2 P.2.2.1 o u)
        by_cases e : u = P.2.2.1
        · subst e
          rw [va_up_self, va_up_self, va_up_self, va_up_self]
          exact ⟨hG.g.lx, hw, ho, hk⟩
        · rw [va_up_ne _ _ e, va_up_ne _ _ e, va_up_ne _ _ e, va_up_ne _ _ e]
          exact p6 u (by omega)
    · exact nb1_G hG hP
theorem vlL_G {X : Nat × (Nat → Nat)} {D : mD} {o : Nat} (ho : o < D.2.2.1) : ∀ (c k : Nat) (K : Nat × Nat × Nat) (P : mP) (gv : Nat → Int64), k + c = mOpds D o → tkN X K → pI X D K.2.1 P → P.1 < 1000 → vG X D K P (vlL X D o c k K P gv) := by
  intro c
  induction c with
  | zero => intro k K P gv _ hG hP _; exact ⟨hG, Nat.le_refl _, hP, rfl, pLe.n⟩
  | succ c ih =>
    intro k K P gv hkc hG hP hw
    rw [vlL]
    split
    · have g := valF_G (gv := gv) hG hP ho (show k < mOpds D o by omega) hw
      unfold vB; split
      · exact (ih (k + 1) _ _ _ (by omega) g.1 g.2.2.1 (by rw [g.2.2.2.1]; exact hw)).of g.2.1 g.2.2.2.1
      · exact g
    · split
      · have g := (valF_G (gv := gv) hG.nx (hP.up hG.g.fr) ho (show k < mOpds D o by omega) hw).of hG.g.fr rfl
        unfold vB; split
        · exact (ih (k + 1) _ _ _ (by omega) g.1 g.2.2.1 (by rw [g.2.2.2.1]; exact hw)).of g.2.1 g.2.2.2.1
        · exact g
      · exact vG.bad hG hP hG.g.lx
theorem pI_W {X : Nat × (Nat → Nat)} {D : mD} {a : Nat} {P : mP} {w : Int32} (h : pI X D a P) (h1 : P.1 < 1000) : pI X D a (pgW P w) := by
  obtain ⟨p1, p2, p3, p4, p5, p6⟩ := h
  exact ⟨h1, p2, p3, p4, p5, p6⟩
theorem pI_lab {X : Nat × (Nat → Nat)} (hX : ∀ k, X.2 k < 256) {D : mD} {a : Nat} {K : Nat × Nat × Nat} {P : mP} (h : pI X D a P) (h1 : P.2.1 ≠ 60) : pI X D a (labP X K P) := by
  obtain ⟨p1, p2, p3, p4, p5, p6⟩ := h
  refine ⟨p1, by show P.2.1 + 1 ≤ 60; omega, p3, keepF_lt hX p4 _ _, fun j hj => ?_, p6⟩
  have hj : j < P.2.1 + 1 := hj
  show va_up P.2.2.2.2.1 P.2.1 P.1 j ≤ 1000
  by_cases e : j = P.2.1
  · subst e; rw [va_up_self]; exact p1
  · rw [va_up_ne _ _ e]; exact p5 j (by omega)
/-- the outcome of the program -/
def gG (X : Nat × (Nat → Nat)) (D : mD) (r : mV) : Prop := tkN X r.2.1 ∧ pI X D r.2.1.2.1 r.2.2.1 ∧ pLe X r.1
theorem pgL_G {X : Nat × (Nat → Nat)} (hX : ∀ k, X.2 k < 256) {D : mD} : ∀ (f : Nat) (K : Nat × Nat × Nat) (P : mP) (gv : Nat → Int64), tkN X K → pI X D K.2.1 P → gG X D (pgL X D f K P gv) := by
  intro f
  induction f with
  | zero => intro K P gv hG hP; exact ⟨hG, hP, pLe.n⟩
  | succ f ih =>
    intro K P gv hG hP
    have hb : gG X D (some K.2.1, K, P, gv) := ⟨hG, hP, pLe.s hG.g.lx⟩
    have hE : ∀ (w : (Nat → Int64) → Int32) (r : mV), vG X D K P r → P.1 < 1000 → gG X D (vB r (pgE X (pgL X D f) w)) := by
      intro w r g hw
      unfold vB; split
      · unfold pgE; split
        · exact ih _ _ _ g.1.nx ((pI_W g.2.2.1 (by rw [g.2.2.2.1]; exact hw)).up g.1.g.fr)
        · exact ⟨g.1, g.2.2.1, pLe.s g.1.g.lx⟩
      · exact ⟨g.1, g.2.2.1, g.2.2.2.2⟩
    have hp1 := hP.1
    rw [pgL]
    split
    · exact ⟨hG, hP, pLe.n⟩
    · split
      · split
        · exact hb
        · exact hE _ _ ((nb1_G hG.nx (hP.up hG.g.fr)).of hG.g.fr rfl) (by omega)
      · split
        · split
          · split
            · rename_i h
              exact ih _ _ _ hG.nx.nx ((pI_lab hX hP h.1).up (Nat.le_trans hG.g.fr hG.nx.g.fr))
            · exact hb
          · split
            · rename_i h
              rcases findF_lt (X := X) (K := K) (nm := mOpN D) (m := D.2.2.1) (j := 0) with h9 | h9
              · exact absurd h9 h.1
              · exact hE _ _ ((vlL_G h9 _ 0 _ _ _ (by omega) hG.nx (hP.up hG.g.fr) (by omega)).of hG.g.fr rfl) (by omega)
            · exact hb
        · exact hb
/-! linking -/
def gkF (D : mD) (o : Nat) (w : Int32) (gv : Nat → Int64) : Nat → Nat → Int64
  | 0 => gv
  | c + 1 => va_up (gkF D o w gv c) c (takenF D o w c)
def lkV (P : mP) (j u : Nat) : Int64 := (nI (P.2.2.2.2.1 j) - nI (P.2.2.2.2.2.2.2.1 u)).toInt64
def lkG (D : mD) (P : mP) (gv : Nat → Int64) (j u : Nat) : Nat → Int64 := va_up (gkF D (P.2.2.2.2.2.2.2.2.2 u) (P.2.2.2.2.2.1 (P.2.2.2.2.2.2.2.1 u)) gv (mOpds D (P.2.2.2.2.2.2.2.2.2 u))) (P.2.2.2.2.2.2.2.2.1 u) (lkV P j u)
def pwS (P : mP) (f : Nat → Int32) : mP := (P.1, P.2.1, P.2.2.1, P.2.2.2.1, P.2.2.2.2.1, f, P.2.2.2.2.2.2)
def lk2 (D : mD) (K : Nat × Nat × Nat) (P : mP) (gv : Nat → Int64) (j u : Nat) : mV :=
  if j = 1000 then (some (P.2.2.2.2.2.2.1 u), K, P, gv)
  else if fitF (mKind D (6 * P.2.2.2.2.2.2.2.2.2 u + P.2.2.2.2.2.2.2.2.1 u)) (bitsN D (6 * P.2.2.2.2.2.2.2.2.2 u + P.2.2.2.2.2.2.2.2.1 u)) (lkV P j u) = true then (none, K, pwS P (va_up P.2.2.2.2.2.1 (P.2.2.2.2.2.2.2.1 u) (madeF D (lkG D P gv j u) (P.2.2.2.2.2.2.2.2.2 u))), lkG D P gv j u)
  else (some (P.2.2.2.2.2.2.1 u), K, P, gv)
/-- linked(u) -/
def lkF (X : Nat × (Nat → Nat)) (D : mD) (u : Nat) (P : mP) (gv : Nat → Int64) : mV := lk2 D (nextF X (P.2.2.2.2.2.2.1 u)) P gv (findF X (nextF X (P.2.2.2.2.2.2.1 u)) P.2.2.2.1 P.2.1 0) u
def lkL (X : Nat × (Nat → Nat)) (D : mD) : Nat → Nat → Nat × Nat × Nat → mP → (Nat → Int64) → mV
  | 0, _, K, P, gv => (none, K, P, gv)
  | c + 1, u, _, P, gv => vB (lkF X D u P gv) (lkL X D c (u + 1))
theorem lkF_G {X : Nat × (Nat → Nat)} {D : mD} {u a : Nat} {P : mP} {gv : Nat → Int64} (hP : pI X D a P) (hu : u < P.2.2.1) : pI X D a (lkF X D u P gv).2.2.1 ∧ tkN X (lkF X D u P gv).2.1 ∧ (lkF X D u P gv).2.2.1.2.2.1 = P.2.2.1 ∧ pLe X (lkF X D u P gv).1 := by
  have h0 := (hP.2.2.2.2.2 u hu).1
  unfold lkF lk2
  split
  · exact ⟨hP, ⟨_, h0, rfl⟩, rfl, pLe.s h0⟩
  · split
    · exact ⟨hP, ⟨_, h0, rfl⟩, rfl, pLe.n⟩
    · exact ⟨hP, ⟨_, h0, rfl⟩, rfl, pLe.s h0⟩
/-- assemble's reading -/
def asR (X : Nat × (Nat → Nat)) (D : mD) (P : mP) (gv : Nat → Int64) : mV :=
  if fbF X 0 = none then vB (pgL X D (X.1 + 1) (nextF X 0) P gv) (fun K P gv => lkL X D P.2.2.1 0 K P gv) else (fbF X 0, nextF X 0, P, gv)
def asE (r : mV) : mP := if r.1 = none then r.2.2.1 else (0, 0, r.2.2.1.2.2)
theorem lkL_G {X : Nat × (Nat → Nat)} {D : mD} {a : Nat} : ∀ (c u : Nat) (K : Nat × Nat × Nat) (P : mP) (gv : Nat → Int64), u + c = P.2.2.1 → pI X D a P → tkN X K → pI X D a (lkL X D c u K P gv).2.2.1 ∧ tkN X (lkL X D c u K P gv).2.1 ∧ pLe X (lkL X D c u K P gv).1 := by
  intro c
  induction c with
  | zero => intro u K P gv _ hP hK; exact ⟨hP, hK, pLe.n⟩
  | succ c ih =>
    intro u K P gv h hP hK
    rw [lkL]
    have g := lkF_G (gv := gv) hP (show u < P.2.2.1 by omega)
    unfold vB; split
    · exact ih (u + 1) _ _ _ (by rw [g.2.2.1]; omega) g.1 g.2.1
    · exact ⟨g.1, g.2.1, g.2.2.2⟩
theorem asR_G {X : Nat × (Nat → Nat)} (hX : ∀ k, X.2 k < 256) {D : mD} {P : mP} {gv : Nat → Int64} (hP : pI X D 0 P) : pI X D X.1 (asR X D P gv).2.2.1 ∧ pLe X (asR X D P gv).1 := by
  unfold asR; split
  · have g := pgL_G (D := D) hX (X.1 + 1) (nextF X 0) P gv ⟨0, Nat.zero_le _, rfl⟩ (hP.up (Nat.zero_le _))
    unfold vB; split
    · have h := lkL_G (D := D) (pgL X D (X.1 + 1) (nextF X 0) P gv).2.2.1.2.2.1 0 _ _ (pgL X D (X.1 + 1) (nextF X 0) P gv).2.2.2 (by omega) (g.2.1.up g.1.g.lx) g.1
      exact ⟨h.1, h.2.2⟩
    · exact ⟨g.2.1.up g.1.g.lx, g.2.2⟩
  · exact ⟨hP.up (Nat.zero_le _), fun p h => Nat.le_of_lt (fbF_lt h)⟩
theorem nI_le0 {k : Nat} (hk : k < 2 ^ 31) (h : nI k ≤ 0) : k = 0 := by
  rcases Nat.eq_zero_or_pos k with z | z
  · exact z
  · exact absurd h (nI_nle z hk)
theorem vB_s {p : Nat} {K : Nat × Nat × Nat} {P : mP} {gv : Nat → Int64} {f : Nat × Nat × Nat → mP → (Nat → Int64) → mV} : vB (some p, K, P, gv) f = (some p, K, P, gv) := if_neg (fun h => nomatch h)
