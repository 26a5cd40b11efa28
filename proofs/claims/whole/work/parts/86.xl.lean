/-! CLASS AND REFERENCE: the items of a program -/
section NB
variable {X : Nat × (Nat → Nat)} {K : Nat × Nat × Nat} {ok : Int64 → Bool} {P : mP} {gv : Nat → Int64} {k : Nat}
theorem nb1_t0 (hs : isSignF X K 45 = false) (h1 : K.1 = 3 ∨ (K.1 = 2 ∧ K.2.2 - K.2.1 ≤ 10)) (h2 : ok (sgn false (lN (numN X K))) = true) : nb1 X K ok P gv k = (none, nextF X K.2.2, P, va_up gv k (sgn false (lN (numN X K)))) := by
  unfold nb1 nb2
  rw [if_neg (by rw [hs]; decide), if_pos h1, if_pos h2]
theorem nb1_x0 (hs : isSignF X K 45 = false) (h : (K.1 = 3 ∨ (K.1 = 2 ∧ K.2.2 - K.2.1 ≤ 10)) → ¬ ok (sgn false (lN (numN X K))) = true) : (nb1 X K ok P gv k).1 = some K.2.1 := by
  unfold nb1 nb2
  rw [if_neg (by rw [hs]; decide)]
  by_cases h1 : K.1 = 3 ∨ (K.1 = 2 ∧ K.2.2 - K.2.1 ≤ 10)
  · rw [if_pos h1, if_neg (h h1)]
  · rw [if_neg h1]
theorem nb1_t1 (hs : isSignF X K 45 = true) (h1 : (nextF X K.2.2).1 = 3 ∨ ((nextF X K.2.2).1 = 2 ∧ (nextF X K.2.2).2.2 - (nextF X K.2.2).2.1 ≤ 10)) (h2 : ok (sgn true (lN (numN X (nextF X K.2.2)))) = true) : nb1 X K ok P gv k = (none, nextF X (nextF X K.2.2).2.2, P, va_up gv k (sgn true (lN (numN X (nextF X K.2.2))))) := by
  unfold nb1 nb2
  rw [if_pos hs, if_pos h1, if_pos h2]
theorem nb1_x1 (hs : isSignF X K 45 = true) (h1 : ¬ ((nextF X K.2.2).1 = 3 ∨ ((nextF X K.2.2).1 = 2 ∧ (nextF X K.2.2).2.2 - (nextF X K.2.2).2.1 ≤ 10))) : (nb1 X K ok P gv k).1 = some (nextF X K.2.2).2.1 := by
  unfold nb1 nb2
  rw [if_pos hs, if_neg h1]
theorem nb1_x2 (hs : isSignF X K 45 = true) (h1 : (nextF X K.2.2).1 = 3 ∨ ((nextF X K.2.2).1 = 2 ∧ (nextF X K.2.2).2.2 - (nextF X K.2.2).2.1 ≤ 10)) (h2 : ¬ ok (sgn true (lN (numN X (nextF X K.2.2)))) = true) : (nb1 X K ok P gv k).1 = some K.2.1 := by
  unfold nb1 nb2
  rw [if_pos hs, if_pos h1, if_neg h2]
end NB
theorem vP.ta {X : Nat × (Nat → Nat)} {A : xA} {S : xS} {B : xB} {Z : xZ} {Q : xN} {L : xL} {T : jMem} {D : mD} {ans a : Option Value} {r : mV} {K : Nat × Nat × Nat} {P : mP} {gv : Nat → Int64} {ix : Nat} {C : xC} {V : xV} (h : r = (none, K, P, gv)) (ha : ans = a) (hk : xtk X S ix K) (hg : gC C) (hR : pR X D P C V) : vP X A S B Z Q L T D ans r (.inl (a, encX A S (tt X ix K) (-1) B Z C Q V L T)) := by
  subst ha; exact vP.t h hk hg hR
/-- what one item comes to -/
def vI (K : Nat × Nat × Nat) (P : mP) (gv : Nat → Int64) : mV := (none, K, P, gv)
def ppF (X : Nat × (Nat → Nat)) (D : mD) (K : Nat × Nat × Nat) (P : mP) (gv : Nat → Int64) : mV := if P.1 = 1000 then (some K.2.1, K, P, gv) else vB (nb1 X (nextF X K.2.2) (okP D.1) P gv 0) (pgE X vI (fun gv => (gv 0).toInt32))
def pnF (X : Nat × (Nat → Nat)) (D : mD) (K : Nat × Nat × Nat) (P : mP) (gv : Nat → Int64) : mV :=
  if isNameF X K = true then
    if isSignF X (nextF X K.2.2) 58 = true then
      if P.2.1 ≠ 60 ∧ findF X K P.2.2.2.1 P.2.1 0 = 1000 then (none, nextF X (nextF X K.2.2).2.2, labP X K P, gv) else (some K.2.1, K, P, gv)
    else if findF X K (mOpN D) D.2.2.1 0 ≠ 1000 ∧ P.1 ≠ 1000 then vB (vlL X D (findF X K (mOpN D) D.2.2.1 0) (mOpds D (findF X K (mOpN D) D.2.2.1 0)) 0 (nextF X K.2.2) P gv) (pgE X vI (fun gv => madeF D gv (findF X K (mOpN D) D.2.2.1 0)))
    else (some K.2.1, K, P, gv)
  else (some K.2.1, K, P, gv)
theorem pgE_vB {X : Nat × (Nat → Nat)} {r : mV} {f : Nat × Nat × Nat → mP → (Nat → Int64) → mV} {w : (Nat → Int64) → Int32} : vB (vB r (pgE X vI w)) f = vB r (pgE X f w) := by
  cases e : r.1 with
  | some p => rw [vB_e (r := r) (by rw [e]; exact fun h => nomatch h), vB_e (by rw [e]; exact fun h => nomatch h), vB_e (by rw [e]; exact fun h => nomatch h)]
  | none =>
    rw [vB_n (r := r) e, vB_n (r := r) e]
    unfold pgE
    split
    · rw [vB_n (show (vI _ _ _).1 = none from rfl)]; rfl
    · rw [vB_s]
theorem pgL_st {X : Nat × (Nat → Nat)} {D : mD} {f : Nat} {K : Nat × Nat × Nat} {P : mP} {gv : Nat → Int64} (h0 : K.1 ≠ 0) : pgL X D (f + 1) K P gv = vB (if K.1 = 1 ∧ isW X K [119, 111, 114, 100] = true then ppF X D K P gv else pnF X D K P gv) (pgL X D f) := by
  rw [pgL, if_neg h0]
  by_cases e : K.1 = 1 ∧ isW X K [119, 111, 114, 100] = true
  · rw [if_pos e, if_pos e]
    unfold ppF
    split
    · rw [vB_s]
    · rw [pgE_vB]
  · rw [if_neg e, if_neg e]
    unfold pnF
    split
    · split
      · split
        · rw [vB_n (r := (none, nextF X (nextF X K.2.2).2.2, labP X K P, gv)) rfl]
        · rw [vB_s]
      · split
        · rw [pgE_vB]
        · rw [vB_s]
    · rw [vB_s]
/-- what the whole comes to: the tokens are done with -/
def vQ (X : Nat × (Nat → Nat)) (A : xA) (S : xS) (B : xB) (Z : xZ) (Q : xN) (L : xL) (T : jMem) (D : mD) (r : mV) (o : jO) : Prop :=
  (r.1 = none ∧ ∃ t C V, gC C ∧ pR X D r.2.2.1 C V ∧ o = .inl (none, encX A S t (-1) B Z C Q V L T)) ∨
  (∃ p t C V, r.1 = some p ∧ gC C ∧ o = .inr (eIA, jno (encX A S t (nI p) B Z C Q V L T)))
section VQ
variable {X : Nat × (Nat → Nat)} {A : xA} {S : xS} {B : xB} {Z : xZ} {Q : xN} {L : xL} {T : jMem} {D : mD} {r : mV}
theorem vQ.t {t : xT} {C : xC} {V : xV} (h : r.1 = none) (hg : gC C) (hR : pR X D r.2.2.1 C V) : vQ X A S B Z Q L T D r (.inl (none, encX A S t (-1) B Z C Q V L T)) := Or.inl ⟨h, t, C, V, hg, hR, rfl⟩
theorem vQ.x {p : Nat} {t : xT} {C : xC} {V : xV} (h : r.1 = some p) (hg : gC C) : vQ X A S B Z Q L T D r (.inr (eIA, jno (encX A S t (nI p) B Z C Q V L T))) := Or.inr ⟨p, t, C, V, h, hg, rfl⟩
theorem vQ.thr {r' : mV} {E : String} {M' : jMem} (h : vQ X A S B Z Q L T D r (.inr (E, M'))) (he : ∀ p, r.1 = some p → r'.1 = some p) : vQ X A S B Z Q L T D r' (.inr (E, M')) := by
  rcases h with ⟨-, t, C, V, -, -, h⟩ | ⟨p, t, C, V, h1, h2, h3⟩
  · cases h
  · exact Or.inr ⟨p, t, C, V, he p h1, h2, h3⟩
theorem vP.q {ans : Option Value} {r' : mV} {E : String} {M' : jMem} (h : vP X A S B Z Q L T D ans r (.inr (E, M'))) (he : ∀ p, r.1 = some p → r'.1 = some p) : vQ X A S B Z Q L T D r' (.inr (E, M')) := by
  rcases h with ⟨-, ix, C, V, -, -, -, h⟩ | ⟨p, t, C, V, h1, h2, h3⟩
  · cases h
  · exact Or.inr ⟨p, t, C, V, he p h1, h2, h3⟩
theorem vQ.ret {v : Option Value} {M' : jMem} (h : vQ X A S B Z Q L T D r (.inl (v, M'))) : r.1 = none ∧ v = none ∧ ∃ t C V, gC C ∧ pR X D r.2.2.1 C V ∧ M' = encX A S t (-1) B Z C Q V L T := by
  rcases h with ⟨h0, t, C, V, h1, h2, h4⟩ | ⟨p, t, C, V, h1, h2, h3⟩
  · injection h4 with h4
    injection h4 with h5 h6
    exact ⟨h0, h5, t, C, V, h1, h2, h6⟩
  · cases h3
end VQ
theorem pR.lnk {X : Nat × (Nat → Nat)} {D : mD} {P : mP} {C : xC} {V : xV} (h : pR X D P C V) {q : Nat} {w : Int32} : pR X D (pwS P (va_up P.2.2.2.2.2.1 q w)) (C.1, C.2.1, va_up C.2.2.1 q w, C.2.2.2.1, C.2.2.2.2) V := by
  obtain ⟨a1, a2, a3, a4, a5, a6⟩ := h
  refine ⟨a1, a2, a3, fun x hx => ?_, a5, a6⟩
  show va_up C.2.2.1 q w x = va_up P.2.2.2.2.2.1 q w x
  by_cases e : x = q
  · subst e; rw [va_up_self, va_up_self]
  · rw [va_up_ne _ _ e, va_up_ne _ _ e]; exact a4 x hx
/-- which bits linking gives -/
theorem lk_word {D : mD} {Z : xZ} {P : mP} {gv g0 : Nat → Int64} {j u : Nat} (hR : opR D Z (P.2.2.2.2.2.2.2.2.2 u) D.1) (hW : opW D Z (P.2.2.2.2.2.2.2.2.2 u)) (hk : P.2.2.2.2.2.2.2.2.1 u < mOpds D (P.2.2.2.2.2.2.2.2.2 u)) (hw : P.2.2.2.2.2.1 (P.2.2.2.2.2.2.2.1 u) = madeF D g0 (P.2.2.2.2.2.2.2.2.2 u)) (h0 : g0 (P.2.2.2.2.2.2.2.2.1 u) = 0) : P.2.2.2.2.2.1 (P.2.2.2.2.2.2.2.1 u) ||| spF (Z.2.2 (6 * P.2.2.2.2.2.2.2.2.2 u + P.2.2.2.2.2.2.2.2.1 u)) (lkV P j u) (Z.2.1 (6 * P.2.2.2.2.2.2.2.2.2 u + P.2.2.2.2.2.2.2.2.1 u)).2.1 0 (nI 0) = madeF D (lkG D P gv j u) (P.2.2.2.2.2.2.2.2.2 u) ∧ madeF D (lkG D P gv j u) (P.2.2.2.2.2.2.2.2.2 u) = madeF D (va_up g0 (P.2.2.2.2.2.2.2.2.1 u) (lkV P j u)) (P.2.2.2.2.2.2.2.2.2 u) := by
  have e1 : madeF D (lkG D P gv j u) (P.2.2.2.2.2.2.2.2.2 u) = madeF D (va_up g0 (P.2.2.2.2.2.2.2.2.1 u) (lkV P j u)) (P.2.2.2.2.2.2.2.2.2 u) := by
    unfold lkG
    rw [hw]
    exact hR.link hW _
  exact ⟨by rw [e1, hw]; exact hR.fill hW hk h0 _, e1⟩
