/-! CLASS AND REFERENCE: what an item keeps -/
theorem vlL_J {X : Nat × (Nat → Nat)} {D : mD} {o u0 : Nat} (ho : o < D.2.2.1) : ∀ (c k : Nat) (K : Nat × Nat × Nat) (P : mP) (gv : Nat → Int64), k + c = mOpds D o → tkN X K → pI X D K.2.1 P → P.1 < 1000 → uJ D P gv o k u0 → 2 * P.2.2.1 ≤ K.2.1 + (if k = 0 then 0 else 1) → (vlL X D o c k K P gv).1 = none → uJ D (vlL X D o c k K P gv).2.2.1 (vlL X D o c k K P gv).2.2.2 o (k + c) u0 ∧ 2 * (vlL X D o c k K P gv).2.2.1.2.2.1 ≤ (vlL X D o c k K P gv).2.1.2.1 + 1 := by
  intro c
  induction c with
  | zero =>
    intro k K P gv _ _ _ _ hJ hu _
    refine ⟨hJ, ?_⟩
    show 2 * P.2.2.1 ≤ K.2.1 + 1
    split at hu <;> omega
  | succ c ih =>
    intro k K P gv hkc hG hP hw hJ hu
    have key : ∀ Kv, tkN X Kv → pI X D Kv.2.1 P → 2 * P.2.2.1 ≤ Kv.2.1 → (vB (valF X D o k Kv P gv) (vlL X D o c (k + 1))).1 = none → uJ D (vB (valF X D o k Kv P gv) (vlL X D o c (k + 1))).2.2.1 (vB (valF X D o k Kv P gv) (vlL X D o c (k + 1))).2.2.2 o (k + (c + 1)) u0 ∧ 2 * (vB (valF X D o k Kv P gv) (vlL X D o c (k + 1))).2.2.1.2.2.1 ≤ (vB (valF X D o k Kv P gv) (vlL X D o c (k + 1))).2.1.2.1 + 1 := by
      intro Kv hKv hPv huv h
      have g := valF_G (gv := gv) hKv hPv ho (show k < mOpds D o by omega) hw
      cases e : (valF X D o k Kv P gv).1 with
      | some p => rw [vB_x e] at h; cases h
      | none =>
        rw [vB_n e] at h ⊢
        have := ih (k + 1) _ _ _ (by omega) g.1 g.2.2.1 (by rw [g.2.2.2.1]; exact hw) (valF_J hJ e) (by rw [if_neg (by omega)]; exact valF_u g hKv huv e) h
        rw [show k + 1 + c = k + (c + 1) by omega] at this
        exact this
    rw [vlL]
    by_cases e : k = 0
    · rw [if_pos e]
      rw [if_pos e] at hu
      exact key K hG hP hu
    · rw [if_neg e]
      rw [if_neg e] at hu
      by_cases e2 : isSignF X K 44 = true
      · rw [if_pos e2]
        have h4 := sg_4 e2
        have hl := hG.g.lt (by omega)
        exact key _ hG.nx (hP.up hG.g.fr) (by omega)
      · rw [if_neg e2]
        intro z; cases z
/-- what an item keeps -/
def iG (X : Nat × (Nat → Nat)) (D : mD) (K : Nat × Nat × Nat) (r : mV) : Prop := r.1 = none → tkN X r.2.1 ∧ pI X D r.2.1.2.1 r.2.2.1 ∧ K.2.1 < r.2.1.2.1 ∧ uK D r.2.2.1 0 ∧ 2 * r.2.2.1.2.2.1 ≤ r.2.1.2.1
section IG
variable {X : Nat × (Nat → Nat)} {D : mD} {K : Nat × Nat × Nat} {P : mP} {gv : Nat → Int64}
theorem iG.x {p : Nat} : iG X D K (some p, K, P, gv) := fun h => nomatch h
theorem ppF_I (hG : tkN X K) (h0 : K.1 ≠ 0) (hP : pI X D K.2.1 P) (hK : uK D P 0) (hu : 2 * P.2.2.1 ≤ K.2.1) : iG X D K (ppF X D K P gv) := by
  have hl := hG.g.lt h0
  have hp1 := hP.1
  unfold ppF
  split
  · exact iG.x
  · intro h
    have g := nb1_G (ok := okP D.1) (gv := gv) (k := 0) hG.nx (hP.up hG.g.fr)
    cases e : (nb1 X (nextF X K.2.2) (okP D.1) P gv 0).1 with
    | some p => rw [vB_x e] at h; cases h
    | none =>
      rw [vB_n e] at h ⊢
      have hc := (nb1_c e).1
      revert h
      unfold pgE
      split
      · rename_i hs
        intro _
        have h4 := sg_4 hs
        have hl2 := g.1.g.lt (by omega)
        have := g.2.1
        refine ⟨g.1.nx, (pI_W g.2.2.1 (by rw [g.2.2.2.1]; omega)).up g.1.g.fr, by show K.2.1 < (nextF X _).2.1; omega, ?_, ?_⟩
        · show uK D (pgW (nb1 X (nextF X K.2.2) (okP D.1) P gv 0).2.2.1 _) 0
          rw [hc]; exact hK.plain _
        · show 2 * (nb1 X (nextF X K.2.2) (okP D.1) P gv 0).2.2.1.2.2.1 ≤ (nextF X _).2.1
          rw [hc]; omega
      · intro z; cases z
theorem pnF_I (hX : ∀ k, X.2 k < 256) (hG : tkN X K) (h0 : K.1 ≠ 0) (hP : pI X D K.2.1 P) (hK : uK D P 0) (hu : 2 * P.2.2.1 ≤ K.2.1) : iG X D K (pnF X D K P gv) := by
  have hl := hG.g.lt h0
  have hp1 := hP.1
  unfold pnF
  split
  · split
    · split
      · rename_i hs h
        intro _
        have hl2 := hG.nx.g.lt (by have := sg_4 hs; omega)
        exact ⟨hG.nx.nx, (pI_lab hX hP h.1).up (Nat.le_trans hG.g.fr hG.nx.g.fr), by show K.2.1 < (nextF X (nextF X K.2.2).2.2).2.1; omega, hK.lab, by show 2 * P.2.2.1 ≤ (nextF X (nextF X K.2.2).2.2).2.1; omega⟩
      · exact iG.x
    · split
      · rename_i h
        intro hr
        have h9 : findF X K (mOpN D) D.2.2.1 0 < D.2.2.1 := by
          rcases findF_lt (X := X) (K := K) (nm := mOpN D) (m := D.2.2.1) (j := 0) with h9 | h9
          · exact absurd h9 h.1
          · exact h9
        have hw : P.1 < 1000 := by omega
        have g := vlL_G h9 (mOpds D (findF X K (mOpN D) D.2.2.1 0)) 0 _ P gv (by omega) hG.nx (hP.up hG.g.fr) hw
        cases e : (vlL X D (findF X K (mOpN D) D.2.2.1 0) (mOpds D (findF X K (mOpN D) D.2.2.1 0)) 0 (nextF X K.2.2) P gv).1 with
        | some p => rw [vB_x e] at hr; cases hr
        | none =>
          have hJ := vlL_J h9 (mOpds D (findF X K (mOpN D) D.2.2.1 0)) 0 _ P gv (by omega) hG.nx (hP.up hG.g.fr) hw (hK.beg gv _) (by rw [if_pos rfl]; omega) e
          rw [vB_n e] at hr ⊢
          revert hr
          unfold pgE
          split
          · rename_i hs
            intro _
            have h4 := sg_4 hs
            have hl2 := g.1.g.lt (by omega)
            have := g.2.1
            refine ⟨g.1.nx, (pI_W g.2.2.1 (by rw [g.2.2.2.1]; exact hw)).up g.1.g.fr, by show K.2.1 < (nextF X _).2.1; omega, hJ.1.fin, ?_⟩
            show 2 * (vlL X D _ _ 0 (nextF X K.2.2) P gv).2.2.1.2.2.1 ≤ (nextF X _).2.1
            have := hJ.2
            omega
          · intro z; cases z
      · exact iG.x
  · exact iG.x
end IG
theorem gC.lab {C : xC} {oc : Nat → Nat} {f e q w : Nat} (h : gC C) (h1 : C.2.2.2.1.1 < 60) (h2 : e - f ≤ 12) (ho : ∀ k, oc k < 256) : gC (C.1, C.2.1, C.2.2.1, nAdd oc C.2.2.2.1 f e, va_up C.2.2.2.2 q w) := ⟨nB_add h.1 h1 h2 ho, h.2⟩
theorem lkF_K {X : Nat × (Nat → Nat)} {D : mD} {Z : xZ} {P : mP} {gv : Nat → Int64} {u : Nat} (hops : ∀ o, o < D.2.2.1 → opR D Z o D.1 ∧ opW D Z o) (h : uK D P u) (hu : u < P.2.2.1) (ho : P.2.2.2.2.2.2.2.2.2 u < D.2.2.1) (hk : P.2.2.2.2.2.2.2.2.1 u < mOpds D (P.2.2.2.2.2.2.2.2.2 u)) (e : (lkF X D u P gv).1 = none) : uK D (lkF X D u P gv).2.2.1 (u + 1) ∧ (lkF X D u P gv).2.2.1.2.2.1 = P.2.2.1 := by
  obtain ⟨w1, g0, w2, w3⟩ := h.1 u (Nat.le_refl _) hu
  obtain ⟨hR, hW⟩ := hops _ ho
  revert e
  unfold lkF lk2
  split
  · intro z; cases z
  · split
    · intro _
      refine ⟨?_, rfl⟩
      have e1 := (lk_word (gv := gv) (j := findF X (nextF X (P.2.2.2.2.2.2.1 u)) P.2.2.2.1 P.2.1 0) hR hW hk w2 w3).2
      show uK D (pwS P (va_up P.2.2.2.2.2.1 (P.2.2.2.2.2.2.2.1 u) (madeF D (lkG D P gv _ u) (P.2.2.2.2.2.2.2.2.2 u)))) (u + 1)
      rw [e1]
      exact h.step hops ho w2 _
    · intro z; cases z
