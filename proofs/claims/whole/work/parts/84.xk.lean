/-! CLASS AND REFERENCE: what reading the program keeps -/
/-- use u waits: its word has no bit of its operand yet -/
def uOK (D : mD) (P : mP) (u : Nat) : Prop := P.2.2.2.2.2.2.2.1 u < P.1 ∧ ∃ gv : Nat → Int64, P.2.2.2.2.2.1 (P.2.2.2.2.2.2.2.1 u) = madeF D gv (P.2.2.2.2.2.2.2.2.2 u) ∧ gv (P.2.2.2.2.2.2.2.2.1 u) = 0
def uDis (P : mP) : Prop := ∀ u v, u < v → v < P.2.2.1 → P.2.2.2.2.2.2.2.1 u = P.2.2.2.2.2.2.2.1 v → P.2.2.2.2.2.2.2.2.2 u = P.2.2.2.2.2.2.2.2.2 v ∧ P.2.2.2.2.2.2.2.2.1 u ≠ P.2.2.2.2.2.2.2.2.1 v
def uK (D : mD) (P : mP) (u0 : Nat) : Prop := (∀ u, u0 ≤ u → u < P.2.2.1 → uOK D P u) ∧ uDis P
/-- an op's operands are being read -/
def uJ (D : mD) (P : mP) (gv : Nat → Int64) (o k u0 : Nat) : Prop := u0 ≤ P.2.2.1 ∧ (∀ u, u < u0 → uOK D P u) ∧ uDis P ∧ ∀ u, u0 ≤ u → u < P.2.2.1 → P.2.2.2.2.2.2.2.1 u = P.1 ∧ P.2.2.2.2.2.2.2.2.2 u = o ∧ P.2.2.2.2.2.2.2.2.1 u < k ∧ gv (P.2.2.2.2.2.2.2.2.1 u) = 0
theorem uK.beg {D : mD} {P : mP} (h : uK D P 0) (gv : Nat → Int64) (o : Nat) : uJ D P gv o 0 P.2.2.1 := ⟨Nat.le_refl _, fun u hu => h.1 u (Nat.zero_le _) hu, h.2, fun u h1 h2 => by omega⟩
theorem uJ.v {D : mD} {P : mP} {gv : Nat → Int64} {o k u0 : Nat} (h : uJ D P gv o k u0) (v : Int64) : uJ D P (va_up gv k v) o (k + 1) u0 := by
  refine ⟨h.1, h.2.1, h.2.2.1, fun u h1 h2 => ?_⟩
  obtain ⟨a, b, c, d⟩ := h.2.2.2 u h1 h2
  exact ⟨a, b, by omega, by rw [va_up_ne _ _ (by omega)]; exact d⟩
theorem uJ.u {D : mD} {P : mP} {gv : Nat → Int64} {o k u0 : Nat} (h : uJ D P gv o k u0) (a : Nat) : uJ D (useP P a k o) (va_up gv k 0) o (k + 1) u0 := by
  obtain ⟨h1, h2, h3, h4⟩ := h
  have n1 : ∀ {f : Nat → Nat} {x u : Nat}, u < P.2.2.1 → va_up f P.2.2.1 x u = f u := fun hu => va_up_ne _ _ (by omega)
  refine ⟨Nat.le_succ_of_le h1, fun u hu => ?_, fun u v huv hv => ?_, fun u hu1 hu2 => ?_⟩
  · show va_up P.2.2.2.2.2.2.2.1 P.2.2.1 P.1 u < P.1 ∧ ∃ gv : Nat → Int64, P.2.2.2.2.2.1 (va_up P.2.2.2.2.2.2.2.1 P.2.2.1 P.1 u) = madeF D gv (va_up P.2.2.2.2.2.2.2.2.2 P.2.2.1 o u) ∧ gv (va_up P.2.2.2.2.2.2.2.2.1 P.2.2.1 k u) = 0
    rw [n1 (by omega), n1 (by omega), n1 (by omega)]
    exact h2 u hu
  · show va_up P.2.2.2.2.2.2.2.1 P.2.2.1 P.1 u = va_up P.2.2.2.2.2.2.2.1 P.2.2.1 P.1 v → va_up P.2.2.2.2.2.2.2.2.2 P.2.2.1 o u = va_up P.2.2.2.2.2.2.2.2.2 P.2.2.1 o v ∧ va_up P.2.2.2.2.2.2.2.2.1 P.2.2.1 k u ≠ va_up P.2.2.2.2.2.2.2.2.1 P.2.2.1 k v
    have hv : v < P.2.2.1 + 1 := hv
    by_cases e : v = P.2.2.1
    · subst e
      rw [va_up_self, va_up_self, va_up_self, n1 huv, n1 huv, n1 huv]
      intro z
      by_cases e2 : u < u0
      · have := (h2 u e2).1; omega
      · obtain ⟨a1, a2, a3, a4⟩ := h4 u (by omega) huv
        exact ⟨a2, by omega⟩
    · rw [n1 (by omega), n1 (by omega), n1 (by omega), n1 (by omega), n1 (by omega), n1 (by omega)]
      exact h3 u v huv (by omega)
  · show va_up P.2.2.2.2.2.2.2.1 P.2.2.1 P.1 u = P.1 ∧ va_up P.2.2.2.2.2.2.2.2.2 P.2.2.1 o u = o ∧ va_up P.2.2.2.2.2.2.2.2.1 P.2.2.1 k u < k + 1 ∧ va_up gv k 0 (va_up P.2.2.2.2.2.2.2.2.1 P.2.2.1 k u) = 0
    have hu2 : u < P.2.2.1 + 1 := hu2
    by_cases e : u = P.2.2.1
    · subst e
      rw [va_up_self, va_up_self, va_up_self, va_up_self]
      exact ⟨rfl, rfl, by omega, rfl⟩
    · rw [n1 (by omega), n1 (by omega), n1 (by omega)]
      obtain ⟨a1, a2, a3, a4⟩ := h4 u hu1 (by omega)
      exact ⟨a1, a2, by omega, by rw [va_up_ne _ _ (by omega)]; exact a4⟩
theorem uJ.fin {D : mD} {P : mP} {gv : Nat → Int64} {o k u0 : Nat} (h : uJ D P gv o k u0) : uK D (pgW P (madeF D gv o)) 0 := by
  obtain ⟨h1, h2, h3, h4⟩ := h
  refine ⟨fun u _ hu => ?_, h3⟩
  show P.2.2.2.2.2.2.2.1 u < P.1 + 1 ∧ ∃ gv' : Nat → Int64, va_up P.2.2.2.2.2.1 P.1 (madeF D gv o) (P.2.2.2.2.2.2.2.1 u) = madeF D gv' (P.2.2.2.2.2.2.2.2.2 u) ∧ gv' (P.2.2.2.2.2.2.2.2.1 u) = 0
  by_cases e : u < u0
  · obtain ⟨a, g, b, c⟩ := h2 u e
    exact ⟨by omega, g, by rw [va_up_ne _ _ (by omega)]; exact b, c⟩
  · obtain ⟨a1, a2, a3, a4⟩ := h4 u (by omega) hu
    rw [a1, a2, va_up_self]
    exact ⟨by omega, gv, rfl, a4⟩
theorem uK.plain {D : mD} {P : mP} (h : uK D P 0) (w : Int32) : uK D (pgW P w) 0 := by
  refine ⟨fun u _ hu => ?_, h.2⟩
  obtain ⟨a, g, b, c⟩ := h.1 u (Nat.zero_le _) hu
  refine ⟨Nat.lt_succ_of_lt a, g, ?_, c⟩
  show va_up P.2.2.2.2.2.1 P.1 w (P.2.2.2.2.2.2.2.1 u) = _
  rw [va_up_ne _ _ (by omega)]; exact b
theorem uK.lab {X : Nat × (Nat → Nat)} {K : Nat × Nat × Nat} {D : mD} {P : mP} (h : uK D P 0) : uK D (labP X K P) 0 := h
theorem uK.step {D : mD} {Z : xZ} {P : mP} {u : Nat} (hops : ∀ o, o < D.2.2.1 → opR D Z o D.1 ∧ opW D Z o) (h : uK D P u) (ho : P.2.2.2.2.2.2.2.2.2 u < D.2.2.1) {g0 : Nat → Int64} (hw : P.2.2.2.2.2.1 (P.2.2.2.2.2.2.2.1 u) = madeF D g0 (P.2.2.2.2.2.2.2.2.2 u)) (v : Int64) : uK D (pwS P (va_up P.2.2.2.2.2.1 (P.2.2.2.2.2.2.2.1 u) (madeF D (va_up g0 (P.2.2.2.2.2.2.2.2.1 u) v) (P.2.2.2.2.2.2.2.2.2 u)))) (u + 1) := by
  refine ⟨fun x hx1 hx2 => ?_, h.2⟩
  obtain ⟨a, g, b, c⟩ := h.1 x (by omega) hx2
  refine ⟨a, ?_⟩
  show ∃ gv' : Nat → Int64, va_up P.2.2.2.2.2.1 (P.2.2.2.2.2.2.2.1 u) (madeF D (va_up g0 (P.2.2.2.2.2.2.2.2.1 u) v) (P.2.2.2.2.2.2.2.2.2 u)) (P.2.2.2.2.2.2.2.1 x) = madeF D gv' (P.2.2.2.2.2.2.2.2.2 x) ∧ gv' (P.2.2.2.2.2.2.2.2.1 x) = 0
  by_cases e : P.2.2.2.2.2.2.2.1 u = P.2.2.2.2.2.2.2.1 x
  · obtain ⟨d1, d2⟩ := h.2 u x (by omega) hx2 e
    obtain ⟨hr, hW⟩ := hops _ ho
    rw [← e] at b
    rw [← d1] at b ⊢
    rw [← e, va_up_self]
    refine ⟨va_up g (P.2.2.2.2.2.2.2.2.1 u) v, hr.mcong (fun k' b' hk' hb' => ?_), by rw [va_up_ne _ _ (fun z => d2 z.symm)]; exact c⟩
    by_cases e2 : k' = P.2.2.2.2.2.2.2.2.1 u
    · rw [e2, va_up_self, va_up_self]
    · rw [va_up_ne _ _ e2, va_up_ne _ _ e2]
      exact hr.inj hW (hw.symm.trans b) hk' hb'
  · rw [va_up_ne _ _ (fun z => e z.symm)]
    exact ⟨g, b, c⟩
/-! values -/
theorem nb2_c {X : Nat × (Nat → Nat)} {a k : Nat} {K : Nat × Nat × Nat} {less : Bool} {ok : Int64 → Bool} {P : mP} {gv : Nat → Int64} (h : (nb2 X a K less ok P gv k).1 = none) : (nb2 X a K less ok P gv k).2.2.1 = P ∧ ∃ v, (nb2 X a K less ok P gv k).2.2.2 = va_up gv k v := by
  revert h
  unfold nb2
  split
  · split
    · intro _; exact ⟨rfl, _, rfl⟩
    · intro z; cases z
  · intro z; cases z
theorem nb1_c {X : Nat × (Nat → Nat)} {k : Nat} {K : Nat × Nat × Nat} {ok : Int64 → Bool} {P : mP} {gv : Nat → Int64} (h : (nb1 X K ok P gv k).1 = none) : (nb1 X K ok P gv k).2.2.1 = P ∧ ∃ v, (nb1 X K ok P gv k).2.2.2 = va_up gv k v := by
  revert h
  unfold nb1
  split
  · exact fun h => nb2_c h
  · exact fun h => nb2_c h
theorem valF_c {X : Nat × (Nat → Nat)} {D : mD} {o k : Nat} {K : Nat × Nat × Nat} {P : mP} {gv : Nat → Int64} (h : (valF X D o k K P gv).1 = none) : ((valF X D o k K P gv).2.2.1 = P ∧ ∃ v, (valF X D o k K P gv).2.2.2 = va_up gv k v) ∨ (valF X D o k K P gv = (none, nextF X K.2.2, useP P K.2.1 k o, va_up gv k 0) ∧ isNameF X K = true) := by
  revert h
  unfold valF
  split
  · intro h
    left
    revert h
    unfold val1
    split
    · intro z; cases z
    · intro _; exact ⟨rfl, _, rfl⟩
  · split
    · rename_i h2
      intro _
      exact Or.inr ⟨rfl, h2.2⟩
    · intro h; exact Or.inl (nb1_c h)
theorem valF_J {X : Nat × (Nat → Nat)} {D : mD} {o k u0 : Nat} {K : Nat × Nat × Nat} {P : mP} {gv : Nat → Int64} (hJ : uJ D P gv o k u0) (h : (valF X D o k K P gv).1 = none) : uJ D (valF X D o k K P gv).2.2.1 (valF X D o k K P gv).2.2.2 o (k + 1) u0 := by
  rcases valF_c h with ⟨h1, v, h2⟩ | ⟨h1, -⟩
  · rw [h1, h2]; exact hJ.v v
  · rw [h1]; exact hJ.u _
theorem valF_gv {X : Nat × (Nat → Nat)} {D : mD} {o k : Nat} {K : Nat × Nat × Nat} {P : mP} {gv : Nat → Int64} (h : (valF X D o k K P gv).1 = none) : ∀ j, j ≠ k → (valF X D o k K P gv).2.2.2 j = gv j := by
  intro j hj
  rcases valF_c h with ⟨h1, v, h2⟩ | ⟨h1, -⟩
  · rw [h2]; exact va_up_ne _ _ hj
  · rw [h1]; exact va_up_ne _ _ hj
/-- there are at most half as many uses as letters -/
theorem valF_u {X : Nat × (Nat → Nat)} {D : mD} {o k : Nat} {K : Nat × Nat × Nat} {P : mP} {gv : Nat → Int64} (hG : vG X D K P (valF X D o k K P gv)) (hK : tkN X K) (hu : 2 * P.2.2.1 ≤ K.2.1) (h : (valF X D o k K P gv).1 = none) : 2 * (valF X D o k K P gv).2.2.1.2.2.1 ≤ (valF X D o k K P gv).2.1.2.1 + 1 := by
  rcases valF_c h with ⟨h1, v, h2⟩ | ⟨h1, h2⟩
  · rw [h1]; have := hG.2.1; omega
  · rw [h1]
    show 2 * (P.2.2.1 + 1) ≤ (nextF X K.2.2).2.1 + 1
    have := hK.g.lt (by have := (nm_len hK h2).2; omega)
    omega
/-- what a part of the program comes to -/
def vP (X : Nat × (Nat → Nat)) (A : xA) (S : xS) (B : xB) (Z : xZ) (Q : xN) (L : xL) (T : jMem) (D : mD) (ans : Option Value) (r : mV) (o : jO) : Prop :=
  (r.1 = none ∧ ∃ ix C V, xtk X S ix r.2.1 ∧ gC C ∧ pR X D r.2.2.1 C V ∧ o = .inl (ans, encX A S (tt X ix r.2.1) (-1) B Z C Q V L T)) ∨
  (∃ p t C V, r.1 = some p ∧ gC C ∧ o = .inr (eIA, jno (encX A S t (nI p) B Z C Q V L T)))
section VP
variable {X : Nat × (Nat → Nat)} {A : xA} {S : xS} {B : xB} {Z : xZ} {Q : xN} {L : xL} {T : jMem} {D : mD} {ans : Option Value} {r : mV} {K : Nat × Nat × Nat} {P : mP} {gv : Nat → Int64}
theorem vP.t {ix : Nat} {C : xC} {V : xV} (h : r = (none, K, P, gv)) (hk : xtk X S ix K) (hg : gC C) (hR : pR X D P C V) : vP X A S B Z Q L T D ans r (.inl (ans, encX A S (tt X ix K) (-1) B Z C Q V L T)) := by
  subst h; exact Or.inl ⟨rfl, ix, C, V, hk, hg, hR, rfl⟩
theorem vP.x {p : Nat} {t : xT} {C : xC} {V : xV} (h : r.1 = some p) (hg : gC C) : vP X A S B Z Q L T D ans r (.inr (eIA, jno (encX A S t (nI p) B Z C Q V L T))) := Or.inr ⟨p, t, C, V, h, hg, rfl⟩
theorem vP.thr {ans' : Option Value} {r' : mV} {E : String} {M' : jMem} (h : vP X A S B Z Q L T D ans r (.inr (E, M'))) (he : ∀ p, r.1 = some p → r'.1 = some p) : vP X A S B Z Q L T D ans' r' (.inr (E, M')) := by
  rcases h with ⟨-, ix, C, V, -, -, -, h⟩ | ⟨p, t, C, V, h1, h2, h3⟩
  · cases h
  · exact Or.inr ⟨p, t, C, V, he p h1, h2, h3⟩
theorem vP.ret {v : Option Value} {M' : jMem} (h : vP X A S B Z Q L T D ans r (.inl (v, M'))) : r.1 = none ∧ v = ans ∧ ∃ ix C V, xtk X S ix r.2.1 ∧ gC C ∧ pR X D r.2.2.1 C V ∧ M' = encX A S (tt X ix r.2.1) (-1) B Z C Q V L T := by
  rcases h with ⟨h0, ix, C, V, h1, h2, h3, h4⟩ | ⟨p, t, C, V, h1, h2, h3⟩
  · injection h4 with h4
    injection h4 with h5 h6
    exact ⟨h0, h5, ix, C, V, h1, h2, h3, h6⟩
  · cases h3
end VP
theorem vB_x {r : mV} {f : Nat × Nat × Nat → mP → (Nat → Int64) → mV} {p : Nat} (h : r.1 = some p) : (vB r f).1 = some p := by
  rw [vB_e (by rw [h]; exact fun z => nomatch z)]; exact h
/-! a register -/
theorem decF_st {X : Nat × (Nat → Nat)} {b a v : Nat} (h : a < b) : decF X b a v = decF X b (a + 1) (10 * v + X.2 a - 48) := by
  conv => lhs; rw [decF]
  rw [if_pos h]
theorem dgF_st {X : Nat × (Nat → Nat)} {b a : Nat} (h : a < b) : dgF X b a = if isDig (X.2 a) = true then dgF X b (a + 1) else false := by
  conv => lhs; rw [dgF]
  rw [if_pos h]
theorem decF_ge {X : Nat × (Nat → Nat)} {b a v : Nat} (h : dgF X b a = true) : v ≤ decF X b a v := by
  induction hm : b - a generalizing a v with
  | zero => rw [decF, if_neg (by omega)]; exact Nat.le_refl _
  | succ d ih =>
    rw [dgF_st (by omega)] at h
    split at h
    · rename_i hd
      rw [decF_st (by omega)]
      have := ih (v := 10 * v + X.2 a - 48) h (by omega)
      simp [isDig] at hd
      omega
    · cases h
/-- is the rest of a register's name a number below 2 ^ b -/
def rgF (X : Nat × (Nat → Nat)) (e a v b : Nat) : Option Nat := if dgF X e a = true ∧ decF X e a v < 2 ^ b then some (decF X e a v) else none
theorem rgF_e {X : Nat × (Nat → Nat)} {e a v b : Nat} (h : ¬ a < e) (hv : v < 2 ^ b) : rgF X e a v b = some v := by
  unfold rgF
  have h1 : decF X e a v = v := by rw [decF, if_neg h]
  rw [h1, if_pos ⟨by rw [dgF, if_neg h], hv⟩]
theorem rgF_st {X : Nat × (Nat → Nat)} {e a v b : Nat} (h : a < e) (hd : isDig (X.2 a) = true) : rgF X e a v b = rgF X e (a + 1) (10 * v + X.2 a - 48) b := by
  unfold rgF
  rw [decF_st h, dgF_st h, if_pos hd]
theorem rgF_n {X : Nat × (Nat → Nat)} {e a v b : Nat} (h : a < e) (hd : isDig (X.2 a) = false) : rgF X e a v b = none := by
  unfold rgF
  have h1 : dgF X e a = false := by rw [dgF_st h, if_neg (by rw [hd]; decide)]
  rw [h1, if_neg (fun z => absurd z.1 (by decide))]
theorem rgF_b {X : Nat × (Nat → Nat)} {e a v b : Nat} (h : a < e) (hd : isDig (X.2 a) = true) (hv : ¬ 10 * v + X.2 a - 48 < 2 ^ b) : rgF X e a v b = none := by
  rw [rgF_st h hd]
  unfold rgF
  rw [if_neg (fun z => hv (Nat.lt_of_le_of_lt (decF_ge z.1) z.2))]
theorem regV_rg {X : Nat × (Nat → Nat)} {K : Nat × Nat × Nat} {N : xN} {nm oc : Nat → Nat} {s b : Nat} (h : nR1 N nm s) (hK : tkN X K) (hoc : ∀ k, k < X.1 → oc k = X.2 k) : regV X K nm s b = if N.2.2 s ≤ K.2.2 - K.2.1 ∧ bgF oc N s K.2.1 0 = true then if N.2.2 s < K.2.2 - K.2.1 ∧ ¬ (N.2.2 s + 1 < K.2.2 - K.2.1 ∧ X.2 (K.2.1 + N.2.2 s) = 48) then rgF X K.2.2 (K.2.1 + N.2.2 s) 0 b else none else none := by
  obtain ⟨t1, t2, t3, t4, t5, t6⟩ := hK.g.1
  have hl1 := h.1.1
  by_cases e : N.2.2 s ≤ K.2.2 - K.2.1
  · have hp := nR_pre h hoc (f := K.2.1) (by omega)
    have hp1 := hp.1
    rw [hp.2] at hp1
    by_cases eb : bgF oc N s K.2.1 0 = true
    · have h1 : K.1 = 1 := by
        by_cases h1 : K.1 = 1
        · exact h1
        · exfalso
          have h0 : K.1 ≠ 0 := by
            intro z
            have := (tkN_end hK z).1
            rw [this] at e
            dsimp only at e
            omega
          have h7 := (tk_one hK).2.2.2.2.1 h1 h0
          have h8 := bgF_iff.mp eb 0 (Nat.zero_le _) (by omega)
          rw [Nat.add_zero, Nat.add_zero, hoc _ (by omega)] at h8
          rw [← h8, h.2.2.2.1] at h7
          cases h7
      rw [eb] at hp1
      unfold regV rgF
      by_cases c1 : N.2.2 s < K.2.2 - K.2.1
      · by_cases c2 : dgF X K.2.2 (K.2.1 + N.2.2 s) = true
        · by_cases c3 : N.2.2 s + 1 < K.2.2 - K.2.1 ∧ X.2 (K.2.1 + N.2.2 s) = 48
          · simp [hp.2, ← hp1, h1, e, eb, c1, c2, c3]
          · by_cases c4 : decF X K.2.2 (K.2.1 + N.2.2 s) 0 < 2 ^ b
            · simp [hp.2, ← hp1, h1, e, eb, c1, c2, c3, c4]
            · simp [hp.2, ← hp1, h1, e, eb, c1, c2, c3, c4]
        · simp [hp.2, ← hp1, h1, e, eb, c1, c2]
      · simp [hp.2, ← hp1, h1, e, eb, c1]
    · unfold regV
      have hp2 : ¬ preF X K.2.1 nm s (N.2.2 s) 0 = true := by rw [← hp1]; exact eb
      simp [hp.2, eb, hp2]
  · rw [if_neg (fun z => e z.1)]
    unfold regV
    by_cases c1 : K.1 = 1 ∧ nlF nm s 0 < K.2.2 - K.2.1
    · exfalso
      have hn : ∀ d k, N.2.2 s - k = d → k ≤ N.2.2 s → nlF nm s k = N.2.2 s := by
        intro d
        induction d with
        | zero =>
          intro k e1 e2
          have : k = N.2.2 s := by omega
          rw [nlF]
          by_cases e3 : k < 12
          · rw [if_neg (by intro z; exact z.2 (by rw [h.2.1 k e3, if_neg (by omega)])), this]
          · rw [if_neg (by omega), this]
        | succ d ih =>
          intro k e1 e2
          rw [nlF, if_pos ⟨by have := h.1.2; omega, by rw [h.2.1 k (by have := h.1.2; omega), if_pos (by omega)]; exact (nmF_0 (h.2.2.1 k (by omega))).1⟩]
          exact ih (k + 1) (by omega) (by omega)
      have := hn _ 0 rfl (Nat.zero_le _)
      omega
    · rw [if_neg c1]
theorem shl_6 : ∀ b, b < 7 → nI 1 <<< (nI b &&& 31) = nI (2 ^ b) := by decide
theorem nR1_one {X : Nat × (Nat → Nat)} {K : Nat × Nat × Nat} {N : xN} {nm oc : Nat → Nat} {s : Nat} (h : nR1 N nm s) (hK : tkN X K) (hoc : ∀ k, k < X.1 → oc k = X.2 k) (hq : N.2.2 s ≤ K.2.2 - K.2.1 ∧ bgF oc N s K.2.1 0 = true) : K.1 = 1 := by
  obtain ⟨t1, t2, t3, t4, t5, t6⟩ := hK.g.1
  have hl1 := h.1.1
  by_cases h1 : K.1 = 1
  · exact h1
  · exfalso
    have h0 : K.1 ≠ 0 := by
      intro z
      have := (tkN_end hK z).1
      rw [this] at hq
      have := hq.1
      dsimp only at this
      omega
    have h7 := (tk_one hK).2.2.2.2.1 h1 h0
    have h8 := bgF_iff.mp hq.2 0 (Nat.zero_le _) (by omega)
    rw [Nat.add_zero, Nat.add_zero, hoc _ (by omega)] at h8
    rw [← h8, h.2.2.2.1] at h7
    cases h7
