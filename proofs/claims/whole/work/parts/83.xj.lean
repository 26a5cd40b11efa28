/-! CLASS AND REFERENCE: the program -/
theorem skip_idem {X : Nat × (Nat → Nat)} {p : Nat} : skip X (skip X p) = skip X p := by
  induction hm : X.1 - p generalizing p with
  | zero =>
    have h : skip X p = p := by rw [skip, if_neg (by omega)]
    rw [h, h]
  | succ d ih =>
    by_cases e : p < X.1 ∧ isBl (X.2 p) = true
    · rw [skip_bl e.1 e.2]; exact ih (by omega)
    · have h : skip X p = p := by rw [skip, if_neg e]
      rw [h, h]
/-- a token again, from its start -/
theorem tkN.again {X : Nat × (Nat → Nat)} {K : Nat × Nat × Nat} (h : tkN X K) : nextF X K.2.1 = K := by
  obtain ⟨q, h1, h2⟩ := h
  have h3 := (nextK_to (skip_le h1)).1
  have h4 : K.2.1 = skip X q := by rw [h2]; exact h3
  rw [h4, h2]
  show nextK X (skip X (skip X q)) = nextK X (skip X q)
  rw [skip_idem]
/-- one use of a label -/
def uR1 (X : Nat × (Nat → Nat)) (D : mD) (P : mP) (V : xV) (u : Nat) : Prop := (V.2.1 u = P.2.2.2.2.2.2.1 u ∧ V.2.2.1 u = (nextF X (P.2.2.2.2.2.2.1 u)).2.2 ∧ V.2.2.2.1 u = P.2.2.2.2.2.2.2.1 u ∧ V.2.2.2.2.1 u = P.2.2.2.2.2.2.2.2.2 u ∧ V.2.2.2.2.2 u = P.2.2.2.2.2.2.2.2.1 u) ∧ (isNameF X (nextF X (P.2.2.2.2.2.2.1 u)) = true ∧ (nextF X (P.2.2.2.2.2.2.1 u)).2.1 = P.2.2.2.2.2.2.1 u ∧ P.2.2.2.2.2.2.1 u ≤ X.1) ∧ P.2.2.2.2.2.2.2.1 u ≤ 1000 ∧ P.2.2.2.2.2.2.2.2.2 u < D.2.2.1 ∧ P.2.2.2.2.2.2.2.2.1 u < mOpds D (P.2.2.2.2.2.2.2.2.2 u)
/-- the class's program is the reference's -/
def pR (X : Nat × (Nat → Nat)) (D : mD) (P : mP) (C : xC) (V : xV) : Prop := (C.1 = P.1 ∧ P.1 ≤ 1000) ∧ nR C.2.2.2.1 P.2.2.2.1 P.2.1 ∧ (∀ j, j < P.2.1 → C.2.2.2.2 j = P.2.2.2.2.1 j ∧ P.2.2.2.2.1 j ≤ 1000) ∧ (∀ w, w < P.1 → C.2.2.1 w = P.2.2.2.2.2.1 w) ∧ V.1 = P.2.2.1 ∧ ∀ u, u < P.2.2.1 → uR1 X D P V u
def gC (C : xC) : Prop := nB C.2.2.2.1 60 ∧ C.2.1 = 0
theorem pR.word {X : Nat × (Nat → Nat)} {D : mD} {P : mP} {C : xC} {V : xV} (h : pR X D P C V) (h1 : P.1 < 1000) (w : Int32) : pR X D (pgW P w) (C.1 + 1, C.2.1, va_up C.2.2.1 C.1 w, C.2.2.2.1, C.2.2.2.2) V := by
  obtain ⟨a1, a2, a3, a4, a5, a6⟩ := h
  refine ⟨⟨by show C.1 + 1 = P.1 + 1; omega, h1⟩, a2, a3, fun q hq => ?_, a5, a6⟩
  show va_up C.2.2.1 C.1 w q = va_up P.2.2.2.2.2.1 P.1 w q
  have hq : q < P.1 + 1 := hq
  rw [a1.1]
  by_cases e : q = P.1
  · subst e; rw [va_up_self, va_up_self]
  · rw [va_up_ne _ _ e, va_up_ne _ _ e]; exact a4 q (by omega)
theorem pR.lab {X : Nat × (Nat → Nat)} {D : mD} {P : mP} {C : xC} {V : xV} {K : Nat × Nat × Nat} {oc : Nat → Nat} (h : pR X D P C V) (hK : tkN X K) (hoc : ∀ k, k < X.1 → oc k = X.2 k) (hn : isNameF X K = true) : pR X D (labP X K P) (C.1, C.2.1, C.2.2.1, nAdd oc C.2.2.2.1 K.2.1 K.2.2, va_up C.2.2.2.2 C.2.2.2.1.1 C.1) V := by
  obtain ⟨a1, a2, a3, a4, a5, a6⟩ := h
  refine ⟨a1, nR_add a2 hK hoc hn, fun j hj => ?_, a4, a5, a6⟩
  have hj : j < P.2.1 + 1 := hj
  show va_up C.2.2.2.2 C.2.2.2.1.1 C.1 j = va_up P.2.2.2.2.1 P.2.1 P.1 j ∧ va_up P.2.2.2.2.1 P.2.1 P.1 j ≤ 1000
  rw [a2.1, a1.1]
  by_cases e : j = P.2.1
  · subst e; rw [va_up_self, va_up_self]; exact ⟨rfl, a1.2⟩
  · rw [va_up_ne _ _ e, va_up_ne _ _ e]; exact a3 j (by omega)
theorem pR.use {X : Nat × (Nat → Nat)} {D : mD} {P : mP} {C : xC} {V : xV} {K : Nat × Nat × Nat} {o k : Nat} (h : pR X D P C V) (hK : tkN X K) (hn : isNameF X K = true) (ho : o < D.2.2.1) (hk : k < mOpds D o) : pR X D (useP P K.2.1 k o) C (V.1 + 1, va_up V.2.1 V.1 K.2.1, va_up V.2.2.1 V.1 K.2.2, va_up V.2.2.2.1 V.1 C.1, va_up V.2.2.2.2.1 V.1 o, va_up V.2.2.2.2.2 V.1 k) := by
  obtain ⟨a1, a2, a3, a4, a5, a6⟩ := h
  refine ⟨a1, a2, a3, a4, by show V.1 + 1 = P.2.2.1 + 1; rw [a5], fun u hu => ?_⟩
  have hu : u < P.2.2.1 + 1 := hu
  have hx : K.2.1 ≤ X.1 := Nat.le_trans hK.g.1.1 hK.g.1.2.1
  show (va_up V.2.1 V.1 K.2.1 u = va_up P.2.2.2.2.2.2.1 P.2.2.1 K.2.1 u ∧ va_up V.2.2.1 V.1 K.2.2 u = (nextF X (va_up P.2.2.2.2.2.2.1 P.2.2.1 K.2.1 u)).2.2 ∧ va_up V.2.2.2.1 V.1 C.1 u = va_up P.2.2.2.2.2.2.2.1 P.2.2.1 P.1 u ∧ va_up V.2.2.2.2.1 V.1 o u = va_up P.2.2.2.2.2.2.2.2.2 P.2.2.1 o u ∧ va_up V.2.2.2.2.2 V.1 k u = va_up P.2.2.2.2.2.2.2.2.1 P.2.2.1 k u) ∧ (isNameF X (nextF X (va_up P.2.2.2.2.2.2.1 P.2.2.1 K.2.1 u)) = true ∧ (nextF X (va_up P.2.2.2.2.2.2.1 P.2.2.1 K.2.1 u)).2.1 = va_up P.2.2.2.2.2.2.1 P.2.2.1 K.2.1 u ∧ va_up P.2.2.2.2.2.2.1 P.2.2.1 K.2.1 u ≤ X.1) ∧ va_up P.2.2.2.2.2.2.2.1 P.2.2.1 P.1 u ≤ 1000 ∧ va_up P.2.2.2.2.2.2.2.2.2 P.2.2.1 o u < D.2.2.1 ∧ va_up P.2.2.2.2.2.2.2.2.1 P.2.2.1 k u < mOpds D (va_up P.2.2.2.2.2.2.2.2.2 P.2.2.1 o u)
  rw [a5]
  by_cases e : u = P.2.2.1
  · subst e
    rw [va_up_self, va_up_self, va_up_self, va_up_self, va_up_self, va_up_self, va_up_self, va_up_self, va_up_self, hK.again, a1.1]
    exact ⟨⟨rfl, rfl, rfl, rfl, rfl⟩, ⟨hn, rfl, hx⟩, a1.2, ho, hk⟩
  · rw [va_up_ne _ _ e, va_up_ne _ _ e, va_up_ne _ _ e, va_up_ne _ _ e, va_up_ne _ _ e, va_up_ne _ _ e, va_up_ne _ _ e, va_up_ne _ _ e, va_up_ne _ _ e]
    exact a6 u (by omega)
/-! the bits of a word -/
section OPB
variable {D : mD} {Z : xZ} {o : Nat}
theorem opR.bit (h : opR D Z o D.1) (hw : opW D Z o) (gv : Nat → Int64) {k b : Nat} (hk : k < mOpds D o) (hb : b < (Z.2.1 (6 * o + k)).2.1) : ∃ s, s < 32 ∧ Z.2.2 (6 * o + k) b = nI s ∧ bt (madeF D gv o) s = lb (gv k) b := by
  obtain ⟨j, h1, h2, h3⟩ := h.at hw hk hb
  have a5 := h.1.2.2.2.2
  have h6 := h.1.2.1
  have hz := (h.2.1 k hk).2.2.1
  refine ⟨D.1 - 1 - j, by omega, h3, ?_⟩
  rw [Bool.eq_iff_iff, h.mb gv (by omega), show D.1 - 1 - (D.1 - 1 - j) = j by omega, h2]
  constructor
  · rintro ⟨-, z | ⟨k', b', d1, d2, d3, d4⟩⟩
    · exact absurd z (nI_m2 (by omega))
    · have h4 := (h.2.1 k' d1).2.2.1
      rw [nI_eq (by omega) (by omega)] at d3
      have e1 : k' = k := by omega
      subst e1
      have e2 : b' = b := by omega
      subst e2
      exact d4
  · intro z
    exact ⟨by omega, Or.inr ⟨k, b, hk, hb, rfl, z⟩⟩
/-- the same word: the same bits -/
theorem opR.inj (h : opR D Z o D.1) (hw : opW D Z o) {gv gv' : Nat → Int64} (he : madeF D gv o = madeF D gv' o) {k b : Nat} (hk : k < mOpds D o) (hb : b < (Z.2.1 (6 * o + k)).2.1) : lb (gv k) b = lb (gv' k) b := by
  obtain ⟨s, s1, s2, s3⟩ := h.bit hw gv hk hb
  obtain ⟨s', s1', s2', s3'⟩ := h.bit hw gv' hk hb
  rw [s2, nI_eq (by omega) (by omega)] at s2'
  subst s2'
  rw [← s3, ← s3', he]
theorem l_sub {g n b : Nat} (hg : g < 2 ^ n) (hn : n ≤ 32) (hb : b < n) : lb (lN g - pw n) b = lb (lN g) b := by
  have h1 : lN g - pw n = lN (2 ^ n * (2 ^ (64 - n) - 1) + g) := by
    have e0 : 2 ^ 64 = 2 ^ n * 2 ^ (64 - n) := wb_pw (by omega)
    have e1 : 2 ^ n * (2 ^ (64 - n) - 1) + 2 ^ n = 2 ^ 64 := by
      rw [e0, Nat.mul_sub, Nat.mul_one]
      have : 2 ^ n ≤ 2 ^ n * 2 ^ (64 - n) := Nat.le_mul_of_pos_right _ (Nat.pow_pos (by decide))
      omega
    have e2 : lN (2 ^ n * (2 ^ (64 - n) - 1) + g) + pw n = lN g := by
      unfold pw
      rw [lN_add, show 2 ^ n * (2 ^ (64 - n) - 1) + g + 2 ^ n = g + 2 ^ 64 by omega, wb_mod, Nat.add_mod_right, ← wb_mod]
    rw [← e2, Int64.add_sub_cancel]
  have h64 : b < 64 := by omega
  rw [h1, l_n, l_n, Nat.testBit_two_pow_mul_add _ hg, if_pos hb]
theorem opR.tb (h : opR D Z o D.1) (hw : opW D Z o) (w : Int32) {k b : Nat} (hk : k < mOpds D o) (hb : b < (Z.2.1 (6 * o + k)).2.1) : ∃ s, s < 32 ∧ Z.2.2 (6 * o + k) b = nI s ∧ lb (takenF D o w k) b = bt w s := by
  obtain ⟨s, s1, s2⟩ := h.pp hw hk b hb
  have hz := (h.2.1 k hk).2.2.1
  refine ⟨s, s1, s2, ?_⟩
  have hga : lb (gaF (Z.2.2 (6 * o + k)) w (Z.2.1 (6 * o + k)).2.1 0 0) b = bt w s := by
    rw [Bool.eq_iff_iff, gaF_b hz.2 (by omega) (h.pp hw hk), l_0]
    constructor
    · rintro (z | ⟨-, -, s', d1, d2, d3⟩)
      · cases z
      · rw [s2, nI_eq (by omega) (by omega)] at d2
        subst d2; exact d3
    · intro z; exact Or.inr ⟨Nat.zero_le _, hb, s, s1, s2, z⟩
  rw [h.tak hw w hk]
  unfold gthF
  obtain ⟨g, g1, g2⟩ := ga_lt (w := w) hz.2 (h.pp hw hk)
  split
  · rw [← hga, g2]
    exact l_sub g1 hz.2 hb
  · exact hga
theorem gkF_at {D : mD} {o : Nat} {w : Int32} {gv : Nat → Int64} : ∀ (c k : Nat), k < c → gkF D o w gv c k = takenF D o w k := by
  intro c
  induction c with
  | zero => intro k hk; omega
  | succ c ih =>
    intro k hk
    rw [gkF]
    by_cases e : k = c
    · subst e; rw [va_up_self]
    · rw [va_up_ne _ _ e]; exact ih k (by omega)
/-- linking: the taken values give the word again -/
theorem opR.link (h : opR D Z o D.1) (hw : opW D Z o) {gv g0 : Nat → Int64} {k : Nat} (v : Int64) : madeF D (va_up (gkF D o (madeF D g0 o) gv (mOpds D o)) k v) o = madeF D (va_up g0 k v) o := by
  refine h.mcong (fun k' b hk' hb => ?_)
  by_cases e : k' = k
  · subst e; rw [va_up_self, va_up_self]
  · rw [va_up_ne _ _ e, va_up_ne _ _ e, gkF_at _ _ hk']
    obtain ⟨s, s1, s2, s3⟩ := h.tb hw (madeF D g0 o) hk' hb
    obtain ⟨s', s1', s2', s3'⟩ := h.bit hw g0 hk' hb
    rw [s2, nI_eq (by omega) (by omega)] at s2'
    subst s2'
    rw [s3, s3']
theorem opR.fill (h : opR D Z o D.1) (hw : opW D Z o) {g0 : Nat → Int64} {k : Nat} (hk : k < mOpds D o) (h0 : g0 k = 0) (v : Int64) : madeF D g0 o ||| spF (Z.2.2 (6 * o + k)) v (Z.2.1 (6 * o + k)).2.1 0 (nI 0) = madeF D (va_up g0 k v) o := by
  have a5 := h.1.2.2.2.2
  have hz := (h.2.1 k hk).2.2.1
  refine b_ext (fun q hq => ?_)
  rw [Bool.eq_iff_iff, b_or, Bool.or_eq_true, h.mb _ hq, h.mb _ hq, spF_b hz.2 (h.pp hw hk) hq, b_n0]
  constructor
  · rintro (⟨z1, z2 | ⟨k', b, d1, d2, d3, d4⟩⟩ | (z | ⟨c, -, d1, d2, d3⟩))
    · exact ⟨z1, Or.inl z2⟩
    · by_cases e : k' = k
      · subst e; rw [h0, l_0] at d4; cases d4
      · exact ⟨z1, Or.inr ⟨k', b, d1, d2, d3, by rw [va_up_ne _ _ e]; exact d4⟩⟩
    · cases z
    · obtain ⟨j, e1, e2, e3⟩ := h.at hw hk d1
      rw [e3, nI_eq (by omega) (by omega)] at d2
      refine ⟨by omega, Or.inr ⟨k, c, hk, d1, ?_, by rw [va_up_self]; exact d3⟩⟩
      rw [show D.1 - 1 - q = j by omega]; exact e2
  · rintro ⟨z1, z2 | ⟨k', b, d1, d2, d3, d4⟩⟩
    · exact Or.inl ⟨z1, Or.inl z2⟩
    · by_cases e : k' = k
      · subst e
        rw [va_up_self] at d4
        refine Or.inr (Or.inr ⟨b, Nat.zero_le _, d2, ?_, d4⟩)
        rw [h.pl d1 d2 (by omega) d3]
        congr 1; omega
      · rw [va_up_ne _ _ e] at d4
        exact Or.inl ⟨z1, Or.inr ⟨k', b, d1, d2, d3, d4⟩⟩
theorem spF_0 {pl : Nat → Int32} {n : Nat} (hn : n ≤ 32) (hp : ∀ b, b < n → ∃ s, s < 32 ∧ pl b = nI s) : spF pl 0 n 0 (nI 0) = nI 0 := by
  refine b_ext (fun q hq => ?_)
  rw [Bool.eq_iff_iff, spF_b hn hp hq, b_n0]
  constructor
  · rintro (z | ⟨c, _, _, _, z⟩)
    · exact z
    · rw [l_0] at z; cases z
  · exact fun z => Or.inl z
theorem cwF_cong {Z : xZ} {o : Nat} {gv gv' : Nat → Int64} : ∀ m, (∀ k, k < m → gv k = gv' k) → cwF Z o gv m = cwF Z o gv' m := by
  intro m
  induction m with
  | zero => intro _; rfl
  | succ m ih => intro h; rw [cwF, cwF, ih (fun k hk => h k (by omega)), h m (by omega)]
end OPB
