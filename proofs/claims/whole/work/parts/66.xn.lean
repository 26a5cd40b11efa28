/-! THE CLASS: names -/
def bgF (oc : Nat → Nat) (N : xN) (i f j : Nat) : Bool := if j < N.2.2 i then if N.2.1 (12 * i + j) = oc (f + j) then bgF oc N i f (j + 1) else false else true
termination_by N.2.2 i - j
def xfF (oc : Nat → Nat) (N : xN) (f e j : Nat) : Nat := if j < N.1 then if N.2.2 j = e - f ∧ bgF oc N j f 0 = true then j else xfF oc N f e (j + 1) else 1000
termination_by N.1 - j
theorem bgF_iff {oc : Nat → Nat} {N : xN} {i f j : Nat} : bgF oc N i f j = true ↔ ∀ k, j ≤ k → k < N.2.2 i → N.2.1 (12 * i + k) = oc (f + k) := by
  induction hm : N.2.2 i - j generalizing j with
  | zero =>
    rw [bgF, if_neg (by omega)]
    exact ⟨fun _ k a b => by omega, fun _ => rfl⟩
  | succ d ih =>
    rw [bgF, if_pos (by omega)]
    by_cases e : N.2.1 (12 * i + j) = oc (f + j)
    · rw [if_pos e, ih (by omega)]
      constructor
      · intro h k a b
        by_cases ek : k = j
        · subst ek; exact e
        · exact h k (by omega) b
      · intro h k a b; exact h k (by omega) b
    · rw [if_neg e]
      constructor
      · intro h; cases h
      · intro h; exact absurd (h j (Nat.le_refl _) (by omega)) e
theorem sameF_iff {X : Nat × (Nat → Nat)} {K : Nat × Nat × Nat} {nm : Nat → Nat} {j k : Nat} : sameF X K nm j k = true ↔ ∀ q, k ≤ q → q < 12 → nm (12 * j + q) = tkL X K q := by
  induction hm : 12 - k generalizing k with
  | zero =>
    rw [sameF, if_neg (by omega)]
    exact ⟨fun _ k a b => by omega, fun _ => rfl⟩
  | succ d ih =>
    rw [sameF, if_pos (by omega), Bool.and_eq_true, ih (by omega), decide_eq_true_iff]
    constructor
    · intro h q a b
      by_cases ek : q = k
      · subst ek; exact h.1
      · exact h.2 q (by omega) b
    · intro h; exact ⟨h k (Nat.le_refl _) (by omega), fun q a b => h q (by omega) b⟩
theorem eqF_st {X : Nat × (Nat → Nat)} {f : Nat} {w : List Nat} {k : Nat} (h : k < w.length) : eqF X f w k = if X.2 (f + k) = w.getD k 0 then eqF X f w (k + 1) else false := by
  conv => lhs; rw [eqF]
  rw [if_pos h]
theorem xfF_st {oc : Nat → Nat} {N : xN} {f e j : Nat} (h : j < N.1) : xfF oc N f e j = if N.2.2 j = e - f ∧ bgF oc N j f 0 = true then j else xfF oc N f e (j + 1) := by
  conv => lhs; rw [xfF]
  rw [if_pos h]
theorem findF_st {X : Nat × (Nat → Nat)} {K : Nat × Nat × Nat} {nm : Nat → Nat} {m j : Nat} (h : j < m) : findF X K nm m j = if sameF X K nm j 0 = true then j else findF X K nm m (j + 1) := by
  conv => lhs; rw [findF]
  rw [if_pos h]
theorem bgF_st {oc : Nat → Nat} {N : xN} {i f j : Nat} (h : j < N.2.2 i) : bgF oc N i f j = if N.2.1 (12 * i + j) = oc (f + j) then bgF oc N i f (j + 1) else false := by
  conv => lhs; rw [bgF]
  rw [if_pos h]
theorem preF_st {X : Nat × (Nat → Nat)} {f : Nat} {nm : Nat → Nat} {s n j : Nat} (h : j < n) : preF X f nm s n j = if X.2 (f + j) = nm (12 * s + j) then preF X f nm s n (j + 1) else false := by
  conv => lhs; rw [preF]
  rw [if_pos h]
theorem eqF_cong {X Y : Nat × (Nat → Nat)} {f g : Nat} {w : List Nat} (h : ∀ k, k < w.length → X.2 (f + k) = Y.2 (g + k)) (j : Nat) : eqF X f w j = eqF Y g w j := by
  induction hm : w.length - j generalizing j with
  | zero => rw [eqF, if_neg (by omega), eqF, if_neg (by omega)]
  | succ d ih =>
    rw [eqF_st (by omega), eqF_st (X := Y) (by omega), h j (by omega), ih (j + 1) (by omega)]
theorem isW_cong {X Y : Nat × (Nat → Nat)} {K J : Nat × Nat × Nat} (hl : K.2.2 - K.2.1 = J.2.2 - J.2.1) (h : ∀ k, k < K.2.2 - K.2.1 → X.2 (K.2.1 + k) = Y.2 (J.2.1 + k)) (w : List Nat) : isW X K w = isW Y J w := by
  unfold isW
  rw [← hl]
  by_cases e : K.2.2 - K.2.1 = w.length
  · rw [eqF_cong (Y := Y) (g := J.2.1) (fun k hk => h k (by omega))]
  · rw [decide_eq_false e]; rfl
theorem isKeyF_cong {X Y : Nat × (Nat → Nat)} {K J : Nat × Nat × Nat} (hl : K.2.2 - K.2.1 = J.2.2 - J.2.1) (h : ∀ k, k < K.2.2 - K.2.1 → X.2 (K.2.1 + k) = Y.2 (J.2.1 + k)) : isKeyF X K = isKeyF Y J := by
  unfold isKeyF
  rw [isW_cong hl h, isW_cong hl h, isW_cong hl h, isW_cong hl h, isW_cong hl h, isW_cong hl h, isW_cong hl h]
/-- name i of the class is name i of the reference -/
def nR1 (N : xN) (nm : Nat → Nat) (i : Nat) : Prop := (1 ≤ N.2.2 i ∧ N.2.2 i ≤ 12) ∧ (∀ k, k < 12 → nm (12 * i + k) = if k < N.2.2 i then N.2.1 (12 * i + k) else 0) ∧ (∀ k, k < N.2.2 i → nmF (N.2.1 (12 * i + k)) = true) ∧ isLet (N.2.1 (12 * i)) = true ∧ isKeyF (0, fun k => N.2.1 (12 * i + k)) (1, 0, N.2.2 i) = false
def nR (N : xN) (nm : Nat → Nat) (m : Nat) : Prop := N.1 = m ∧ ∀ i, i < m → nR1 N nm i
theorem nmF_0 {x : Nat} (h : nmF x = true) : x ≠ 0 ∧ x < 256 := by
  unfold nmF isLet isDig at h
  simp at h
  omega
theorem nR1_same {X : Nat × (Nat → Nat)} {K : Nat × Nat × Nat} {N : xN} {nm oc : Nat → Nat} {i : Nat} (h : nR1 N nm i) (hK : tkN X K) (hoc : ∀ k, k < X.1 → oc k = X.2 k) : (N.2.2 i = K.2.2 - K.2.1 ∧ bgF oc N i K.2.1 0 = true) ↔ isNameF X K = true ∧ sameF X K nm i 0 = true := by
  obtain ⟨⟨h1, h2⟩, h3, h4, h5, h6⟩ := h
  obtain ⟨t1, t2, t3, t4, t5, t6⟩ := hK.g.1
  have ho := tk_one hK
  rw [bgF_iff, sameF_iff]
  constructor
  · rintro ⟨a1, a2⟩
    have hz : ∀ k, k < N.2.2 i → N.2.1 (12 * i + k) = X.2 (K.2.1 + k) := fun k hk => (a2 k (Nat.zero_le _) hk).trans (hoc _ (by omega))
    have hn1 : K.1 = 1 := by
      by_cases e : K.1 = 1
      · exact e
      · exfalso
        have h0 : K.1 ≠ 0 := by
          intro z
          have := (tkN_end hK z).1
          rw [this] at a1
          dsimp only at a1
          omega
        have h7 := ho.2.2.2.2.1 e h0
        have h8 := hz 0 (by omega)
        rw [Nat.add_zero, Nat.add_zero] at h8
        rw [← h8, h5] at h7
        cases h7
    have hk : isKeyF X K = false := by
      rw [← h6]
      refine isKeyF_cong (by show _ = N.2.2 i - 0; omega) (fun k hk => ?_)
      show _ = N.2.1 (12 * i + (0 + k))
      rw [Nat.zero_add]
      exact (hz k (by omega)).symm
    refine ⟨by unfold isNameF; rw [hk, decide_eq_true hn1]; rfl, fun q _ hq => ?_⟩
    rw [h3 q hq]
    unfold tkL
    by_cases e : q < N.2.2 i
    · rw [if_pos e, if_pos (by omega), hz q e]
    · rw [if_neg e, if_neg (by omega)]
  · rintro ⟨a1, a2⟩
    have hn1 : K.1 = 1 := by simp [isNameF] at a1; exact a1.1
    have t7 := t6 hn1
    have t8 := t3 (by omega)
    have h9 := ho.2.2.2.2.2.1 hn1
    have hl : N.2.2 i = K.2.2 - K.2.1 := by
      rcases Nat.lt_trichotomy (N.2.2 i) (K.2.2 - K.2.1) with e | e | e
      · exfalso
        have b1 := a2 (N.2.2 i) (Nat.zero_le _) (by omega)
        rw [h3 _ (by omega), if_neg (by omega), tkL, if_pos (by omega)] at b1
        exact (nmF_0 (h9 (K.2.1 + N.2.2 i) (by omega) (by omega))).1 b1.symm
      · exact e
      · exfalso
        have b1 := a2 (K.2.2 - K.2.1) (Nat.zero_le _) (by omega)
        rw [h3 _ (by omega), if_pos e, tkL, if_neg (by omega)] at b1
        exact (nmF_0 (h4 _ e)).1 b1
    refine ⟨hl, fun k _ hk => ?_⟩
    have b1 := a2 k (Nat.zero_le _) (by omega)
    rw [h3 _ (by omega), if_pos hk, tkL, if_pos (by omega)] at b1
    rw [b1, hoc _ (by omega)]
theorem nR_find {X : Nat × (Nat → Nat)} {K : Nat × Nat × Nat} {N : xN} {nm oc : Nat → Nat} {m : Nat} (h : nR N nm m) (hK : tkN X K) (hoc : ∀ k, k < X.1 → oc k = X.2 k) (j : Nat) : xfF oc N K.2.1 K.2.2 j = if isNameF X K = true then findF X K nm m j else 1000 := by
  obtain ⟨h0, h1⟩ := h
  induction hm : m - j generalizing j with
  | zero =>
    have e1 : xfF oc N K.2.1 K.2.2 j = 1000 := by rw [xfF, if_neg (by omega)]
    have e2 : findF X K nm m j = 1000 := by rw [findF, if_neg (by omega)]
    rw [e1, e2]
    split <;> rfl
  | succ d ih =>
    rw [xfF_st (by omega), findF_st (show j < m by omega)]
    have h2 := nR1_same (h1 j (by omega)) hK hoc
    by_cases e : N.2.2 j = K.2.2 - K.2.1 ∧ bgF oc N j K.2.1 0 = true
    · have h3 := h2.mp e
      rw [if_pos e, if_pos h3.1, if_pos h3.2]
    · rw [if_neg e, ih (j + 1) (by omega)]
      by_cases e1 : isNameF X K = true
      · rw [if_pos e1, if_pos e1, if_neg (fun z => e (h2.mpr ⟨e1, z⟩))]
      · rw [if_neg e1, if_neg e1]
theorem keepF_all (X : Nat × (Nat → Nat)) (K : Nat × Nat × Nat) (nm : Nat → Nat) (j n q : Nat) : keepF X K nm j n q = if 12 * j ≤ q ∧ q < 12 * j + n then tkL X K (q - 12 * j) else nm q := by
  induction n with
  | zero => rw [keepF, if_neg (by omega)]
  | succ n ih =>
    rw [keepF]
    by_cases e : q = 12 * j + n
    · subst e; rw [va_up_self, if_pos (by omega), show 12 * j + n - 12 * j = n by omega]
    · rw [va_up_ne _ _ e, ih]
      by_cases e2 : 12 * j ≤ q ∧ q < 12 * j + n
      · rw [if_pos e2, if_pos (by omega)]
      · rw [if_neg e2, if_neg (by omega)]
def nAdd (oc : Nat → Nat) (N : xN) (f e : Nat) : xN := (N.1 + 1, va_cpy oc N.2.1 f (12 * N.1) (e - f), va_up N.2.2 N.1 (e - f))
theorem nR_add {X : Nat × (Nat → Nat)} {K : Nat × Nat × Nat} {N : xN} {nm oc : Nat → Nat} {m : Nat} (h : nR N nm m) (hK : tkN X K) (hoc : ∀ k, k < X.1 → oc k = X.2 k) (hn : isNameF X K = true) : nR (nAdd oc N K.2.1 K.2.2) (keepF X K nm m 12) (m + 1) := by
  obtain ⟨h0, h1⟩ := h
  obtain ⟨t1, t2, t3, t4, t5, t6⟩ := hK.g.1
  have ho := tk_one hK
  have hn1 : K.1 = 1 ∧ isKeyF X K = false := by simp [isNameF] at hn; exact hn
  have t7 := t6 hn1.1
  have t8 := t3 (by omega)
  refine ⟨by show N.1 + 1 = m + 1; rw [h0], fun i hi => ?_⟩
  by_cases e : i = m
  · subst e
    have hl : (nAdd oc N K.2.1 K.2.2).2.2 i = K.2.2 - K.2.1 := by show va_up N.2.2 N.1 _ i = _; rw [h0, va_up_self]
    have hc : ∀ k, k < K.2.2 - K.2.1 → (nAdd oc N K.2.1 K.2.2).2.1 (12 * i + k) = X.2 (K.2.1 + k) := by
      intro k hk
      show va_cpy oc N.2.1 K.2.1 (12 * N.1) (K.2.2 - K.2.1) (12 * i + k) = _
      unfold va_cpy
      rw [h0, if_pos (by omega), show 12 * i + k - 12 * i = k by omega, hoc _ (by omega)]
    refine ⟨by rw [hl]; omega, fun k hk => ?_, fun k hk => ?_, ?_, ?_⟩
    · rw [hl, keepF_all, if_pos (by omega), show 12 * i + k - 12 * i = k by omega]
      unfold tkL
      by_cases e2 : k < K.2.2 - K.2.1
      · rw [if_pos e2, if_pos (by omega), hc k e2]
      · rw [if_neg e2, if_neg (by omega)]
    · rw [hl] at hk
      rw [hc k hk]
      exact ho.2.2.2.2.2.1 hn1.1 _ (by omega) (by omega)
    · have := hc 0 (by omega)
      rw [Nat.add_zero] at this
      rw [this, Nat.add_zero]
      exact ho.2.2.2.1 hn1.1
    · rw [hl, ← hn1.2]
      refine (isKeyF_cong (by show _ = K.2.2 - K.2.1 - 0; omega) (fun k hk => ?_)).symm
      show _ = (nAdd oc N K.2.1 K.2.2).2.1 (12 * i + (0 + k))
      rw [Nat.zero_add]
      exact (hc k hk).symm
  · have hl : (nAdd oc N K.2.1 K.2.2).2.2 i = N.2.2 i := by show va_up N.2.2 N.1 _ i = _; rw [va_up_ne _ _ (by omega)]
    obtain ⟨b1, b2, b3, b4, b5⟩ := h1 i (by omega)
    have hc : ∀ k, k < 12 → (nAdd oc N K.2.1 K.2.2).2.1 (12 * i + k) = N.2.1 (12 * i + k) := by
      intro k hk
      show va_cpy oc N.2.1 K.2.1 (12 * N.1) (K.2.2 - K.2.1) (12 * i + k) = _
      unfold va_cpy
      rw [if_neg (by omega)]
    refine ⟨by rw [hl]; exact b1, fun k hk => ?_, fun k hk => ?_, ?_, ?_⟩
    · rw [hl, keepF_all, if_neg (by omega), b2 k hk, hc k hk]
    · rw [hl] at hk
      rw [hc k (by omega)]
      exact b3 k hk
    · have := hc 0 (by omega)
      rw [Nat.add_zero] at this
      rw [this]; exact b4
    · rw [hl, ← b5]
      refine isKeyF_cong rfl (fun k hk => ?_)
      have hk : k < N.2.2 i - 0 := hk
      show (nAdd oc N K.2.1 K.2.2).2.1 (12 * i + (0 + k)) = N.2.1 (12 * i + (0 + k))
      exact hc _ (by omega)
theorem nR_0 {N : xN} {nm : Nat → Nat} : nR (0, N.2) nm 0 := ⟨rfl, fun i hi => by omega⟩
/-- how many letters are behind name i -/
theorem nR_pre {X : Nat × (Nat → Nat)} {N : xN} {nm oc : Nat → Nat} {i f : Nat} (h : nR1 N nm i) (hoc : ∀ k, k < X.1 → oc k = X.2 k) (hf : f + N.2.2 i ≤ X.1) : bgF oc N i f 0 = preF X f nm i (nlF nm i 0) 0 ∧ nlF nm i 0 = N.2.2 i := by
  obtain ⟨⟨h1, h2⟩, h3, h4, h5, h6⟩ := h
  have hn : ∀ d k, N.2.2 i - k = d → k ≤ N.2.2 i → nlF nm i k = N.2.2 i := by
    intro d
    induction d with
    | zero =>
      intro k e1 e2
      have : k = N.2.2 i := by omega
      rw [nlF]
      by_cases e : k < 12
      · rw [if_neg (by intro z; exact z.2 (by rw [h3 k e, if_neg (by omega)])), this]
      · rw [if_neg (by omega), this]
    | succ d ih =>
      intro k e1 e2
      rw [nlF, if_pos ⟨by omega, by rw [h3 k (by omega), if_pos (by omega)]; exact (nmF_0 (h4 k (by omega))).1⟩]
      exact ih (k + 1) (by omega) (by omega)
  have hn0 := hn _ 0 rfl (Nat.zero_le _)
  refine ⟨?_, hn0⟩
  rw [hn0]
  have hp : ∀ d k, N.2.2 i - k = d → bgF oc N i f k = preF X f nm i (N.2.2 i) k := by
    intro d
    induction d with
    | zero => intro k e1; rw [bgF, if_neg (by omega), preF, if_neg (by omega)]
    | succ d ih =>
      intro k e1
      rw [bgF_st (by omega), preF_st (by omega), h3 k (by omega), if_pos (show k < N.2.2 i by omega), hoc _ (by omega), ih (k + 1) (by omega)]
      by_cases e : X.2 (f + k) = N.2.1 (12 * i + k)
      · rw [if_pos e.symm, if_pos e]
      · rw [if_neg (fun z => e z.symm), if_neg e]
  exact hp _ 0 rfl
/-- what every row of names is -/
def nB (N : xN) (ml : Nat) : Prop := (N.1 ≤ ml ∧ ml ≤ 60) ∧ (∀ k, N.2.1 k < 256) ∧ ∀ k, N.2.2 k ≤ 12
theorem nB_add {N : xN} {oc : Nat → Nat} {ml f e : Nat} (h : nB N ml) (h1 : N.1 < ml) (h2 : e - f ≤ 12) (ho : ∀ k, oc k < 256) : nB (nAdd oc N f e) ml := by
  refine ⟨⟨h1, h.1.2⟩, fun k => ?_, fun k => ?_⟩
  · show va_cpy oc N.2.1 f (12 * N.1) (e - f) k < 256
    unfold va_cpy
    split
    · exact ho _
    · exact h.2.1 k
  · show va_up N.2.2 N.1 (e - f) k ≤ 12
    by_cases e9 : k = N.1
    · rw [e9, va_up_self]; exact h2
    · rw [va_up_ne _ _ e9]; exact h.2.2 k
theorem nB_0 {N : xN} {ml : Nat} (h : nB N ml) : nB (0, N.2) ml := ⟨⟨Nat.zero_le _, h.1.2⟩, h.2⟩
theorem ju_ne {M : jMem} {k q : Nat} {x : va_E} (h : q ≠ k) : (ju M k x).1 q = M.1 q := va_up_ne _ _ h
theorem ju_eq {M : jMem} {k : Nat} {x : va_E} : (ju M k x).1 k = some x := va_up_self _ _ _
theorem nI_neg {a b : Nat} (h : a < b) (hb : b < 2 ^ 30) : nI a - nI b < 0 := by
  rw [Int32.lt_iff_toInt_lt, pk_sub_toInt (by omega) hb]
  show (a : Int) - (b : Int) < 0
  omega
