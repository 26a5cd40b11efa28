/-! CLASS AND REFERENCE: the ops -/
/-- an operand -/
def pdR (D : mD) (Z : xZ) (p : Nat) : Prop := mKind D p ≤ 3 ∧ (Z.2.1 p).1 = 136 + mKind D p ∧ (1 ≤ (Z.2.1 p).2.1 ∧ (Z.2.1 p).2.1 ≤ 32) ∧ mBits D p = nI (Z.2.1 p).2.1 ∧ (mKind D p = 3 → ∃ s, s < D.2.1 ∧ mSetOf D p = nI s ∧ (Z.2.1 p).2.2 = nI s ∧ mSetB D s = (Z.2.1 p).2.1)
theorem pdR.bits {D : mD} {Z : xZ} {p : Nat} (h : pdR D Z p) : bitsN D p = (Z.2.1 p).2.1 := by
  unfold bitsN
  rw [h.2.2.2.1, nI_clamp (by have := h.2.2.1; omega)]
/-- what stands at place j of op o -/
def wC (D : mD) (Z : xZ) (o j : Nat) : Prop := mWhat D (32 * o + j) = -1 ∨ mWhat D (32 * o + j) = -2 ∨ ∃ k b, k < mOpds D o ∧ b < (Z.2.1 (6 * o + k)).2.1 ∧ mWhat D (32 * o + j) = nI (32 * k + b) ∧ Z.2.2 (6 * o + k) b = nI (D.1 - 1 - j)
/-- op o of the class is op o of the reference, n bits of it laid -/
def opR (D : mD) (Z : xZ) (o n : Nat) : Prop :=
  ((Z.1 o).1 = mOpds D o ∧ mOpds D o ≤ 6 ∧ (Z.1 o).2.1 = n ∧ n ≤ D.1 ∧ D.1 ≤ 32) ∧ (∀ k, k < mOpds D o → pdR D Z (6 * o + k)) ∧
  (∀ q, q < 32 → (bt (Z.1 o).2.2.1 q = true ↔ q < D.1 ∧ D.1 - 1 - q < n ∧ mWhat D (32 * o + (D.1 - 1 - q)) < 0)) ∧
  (∀ q, q < 32 → (bt (Z.1 o).2.2.2 q = true ↔ q < D.1 ∧ D.1 - 1 - q < n ∧ mWhat D (32 * o + (D.1 - 1 - q)) = -2)) ∧
  (∀ j, j < n → wC D Z o j) ∧
  (∀ k b, k < mOpds D o → b < (Z.2.1 (6 * o + k)).2.1 → Z.2.2 (6 * o + k) b = -1 ∨ ∃ j, j < n ∧ mWhat D (32 * o + j) = nI (32 * k + b) ∧ Z.2.2 (6 * o + k) b = nI (D.1 - 1 - j))
theorem nI_m1 {x : Nat} (h : x < 2 ^ 31) : nI x ≠ -1 := by
  intro z
  have := nI_pos h
  rw [z] at this
  exact this (by decide)
theorem nI_m2 {x : Nat} (h : x < 2 ^ 31) : nI x ≠ -2 := by
  intro z
  have := nI_pos h
  rw [z] at this
  exact this (by decide)
theorem standsF_iff {wt : Nat → Int32} {o n x k : Nat} : standsF wt o n x k = true ↔ ∃ j, k ≤ j ∧ j < n ∧ wt (32 * o + j) = nI x := by
  induction hm : n - k generalizing k with
  | zero =>
    rw [standsF, if_neg (by omega)]
    constructor
    · intro h; cases h
    · rintro ⟨j, h1, h2, _⟩; omega
  | succ d ih =>
    rw [standsF, if_pos (by omega)]
    by_cases e : wt (32 * o + k) = nI x
    · rw [if_pos e]
      exact ⟨fun _ => ⟨k, Nat.le_refl _, by omega, e⟩, fun _ => rfl⟩
    · rw [if_neg e, ih (by omega)]
      constructor
      · rintro ⟨j, h1, h2, h3⟩; exact ⟨j, by omega, h2, h3⟩
      · rintro ⟨j, h1, h2, h3⟩
        refine ⟨j, ?_, h2, h3⟩
        by_cases e2 : j = k
        · subst e2; exact absurd h3 e
        · omega
section OPR
variable {D : mD} {Z : xZ} {o n : Nat}
theorem opR.pl (h : opR D Z o n) {k b j : Nat} (hk : k < mOpds D o) (hb : b < (Z.2.1 (6 * o + k)).2.1) (hj : j < n) (hw : mWhat D (32 * o + j) = nI (32 * k + b)) : Z.2.2 (6 * o + k) b = nI (D.1 - 1 - j) := by
  obtain ⟨⟨-, h1, -, -, -⟩, h2, -, -, h3, -⟩ := h
  have hb2 := (h2 k hk).2.2.1
  rcases h3 j hj with z | z | ⟨k', b', c1, c2, c3, c4⟩
  · rw [hw] at z; exact absurd z (nI_m1 (by omega))
  · rw [hw] at z; exact absurd z (nI_m2 (by omega))
  · have hb3 := (h2 k' c1).2.2.1
    rw [hw, nI_eq (by omega) (by omega)] at c3
    have e1 : k' = k := by omega
    subst e1
    have e2 : b' = b := by omega
    subst e2
    exact c4
theorem opR.st (h : opR D Z o n) {k b : Nat} (hk : k < mOpds D o) (hb : b < (Z.2.1 (6 * o + k)).2.1) : standsF (mWhat D) o n (32 * k + b) 0 = true ↔ Z.2.2 (6 * o + k) b ≠ -1 := by
  rw [standsF_iff]
  constructor
  · rintro ⟨j, -, h1, h2⟩
    rw [h.pl hk hb h1 h2]
    have := h.1.2.2.2.2
    exact nI_m1 (by omega)
  · intro z
    rcases h.2.2.2.2.2 k b hk hb with e | ⟨j, e1, e2, e3⟩
    · exact absurd e z
    · exact ⟨j, Nat.zero_le _, e1, e2⟩
/-- what the relation rests on -/
theorem opR.fr (h : opR D Z o n) {D' : mD} {Z' : xZ} (hW : D'.1 = D.1) (hs : D.2.1 ≤ D'.2.1) (hsb : ∀ s, s < D.2.1 → mSetB D' s = mSetB D s) (h1 : mOpds D' o = mOpds D o) (h2 : ∀ k, k < 6 → mKind D' (6 * o + k) = mKind D (6 * o + k) ∧ mBits D' (6 * o + k) = mBits D (6 * o + k) ∧ mSetOf D' (6 * o + k) = mSetOf D (6 * o + k)) (h3 : ∀ j, j < 32 → mWhat D' (32 * o + j) = mWhat D (32 * o + j)) (h4 : Z'.1 o = Z.1 o) (h5 : ∀ k, k < 6 → Z'.2.1 (6 * o + k) = Z.2.1 (6 * o + k) ∧ Z'.2.2 (6 * o + k) = Z.2.2 (6 * o + k)) : opR D' Z' o n := by
  obtain ⟨⟨a1, a2, a3, a4, a5⟩, b1, b2, b3, b4, b5⟩ := h
  refine ⟨by rw [h4, h1, hW]; exact ⟨a1, a2, a3, a4, a5⟩, fun k hk => ?_, fun q hq => ?_, fun q hq => ?_, fun j hj => ?_, fun k b hk hb => ?_⟩
  · rw [h1] at hk
    obtain ⟨c1, c2, c3, c4, c5⟩ := b1 k hk
    have e1 := h2 k (by omega)
    have e2 := h5 k (by omega)
    unfold pdR
    rw [e1.1, e1.2.1, e1.2.2, e2.1]
    exact ⟨c1, c2, c3, c4, fun z => by obtain ⟨s, d1, d2, d3, d4⟩ := c5 z; exact ⟨s, by omega, d2, d3, by rw [hsb s d1]; exact d4⟩⟩
  · rw [h4, b2 q hq, hW]
    constructor
    · rintro ⟨d1, d2, d3⟩; exact ⟨d1, d2, by rw [h3 _ (by omega)]; exact d3⟩
    · rintro ⟨d1, d2, d3⟩; exact ⟨d1, d2, by rw [h3 _ (by omega)] at d3; exact d3⟩
  · rw [h4, b3 q hq, hW]
    constructor
    · rintro ⟨d1, d2, d3⟩; exact ⟨d1, d2, by rw [h3 _ (by omega)]; exact d3⟩
    · rintro ⟨d1, d2, d3⟩; exact ⟨d1, d2, by rw [h3 _ (by omega)] at d3; exact d3⟩
  · unfold wC
    rw [h3 j (by omega), h1, hW]
    rcases b4 j hj with z | z | ⟨k, b, c1, c2, c3, c4⟩
    · exact Or.inl z
    · exact Or.inr (Or.inl z)
    · have e2 := h5 k (by omega)
      exact Or.inr (Or.inr ⟨k, b, c1, by rw [e2.1]; exact c2, c3, by rw [e2.2]; exact c4⟩)
  · rw [h1] at hk
    have e2 := h5 k (by omega)
    rw [e2.1] at hb
    rw [e2.2, hW]
    rcases b5 k b hk hb with z | ⟨j, c1, c2, c3⟩
    · exact Or.inl z
    · exact Or.inr ⟨j, c1, by rw [h3 j (by omega)]; exact c2, c3⟩
end OPR
theorem b_n1 : ∀ i, i < 32 → bt (nI 1) i = decide (i = 0) := by decide +kernel
theorem b_n0 (i : Nat) : bt (nI 0) i = false := b_0 i
theorem b_one {s q : Nat} (hs : s < 32) (hq : q < 32) : bt (nI 1 <<< (nI s &&& 31)) q = decide (q = s) := by
  rw [b_shl s hs _ hq, b_n1 _ (by omega)]
  rw [Bool.eq_iff_iff]
  simp only [Bool.and_eq_true, decide_eq_true_eq]
  omega
theorem b_zero {s q : Nat} (hs : s < 32) (hq : q < 32) : bt (nI 0 <<< (nI s &&& 31)) q = false := by
  rw [b_shl s hs _ hq, b_n0, Bool.and_false]
/-- a fixed bit is laid -/
theorem opR.fix {D : mD} {Z : xZ} {o n x : Nat} (h : opR D Z o n) (hn : n < D.1) (hx : x = 0 ∨ x = 1) : opR (mdW D (va_up (mWhat D) (32 * o + n) (if x = 0 then -1 else -2))) (zO Z o ((Z.1 o).1, n + 1, (Z.1 o).2.2.1 ||| (nI 1 <<< (nI (D.1 - 1 - n) &&& 31)), (Z.1 o).2.2.2 ||| (nI x <<< (nI (D.1 - 1 - n) &&& 31)))) o (n + 1) := by
  obtain ⟨⟨a1, a2, a3, a4, a5⟩, b1, b2, b3, b4, b5⟩ := h
  have hz : (zO Z o ((Z.1 o).1, n + 1, (Z.1 o).2.2.1 ||| (nI 1 <<< (nI (D.1 - 1 - n) &&& 31)), (Z.1 o).2.2.2 ||| (nI x <<< (nI (D.1 - 1 - n) &&& 31)))).1 o = ((Z.1 o).1, n + 1, (Z.1 o).2.2.1 ||| (nI 1 <<< (nI (D.1 - 1 - n) &&& 31)), (Z.1 o).2.2.2 ||| (nI x <<< (nI (D.1 - 1 - n) &&& 31))) := zO_self
  have hw : ∀ j, j < n → va_up (mWhat D) (32 * o + n) (if x = 0 then -1 else -2) (32 * o + j) = mWhat D (32 * o + j) := fun j hj => va_up_ne _ _ (by omega)
  have hself : va_up (mWhat D) (32 * o + n) (if x = 0 then (-1 : Int32) else -2) (32 * o + n) = if x = 0 then (-1 : Int32) else -2 := va_up_self _ _ _
  refine ⟨by rw [hz]; exact ⟨a1, a2, rfl, hn, a5⟩, fun k hk => b1 k hk, fun q hq => ?_, fun q hq => ?_, fun j hj => ?_, fun k b hk hb => ?_⟩
  · rw [hz]
    show bt ((Z.1 o).2.2.1 ||| (nI 1 <<< (nI (D.1 - 1 - n) &&& 31))) q = true ↔ q < D.1 ∧ D.1 - 1 - q < n + 1 ∧ va_up (mWhat D) (32 * o + n) (if x = 0 then -1 else -2) (32 * o + (D.1 - 1 - q)) < 0
    rw [b_or, Bool.or_eq_true, b2 q hq, b_one (by omega) hq, decide_eq_true_eq]
    constructor
    · rintro (⟨d1, d2, d3⟩ | d)
      · exact ⟨d1, by omega, by rw [hw _ d2]; exact d3⟩
      · refine ⟨by omega, by omega, ?_⟩
        rw [show D.1 - 1 - q = n by omega, hself]
        split <;> decide
    · rintro ⟨d1, d2, d3⟩
      by_cases e : D.1 - 1 - q = n
      · right; omega
      · left
        rw [hw _ (by omega)] at d3
        exact ⟨d1, by omega, d3⟩
  · rw [hz]
    show bt ((Z.1 o).2.2.2 ||| (nI x <<< (nI (D.1 - 1 - n) &&& 31))) q = true ↔ q < D.1 ∧ D.1 - 1 - q < n + 1 ∧ va_up (mWhat D) (32 * o + n) (if x = 0 then -1 else -2) (32 * o + (D.1 - 1 - q)) = -2
    rw [b_or, Bool.or_eq_true, b3 q hq]
    have hbx : bt (nI x <<< (nI (D.1 - 1 - n) &&& 31)) q = true ↔ x = 1 ∧ q = D.1 - 1 - n := by
      rcases hx with e | e
      · subst e; rw [b_zero (by omega) hq]; simp
      · subst e; rw [b_one (by omega) hq]; simp
    rw [hbx]
    constructor
    · rintro (⟨d1, d2, d3⟩ | ⟨d0, d⟩)
      · exact ⟨d1, by omega, by rw [hw _ d2]; exact d3⟩
      · refine ⟨by omega, by omega, ?_⟩
        rw [show D.1 - 1 - q = n by omega, hself, if_neg (by omega)]
    · rintro ⟨d1, d2, d3⟩
      by_cases e : D.1 - 1 - q = n
      · right
        rw [e, hself] at d3
        refine ⟨?_, by omega⟩
        rcases hx with e | e
        · subst e; rw [if_pos rfl] at d3; exact absurd d3 (by decide)
        · exact e
      · left
        rw [hw _ (by omega)] at d3
        exact ⟨d1, by omega, d3⟩
  · show wC _ _ o j
    unfold wC
    show va_up (mWhat D) (32 * o + n) (if x = 0 then -1 else -2) (32 * o + j) = -1 ∨ va_up (mWhat D) (32 * o + n) (if x = 0 then -1 else -2) (32 * o + j) = -2 ∨ ∃ k b, k < mOpds D o ∧ b < (Z.2.1 (6 * o + k)).2.1 ∧ va_up (mWhat D) (32 * o + n) (if x = 0 then -1 else -2) (32 * o + j) = nI (32 * k + b) ∧ Z.2.2 (6 * o + k) b = nI (D.1 - 1 - j)
    by_cases e : j = n
    · subst e
      rw [hself]
      by_cases e2 : x = 0
      · rw [if_pos e2]; exact Or.inl rfl
      · rw [if_neg e2]; exact Or.inr (Or.inl rfl)
    · rw [hw j (by omega)]
      exact b4 j (by omega)
  · show Z.2.2 (6 * o + k) b = -1 ∨ ∃ j, j < n + 1 ∧ va_up (mWhat D) (32 * o + n) (if x = 0 then -1 else -2) (32 * o + j) = nI (32 * k + b) ∧ Z.2.2 (6 * o + k) b = nI (D.1 - 1 - j)
    rcases b5 k b hk hb with z | ⟨j, c1, c2, c3⟩
    · exact Or.inl z
    · exact Or.inr ⟨j, by omega, by rw [hw j c1]; exact c2, c3⟩
/-- the bits of an operand are laid -/
def lwF (wt : Nat → Int32) (o k lo c m : Nat) : Nat → Int32 := fun q => if 32 * o + m ≤ q ∧ q < 32 * o + m + c then nI (32 * k + (lo + c - 1 - (q - (32 * o + m)))) else wt q
theorem layF_at (pl : Nat → Int32) (h lo hp i q : Nat) : layF pl h lo hp i q = if lo ≤ q ∧ q < lo + i then nI (hp - (h - q)) else pl q := by
  induction i with
  | zero => rw [layF, if_neg (by omega)]
  | succ i ih =>
    rw [layF]
    by_cases e : q = lo + i
    · subst e; rw [va_up_self, if_pos (by omega)]
    · rw [va_up_ne _ _ e, ih]
      by_cases e2 : lo ≤ q ∧ q < lo + i
      · rw [if_pos e2, if_pos (by omega)]
      · rw [if_neg e2, if_neg (by omega)]
theorem standsF_cong {wt wt' : Nat → Int32} {o n x : Nat} (h : ∀ j, j < n → wt (32 * o + j) = wt' (32 * o + j)) : standsF wt o n x 0 = standsF wt' o n x 0 := by
  rw [Bool.eq_iff_iff, standsF_iff, standsF_iff]
  constructor
  · rintro ⟨j, a, b, c⟩; exact ⟨j, a, b, by rw [← h j b]; exact c⟩
  · rintro ⟨j, a, b, c⟩; exact ⟨j, a, b, by rw [h j b]; exact c⟩
theorem fldL_ok {a : Nat} {K : Nat × Nat × Nat} {o n k lo : Nat} : ∀ (c : Nat) (D : mD) (m : Nat), n ≤ m → (∀ b, lo ≤ b → b < lo + c → standsF (mWhat D) o n (32 * k + b) 0 = false) → fldL a K o n k lo c D m = (none, K, mdW D (lwF (mWhat D) o k lo c m), m + c) := by
  intro c
  induction c with
  | zero =>
    intro D m _ _
    rw [fldL, show lwF (mWhat D) o k lo 0 m = mWhat D by funext q; unfold lwF; rw [if_neg (by omega)]]
    rfl
  | succ c ih =>
    intro D m hm h
    rw [fldL, if_neg (by rw [h (lo + c) (by omega) (by omega)]; decide), ih _ (m + 1) (by omega) (fun b h1 h2 => ?_)]
    · refine congrArg (fun z => (none, K, z)) ?_
      refine Prod.ext ?_ (by show m + 1 + c = m + (c + 1); omega)
      show mdW (mdW D _) _ = mdW D _
      refine congrArg (mdW D) (funext fun q => ?_)
      show lwF (va_up (mWhat D) (32 * o + m) (nI (32 * k + (lo + c)))) o k lo c (m + 1) q = lwF (mWhat D) o k lo (c + 1) m q
      unfold lwF
      by_cases e : q = 32 * o + m
      · subst e; rw [if_neg (by omega), va_up_self, if_pos (by omega), show 32 * o + m - (32 * o + m) = 0 by omega]; congr 2
      · by_cases e2 : 32 * o + (m + 1) ≤ q ∧ q < 32 * o + (m + 1) + c
        · rw [if_pos e2, if_pos (by omega)]
          congr 2; omega
        · rw [if_neg e2, if_neg (by omega), va_up_ne _ _ e]
    · rw [← h b h1 (by omega)]
      refine standsF_cong (fun j hj => ?_)
      show va_up (mWhat D) (32 * o + m) _ (32 * o + j) = mWhat D (32 * o + j)
      exact va_up_ne _ _ (by omega)
theorem fldL_x {a : Nat} {K : Nat × Nat × Nat} {o n k lo : Nat} : ∀ (c : Nat) (D : mD) (m : Nat), n ≤ m → (∃ b, lo ≤ b ∧ b < lo + c ∧ standsF (mWhat D) o n (32 * k + b) 0 = true) → (fldL a K o n k lo c D m).1 = some a := by
  intro c
  induction c with
  | zero => rintro D m _ ⟨b, h1, h2, _⟩; omega
  | succ c ih =>
    rintro D m hm ⟨b, h1, h2, h3⟩
    rw [fldL]
    by_cases e : standsF (mWhat D) o n (32 * k + (lo + c)) 0 = true
    · rw [if_pos e]
    · rw [if_neg e]
      refine ih _ (m + 1) (by omega) ⟨b, h1, ?_, ?_⟩
      · by_cases e2 : b = lo + c
        · subst e2; exact absurd h3 e
        · omega
      · rw [← h3]
        refine standsF_cong (fun j hj => ?_)
        show va_up (mWhat D) (32 * o + m) _ (32 * o + j) = mWhat D (32 * o + j)
        exact va_up_ne _ _ (by omega)
theorem snF_iff {pl : Nat → Int32} {h b : Nat} : snF pl h b = true ↔ ∀ q, b ≤ q → q ≤ h → pl q = -1 := by
  induction hm : h + 1 - b generalizing b with
  | zero =>
    rw [snF, if_neg (by omega)]
    exact ⟨fun _ q a b => by omega, fun _ => rfl⟩
  | succ d ih =>
    rw [snF, if_pos (by omega)]
    by_cases e : pl b = -1
    · rw [if_pos e, ih (by omega)]
      constructor
      · intro z q a b'
        by_cases e2 : q = b
        · subst e2; exact e
        · exact z q (by omega) b'
      · intro z q a b'; exact z q (by omega) b'
    · rw [if_neg e]
      constructor
      · intro z; cases z
      · intro z; exact absurd (z b (Nat.le_refl _) (by omega)) e
theorem swF_iff {pl : Nat → Int32} {n b : Nat} : swF pl n b = true ↔ ∀ q, b ≤ q → q < n → pl q ≠ -1 := by
  induction hm : n - b generalizing b with
  | zero =>
    rw [swF, if_neg (by omega)]
    exact ⟨fun _ q a b => by omega, fun _ => rfl⟩
  | succ d ih =>
    rw [swF, if_pos (by omega)]
    by_cases e : pl b = -1
    · rw [if_pos e]
      constructor
      · intro z; cases z
      · intro z; exact absurd e (z b (Nat.le_refl _) (by omega))
    · rw [if_neg e, ih (by omega)]
      constructor
      · intro z q a b'
        by_cases e2 : q = b
        · subst e2; exact e
        · exact z q (by omega) b'
      · intro z q a b'; exact z q (by omega) b'
/-- the bits h down to lo of operand k are laid -/
theorem opR.lay {D : mD} {Z : xZ} {o n k h lo : Nat} (hR : opR D Z o n) (hk : k < mOpds D o) (hl : lo ≤ h) (hh : h < (Z.2.1 (6 * o + k)).2.1) (hW : n + (h + 1 - lo) ≤ D.1) (hs : ∀ b, lo ≤ b → b ≤ h → Z.2.2 (6 * o + k) b = -1) : opR (mdW D (lwF (mWhat D) o k lo (h + 1 - lo) n)) (zO (zL Z (6 * o + k) (layF (Z.2.2 (6 * o + k)) h lo (D.1 - 1 - n) (h + 1 - lo))) o ((Z.1 o).1, n + (h + 1 - lo), (Z.1 o).2.2)) o (n + (h + 1 - lo)) := by
  have hst := fun k b => @opR.st D Z o n hR k b
  obtain ⟨⟨a1, a2, a3, a4, a5⟩, b1, b2, b3, b4, b5⟩ := hR
  have hz : (zO (zL Z (6 * o + k) (layF (Z.2.2 (6 * o + k)) h lo (D.1 - 1 - n) (h + 1 - lo))) o ((Z.1 o).1, n + (h + 1 - lo), (Z.1 o).2.2)).1 o = ((Z.1 o).1, n + (h + 1 - lo), (Z.1 o).2.2) := zO_self
  have hb32 := (b1 k hk).2.2.1
  have hw : ∀ j, j < n → lwF (mWhat D) o k lo (h + 1 - lo) n (32 * o + j) = mWhat D (32 * o + j) := fun j hj => by unfold lwF; rw [if_neg (by omega)]
  have hw2 : ∀ j, n ≤ j → j < n + (h + 1 - lo) → lwF (mWhat D) o k lo (h + 1 - lo) n (32 * o + j) = nI (32 * k + (h - (j - n))) := fun j h1 h2 => by unfold lwF; rw [if_pos (by omega)]; congr 2; omega
  have hp : ∀ k', va_up Z.2.2 (6 * o + k) (layF (Z.2.2 (6 * o + k)) h lo (D.1 - 1 - n) (h + 1 - lo)) (6 * o + k') = if k' = k then layF (Z.2.2 (6 * o + k)) h lo (D.1 - 1 - n) (h + 1 - lo) else Z.2.2 (6 * o + k') := by
    intro k'
    by_cases e : k' = k
    · subst e; rw [va_up_self, if_pos rfl]
    · rw [va_up_ne _ _ (by omega), if_neg e]
  refine ⟨by rw [hz]; exact ⟨a1, a2, rfl, hW, a5⟩, fun k' hk' => b1 k' hk', fun q hq => ?_, fun q hq => ?_, fun j hj => ?_, fun k' b hk' hb => ?_⟩
  · rw [hz]
    show bt (Z.1 o).2.2.1 q = true ↔ q < D.1 ∧ D.1 - 1 - q < n + (h + 1 - lo) ∧ lwF (mWhat D) o k lo (h + 1 - lo) n (32 * o + (D.1 - 1 - q)) < 0
    rw [b2 q hq]
    constructor
    · rintro ⟨d1, d2, d3⟩; exact ⟨d1, by omega, by rw [hw _ d2]; exact d3⟩
    · rintro ⟨d1, d2, d3⟩
      by_cases e : D.1 - 1 - q < n
      · rw [hw _ e] at d3; exact ⟨d1, e, d3⟩
      · rw [hw2 _ (by omega) d2] at d3; exact absurd d3 (nI_pos (by omega))
  · rw [hz]
    show bt (Z.1 o).2.2.2 q = true ↔ q < D.1 ∧ D.1 - 1 - q < n + (h + 1 - lo) ∧ lwF (mWhat D) o k lo (h + 1 - lo) n (32 * o + (D.1 - 1 - q)) = -2
    rw [b3 q hq]
    constructor
    · rintro ⟨d1, d2, d3⟩; exact ⟨d1, by omega, by rw [hw _ d2]; exact d3⟩
    · rintro ⟨d1, d2, d3⟩
      by_cases e : D.1 - 1 - q < n
      · rw [hw _ e] at d3; exact ⟨d1, e, d3⟩
      · rw [hw2 _ (by omega) d2] at d3; exact absurd d3 (nI_m2 (by omega))
  · show lwF (mWhat D) o k lo (h + 1 - lo) n (32 * o + j) = -1 ∨ lwF (mWhat D) o k lo (h + 1 - lo) n (32 * o + j) = -2 ∨ ∃ k' b, k' < mOpds D o ∧ b < (Z.2.1 (6 * o + k')).2.1 ∧ lwF (mWhat D) o k lo (h + 1 - lo) n (32 * o + j) = nI (32 * k' + b) ∧ va_up Z.2.2 (6 * o + k) (layF (Z.2.2 (6 * o + k)) h lo (D.1 - 1 - n) (h + 1 - lo)) (6 * o + k') b = nI (D.1 - 1 - j)
    by_cases e : j < n
    · rw [hw j e]
      rcases b4 j e with z | z | ⟨k', b, c1, c2, c3, c4⟩
      · exact Or.inl z
      · exact Or.inr (Or.inl z)
      · refine Or.inr (Or.inr ⟨k', b, c1, c2, c3, ?_⟩)
        rw [hp]
        by_cases e2 : k' = k
        · subst e2
          rw [if_pos rfl, layF_at, if_neg ?_]
          · exact c4
          · intro z
            have := hs b z.1 (by omega)
            rw [c4] at this
            exact nI_m1 (by omega) this
        · rw [if_neg e2]; exact c4
    · rw [hw2 j (by omega) hj]
      refine Or.inr (Or.inr ⟨k, h - (j - n), hk, by omega, rfl, ?_⟩)
      rw [hp, if_pos rfl, layF_at, if_pos (by omega)]
      congr 1; omega
  · show va_up Z.2.2 (6 * o + k) (layF (Z.2.2 (6 * o + k)) h lo (D.1 - 1 - n) (h + 1 - lo)) (6 * o + k') b = -1 ∨ ∃ j, j < n + (h + 1 - lo) ∧ lwF (mWhat D) o k lo (h + 1 - lo) n (32 * o + j) = nI (32 * k' + b) ∧ va_up Z.2.2 (6 * o + k) (layF (Z.2.2 (6 * o + k)) h lo (D.1 - 1 - n) (h + 1 - lo)) (6 * o + k') b = nI (D.1 - 1 - j)
    have hb : b < (Z.2.1 (6 * o + k')).2.1 := hb
    have hk' : k' < mOpds D o := hk'
    rw [hp]
    have old : (∃ j, j < n ∧ mWhat D (32 * o + j) = nI (32 * k' + b) ∧ Z.2.2 (6 * o + k') b = nI (D.1 - 1 - j)) → ∃ j, j < n + (h + 1 - lo) ∧ lwF (mWhat D) o k lo (h + 1 - lo) n (32 * o + j) = nI (32 * k' + b) ∧ Z.2.2 (6 * o + k') b = nI (D.1 - 1 - j) := by
      rintro ⟨j, c1, c2, c3⟩
      exact ⟨j, by omega, by rw [hw j c1]; exact c2, c3⟩
    by_cases e2 : k' = k
    · subst e2
      rw [if_pos rfl, layF_at]
      by_cases e3 : lo ≤ b ∧ b < lo + (h + 1 - lo)
      · rw [if_pos e3]
        refine Or.inr ⟨n + (h - b), by omega, ?_, by congr 1; omega⟩
        rw [hw2 _ (by omega) (by omega)]
        congr 2; omega
      · rw [if_neg e3]
        rcases b5 k' b hk' hb with z | z
        · exact Or.inl z
        · exact Or.inr (old z)
    · rw [if_neg e2]
      rcases b5 k' b hk' hb with z | z
      · exact Or.inl z
      · exact Or.inr (old z)
