/-! THE CLASS: tokens -/
/-- the kind of a name -/
def kwF (X : Nat × (Nat → Nat)) (K : Nat × Nat × Nat) : Nat := if isW X K [119, 105, 100, 116, 104] = true then 132 else if isW X K [115, 101, 116] = true then 133 else if isW X K [111, 112] = true then 134 else if isW X K [119, 111, 114, 100] = true then 135 else if isW X K [117] = true then 136 else if isW X K [115] = true then 137 else if isW X K [112] = true then 138 else 129
/-- the kind of a token, as the class has it -/
def kcl (X : Nat × (Nat → Nat)) (K : Nat × Nat × Nat) : Nat := if K.1 = 0 then 128 else if K.1 = 1 then kwF X K else if K.1 = 2 then 130 else if K.1 = 3 then 131 else X.2 K.2.1
def bhF (X : Nat × (Nat → Nat)) (q : Nat) : Bool := decide (X.2 q = 48 ∧ ch X (q + 1) = 120 ∧ hx (ch X (q + 2)) ≠ 1000)
/-- token i of the text -/
def tokA (X : Nat × (Nat → Nat)) : Nat → Nat × Nat × Nat
  | 0 => nextF X 0
  | i + 1 => nextF X (tokA X i).2.2
theorem tokA_N (X : Nat × (Nat → Nat)) (i : Nat) : tkN X (tokA X i) := by
  induction i with
  | zero => exact ⟨0, Nat.zero_le _, rfl⟩
  | succ i ih => exact ih.nx
/-- the splitter holds the tokens of X -/
def sOK (X : Nat × (Nat → Nat)) (S : xS) : Prop := S.1 = X.1 ∧ S.2.1 ≤ 4001 ∧ ∀ i, i < S.2.1 → S.2.2.1 i = kcl X (tokA X i) ∧ S.2.2.2.1 i = (tokA X i).2.1 ∧ S.2.2.2.2 i = (tokA X i).2.2 ∧ ((tokA X i).1 = 0 ↔ i + 1 = S.2.1)
def xtk (X : Nat × (Nat → Nat)) (S : xS) (ix : Nat) (K : Nat × Nat × Nat) : Prop := ix < S.2.1 ∧ K = tokA X ix
def tt (X : Nat × (Nat → Nat)) (ix : Nat) (K : Nat × Nat × Nat) : xT := (ix, kcl X K, K.2.1, K.2.2)
/-- what holds while a text is read -/
def xcx (X : Nat × (Nat → Nat)) (A : xA) (S : xS) : Prop := X.1 ≤ 4000 ∧ (∀ k, X.2 k < 256) ∧ (∀ k, k < X.1 → A.2.1 k = X.2 k) ∧ sOK X S ∧ ∀ k, k < X.1 → okL (X.2 k) = true
theorem xtk.n {X : Nat × (Nat → Nat)} {S : xS} {ix : Nat} {K : Nat × Nat × Nat} (h : xtk X S ix K) : tkN X K := by rw [h.2]; exact tokA_N X ix
theorem tkN_end {X : Nat × (Nat → Nat)} {K : Nat × Nat × Nat} (h : tkN X K) (h0 : K.1 = 0) : K = (0, X.1, X.1) ∧ nextF X K.2.2 = K := by
  obtain ⟨q, h1, h2⟩ := h
  have h3 := skip_le h1
  have hK : K = nextK X (skip X q) := h2
  have e : skip X q = X.1 := by
    by_cases e : skip X q < X.1
    · exfalso
      have := (nextF_ok h1).2.2.1
      rw [hK] at h0
      revert h0
      unfold nextK
      rw [if_pos e]
      split
      · intro z; dsimp only at z; omega
      · split
        · intro z; dsimp only at z; omega
        · split
          · intro z; dsimp only at z; omega
          · intro z; dsimp only at z; split at z <;> omega
    · omega
  have hK2 : K = (0, X.1, X.1) := by rw [hK, e, nextK, if_neg (by omega)]
  refine ⟨hK2, ?_⟩
  rw [hK2]
  show nextK X (skip X X.1) = _
  rw [skip, if_neg (by omega), nextK, if_neg (by omega)]
theorem xtk.next {X : Nat × (Nat → Nat)} {S : xS} (hS : sOK X S) {ix : Nat} {K : Nat × Nat × Nat} (h : xtk X S ix K) (h0 : K.1 ≠ 0) : xtk X S (ix + 1) (nextF X K.2.2) := by
  have h1 := (hS.2.2 ix h.1).2.2.2
  rw [← h.2] at h1
  refine ⟨?_, by rw [h.2]; rfl⟩
  have h2 := h.1
  have h3 : ¬ ix + 1 = S.2.1 := fun z => h0 (h1.mpr z)
  omega
theorem xtk.at {X : Nat × (Nat → Nat)} {S : xS} (hS : sOK X S) {ix : Nat} {K : Nat × Nat × Nat} (h : xtk X S ix K) : S.2.2.1 ix = kcl X K ∧ S.2.2.2.1 ix = K.2.1 ∧ S.2.2.2.2 ix = K.2.2 := by
  have h1 := hS.2.2 ix h.1
  rw [← h.2] at h1
  exact ⟨h1.1, h1.2.1, h1.2.2.1⟩
theorem kwF_lt {X : Nat × (Nat → Nat)} {K : Nat × Nat × Nat} : 129 ≤ kwF X K ∧ kwF X K ≤ 138 := by
  unfold kwF
  split
  · omega
  · split
    · omega
    · split
      · omega
      · split
        · omega
        · split
          · omega
          · split
            · omega
            · split <;> omega
theorem kcl_lt {X : Nat × (Nat → Nat)} (hX : ∀ k, X.2 k < 256) {K : Nat × Nat × Nat} : kcl X K < 256 := by
  have h := kwF_lt (X := X) (K := K)
  unfold kcl
  split
  · omega
  · split
    · omega
    · split
      · omega
      · split
        · omega
        · exact hX _
/-- a token of one letter: which letter -/
theorem tk_one {X : Nat × (Nat → Nat)} {K : Nat × Nat × Nat} (h : tkN X K) : (K.1 = 4 → isSg (X.2 K.2.1) = true) ∧ (K.1 = 5 → isSg (X.2 K.2.1) = false) ∧ ((K.1 = 4 ∨ K.1 = 5) → K.2.1 < X.1) ∧ (K.1 = 1 → isLet (X.2 K.2.1) = true) ∧ (K.1 ≠ 1 → K.1 ≠ 0 → isLet (X.2 K.2.1) = false) ∧ (K.1 = 1 → ∀ k, K.2.1 ≤ k → k < K.2.2 → nmF (X.2 k) = true) ∧ (K.1 ≠ 0 → K.2.1 < X.1) := by
  obtain ⟨q, h1, h2⟩ := h
  have h0 := skip_le h1
  rw [show nextF X q = nextK X (skip X q) from rfl] at h2
  generalize skip X q = p at h0 h2
  subst h2
  unfold nextK
  by_cases e : p < X.1
  · rw [if_pos e]
    by_cases e1 : isLet (X.2 p) = true
    · rw [if_pos e1]
      refine ⟨fun z => by dsimp only at z; omega, fun z => by dsimp only at z; omega, fun _ => e, fun _ => e1, fun z => absurd rfl z, fun _ k a1 a2 => ?_, fun _ => e⟩
      dsimp only at a1 a2
      have h3 := scan_le (f := nmF) (by decide) (X := X) (lim := p + 12) (p := p + 1) (by omega)
      by_cases ek : k = p
      · subst ek; unfold nmF; rw [e1]; rfl
      · have h4 := scan_all (f := nmF) (X := X) (lim := p + 12) (p := p + 1) k (by omega) a2
        rw [ch, if_pos (by omega)] at h4
        exact h4
    · rw [if_neg e1]
      have e1' : isLet (X.2 p) = false := by cases h : isLet (X.2 p) <;> simp_all
      split
      · exact ⟨fun z => by dsimp only at z; omega, fun z => by dsimp only at z; omega, fun _ => e, fun z => by dsimp only at z; omega, fun _ _ => e1', fun z => by dsimp only at z; omega, fun _ => e⟩
      · split
        · exact ⟨fun z => by dsimp only at z; omega, fun z => by dsimp only at z; omega, fun _ => e, fun z => by dsimp only at z; omega, fun _ _ => e1', fun z => by dsimp only at z; omega, fun _ => e⟩
        · cases hs : isSg (X.2 p) with
          | true => exact ⟨fun _ => rfl, fun z => by dsimp only at z; simp at z, fun _ => e, fun z => by dsimp only at z; simp at z, fun _ _ => e1', fun z => by dsimp only at z; simp at z, fun _ => e⟩
          | false => exact ⟨fun z => by dsimp only at z; simp at z, fun _ => rfl, fun _ => e, fun z => by dsimp only at z; simp at z, fun _ _ => e1', fun z => by dsimp only at z; simp at z, fun _ => e⟩
  · rw [if_neg e]
    exact ⟨fun z => by dsimp only at z; omega, fun z => by dsimp only at z; omega, fun z => by dsimp only at z; omega, fun z => by dsimp only at z; omega, fun _ z => by dsimp only at z; omega, fun z => by dsimp only at z; omega, fun z => by dsimp only at z; omega⟩
section KC
variable {X : Nat × (Nat → Nat)} {K : Nat × Nat × Nat}
theorem okL_lt {x : Nat} (h : okL x = true) : x ≤ 126 := by
  unfold okL at h
  simp at h
  omega
/-- a sign -/
theorem kcl_sg (h : tkN X K) (hok : ∀ k, k < X.1 → okL (X.2 k) = true) {x : Nat} (hx : isSg x = true) (hx2 : x < 128) : kcl X K = x ↔ isSignF X K x = true := by
  have h1 := tk_one h
  have h5 := h.g.1.2.2.2.1
  have hw := kwF_lt (X := X) (K := K)
  have e : isSignF X K x = true ↔ K.1 = 4 ∧ X.2 K.2.1 = x := by simp [isSignF]
  rw [e]
  unfold kcl
  split
  · omega
  · split
    · omega
    · split
      · omega
      · split
        · omega
        · constructor
          · intro z
            refine ⟨?_, z⟩
            by_cases h4 : K.1 = 4
            · exact h4
            · exfalso
              have := h1.2.1 (by omega)
              rw [z, hx] at this
              cases this
          · intro z; exact z.2
theorem kcl_one (h : tkN X K) (hok : ∀ k, k < X.1 → okL (X.2 k) = true) (h4 : 4 ≤ K.1) : kcl X K ≤ 126 := by
  have h1 := tk_one h
  unfold kcl
  rw [if_neg (by omega), if_neg (by omega), if_neg (by omega), if_neg (by omega)]
  have h5 := h.g.1.2.2.2.1
  exact okL_lt (hok _ (h1.2.2.1 (by omega)))
theorem kcl_0 (h : tkN X K) (hok : ∀ k, k < X.1 → okL (X.2 k) = true) : kcl X K = 128 ↔ K.1 = 0 := by
  have hw := kwF_lt (X := X) (K := K)
  constructor
  · intro z
    by_cases h4 : 4 ≤ K.1
    · have := kcl_one h hok h4; omega
    · unfold kcl at z
      split at z
      · assumption
      · split at z
        · omega
        · split at z
          · omega
          · split at z <;> omega
  · intro z; unfold kcl; rw [if_pos z]
theorem kcl_2 (h : tkN X K) (hok : ∀ k, k < X.1 → okL (X.2 k) = true) : kcl X K = 130 ↔ K.1 = 2 := by
  constructor
  · intro z
    by_cases h4 : 4 ≤ K.1
    · have := kcl_one h hok h4; omega
    · unfold kcl at z
      split at z
      · omega
      · split at z
        · rename_i h1
          exfalso
          unfold kwF at z
          revert z
          split
          · omega
          · split
            · omega
            · split
              · omega
              · split
                · omega
                · split
                  · omega
                  · split
                    · omega
                    · split <;> omega
        · split at z
          · assumption
          · split at z <;> omega
  · intro z; unfold kcl; rw [if_neg (by omega), if_neg (by omega), if_pos z]
theorem kcl_3 (h : tkN X K) (hok : ∀ k, k < X.1 → okL (X.2 k) = true) : kcl X K = 131 ↔ K.1 = 3 := by
  constructor
  · intro z
    by_cases h4 : 4 ≤ K.1
    · have := kcl_one h hok h4; omega
    · unfold kcl at z
      split at z
      · omega
      · split at z
        · rename_i h1
          exfalso
          unfold kwF at z
          revert z
          split
          · omega
          · split
            · omega
            · split
              · omega
              · split
                · omega
                · split
                  · omega
                  · split
                    · omega
                    · split <;> omega
        · split at z
          · omega
          · split at z <;> omega
  · intro z; unfold kcl; rw [if_neg (by omega), if_neg (by omega), if_neg (by omega), if_pos z]
theorem kcl_w (h : tkN X K) (hok : ∀ k, k < X.1 → okL (X.2 k) = true) {c : Nat} (hc : 132 ≤ c) (hc2 : c ≤ 138) : kcl X K = c ↔ K.1 = 1 ∧ kwF X K = c := by
  constructor
  · intro z
    by_cases h4 : 4 ≤ K.1
    · have := kcl_one h hok h4; omega
    · unfold kcl at z
      split at z
      · omega
      · split at z
        · exact ⟨by assumption, z⟩
        · split at z
          · omega
          · split at z <;> omega
  · intro z; unfold kcl; rw [if_neg (by omega), if_pos z.1]; exact z.2
theorem isW_len {w : List Nat} (h : isW X K w = true) : K.2.2 - K.2.1 = w.length := by
  simp [isW] at h
  exact h.1
theorem isW_1 {a b : Nat} (ha : isW X K [a] = true) (hb : isW X K [b] = true) : a = b := by
  unfold isW at ha hb
  rw [Bool.and_eq_true] at ha hb
  have h1 := ha.2
  have h2 := hb.2
  rw [eqF, if_pos (by simp)] at h1 h2
  split at h1
  · split at h2
    · rename_i e1 e2
      exact e1.symm.trans e2
    · cases h2
  · cases h1
theorem kw_132 : kwF X K = 132 ↔ isW X K [119, 105, 100, 116, 104] = true := by
  unfold kwF
  constructor
  · intro z
    split at z
    · assumption
    · revert z
      split
      · omega
      · split
        · omega
        · split
          · omega
          · split
            · omega
            · split
              · omega
              · split <;> omega
  · intro z; rw [if_pos z]
theorem kw_133 : kwF X K = 133 ↔ isW X K [115, 101, 116] = true := by
  unfold kwF
  constructor
  · intro z
    split at z
    · omega
    · split at z
      · assumption
      · revert z
        split
        · omega
        · split
          · omega
          · split
            · omega
            · split
              · omega
              · split <;> omega
  · intro z
    have l1 := isW_len z
    rw [if_neg (fun q => by have := isW_len q; simp at l1 this; omega), if_pos z]
theorem kw_134 : kwF X K = 134 ↔ isW X K [111, 112] = true := by
  unfold kwF
  constructor
  · intro z
    split at z
    · omega
    · split at z
      · omega
      · split at z
        · assumption
        · revert z
          split
          · omega
          · split
            · omega
            · split
              · omega
              · split <;> omega
  · intro z
    have l1 := isW_len z
    rw [if_neg (fun q => by have := isW_len q; simp at l1 this; omega), if_neg (fun q => by have := isW_len q; simp at l1 this; omega), if_pos z]
theorem kw_135 : kwF X K = 135 ↔ isW X K [119, 111, 114, 100] = true := by
  unfold kwF
  constructor
  · intro z
    split at z
    · omega
    · split at z
      · omega
      · split at z
        · omega
        · split at z
          · assumption
          · revert z
            split
            · omega
            · split
              · omega
              · split <;> omega
  · intro z
    have l1 := isW_len z
    rw [if_neg (fun q => by have := isW_len q; simp at l1 this; omega), if_neg (fun q => by have := isW_len q; simp at l1 this; omega), if_neg (fun q => by have := isW_len q; simp at l1 this; omega), if_pos z]
/-- the three kinds of operands that are words -/
theorem kw_kd : (kwF X K = 136 ↔ kdF X K = 0) ∧ (kwF X K = 137 ↔ kdF X K = 1) ∧ (kwF X K = 138 ↔ kdF X K = 2) := by
  have h5 : ∀ {w : List Nat}, isW X K w = true → w.length ≠ 1 → isW X K [117] = false ∧ isW X K [115] = false ∧ isW X K [112] = false := by
    intro w h hl
    have l1 := isW_len h
    have g : ∀ a, isW X K [a] = false := by
      intro a
      cases z : isW X K [a] with
      | false => rfl
      | true => have := isW_len z; simp at this; omega
    exact ⟨g _, g _, g _⟩
  unfold kwF kdF
  by_cases w1 : isW X K [119, 105, 100, 116, 104] = true
  · have := h5 w1 (by decide)
    rw [if_pos w1, this.1, this.2.1, this.2.2]
    simp
  · by_cases w2 : isW X K [115, 101, 116] = true
    · have := h5 w2 (by decide)
      rw [if_neg w1, if_pos w2, this.1, this.2.1, this.2.2]
      simp
    · by_cases w3 : isW X K [111, 112] = true
      · have := h5 w3 (by decide)
        rw [if_neg w1, if_neg w2, if_pos w3, this.1, this.2.1, this.2.2]
        simp
      · by_cases w4 : isW X K [119, 111, 114, 100] = true
        · have := h5 w4 (by decide)
          rw [if_neg w1, if_neg w2, if_neg w3, if_pos w4, this.1, this.2.1, this.2.2]
          simp
        · rw [if_neg w1, if_neg w2, if_neg w3, if_neg w4]
          by_cases w5 : isW X K [117] = true
          · rw [if_pos w5, if_pos w5]; simp
          · rw [if_neg w5, if_neg w5]
            by_cases w6 : isW X K [115] = true
            · rw [if_pos w6, if_pos w6]; simp
            · rw [if_neg w6, if_neg w6]
              by_cases w7 : isW X K [112] = true
              · rw [if_pos w7, if_pos w7]; simp
              · rw [if_neg w7, if_neg w7]; simp
theorem kw_129 : kwF X K = 129 ↔ isKeyF X K = false := by
  unfold kwF isKeyF
  by_cases w1 : isW X K [119, 105, 100, 116, 104] = true
  · rw [if_pos w1, w1]; simp
  · by_cases w2 : isW X K [115, 101, 116] = true
    · rw [if_neg w1, if_pos w2, w2]; simp
    · by_cases w3 : isW X K [111, 112] = true
      · rw [if_neg w1, if_neg w2, if_pos w3, w3]; simp
      · by_cases w4 : isW X K [119, 111, 114, 100] = true
        · rw [if_neg w1, if_neg w2, if_neg w3, if_pos w4, w4]; simp
        · by_cases w5 : isW X K [117] = true
          · rw [if_neg w1, if_neg w2, if_neg w3, if_neg w4, if_pos w5, w5]; simp
          · by_cases w6 : isW X K [115] = true
            · rw [if_neg w1, if_neg w2, if_neg w3, if_neg w4, if_neg w5, if_pos w6, w6]; simp
            · by_cases w7 : isW X K [112] = true
              · rw [if_neg w1, if_neg w2, if_neg w3, if_neg w4, if_neg w5, if_neg w6, if_pos w7, w7]; simp
              · rw [if_neg w1, if_neg w2, if_neg w3, if_neg w4, if_neg w5, if_neg w6, if_neg w7]
                simp at w1 w2 w3 w4 w5 w6 w7
                rw [w1, w2, w3, w4, w5, w6, w7]
                simp
theorem kcl_n (h : tkN X K) (hok : ∀ k, k < X.1 → okL (X.2 k) = true) : kcl X K = 129 ↔ isNameF X K = true := by
  have e : isNameF X K = true ↔ K.1 = 1 ∧ isKeyF X K = false := by simp [isNameF]
  rw [e]
  constructor
  · intro z
    by_cases h4 : 4 ≤ K.1
    · have := kcl_one h hok h4; omega
    · unfold kcl at z
      split at z
      · omega
      · split at z
        · exact ⟨by assumption, kw_129.mp z⟩
        · split at z
          · omega
          · split at z <;> omega
  · intro z; unfold kcl; rw [if_neg (by omega), if_pos z.1]; exact kw_129.mpr z.2
end KC
theorem hxF_d {x : Nat} (h : isDig x = true) : hxF x = true := by
  unfold hxF hx
  rw [if_pos h]
  simp [isDig] at h
  simp
  omega
theorem hxF_a {x : Nat} (h1 : 97 ≤ x) (h2 : x ≤ 102) : hxF x = true := by
  unfold hxF hx
  rw [if_neg (by simp [isDig]; omega), if_pos ⟨h1, h2⟩]
  simp
  omega
theorem hxF_f {x : Nat} (h : isDig x = false) (h1 : ¬ (97 ≤ x ∧ x ≤ 102)) : hxF x = false := by
  unfold hxF hx
  rw [if_neg (by rw [h]; decide), if_neg h1]
  rfl
section NK
variable {X : Nat × (Nat → Nat)} {q : Nat}
theorem nk_1 (hq : q < X.1) (h : isLet (X.2 q) = true) : nextK X q = (1, q, scan nmF X (q + 12) (q + 1)) := by rw [nextK, if_pos hq, if_pos h]
theorem nk_3 (hq : q < X.1) (h : isLet (X.2 q) = false) (h2 : bhF X q = true) : nextK X q = (3, q, scan hxF X (q + 10) (q + 2)) := by
  rw [nextK, if_pos hq, if_neg (by rw [h]; decide), if_pos (by simpa [bhF] using h2)]
theorem nk_2 (hq : q < X.1) (h : isLet (X.2 q) = false) (h2 : bhF X q = false) (h3 : isDig (X.2 q) = true) : nextK X q = (2, q, scan isDig X (q + 32) (q + 1)) := by
  rw [nextK, if_pos hq, if_neg (by rw [h]; decide), if_neg (of_decide_eq_false h2), if_pos h3]
theorem nk_4 (hq : q < X.1) (h : isLet (X.2 q) = false) (h2 : bhF X q = false) (h3 : isDig (X.2 q) = false) : nextK X q = (if isSg (X.2 q) then 4 else 5, q, q + 1) := by
  rw [nextK, if_pos hq, if_neg (by rw [h]; decide), if_neg (of_decide_eq_false h2), if_neg (by rw [h3]; decide)]
theorem scan_1 {f : Nat → Bool} {lim : Nat} (h1 : q < lim) (h2 : f (ch X q) = true) : scan f X lim q = scan f X lim (q + 1) := by
  conv => lhs; rw [scan]
  rw [if_pos ⟨h1, h2⟩]
theorem bhF_0 (h : X.1 ≤ q + 2) : bhF X q = false := by
  unfold bhF
  refine decide_eq_false (fun z => z.2.2 ?_)
  rw [ch, if_neg (by omega)]
  rfl
end NK
theorem jStr_byte {i : Nat} {q : String × Nat × String × List Nat} (h : jStr[i]? = some q) (k : Nat) : q.2.2.2.getD k 0 < 256 := by
  have h1 : ∀ q ∈ jStr, ∀ x ∈ q.2.2.2, x < 256 := by decide
  have h2 := h1 q (List.mem_of_getElem? h)
  rw [List.getD_eq_getElem?_getD]
  cases e : q.2.2.2[k]? with
  | none => simp
  | some x => exact h2 x (List.mem_of_getElem? e)
section NKE
variable {X : Nat × (Nat → Nat)} {q : Nat}
theorem nk_e1 (hq : q < X.1) (h : isLet (X.2 q) = true) : nI (nextK X q).2.2 = nI (scan nmF X (q + 12) q) := by
  rw [nk_1 hq h, scan_1 (q := q) (f := nmF) (by omega) (by rw [ch, if_pos hq]; unfold nmF; rw [h]; rfl)]
theorem nk_e3 (hq : q < X.1) (h : isLet (X.2 q) = false) (h2 : bhF X q = true) : nI (nextK X q).2.2 = nI (scan hxF X (q + 10) (q + 2)) := by rw [nk_3 hq h h2]
theorem nk_e2 (hq : q < X.1) (h : isLet (X.2 q) = false) (h2 : bhF X q = false) (h3 : isDig (X.2 q) = true) : nI (nextK X q).2.2 = nI (scan isDig X (q + 32) q) := by
  rw [nk_2 hq h h2 h3, scan_1 (q := q) (f := isDig) (by omega) (by rw [ch, if_pos hq]; exact h3)]
theorem nk_e4 (hq : q < X.1) (h : isLet (X.2 q) = false) (h2 : bhF X q = false) (h3 : isDig (X.2 q) = false) : nI (nextK X q).2.2 = nI (q + 1) := by rw [nk_4 hq h h2 h3]
theorem nk_k2 (hq : q < X.1) (h : isLet (X.2 q) = false) (h2 : bhF X q = false) (h3 : isDig (X.2 q) = true) : nI (kcl X (nextK X q)) = nI 130 := by rw [nk_2 hq h h2 h3]; rfl
theorem nk_k4 (hq : q < X.1) (h : isLet (X.2 q) = false) (h2 : bhF X q = false) (h3 : isDig (X.2 q) = false) : nI (kcl X (nextK X q)) = nI (X.2 q) := by
  rw [nk_4 hq h h2 h3]
  cases isSg (X.2 q) <;> rfl
end NKE
