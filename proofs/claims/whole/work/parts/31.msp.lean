/-! PURE WORDS: letters, tokens -/
def bI (b : Bool) : Int32 := if b then 1 else 0
theorem bI_t {b : Bool} (h : ¬ bI b = 0) : b = true := by cases b <;> first | rfl | exact absurd rfl h
theorem bI_f {b : Bool} (h : bI b = 0) : b = false := by cases b <;> first | rfl | (exact absurd h (by decide))
theorem bI_nar (b : Bool) : narrow .boolean (.int (bI b)) = .int (bI b) := by cases b <;> rfl
/-- a letter's number; 1000 where there is none: Java's -1 -/
def lI (x : Nat) : Int32 := if x = 1000 then -1 else nI x
theorem lI_n {x : Nat} (h : x ≠ 1000) : lI x = nI x := if_neg h
theorem lI_eq {x n : Nat} (hx : x < 2 ^ 31) (hn : n < 2 ^ 31) (h : n ≠ 1000) : lI x = nI n ↔ x = n := by
  unfold lI
  by_cases e : x = 1000
  · rw [if_pos e]
    constructor
    · intro q
      have h1 := congrArg Int32.toInt q
      rw [nI_toInt hn] at h1
      have h2 : (-1 : Int32).toInt = -1 := by decide
      omega
    · intro q; omega
  · rw [if_neg e]; exact nI_eq hx hn
theorem lI_pos {x : Nat} (hx : x < 2 ^ 31) : 0 ≤ lI x ↔ x ≠ 1000 := by
  unfold lI
  by_cases e : x = 1000
  · rw [if_pos e]
    exact ⟨fun h => absurd h (by decide), fun h => absurd e h⟩
  · rw [if_neg e]
    exact ⟨fun _ => e, fun _ => nI_pos' hx⟩
theorem lI_neg {x : Nat} (hx : x < 2 ^ 31) : lI x < 0 ↔ x = 1000 := by
  have := lI_pos hx
  constructor
  · intro h
    by_cases e : x = 1000
    · exact e
    · exact absurd (this.mpr e) (Int32.not_le.mpr h)
  · intro h
    exact Int32.not_le.mp (fun q => this.mp q h)
def isLet (x : Nat) : Bool := (decide (97 ≤ x) && decide (x ≤ 122)) || ((decide (65 ≤ x) && decide (x ≤ 90)) || decide (x = 95))
def isDig (x : Nat) : Bool := decide (48 ≤ x) && decide (x ≤ 57)
def isBl (x : Nat) : Bool := decide (x = 32) || decide (x = 10)
/-- a hexadecimal digit's value; 1000: none -/
def hx (x : Nat) : Nat := if isDig x then x - 48 else if 97 ≤ x ∧ x ≤ 102 then x - 97 + 10 else 1000
theorem hx_lt (x : Nat) : hx x < 2000 := by
  unfold hx isDig
  split
  · rename_i h; simp at h; omega
  · split <;> omega
/-- the letter at k; 1000 behind the end -/
def ch (X : Nat × (Nat → Nat)) (k : Nat) : Nat := if k < X.1 then X.2 k else 1000
theorem ch_lt {X : Nat × (Nat → Nat)} (hX : ∀ k, X.2 k < 256) (k : Nat) : ch X k < 2000 := by
  unfold ch
  split
  · have := hX k; omega
  · omega
def skip (X : Nat × (Nat → Nat)) (p : Nat) : Nat := if p < X.1 ∧ isBl (X.2 p) = true then skip X (p + 1) else p
termination_by X.1 - p
def scan (f : Nat → Bool) (X : Nat × (Nat → Nat)) (lim p : Nat) : Nat := if p < lim ∧ f (ch X p) = true then scan f X lim (p + 1) else p
termination_by lim - p
theorem bI_1 {b : Bool} (h : b = true) : bI b = nI 1 := by rw [h]; decide
theorem bI_0 {b : Bool} (h : b = false) : bI b = nI 0 := by rw [h]; decide
theorem bI_n (b : Bool) : bI b = nI (if b then 1 else 0) := by cases b <;> decide
theorem jo {M : jMem} {x y : Int32} (h : x = y) : (.inl (some (.int x), M) : jO) = .inl (some (.int y), M) := by rw [h]
theorem i64_97 : (97 : Int64) = lN 97 := by decide
theorem i64_122 : (122 : Int64) = lN 122 := by decide
theorem i64_65 : (65 : Int64) = lN 65 := by decide
theorem i64_90 : (90 : Int64) = lN 90 := by decide
theorem i64_48 : (48 : Int64) = lN 48 := by decide
theorem i64_57 : (57 : Int64) = lN 57 := by decide
theorem i64_102 : (102 : Int64) = lN 102 := by decide
theorem i64_32 : (32 : Int64) = lN 32 := by decide
theorem i64_126 : (126 : Int64) = lN 126 := by decide
theorem lL_ge {x n : Nat} (hx : x < 2 ^ 31) (hn : n < 2 ^ 31) : lN n ≤ (lI x).toInt64 ↔ x ≠ 1000 ∧ n ≤ x := by
  unfold lI
  by_cases e : x = 1000
  · rw [if_pos e, Int64.le_iff_toInt_le, lN_toInt hn]
    have h2 : ((-1 : Int32).toInt64).toInt = -1 := by decide
    rw [h2]
    omega
  · rw [if_neg e, nI_l hx, lN_le hn hx]
    omega
theorem lL_le {x n : Nat} (hx : x < 2 ^ 31) (hn : n < 2 ^ 31) : (lI x).toInt64 ≤ lN n ↔ x = 1000 ∨ x ≤ n := by
  unfold lI
  by_cases e : x = 1000
  · rw [if_pos e, Int64.le_iff_toInt_le, lN_toInt hn]
    have h2 : ((-1 : Int32).toInt64).toInt = -1 := by decide
    rw [h2]
    omega
  · rw [if_neg e, nI_l hx, lN_le hx hn]
    omega
def jin2 (a b v : Int64) : Bool := decide (a ≤ v) && decide (v ≤ b)
theorem jin2_L {x a b : Nat} (hx : x < 2 ^ 31) (ha : a < 2 ^ 31) (hb : b < 2 ^ 31) (hb2 : b < 1000) : jin2 (lN a) (lN b) (lI x).toInt64 = (decide (a ≤ x) && decide (x ≤ b)) := by
  have h1 := lL_ge (n := a) hx ha
  have h2 := lL_le (n := b) hx hb
  unfold jin2
  rw [Bool.eq_iff_iff]
  simp only [Bool.and_eq_true, decide_eq_true_eq]
  rw [h1, h2]
  omega
def nmF (x : Nat) : Bool := isLet x || isDig x
def hxF (x : Nat) : Bool := decide (hx x ≠ 1000)
def isSg (x : Nat) : Bool := decide (x = 61) || decide (x = 59) || decide (x = 44) || decide (x = 58) || decide (x = 91) || decide (x = 93) || decide (x = 45)
/-- the token that begins at q: its sort (0 end, 1 name, 2 digits, 3 hex, 4 sign, 5 none), where it begins, where it ends -/
def nextK (X : Nat × (Nat → Nat)) (q : Nat) : Nat × Nat × Nat :=
  if q < X.1 then
    if isLet (X.2 q) = true then (1, q, scan nmF X (q + 12) (q + 1))
    else if X.2 q = 48 ∧ ch X (q + 1) = 120 ∧ hx (ch X (q + 2)) ≠ 1000 then (3, q, scan hxF X (q + 10) (q + 2))
    else if isDig (X.2 q) = true then (2, q, scan isDig X (q + 32) (q + 1))
    else (if isSg (X.2 q) then 4 else 5, q, q + 1)
  else (0, q, q)
def nextF (X : Nat × (Nat → Nat)) (p : Nat) : Nat × Nat × Nat := nextK X (skip X p)
theorem skip_le {X : Nat × (Nat → Nat)} {p : Nat} (h : p ≤ X.1) : skip X p ≤ X.1 := by
  induction hm : X.1 - p generalizing p with
  | zero => rw [skip, if_neg (by omega)]; exact h
  | succ d ih =>
    rw [skip]
    split
    · exact ih (by omega) (by omega)
    · exact h
theorem skip_ge {X : Nat × (Nat → Nat)} {p : Nat} : p ≤ skip X p := by
  induction hm : X.1 - p generalizing p with
  | zero => rw [skip, if_neg (by omega)]; exact Nat.le_refl _
  | succ d ih =>
    rw [skip]
    split
    · exact Nat.le_trans (Nat.le_succ p) (ih (by omega))
    · exact Nat.le_refl _
theorem scan_le {f : Nat → Bool} (hf : f 1000 = false) {X : Nat × (Nat → Nat)} {lim p : Nat} (h : p ≤ X.1) : scan f X lim p ≤ X.1 := by
  induction hm : lim - p generalizing p with
  | zero => rw [scan, if_neg (by omega)]; exact h
  | succ d ih =>
    rw [scan]
    split
    · rename_i h9
      refine ih ?_ (by omega)
      by_cases e : p < X.1
      · omega
      · have h8 := h9.2
        rw [ch, if_neg e, hf] at h8
        cases h8
    · exact h
theorem scan_ge {f : Nat → Bool} {X : Nat × (Nat → Nat)} {lim p : Nat} : p ≤ scan f X lim p := by
  induction hm : lim - p generalizing p with
  | zero => rw [scan, if_neg (by omega)]; exact Nat.le_refl _
  | succ d ih =>
    rw [scan]
    split
    · exact Nat.le_trans (Nat.le_succ p) (ih (by omega))
    · exact Nat.le_refl _
theorem scan_lim {f : Nat → Bool} {X : Nat × (Nat → Nat)} {lim p : Nat} (h : p ≤ lim) : scan f X lim p ≤ lim := by
  induction hm : lim - p generalizing p with
  | zero => rw [scan, if_neg (by omega)]; exact h
  | succ d ih =>
    rw [scan]
    split
    · exact ih (by omega) (by omega)
    · exact h
theorem hx_d (x : Nat) (h : x < 1000) : hx x = 1000 ∨ hx x < 16 := by
  unfold hx isDig
  split
  · rename_i h; simp at h; omega
  · split <;> omega
theorem nextK_to {X : Nat × (Nat → Nat)} {q : Nat} (h : q ≤ X.1) : (nextK X q).2.1 = q ∧ q ≤ (nextK X q).2.2 ∧ (nextK X q).2.2 ≤ X.1 ∧ (q < X.1 → q < (nextK X q).2.2) ∧ (nextK X q).2.2 ≤ q + 32 := by
  unfold nextK
  split
  · rename_i h0
    split
    · have h1 := scan_ge (f := nmF) (X := X) (lim := q + 12) (p := q + 1)
      have h2 := scan_le (f := nmF) (by decide) (X := X) (lim := q + 12) (p := q + 1) (by omega)
      have h3 := scan_lim (f := nmF) (X := X) (lim := q + 12) (p := q + 1) (by omega)
      refine ⟨rfl, ?_, h2, ?_, ?_⟩ <;> dsimp only <;> omega
    · split
      · rename_i h9
        have h5 : q + 2 < X.1 := by
          by_cases e : q + 2 < X.1
          · exact e
          · have h8 := h9.2.2
            rw [ch, if_neg e] at h8
            exact absurd (by decide) h8
        have h1 := scan_ge (f := hxF) (X := X) (lim := q + 10) (p := q + 2)
        have h2 := scan_le (f := hxF) (by decide) (X := X) (lim := q + 10) (p := q + 2) (by omega)
        have h3 := scan_lim (f := hxF) (X := X) (lim := q + 10) (p := q + 2) (by omega)
        refine ⟨rfl, ?_, h2, ?_, ?_⟩ <;> dsimp only <;> omega
      · split
        · have h1 := scan_ge (f := isDig) (X := X) (lim := q + 32) (p := q + 1)
          have h2 := scan_le (f := isDig) (by decide) (X := X) (lim := q + 32) (p := q + 1) (by omega)
          have h3 := scan_lim (f := isDig) (X := X) (lim := q + 32) (p := q + 1) (by omega)
          refine ⟨rfl, ?_, h2, ?_, ?_⟩ <;> dsimp only <;> omega
        · refine ⟨rfl, ?_, ?_, ?_, ?_⟩ <;> dsimp only <;> omega
  · refine ⟨rfl, ?_, ?_, ?_, ?_⟩ <;> dsimp only <;> omega
theorem isSg_t {x : Nat} (h : x = 61 ∨ x = 59 ∨ x = 44 ∨ x = 58 ∨ x = 91 ∨ x = 93 ∨ x = 45) : isSg x = true := by
  rcases h with h | h | h | h | h | h | h <;> rw [h] <;> decide
theorem isSg_f {x : Nat} (h : x ≠ 61 ∧ x ≠ 59 ∧ x ≠ 44 ∧ x ≠ 58 ∧ x ≠ 91 ∧ x ≠ 93 ∧ x ≠ 45) : isSg x = false := by
  obtain ⟨h1, h2, h3, h4, h5, h6, h7⟩ := h
  simp [isSg, h1, h2, h3, h4, h5, h6, h7]
/-- what every token is -/
def tkOK (X : Nat × (Nat → Nat)) (K : Nat × Nat × Nat) : Prop := K.2.1 ≤ K.2.2 ∧ K.2.2 ≤ X.1 ∧ (K.1 ≠ 0 → K.2.1 < K.2.2) ∧ K.1 ≤ 5 ∧ K.2.2 ≤ K.2.1 + 32 ∧ (K.1 = 1 → K.2.2 ≤ K.2.1 + 12)
theorem nextF_ok {X : Nat × (Nat → Nat)} {p : Nat} (h : p ≤ X.1) : tkOK X (nextF X p) := by
  have h1 := nextK_to (skip_le h)
  obtain ⟨a1, a2, a3, a4, a5⟩ := h1
  refine ⟨?_, a3, ?_, ?_, ?_, ?_⟩
  · show (nextK X (skip X p)).2.1 ≤ _; rw [a1]; exact a2
  · intro h0
    show (nextK X (skip X p)).2.1 < _
    rw [a1]
    refine a4 ?_
    by_cases e : skip X p < X.1
    · exact e
    · exfalso
      apply h0
      show (nextK X (skip X p)).1 = 0
      rw [nextK, if_neg e]
  · show (nextK X (skip X p)).1 ≤ 5
    unfold nextK
    split
    · split
      · dsimp only; omega
      · split
        · dsimp only; omega
        · split
          · dsimp only; omega
          · dsimp only; split <;> omega
    · dsimp only; omega
  · show _ ≤ (nextK X (skip X p)).2.1 + 32; rw [a1]; exact a5
  · show (nextK X (skip X p)).1 = 1 → (nextK X (skip X p)).2.2 ≤ (nextK X (skip X p)).2.1 + 12
    rw [a1]
    unfold nextK
    split
    · split
      · intro _
        exact scan_lim (by omega)
      · split
        · intro h9; dsimp only at h9; omega
        · split
          · intro h9; dsimp only at h9; omega
          · intro h9; dsimp only at h9; split at h9 <;> omega
    · intro h9; dsimp only at h9; omega
/-- from letter k on the letters at f are those of w -/
def eqF (X : Nat × (Nat → Nat)) (f : Nat) (w : List Nat) (k : Nat) : Bool := if k < w.length then if X.2 (f + k) = w.getD k 0 then eqF X f w (k + 1) else false else true
termination_by w.length - k
/-- the token is the word w -/
def isW (X : Nat × (Nat → Nat)) (K : Nat × Nat × Nat) (w : List Nat) : Bool := decide (K.2.2 - K.2.1 = w.length) && eqF X K.2.1 w 0
def isKeyF (X : Nat × (Nat → Nat)) (K : Nat × Nat × Nat) : Bool := isW X K [119, 105, 100, 116, 104] || (isW X K [115, 101, 116] || (isW X K [111, 112] || (isW X K [119, 111, 114, 100] || (isW X K [117] || (isW X K [115] || isW X K [112])))))
def isNameF (X : Nat × (Nat → Nat)) (K : Nat × Nat × Nat) : Bool := decide (K.1 = 1) && !isKeyF X K
def isSignF (X : Nat × (Nat → Nat)) (K : Nat × Nat × Nat) (x : Nat) : Bool := decide (K.1 = 4) && decide (X.2 K.2.1 = x)
def badW (wr : Int32) (a : Nat) : Int32 := if wr < 0 then nI a else wr
/-- letter k of the token; 0 behind it -/
def tkL (X : Nat × (Nat → Nat)) (K : Nat × Nat × Nat) (k : Nat) : Nat := if K.2.1 + k < K.2.2 then X.2 (K.2.1 + k) else 0
/-- from letter k on name j of nm is the token -/
def sameF (X : Nat × (Nat → Nat)) (K : Nat × Nat × Nat) (nm : Nat → Nat) (j k : Nat) : Bool := if k < 12 then decide (nm (12 * j + k) = tkL X K k) && sameF X K nm j (k + 1) else true
termination_by 12 - k
/-- the first name from j on, below m, that is the token; 1000: none -/
def findF (X : Nat × (Nat → Nat)) (K : Nat × Nat × Nat) (nm : Nat → Nat) (m j : Nat) : Nat := if j < m then if sameF X K nm j 0 = true then j else findF X K nm m (j + 1) else 1000
termination_by m - j
/-- the names behind keep -/
def keepF (X : Nat × (Nat → Nat)) (K : Nat × Nat × Nat) (nm : Nat → Nat) (j : Nat) : Nat → (Nat → Nat)
  | 0 => nm
  | k + 1 => va_up (keepF X K nm j k) (12 * j + k) (tkL X K k)
/-- the number of the digits from a to before b, on top of v -/
def decF (X : Nat × (Nat → Nat)) (b a v : Nat) : Nat := if a < b then decF X b (a + 1) (10 * v + X.2 a - 48) else v
termination_by b - a
theorem isKeyF_t {X : Nat × (Nat → Nat)} {K : Nat × Nat × Nat} (h : isW X K [119, 105, 100, 116, 104] = true ∨ isW X K [115, 101, 116] = true ∨ isW X K [111, 112] = true ∨ isW X K [119, 111, 114, 100] = true ∨ isW X K [117] = true ∨ isW X K [115] = true ∨ isW X K [112] = true) : isKeyF X K = true := by
  unfold isKeyF
  rcases h with h | h | h | h | h | h | h <;> simp [h]
theorem isKeyF_f {X : Nat × (Nat → Nat)} {K : Nat × Nat × Nat} (h1 : isW X K [119, 105, 100, 116, 104] = false) (h2 : isW X K [115, 101, 116] = false) (h3 : isW X K [111, 112] = false) (h4 : isW X K [119, 111, 114, 100] = false) (h5 : isW X K [117] = false) (h6 : isW X K [115] = false) (h7 : isW X K [112] = false) : isKeyF X K = false := by
  unfold isKeyF
  rw [h1, h2, h3, h4, h5, h6, h7]; rfl
