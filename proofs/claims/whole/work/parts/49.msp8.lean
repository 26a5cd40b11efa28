/-! the program: values -/
/-- a token as next() makes it -/
def tkN (X : Nat × (Nat → Nat)) (K : Nat × Nat × Nat) : Prop := ∃ q, q ≤ X.1 ∧ K = nextF X q
theorem tkN.g {X : Nat × (Nat → Nat)} {K : Nat × Nat × Nat} (h : tkN X K) : tkG X K := by
  obtain ⟨q, h1, h2⟩ := h
  rw [h2]; exact nextF_g h1
theorem tkN.nx {X : Nat × (Nat → Nat)} {K : Nat × Nat × Nat} (h : tkN X K) : tkN X (nextF X K.2.2) := ⟨_, h.g.1.2.1, rfl⟩
theorem tkN.hex {X : Nat × (Nat → Nat)} (hX : ∀ k, X.2 k < 256) {K : Nat × Nat × Nat} (h : tkN X K) (h3 : K.1 = 3) : K.2.1 + 2 ≤ K.2.2 ∧ K.2.2 ≤ K.2.1 + 10 ∧ ∀ k, K.2.1 + 2 ≤ k → k < K.2.2 → hx (X.2 k) < 16 := by
  obtain ⟨q, h1, h2⟩ := h
  have h0 := skip_le h1
  rw [show nextF X q = nextK X (skip X q) from rfl] at h2
  generalize skip X q = p at h0 h2
  subst h2
  revert h3
  unfold nextK
  split
  · split
    · intro h9; dsimp only at h9; omega
    · split
      · rename_i hq h8 h9
        intro _
        have h5 : p + 2 < X.1 := by
          by_cases e : p + 2 < X.1
          · exact e
          · have h8 := h9.2.2
            rw [ch, if_neg e] at h8
            exact absurd (by decide) h8
        refine ⟨scan_ge, scan_lim (by omega), fun k a1 a2 => ?_⟩
        dsimp only at a1 a2
        have a3 := scan_all (f := hxF) (X := X) (lim := p + 10) (p := p + 2) k a1 a2
        have a4 := scan_le (f := hxF) (by decide) (X := X) (lim := p + 10) (p := p + 2) (by omega)
        rw [ch, if_pos (by omega)] at a3
        unfold hxF at a3
        have a5 : hx (X.2 k) ≠ 1000 := by simpa using a3
        rcases hx_d (X.2 k) (by have := hX k; omega) with a6 | a6
        · exact absurd a6 a5
        · exact a6
      · split
        · intro h9; dsimp only at h9; omega
        · intro h9; dsimp only at h9; split at h9 <;> omega
  · intro h9; dsimp only at h9; omega
/-- the outcome of a part of the program -/
abbrev mV : Type := Option Nat × (Nat × Nat × Nat) × mP × (Nat → Int64)
section MV
variable {er : Nat} {F X : Nat × (Nat → Nat)} {K : Nat × Nat × Nat} {D : mD} {P : mP} {gv : Nat → Int64} {O : Nat × (Nat → Nat)} {T : jMem} {r q : mV} {p : Nat}
theorem mV_f (h : r = (some p, K, P, gv)) : (.inl (some (.int (bI r.1.isNone)), encM er F X r.2.1 (wrI r.1) D r.2.2.1 r.2.2.2 O T) : jO) = .inl (some (.int (nI 0)), encM er F X K (badW (-1) p) D P gv O T) := by
  rw [h, badW_1]; rfl
theorem mV_t (h : r = (none, K, P, gv)) : (.inl (some (.int (bI r.1.isNone)), encM er F X r.2.1 (wrI r.1) D r.2.2.1 r.2.2.2 O T) : jO) = .inl (some (.int (nI 1)), encM er F X K (-1) D P gv O T) := by
  rw [h]; rfl
theorem mV_e (h : q = r) (hn : r.1 ≠ none) : (.inl (some (.int (bI q.1.isNone)), encM er F X q.2.1 (wrI q.1) D q.2.2.1 q.2.2.2 O T) : jO) = .inl (some (.int (nI 0)), encM er F X r.2.1 (wrI r.1) D r.2.2.1 r.2.2.2 O T) := by
  rw [h]
  cases e : r.1 with
  | none => exact absurd e hn
  | some x => rfl
end MV
/-- how many letters name s has -/
def nlF (nm : Nat → Nat) (s n : Nat) : Nat := if n < 12 ∧ nm (12 * s + n) ≠ 0 then nlF nm s (n + 1) else n
termination_by 12 - n
theorem nlF_le {nm : Nat → Nat} {s n : Nat} (h : n ≤ 12) : n ≤ nlF nm s n ∧ nlF nm s n ≤ 12 := by
  induction hm : 12 - n generalizing n with
  | zero => rw [nlF, if_neg (by omega)]; omega
  | succ d ih =>
    rw [nlF]
    split
    · have := ih (n := n + 1) (by omega) (by omega); omega
    · omega
def preF (X : Nat × (Nat → Nat)) (f : Nat) (nm : Nat → Nat) (s n j : Nat) : Bool := if j < n then if X.2 (f + j) = nm (12 * s + j) then preF X f nm s n (j + 1) else false else true
termination_by n - j
def dgF (X : Nat × (Nat → Nat)) (b a : Nat) : Bool := if a < b then if isDig (X.2 a) = true then dgF X b (a + 1) else false else true
termination_by b - a
theorem dgF_all {X : Nat × (Nat → Nat)} {b a : Nat} (h : dgF X b a = true) : ∀ k, a ≤ k → k < b → 48 ≤ X.2 k ∧ X.2 k ≤ 57 := by
  induction hm : b - a generalizing a with
  | zero => intro k h1 h2; omega
  | succ d ih =>
    rw [dgF, if_pos (by omega)] at h
    split at h
    · rename_i h9
      intro k h1 h2
      by_cases e : k = a
      · subst e
        simp [isDig] at h9
        exact h9
      · exact ih h (by omega) k (by omega) h2
    · cases h
/-- the number behind the name of set s; b bits -/
def regV (X : Nat × (Nat → Nat)) (K : Nat × Nat × Nat) (nm : Nat → Nat) (s b : Nat) : Option Nat :=
  if K.1 = 1 ∧ nlF nm s 0 < K.2.2 - K.2.1 then
    if preF X K.2.1 nm s (nlF nm s 0) 0 = true then
      if dgF X K.2.2 (K.2.1 + nlF nm s 0) = true then
        if ¬ (nlF nm s 0 + 1 < K.2.2 - K.2.1 ∧ X.2 (K.2.1 + nlF nm s 0) = 48) ∧ decF X K.2.2 (K.2.1 + nlF nm s 0) 0 < 2 ^ b then some (decF X K.2.2 (K.2.1 + nlF nm s 0) 0) else none
      else none
    else none
  else none
def hexF (X : Nat × (Nat → Nat)) (b a v : Nat) : Nat := if a < b then hexF X b (a + 1) (16 * v + hx (X.2 a)) else v
termination_by b - a
def numN (X : Nat × (Nat → Nat)) (K : Nat × Nat × Nat) : Nat := if K.1 = 3 then hexF X K.2.2 (K.2.1 + 2) 0 else decF X K.2.2 K.2.1 0
def sgn (b : Bool) (v : Int64) : Int64 := if b = true then -v else v
def nb2 (X : Nat × (Nat → Nat)) (a : Nat) (K : Nat × Nat × Nat) (less : Bool) (ok : Int64 → Bool) (P : mP) (gv : Nat → Int64) (k : Nat) : mV :=
  if K.1 = 3 ∨ (K.1 = 2 ∧ K.2.2 - K.2.1 ≤ 10) then if ok (sgn less (lN (numN X K))) = true then (none, nextF X K.2.2, P, va_up gv k (sgn less (lN (numN X K)))) else (some a, K, P, gv) else (some K.2.1, K, P, gv)
def nb1 (X : Nat × (Nat → Nat)) (K : Nat × Nat × Nat) (ok : Int64 → Bool) (P : mP) (gv : Nat → Int64) (k : Nat) : mV :=
  if isSignF X K 45 = true then nb2 X K.2.1 (nextF X K.2.2) true ok P gv k else nb2 X K.2.1 K false ok P gv k
def useP (P : mP) (a k o : Nat) : mP := (P.1, P.2.1, P.2.2.1 + 1, P.2.2.2.1, P.2.2.2.2.1, P.2.2.2.2.2.1, va_up P.2.2.2.2.2.2.1 P.2.2.1 a, va_up P.2.2.2.2.2.2.2.1 P.2.2.1 P.1, va_up P.2.2.2.2.2.2.2.2.1 P.2.2.1 k, va_up P.2.2.2.2.2.2.2.2.2 P.2.2.1 o)
def setN (D : mD) (p : Nat) : Nat := (mSetOf D p).toNatClampNeg
def val1 (X : Nat × (Nat → Nat)) (K : Nat × Nat × Nat) (P : mP) (gv : Nat → Int64) (k : Nat) : Option Nat → mV
  | none => (some K.2.1, K, P, gv)
  | some v => (none, nextF X K.2.2, P, va_up gv k (lN v))
/-- value(o, k) -/
def valF (X : Nat × (Nat → Nat)) (D : mD) (o k : Nat) (K : Nat × Nat × Nat) (P : mP) (gv : Nat → Int64) : mV :=
  if mKind D (6 * o + k) = 3 then val1 X K P gv k (regV X K (mSetN D) (setN D (6 * o + k)) (bitsN D (6 * o + k)))
  else if mKind D (6 * o + k) = 2 ∧ isNameF X K = true then (none, nextF X K.2.2, useP P K.2.1 k o, va_up gv k 0)
  else nb1 X K (fitF (mKind D (6 * o + k)) (bitsN D (6 * o + k))) P gv k
def okP (W : Nat) (v : Int64) : Bool := jin2 0 (pw W - 1) v
theorem dstep {v c : Nat} (h : 48 ≤ c) : (10 : Int64) * lN v + lN c - 48 = lN (10 * v + c - 48) := by
  rw [show (10 : Int64) = lN 10 by decide, show (48 : Int64) = lN 48 by decide, lN_mul, lN_add, lN_sub (by omega)]
theorem hstep {v c : Nat} : (16 : Int64) * lN v + lN c = lN (16 * v + c) := by
  rw [show (16 : Int64) = lN 16 by decide, lN_mul, lN_add]
theorem lI_l {x : Nat} (h : x < 16) : (lI x).toInt64 = lN x := by rw [lI_n (by omega), nI_l (by omega)]
theorem sgn_t {v : Int64} : sgn true v = -v := if_pos rfl
theorem sgn_f {v : Int64} : sgn false v = v := if_neg (by decide)
section RG
variable {X : Nat × (Nat → Nat)} {K : Nat × Nat × Nat} {nm : Nat → Nat} {s b n : Nat}
theorem reg_0 (hn : nlF nm s 0 = n) (h : ¬ (K.1 = 1 ∧ n < K.2.2 - K.2.1)) : regV X K nm s b = none := by rw [regV, hn, if_neg h]
theorem reg_1 (hn : nlF nm s 0 = n) (h : preF X K.2.1 nm s n 0 = false) : regV X K nm s b = none := by
  rw [regV, hn, h]; split <;> rfl
theorem reg_2 (hn : nlF nm s 0 = n) (h : dgF X K.2.2 (K.2.1 + n) = false) : regV X K nm s b = none := by
  rw [regV, hn, h]
  split
  · split <;> rfl
  · rfl
theorem reg_3 (hn : nlF nm s 0 = n) (h : ¬ (¬ (n + 1 < K.2.2 - K.2.1 ∧ X.2 (K.2.1 + n) = 48) ∧ decF X K.2.2 (K.2.1 + n) 0 < 2 ^ b)) : regV X K nm s b = none := by
  rw [regV, hn, if_neg h]
  split
  · split
    · split <;> rfl
    · rfl
  · rfl
theorem reg_4 (hn : nlF nm s 0 = n) (h0 : K.1 = 1 ∧ n < K.2.2 - K.2.1) (h1 : preF X K.2.1 nm s n 0 = true) (h2 : dgF X K.2.2 (K.2.1 + n) = true) (h3 : ¬ (n + 1 < K.2.2 - K.2.1 ∧ X.2 (K.2.1 + n) = 48)) (h4 : decF X K.2.2 (K.2.1 + n) 0 < 2 ^ b) : regV X K nm s b = some (decF X K.2.2 (K.2.1 + n) 0) := by
  rw [regV, hn, if_pos h0, if_pos h1, if_pos h2, if_pos ⟨h3, h4⟩]
end RG
theorem lcmp_pw {v b : Nat} (hv : v < 2 ^ 62) (hb : b ≤ 32) : lg_cmp (lN v) (pw b) < 0 ↔ v < 2 ^ b := by
  have h : 2 ^ b ≤ 2 ^ 32 := Nat.pow_le_pow_right (by decide) hb
  have h2 : (2 : Nat) ^ 32 < 2 ^ 63 := by decide
  have h3 : (2 : Nat) ^ 62 < 2 ^ 63 := by decide
  rw [lg_cmp_lt, pw, pk_lLT (by omega) (by omega)]
/-- an operand that the program uses -/
def pG2 (D : mD) (p : Nat) : Prop := pG D p ∧ (mKind D p = 3 → ∃ s, s < 12 ∧ mSetOf D p = nI s)
