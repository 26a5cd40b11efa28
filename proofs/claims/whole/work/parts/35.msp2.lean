section EM2
variable {er : Nat} {F X : Nat × (Nat → Nat)} {K : Nat × Nat × Nat} {wr : Int32} {D : mD} {P : mP} {gv : Nat → Int64} {O : Nat × (Nat → Nat)} {T : jMem}
theorem uM_operands (f : Nat → Nat) : ju (encM er F X K wr D P gv O T) 1010 (nA 60 f) = encM er F X K wr (D.1, D.2.1, D.2.2.1, D.2.2.2.1, D.2.2.2.2.1, D.2.2.2.2.2.1, D.2.2.2.2.2.2.1, D.2.2.2.2.2.2.2.1, f, D.2.2.2.2.2.2.2.2.2) P gv O T := (jlist_set (b := 1000) (i := 10) (jlt rfl)).trans rfl
theorem uM_kind (f : Nat → Nat) : ju (encM er F X K wr D P gv O T) 1011 (nA 360 f) = encM er F X K wr (D.1, D.2.1, D.2.2.1, D.2.2.2.1, D.2.2.2.2.1, D.2.2.2.2.2.1, D.2.2.2.2.2.2.1, D.2.2.2.2.2.2.2.1, D.2.2.2.2.2.2.2.2.1, f, D.2.2.2.2.2.2.2.2.2.2) P gv O T := (jlist_set (b := 1000) (i := 11) (jlt rfl)).trans rfl
theorem uM_bits (f : Nat → Int32) : ju (encM er F X K wr D P gv O T) 1012 (rA 360 f) = encM er F X K wr (D.1, D.2.1, D.2.2.1, D.2.2.2.1, D.2.2.2.2.1, D.2.2.2.2.2.1, D.2.2.2.2.2.2.1, D.2.2.2.2.2.2.2.1, D.2.2.2.2.2.2.2.2.1, D.2.2.2.2.2.2.2.2.2.1, f, D.2.2.2.2.2.2.2.2.2.2.2) P gv O T := (jlist_set (b := 1000) (i := 12) (jlt rfl)).trans rfl
theorem uM_setOf (f : Nat → Int32) : ju (encM er F X K wr D P gv O T) 1013 (rA 360 f) = encM er F X K wr (D.1, D.2.1, D.2.2.1, D.2.2.2.1, D.2.2.2.2.1, D.2.2.2.2.2.1, D.2.2.2.2.2.2.1, D.2.2.2.2.2.2.2.1, D.2.2.2.2.2.2.2.2.1, D.2.2.2.2.2.2.2.2.2.1, D.2.2.2.2.2.2.2.2.2.2.1, f, D.2.2.2.2.2.2.2.2.2.2.2.2) P gv O T := (jlist_set (b := 1000) (i := 13) (jlt rfl)).trans rfl
theorem uM_what (f : Nat → Int32) : ju (encM er F X K wr D P gv O T) 1014 (rA 1920 f) = encM er F X K wr (D.1, D.2.1, D.2.2.1, D.2.2.2.1, D.2.2.2.2.1, D.2.2.2.2.2.1, D.2.2.2.2.2.2.1, D.2.2.2.2.2.2.2.1, D.2.2.2.2.2.2.2.2.1, D.2.2.2.2.2.2.2.2.2.1, D.2.2.2.2.2.2.2.2.2.2.1, D.2.2.2.2.2.2.2.2.2.2.2.1, f) P gv O T := (jlist_set (b := 1000) (i := 14) (jlt rfl)).trans rfl
theorem uM_labelName (f : Nat → Nat) : ju (encM er F X K wr D P gv O T) 1008 (nA 720 f) = encM er F X K wr D (P.1, P.2.1, P.2.2.1, f, P.2.2.2.2) gv O T := (jlist_set (b := 1000) (i := 8) (jlt rfl)).trans rfl
theorem uM_labelPlace (f : Nat → Nat) : ju (encM er F X K wr D P gv O T) 1009 (nA 60 f) = encM er F X K wr D (P.1, P.2.1, P.2.2.1, P.2.2.2.1, f, P.2.2.2.2.2) gv O T := (jlist_set (b := 1000) (i := 9) (jlt rfl)).trans rfl
theorem uM_word (f : Nat → Int32) : ju (encM er F X K wr D P gv O T) 1015 (rA 1000 f) = encM er F X K wr D (P.1, P.2.1, P.2.2.1, P.2.2.2.1, P.2.2.2.2.1, f, P.2.2.2.2.2.2) gv O T := (jlist_set (b := 1000) (i := 15) (jlt rfl)).trans rfl
theorem uM_useAt (f : Nat → Nat) : ju (encM er F X K wr D P gv O T) 1016 (nA 6000 f) = encM er F X K wr D (P.1, P.2.1, P.2.2.1, P.2.2.2.1, P.2.2.2.2.1, P.2.2.2.2.2.1, f, P.2.2.2.2.2.2.2) gv O T := (jlist_set (b := 1000) (i := 16) (jlt rfl)).trans rfl
theorem uM_useWord (f : Nat → Nat) : ju (encM er F X K wr D P gv O T) 1017 (nA 6000 f) = encM er F X K wr D (P.1, P.2.1, P.2.2.1, P.2.2.2.1, P.2.2.2.2.1, P.2.2.2.2.2.1, P.2.2.2.2.2.2.1, f, P.2.2.2.2.2.2.2.2) gv O T := (jlist_set (b := 1000) (i := 17) (jlt rfl)).trans rfl
theorem uM_useOperand (f : Nat → Nat) : ju (encM er F X K wr D P gv O T) 1018 (nA 6000 f) = encM er F X K wr D (P.1, P.2.1, P.2.2.1, P.2.2.2.1, P.2.2.2.2.1, P.2.2.2.2.2.1, P.2.2.2.2.2.2.1, P.2.2.2.2.2.2.2.1, f, P.2.2.2.2.2.2.2.2.2) gv O T := (jlist_set (b := 1000) (i := 18) (jlt rfl)).trans rfl
theorem uM_useOp (f : Nat → Nat) : ju (encM er F X K wr D P gv O T) 1019 (nA 6000 f) = encM er F X K wr D (P.1, P.2.1, P.2.2.1, P.2.2.2.1, P.2.2.2.2.1, P.2.2.2.2.2.1, P.2.2.2.2.2.2.1, P.2.2.2.2.2.2.2.1, P.2.2.2.2.2.2.2.2.1, f) gv O T := (jlist_set (b := 1000) (i := 19) (jlt rfl)).trans rfl
end EM2
/-- digits are digits -/
def tkG (X : Nat × (Nat → Nat)) (K : Nat × Nat × Nat) : Prop := tkOK X K ∧ (K.1 = 2 → ∀ k, K.2.1 ≤ k → k < K.2.2 → 48 ≤ X.2 k ∧ X.2 k ≤ 57)
theorem scan_all {f : Nat → Bool} {X : Nat × (Nat → Nat)} {lim p : Nat} : ∀ k, p ≤ k → k < scan f X lim p → f (ch X k) = true := by
  induction hm : lim - p generalizing p with
  | zero =>
    intro k h1 h2
    rw [scan, if_neg (by omega)] at h2
    omega
  | succ d ih =>
    intro k h1 h2
    rw [scan] at h2
    split at h2
    · rename_i h9
      by_cases e : k = p
      · subst e; exact h9.2
      · exact ih (p := p + 1) (by omega) k (by omega) h2
    · omega
theorem nextF_g {X : Nat × (Nat → Nat)} {p : Nat} (h : p ≤ X.1) : tkG X (nextF X p) := by
  refine ⟨nextF_ok h, ?_⟩
  have h0 := skip_le h
  show (nextK X (skip X p)).1 = 2 → ∀ k, (nextK X (skip X p)).2.1 ≤ k → k < (nextK X (skip X p)).2.2 → 48 ≤ X.2 k ∧ X.2 k ≤ 57
  generalize skip X p = q at h0
  unfold nextK
  split
  · rename_i hq
    split
    · intro h9; dsimp only at h9; omega
    · split
      · intro h9; dsimp only at h9; omega
      · split
        · rename_i hd
          intro _ k h1 h2
          dsimp only at h1 h2
          have h3 := scan_le (f := isDig) (by decide) (X := X) (lim := q + 32) (p := q + 1) (by omega)
          by_cases e : k = q
          · subst e
            simp [isDig] at hd
            exact hd
          · have h4 := scan_all (f := isDig) (X := X) (lim := q + 32) (p := q + 1) k (by omega) h2
            rw [ch, if_pos (by omega)] at h4
            simp [isDig] at h4
            exact h4
        · intro h9; dsimp only at h9; split at h9 <;> omega
  · intro h9; dsimp only at h9; omega
/-- the text behind the copying of the octets below k -/
def cpF (oc t : Nat → Nat) (k : Nat) : Nat → Nat := fun j => if j < k then oc j else t j
theorem cpF_0 (oc t : Nat → Nat) : cpF oc t 0 = t := by funext j; simp [cpF]
theorem cpF_s (oc t : Nat → Nat) (k : Nat) : va_up (cpF oc t k) k (oc k) = cpF oc t (k + 1) := by
  funext j
  unfold va_up cpF
  by_cases h : j = k
  · subst h; rw [if_pos rfl, if_pos (by omega)]
  · rw [if_neg h]
    by_cases h2 : j < k
    · rw [if_pos h2, if_pos (by omega)]
    · rw [if_neg h2, if_neg (by omega)]
def okL (x : Nat) : Bool := decide (x = 10) || (decide (32 ≤ x) && decide (x ≤ 126))
/-- where the first letter from k on lies that no text has -/
def wrF (X : Nat × (Nat → Nat)) (k : Nat) (wr : Int32) : Int32 := if k < X.1 then if okL (X.2 k) = true then wrF X (k + 1) wr else wrF X (k + 1) (badW wr k) else wr
termination_by X.1 - k
/-- what stands at the first n places of op o -/
def standsF (wt : Nat → Int32) (o n x k : Nat) : Bool := if k < n then if wt (32 * o + k) = nI x then true else standsF wt o n x (k + 1) else false
termination_by n - k
def wrI : Option Nat → Int32
  | none => -1
  | some p => nI p
theorem badW_1 (a : Nat) : badW (-1) a = wrI (some a) := by unfold badW wrI; rw [if_pos (by decide)]
/-- the outcome of a part of the description: where it was wrong, the token, the description -/
abbrev mR : Type := Option Nat × (Nat × Nat × Nat) × mD
def mdN (D : mD) (f : Nat → Nat) : mD := (D.1, D.2.1, D.2.2.1, D.2.2.2.1, f, D.2.2.2.2.2)
def set3 (X : Nat × (Nat → Nat)) (K : Nat × Nat × Nat) (D : mD) : mR := if isSignF X K 59 = true then (none, nextF X K.2.2, D) else (some K.2.1, K, D)
def set2 (X : Nat × (Nat → Nat)) (K : Nat × Nat × Nat) (D : mD) : mR :=
  if K.1 = 2 ∧ K.2.2 - K.2.1 ≤ 4 then
    if 1 ≤ decF X K.2.2 K.2.1 0 ∧ decF X K.2.2 K.2.1 0 ≤ 6 then set3 X (nextF X K.2.2) (D.1, D.2.1 + 1, D.2.2.1, D.2.2.2.1, D.2.2.2.2.1, va_up D.2.2.2.2.2.1 D.2.1 (decF X K.2.2 K.2.1 0), D.2.2.2.2.2.2)
    else (some K.2.1, K, D)
  else (some K.2.1, K, D)
def set1 (X : Nat × (Nat → Nat)) (K : Nat × Nat × Nat) (D : mD) : mR :=
  if isNameF X K = true ∧ K.2.2 - K.2.1 ≤ 10 ∧ findF X K D.2.2.2.2.1 D.2.1 0 = 1000 then set2 X (nextF X K.2.2) (mdN D (keepF X K D.2.2.2.2.1 D.2.1 12))
  else (some K.2.1, K, D)
/-- set() -/
def setF (X : Nat × (Nat → Nat)) (K : Nat × Nat × Nat) (D : mD) : mR := if D.2.1 = 12 then (some K.2.1, K, D) else set1 X (nextF X K.2.2) D
section MR
variable {er : Nat} {F X : Nat × (Nat → Nat)} {K : Nat × Nat × Nat} {D : mD} {P : mP} {gv : Nat → Int64} {O : Nat × (Nat → Nat)} {T : jMem} {r : mR} {p : Nat}
theorem mR_f (h : r = (some p, K, D)) : (.inl (some (.int (bI r.1.isNone)), encM er F X r.2.1 (wrI r.1) r.2.2 P gv O T) : jO) = .inl (some (.int (nI 0)), encM er F X K (badW (-1) p) D P gv O T) := by
  rw [h, badW_1]; rfl
theorem mR_t (h : r = (none, K, D)) : (.inl (some (.int (bI r.1.isNone)), encM er F X r.2.1 (wrI r.1) r.2.2 P gv O T) : jO) = .inl (some (.int (nI 1)), encM er F X K (-1) D P gv O T) := by
  rw [h]; rfl
end MR
/-- what every description is -/
def dOK (D : mD) : Prop := D.2.1 ≤ 12 ∧ D.2.2.1 ≤ 60 ∧ (∀ k, D.2.2.2.2.1 k < 256) ∧ (∀ k, D.2.2.2.2.2.2.1 k < 256) ∧ (∀ k, D.2.2.2.2.2.2.2.1 k < 256)
theorem lN_1' : (1 : Int64) = lN 1 := by decide
theorem lN_6' : (6 : Int64) = lN 6 := by decide
theorem jin2_N {x a b : Nat} (hx : x < 2 ^ 31) (ha : a < 2 ^ 31) (hb : b < 2 ^ 31) : jin2 (lN a) (lN b) (lN x) = (decide (a ≤ x) && decide (x ≤ b)) := by
  unfold jin2
  rw [Bool.eq_iff_iff]
  simp only [Bool.and_eq_true, decide_eq_true_eq]
  rw [lN_le ha hx, lN_le hx hb]
theorem decF_lt {X : Nat × (Nat → Nat)} {b : Nat} : ∀ (n a v m : Nat), (∀ k, a ≤ k → k < b → 48 ≤ X.2 k ∧ X.2 k ≤ 57) → b - a ≤ n → v + 1 ≤ m → decF X b a v + 1 ≤ m * 10 ^ n := by
  intro n
  induction n with
  | zero =>
    intro a v m _ h1 h2
    rw [decF, if_neg (by omega)]
    omega
  | succ n ih =>
    intro a v m h h1 h2
    rw [decF]
    split
    · rename_i h9
      have h3 := h a (Nat.le_refl _) h9
      have h4 := ih (a + 1) (10 * v + X.2 a - 48) (m * 10) (fun k q1 q2 => h k (by omega) q2) (by omega) (by omega)
      have h5 : m * 10 ^ (n + 1) = m * 10 * 10 ^ n := by rw [Nat.pow_succ, Nat.mul_assoc, Nat.mul_comm (10 ^ n) 10]
      omega
    · have h5 : 1 ≤ 10 ^ (n + 1) := Nat.one_le_pow _ _ (by decide)
      have h6 : m ≤ m * 10 ^ (n + 1) := Nat.le_mul_of_pos_right m h5
      omega
theorem small_lt {X : Nat × (Nat → Nat)} {K : Nat × Nat × Nat} (h : ∀ k, K.2.1 ≤ k → k < K.2.2 → 48 ≤ X.2 k ∧ X.2 k ≤ 57) (h4 : K.2.2 - K.2.1 ≤ 4) : decF X K.2.2 K.2.1 0 < 10000 := by
  have := decF_lt 4 K.2.1 0 1 h h4 (by omega)
  omega
theorem findF_lt {X : Nat × (Nat → Nat)} {K : Nat × Nat × Nat} {nm : Nat → Nat} {m j : Nat} : findF X K nm m j = 1000 ∨ findF X K nm m j < m := by
  induction hm : m - j generalizing j with
  | zero => rw [findF, if_neg (by omega)]; omega
  | succ d ih =>
    rw [findF]
    split
    · split
      · omega
      · exact ih (by omega)
    · omega
/-- a description with other operand names; kinds; bits; setOf; operands; what -/
def mdO (D : mD) (f : Nat → Nat) : mD := (D.1, D.2.1, D.2.2.1, D.2.2.2.1, D.2.2.2.2.1, D.2.2.2.2.2.1, D.2.2.2.2.2.2.1, f, D.2.2.2.2.2.2.2.2)
def mdA (D : mD) (f : Nat → Nat) : mD := (D.1, D.2.1, D.2.2.1, D.2.2.2.1, D.2.2.2.2.1, D.2.2.2.2.2.1, D.2.2.2.2.2.2.1, D.2.2.2.2.2.2.2.1, f, D.2.2.2.2.2.2.2.2.2)
def mdK (D : mD) (f : Nat → Nat) : mD := (D.1, D.2.1, D.2.2.1, D.2.2.2.1, D.2.2.2.2.1, D.2.2.2.2.2.1, D.2.2.2.2.2.2.1, D.2.2.2.2.2.2.2.1, D.2.2.2.2.2.2.2.2.1, f, D.2.2.2.2.2.2.2.2.2.2)
def mdB (D : mD) (f : Nat → Int32) : mD := (D.1, D.2.1, D.2.2.1, D.2.2.2.1, D.2.2.2.2.1, D.2.2.2.2.2.1, D.2.2.2.2.2.2.1, D.2.2.2.2.2.2.2.1, D.2.2.2.2.2.2.2.2.1, D.2.2.2.2.2.2.2.2.2.1, f, D.2.2.2.2.2.2.2.2.2.2.2)
def mdS (D : mD) (f : Nat → Int32) : mD := (D.1, D.2.1, D.2.2.1, D.2.2.2.1, D.2.2.2.2.1, D.2.2.2.2.2.1, D.2.2.2.2.2.2.1, D.2.2.2.2.2.2.2.1, D.2.2.2.2.2.2.2.2.1, D.2.2.2.2.2.2.2.2.2.1, D.2.2.2.2.2.2.2.2.2.2.1, f, D.2.2.2.2.2.2.2.2.2.2.2.2)
def mdW (D : mD) (f : Nat → Int32) : mD := (D.1, D.2.1, D.2.2.1, D.2.2.2.1, D.2.2.2.2.1, D.2.2.2.2.2.1, D.2.2.2.2.2.2.1, D.2.2.2.2.2.2.2.1, D.2.2.2.2.2.2.2.2.1, D.2.2.2.2.2.2.2.2.2.1, D.2.2.2.2.2.2.2.2.2.2.1, D.2.2.2.2.2.2.2.2.2.2.2.1, f)
/-- the names of a description's parts -/
abbrev mOpds (D : mD) : Nat → Nat := D.2.2.2.2.2.2.2.2.1
abbrev mKind (D : mD) : Nat → Nat := D.2.2.2.2.2.2.2.2.2.1
abbrev mBits (D : mD) : Nat → Int32 := D.2.2.2.2.2.2.2.2.2.2.1
abbrev mSetOf (D : mD) : Nat → Int32 := D.2.2.2.2.2.2.2.2.2.2.2.1
abbrev mWhat (D : mD) : Nat → Int32 := D.2.2.2.2.2.2.2.2.2.2.2.2
abbrev mOpdN (D : mD) : Nat → Nat := D.2.2.2.2.2.2.2.1
abbrev mSetN (D : mD) : Nat → Nat := D.2.2.2.2.1
abbrev mSetB (D : mD) : Nat → Nat := D.2.2.2.2.2.1
def kdF (X : Nat × (Nat → Nat)) (K : Nat × Nat × Nat) : Nat := if isW X K [117] = true then 0 else if isW X K [115] = true then 1 else if isW X K [112] = true then 2 else 3
def soF (X : Nat × (Nat → Nat)) (K : Nat × Nat × Nat) (D : mD) : Nat := if isKeyF X K = true then 1000 else findF X K (mSetN D) D.2.1 0
/-- operand(o): the end -/
def opd9 (X : Nat × (Nat → Nat)) (K : Nat × Nat × Nat) (D : mD) (o : Nat) : mR := (none, nextF X K.2.2, mdA D (va_up (mOpds D) o (mOpds D o + 1)))
def opd5 (X : Nat × (Nat → Nat)) (K : Nat × Nat × Nat) (D : mD) (o p : Nat) : mR :=
  if K.1 = 2 ∧ K.2.2 - K.2.1 ≤ 4 then
    if 1 ≤ decF X K.2.2 K.2.1 0 ∧ decF X K.2.2 K.2.1 0 ≤ D.1 then opd9 X K (mdB D (va_up (mBits D) p (nI (decF X K.2.2 K.2.1 0)))) o
    else (some K.2.1, K, mdB D (va_up (mBits D) p (nI (decF X K.2.2 K.2.1 0))))
  else (some K.2.1, K, mdB D (va_up (mBits D) p (-1)))
def opd4 (X : Nat × (Nat → Nat)) (K : Nat × Nat × Nat) (D : mD) (o p : Nat) : mR :=
  if soF X K D = 1000 then (some K.2.1, K, mdS D (va_up (mSetOf D) p (lI (soF X K D))))
  else opd9 X K (mdB (mdS D (va_up (mSetOf D) p (lI (soF X K D)))) (va_up (mBits D) p (nI (mSetB D (soF X K D))))) o
def opd3 (X : Nat × (Nat → Nat)) (K : Nat × Nat × Nat) (D : mD) (o p : Nat) : mR :=
  if K.1 = 1 then
    if kdF X K = 3 then opd4 X K (mdK D (va_up (mKind D) p (kdF X K))) o p
    else opd5 X (nextF X K.2.2) (mdK D (va_up (mKind D) p (kdF X K))) o p
  else (some K.2.1, K, D)
def opd2 (X : Nat × (Nat → Nat)) (K : Nat × Nat × Nat) (D : mD) (o p : Nat) : mR := if isSignF X K 58 = true then opd3 X (nextF X K.2.2) D o p else (some K.2.1, K, D)
/-- operand(o) -/
def opdF (X : Nat × (Nat → Nat)) (K : Nat × Nat × Nat) (D : mD) (o : Nat) : mR :=
  if isNameF X K = true ∧ mOpds D o ≠ 6 ∧ findF X K (mOpdN D) (mOpds D o) 0 = 1000 then opd2 X (nextF X K.2.2) (mdO D (keepF X K (mOpdN D) (mOpds D o) 12)) o (6 * o + mOpds D o)
  else (some K.2.1, K, D)
theorem soF_key {X : Nat × (Nat → Nat)} {K : Nat × Nat × Nat} {D : mD} (h : isKeyF X K = true) : soF X K D = 1000 := by unfold soF; rw [if_pos h]
theorem soF_nk {X : Nat × (Nat → Nat)} {K : Nat × Nat × Nat} {D : mD} (h : isKeyF X K = false) : soF X K D = findF X K (mSetN D) D.2.1 0 := by unfold soF; rw [if_neg (by rw [h]; decide)]
