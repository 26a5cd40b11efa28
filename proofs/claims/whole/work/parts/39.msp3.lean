/-! field(o, n) -/
abbrev mF : Type := Option Nat × (Nat × Nat × Nat) × mD × Nat
def fRet (r : mF) : Int32 := match r.1 with
  | none => nI r.2.2.2
  | some _ => -1
def digOK (X : Nat × (Nat → Nat)) (b a : Nat) : Bool := if a < b then if X.2 a ≤ 49 then digOK X b (a + 1) else false else true
termination_by b - a
def fixW (X : Nat × (Nat → Nat)) (wt : Nat → Int32) (b a j : Nat) : Nat → Int32 := if a < b then fixW X (va_up wt j (if X.2 a = 48 then -1 else -2)) b (a + 1) (j + 1) else wt
termination_by b - a
def bitsN (D : mD) (p : Nat) : Nat := (mBits D p).toNatClampNeg
/-- the bits lo + c - 1 down to lo of operand k are laid from place m on -/
def fldL (a : Nat) (K : Nat × Nat × Nat) (o n k lo : Nat) : Nat → mD → Nat → mF
  | 0, D, m => (none, K, D, m)
  | c + 1, D, m => if standsF (mWhat D) o n (32 * k + (lo + c)) 0 = true then (some a, K, D, m) else fldL a K o n k lo c (mdW D (va_up (mWhat D) (32 * o + m) (nI (32 * k + (lo + c))))) (m + 1)
def fld9 (a : Nat) (K : Nat × Nat × Nat) (D : mD) (o n k h lo : Nat) : mF := if n + h - lo + 1 ≤ D.1 then fldL a K o n k lo (h + 1 - lo) D n else (some a, K, D, n)
def fld6 (X : Nat × (Nat → Nat)) (a : Nat) (K : Nat × Nat × Nat) (D : mD) (o n k h lo : Nat) : mF := if isSignF X K 93 = true then fld9 a (nextF X K.2.2) D o n k h lo else (some K.2.1, K, D, n)
def fld5 (X : Nat × (Nat → Nat)) (a : Nat) (K : Nat × Nat × Nat) (D : mD) (o n k h : Nat) : mF :=
  if K.1 = 2 ∧ K.2.2 - K.2.1 ≤ 4 then if decF X K.2.2 K.2.1 0 ≤ h then fld6 X a (nextF X K.2.2) D o n k h (decF X K.2.2 K.2.1 0) else (some K.2.1, K, D, n) else (some K.2.1, K, D, n)
def fld4 (X : Nat × (Nat → Nat)) (a : Nat) (K : Nat × Nat × Nat) (D : mD) (o n k h : Nat) : mF := if isSignF X K 58 = true then fld5 X a (nextF X K.2.2) D o n k h else (some K.2.1, K, D, n)
def fld3 (X : Nat × (Nat → Nat)) (a : Nat) (K : Nat × Nat × Nat) (D : mD) (o n k : Nat) : mF :=
  if K.1 = 2 ∧ K.2.2 - K.2.1 ≤ 4 then if decF X K.2.2 K.2.1 0 ≤ bitsN D (6 * o + k) - 1 then fld4 X a (nextF X K.2.2) D o n k (decF X K.2.2 K.2.1 0) else (some K.2.1, K, D, n) else (some K.2.1, K, D, n)
def fld2 (X : Nat × (Nat → Nat)) (a : Nat) (K : Nat × Nat × Nat) (D : mD) (o n k : Nat) : mF := if isSignF X K 91 = true then fld3 X a (nextF X K.2.2) D o n k else fld9 a K D o n k (bitsN D (6 * o + k) - 1) 0
def fld1 (X : Nat × (Nat → Nat)) (K : Nat × Nat × Nat) (D : mD) (o n k : Nat) : mF := if k = 1000 then (some K.2.1, K, D, n) else fld2 X K.2.1 (nextF X K.2.2) D o n k
/-- field(o, n) -/
def fldF (X : Nat × (Nat → Nat)) (K : Nat × Nat × Nat) (D : mD) (o n : Nat) : mF :=
  if K.1 = 2 then
    if digOK X K.2.2 K.2.1 = true then
      if n + K.2.2 - K.2.1 ≤ D.1 then (none, nextF X K.2.2, mdW D (fixW X (mWhat D) K.2.2 K.2.1 (32 * o + n)), n + (K.2.2 - K.2.1))
      else (some K.2.1, K, D, n)
    else (some K.2.1, K, D, n)
  else fld1 X K D o n (if isNameF X K = true then findF X K (mOpdN D) (mOpds D o) 0 else 1000)
section MF
variable {er : Nat} {F X : Nat × (Nat → Nat)} {K : Nat × Nat × Nat} {D : mD} {P : mP} {gv : Nat → Int64} {O : Nat × (Nat → Nat)} {T : jMem} {r : mF} {p n : Nat}
theorem mF_f (h : r = (some p, K, D, n)) : (.inl (some (.int (fRet r)), encM er F X r.2.1 (wrI r.1) r.2.2.1 P gv O T) : jO) = .inl (some (.int (-1)), encM er F X K (badW (-1) p) D P gv O T) := by
  rw [h, badW_1]; rfl
theorem mF_t (h : r = (none, K, D, n)) : (.inl (some (.int (fRet r)), encM er F X r.2.1 (wrI r.1) r.2.2.1 P gv O T) : jO) = .inl (some (.int (nI n)), encM er F X K (-1) D P gv O T) := by
  rw [h]; rfl
end MF
theorem im1 (x : Int32) : x + Int32.ofInt (-1) = x - 1 := by rw [Int32.sub_eq_add_neg]; rfl
theorem nI_m1lt {a : Nat} (h : a < 2 ^ 30) : nI a - 1 < nI a := by
  rw [Int32.lt_iff_toInt_lt, show (1 : Int32) = nI 1 by decide, pk_sub_toInt h (by omega), nI_toInt (by omega)]
  omega
