/-! words and operands -/
/-- 2 to the n -/
def pw (n : Nat) : Int64 := lN (2 ^ n)
theorem shl1 {n : Nat} (h : n < 63) : (1 : Int64) <<< ((nI n).toInt64 &&& 63) = pw n := by
  have := wb_shl 1 (k := n) (by omega)
  rw [Nat.one_mul] at this
  exact this
theorem lN_0' : (0 : Int64) = lN 0 := by decide
/-- may an operand of this kind and so many bits be v -/
def fitF (kd n : Nat) (v : Int64) : Bool := if kd = 1 ∨ kd = 2 then jin2 (-(pw (n - 1))) (pw (n - 1) - 1) v else jin2 0 (pw n - 1) v
/-- a place of op o holds a fixed bit or a bit of an operand -/
def wOK (wt : Nat → Int32) (W o : Nat) : Prop := ∀ k, k < W → wt (32 * o + k) < 0 ∨ ∃ x, x < 192 ∧ wt (32 * o + k) = nI x
def bitM (x : Int32) (gv : Nat → Int64) : Int32 := if x < 0 then if x = -2 then 1 else 0 else ((gv (x.toNatClampNeg / 32)) >>> ((nI (x.toNatClampNeg % 32)).toInt64 &&& 63)).toInt32 &&& 1
def mkF (wt : Nat → Int32) (gv : Nat → Int64) (W o k : Nat) (a : Int32) : Int32 := if k < W then mkF wt gv W o (k + 1) (a <<< (nI 1 &&& 31) ||| bitM (wt (32 * o + k)) gv) else a
termination_by W - k
/-- made(o) -/
def madeF (D : mD) (gv : Nat → Int64) (o : Nat) : Int32 := mkF (mWhat D) gv D.1 o 0 (nI 0)
def wb1 (w : Int32) (W k : Nat) : Int32 := (w >>> (nI (W - 1 - k) &&& 31)) &&& nI 1
def tkF (wt : Nat → Int32) (W o : Nat) (w : Int32) (q k : Nat) (v : Int64) : Int64 := if k < W then tkF wt W o w q (k + 1) (if 0 ≤ wt (32 * o + k) ∧ (wt (32 * o + k)).toNatClampNeg / 32 = q then v ||| ((wb1 w W k).toInt64 <<< ((nI ((wt (32 * o + k)).toNatClampNeg % 32)).toInt64 &&& 63)) else v) else v
termination_by W - k
def sgF (kd b : Nat) (v : Int64) : Int64 := if (kd = 1 ∨ kd = 2) ∧ ¬ ((v >>> ((nI (b - 1)).toInt64 &&& 63)) &&& 1 = 0) then v - pw b else v
/-- taken(o, w, q) -/
def takenF (D : mD) (o : Nat) (w : Int32) (q : Nat) : Int64 := sgF (mKind D (6 * o + q)) (bitsN D (6 * o + q)) (tkF (mWhat D) D.1 o w q 0 0)
def ownF (wt : Nat → Int32) (W : Nat) (w : Int32) (o k : Nat) : Bool := decide (0 ≤ wt (32 * o + k)) || decide (wt (32 * o + k) = -1 - wb1 w W k)
def ooF (wt : Nat → Int32) (W : Nat) (w : Int32) (m o : Nat) : Nat := if o < m then if allF (ownF wt W w o) W 0 = true then o else ooF wt W w m (o + 1) else 1000
termination_by m - o
/-- opOf(w); 1000: none -/
def opOfF (D : mD) (w : Int32) : Nat := ooF (mWhat D) D.1 w D.2.2.1 0
theorem ooF_lt {wt : Nat → Int32} {W : Nat} {w : Int32} {m o : Nat} : ooF wt W w m o = 1000 ∨ ooF wt W w m o < m := by
  induction hm : m - o generalizing o with
  | zero => rw [ooF, if_neg (by omega)]; omega
  | succ d ih =>
    rw [ooF]
    split
    · split
      · omega
      · exact ih (by omega)
    · omega
theorem bI_an1 (b : Bool) : bI b &&& nI 1 = bI b := by cases b <;> decide
theorem bI_an0 (b : Bool) : bI b &&& nI 0 = bI false := by cases b <;> decide
theorem nIpos_of {x : Nat} (h : x < 192) : 0 ≤ nI x := nI_pos' (by omega)
/-- an operand -/
def pG (D : mD) (p : Nat) : Prop := mKind D p ≤ 3 ∧ ∃ b, 1 ≤ b ∧ b ≤ 32 ∧ mBits D p = nI b
theorem jol {M : jMem} {x y : Int64} (h : x = y) : (.inl (some (.long x), M) : jO) = .inl (some (.long y), M) := by rw [h]
section TAK
variable {D : mD} {o q b : Nat} {w : Int32}
theorem taken_1 (hb : bitsN D (6 * o + q) = b) (h1 : mKind D (6 * o + q) = 1 ∨ mKind D (6 * o + q) = 2) (h2 : ¬ lg_cmp ((tkF (mWhat D) D.1 o w q 0 0 >>> ((nI (b - 1)).toInt64 &&& 63)) &&& 1) 0 = 0) : takenF D o w q = tkF (mWhat D) D.1 o w q 0 0 - pw b := by
  rw [takenF, hb, sgF, if_pos ⟨h1, fun z => h2 ((lg_cmp_eq _ _).mpr z)⟩]
theorem taken_2 (hb : bitsN D (6 * o + q) = b) (h2 : lg_cmp ((tkF (mWhat D) D.1 o w q 0 0 >>> ((nI (b - 1)).toInt64 &&& 63)) &&& 1) 0 = 0) : takenF D o w q = tkF (mWhat D) D.1 o w q 0 0 := by
  rw [takenF, hb, sgF, if_neg (fun z => z.2 ((lg_cmp_eq _ _).mp h2))]
theorem taken_3 (h1 : ¬ mKind D (6 * o + q) = 1) (h2 : ¬ mKind D (6 * o + q) = 2) : takenF D o w q = tkF (mWhat D) D.1 o w q 0 0 := by
  rw [takenF, sgF, if_neg (fun z => z.1.elim h1 h2)]
end TAK
section OWN
variable {wt : Nat → Int32} {W o k : Nat} {w : Int32}
theorem own_1 (h : 0 ≤ wt (32 * o + k)) : ownF wt W w o k = true := by unfold ownF; rw [decide_eq_true h]; rfl
theorem own_2 (h : wt (32 * o + k) = -1 - wb1 w W k) : ownF wt W w o k = true := by unfold ownF; rw [decide_eq_true h, Bool.or_true]
theorem own_0 (h1 : ¬ 0 ≤ wt (32 * o + k)) (h : ¬ wt (32 * o + k) = -1 - wb1 w W k) : ownF wt W w o k = false := by unfold ownF; rw [decide_eq_false h1, decide_eq_false h]; rfl
end OWN
