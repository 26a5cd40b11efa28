/-! THE CLASS: operands -/
def snF (pl : Nat → Int32) (h b : Nat) : Bool := if b ≤ h then if pl b = -1 then snF pl h (b + 1) else false else true
termination_by h + 1 - b
def swF (pl : Nat → Int32) (n b : Nat) : Bool := if b < n then if pl b = -1 then false else swF pl n (b + 1) else true
termination_by n - b
def layF (pl : Nat → Int32) (h lo hp : Nat) : Nat → Nat → Int32
  | 0 => pl
  | i + 1 => va_up (layF pl h lo hp i) (lo + i) (nI (hp - (h - (lo + i))))
def spB (pl : Nat → Int32) (v : Int64) (b : Nat) : Int32 := (((v.toUInt64 >>> ((nI b).toInt64.toUInt64 &&& Int64.toUInt64 63)).toInt64 &&& 1).toInt32) <<< (pl b &&& 31)
def spF (pl : Nat → Int32) (v : Int64) (n b : Nat) (w : Int32) : Int32 := if b < n then spF pl v n (b + 1) (w ||| spB pl v b) else w
termination_by n - b
def gaB (pl : Nat → Int32) (w : Int32) (b : Nat) : Int64 := (((w.toUInt32 >>> ((pl b).toUInt32 &&& Int32.toUInt32 31)).toInt32 &&& nI 1).toInt64) <<< ((nI b).toInt64 &&& 63)
def gaF (pl : Nat → Int32) (w : Int32) (n b : Nat) (v : Int64) : Int64 := if b < n then gaF pl w n (b + 1) (v ||| gaB pl w b) else v
termination_by n - b
def leF (kd n : Nat) : Int64 := if kd = 1 ∨ kd = 2 then -(pw (n - 1)) else 0
def moF (kd n : Nat) : Int64 := if kd = 1 ∨ kd = 2 then pw (n - 1) - 1 else pw n - 1
theorem fitF_lm (kd n : Nat) (v : Int64) : fitF kd n v = jin2 (leF kd n) (moF kd n) v := by
  unfold fitF leF moF
  split <;> rfl
def gthF (kd n : Nat) (pl : Nat → Int32) (w : Int32) : Int64 := if moF kd n < gaF pl w n 0 0 then gaF pl w n 0 0 - pw n else gaF pl w n 0 0
theorem ju_ju {M : jMem} {k : Nat} {x y : va_E} : ju (ju M k x) k y = ju M k y := by
  refine Prod.ext (funext fun q => ?_) rfl
  show va_up (va_up M.1 k (some x)) k (some y) q = va_up M.1 k (some y) q
  by_cases e : q = k
  · subst e; rw [va_up_self, va_up_self]
  · rw [va_up_ne _ _ e, va_up_ne _ _ e, va_up_ne _ _ e]
theorem ju_id {M : jMem} {k : Nat} {x : va_E} (h : M.1 k = some x) : ju M k x = M := by
  refine Prod.ext (funext fun q => ?_) rfl
  show va_up M.1 k (some x) q = M.1 q
  by_cases e : q = k
  · subst e; rw [va_up_self, h]
  · rw [va_up_ne _ _ e]
theorem xdstep {v c : Nat} (h : 48 ≤ c) : lN v * 10 + lN (c - 48) = lN (10 * v + c - 48) := by
  rw [show (10 : Int64) = lN 10 by decide, lN_mul, lN_add]
  congr 1
  omega
theorem xhstep {v c : Nat} : lN v * 16 + lN c = lN (16 * v + c) := by
  rw [show (16 : Int64) = lN 16 by decide, lN_mul, lN_add]
  congr 1
  omega
def flF (f : Nat → Int32) (x : Int32) (i : Nat) : Nat → Int32 := fun j => if j < i then x else f j
theorem flF_up (f : Nat → Int32) (x : Int32) (i : Nat) : va_up (flF f x i) i x = flF f x (i + 1) := by
  funext j
  unfold flF
  by_cases e : j = i
  · subst e; rw [va_up_self, if_pos (by omega)]
  · rw [va_up_ne _ _ e]
    by_cases h : j < i
    · rw [if_pos h, if_pos (by omega)]
    · rw [if_neg h, if_neg (by omega)]
def owF (mk pt w : Int32) : Bool := decide (w &&& mk = pt)
def shF (mk pt mk2 pt2 : Int32) : Bool := decide ((pt ^^^ pt2) &&& mk &&& mk2 = 0)
