/-! THE CLASS's MEMORY -/
theorem ju_out {b k : Nat} {L : List va_E} {T : jMem} {x : va_E} (h : k < b ∨ b + L.length ≤ k) : ju (jlist b L T) k x = jlist b L (ju T k x) := by
  refine Prod.ext (funext fun q => ?_) rfl
  show va_up (fun k => if k < b then T.1 k else if k < b + L.length then L[k - b]? else T.1 k) k (some x) q = if q < b then va_up T.1 k (some x) q else if q < b + L.length then L[q - b]? else va_up T.1 k (some x) q
  by_cases e : q = k
  · subst e
    rw [va_up_self, va_up_self]
    by_cases h1 : q < b
    · rw [if_pos h1]
    · rw [if_neg h1, if_neg (by omega)]
  · rw [va_up_ne _ _ e, va_up_ne _ _ e]
/-- an array of names: how many, their letters, their lengths -/
abbrev xN : Type := Nat × (Nat → Nat) × (Nat → Nat)
/-- the ops: size, laid, mask, pattern of each; kind, size, set of each operand; its places -/
abbrev xZ : Type := (Nat → Nat × Nat × Int32 × Int32) × (Nat → Nat × Nat × Int32) × (Nat → Nat → Int32)
def opC (Z : xZ) (i r : Nat) : va_E :=
  if r = 0 then .inr (5, [.ref (18 + 14 * i), .int (nI (Z.1 i).1), .int (nI (Z.1 i).2.1), .int (Z.1 i).2.2.1, .int (Z.1 i).2.2.2])
  else if r = 1 then qA 3 6 (fun k => some (19 + 14 * i + 2 * k))
  else if r % 2 = 0 then .inr (6, [.ref (20 + 14 * i + 2 * ((r - 2) / 2)), .int (nI (Z.2.1 (6 * i + (r - 2) / 2)).1), .int (nI (Z.2.1 (6 * i + (r - 2) / 2)).2.1), .int (Z.2.1 (6 * i + (r - 2) / 2)).2.2])
  else rA 32 (Z.2.2 (6 * i + (r - 3) / 2))
def opsM (Z : xZ) (T : jMem) : jMem := (fun q => if 17 ≤ q ∧ q < 857 then some (opC Z ((q - 17) / 14) ((q - 17) % 14)) else T.1 q, T.2)
theorem ju_opsO {k : Nat} {Z : xZ} {T : jMem} {x : va_E} (h : k < 17 ∨ 857 ≤ k) : ju (opsM Z T) k x = opsM Z (ju T k x) := by
  refine Prod.ext (funext fun q => ?_) rfl
  show va_up (fun q => if 17 ≤ q ∧ q < 857 then some (opC Z ((q - 17) / 14) ((q - 17) % 14)) else T.1 q) k (some x) q = if 17 ≤ q ∧ q < 857 then some (opC Z ((q - 17) / 14) ((q - 17) % 14)) else va_up T.1 k (some x) q
  by_cases e : q = k
  · subst e
    rw [va_up_self, va_up_self, if_neg (by omega)]
  · rw [va_up_ne _ _ e, va_up_ne _ _ e]
theorem ju_ops {Z Z' : xZ} {T : jMem} {i r : Nat} {x : va_E} (hi : i < 60) (hr : r < 14) (h1 : x = opC Z' i r) (h2 : ∀ j q, q < 14 → (j ≠ i ∨ q ≠ r) → opC Z' j q = opC Z j q) : ju (opsM Z T) (17 + 14 * i + r) x = opsM Z' T := by
  refine Prod.ext (funext fun q => ?_) rfl
  show va_up (fun q => if 17 ≤ q ∧ q < 857 then some (opC Z ((q - 17) / 14) ((q - 17) % 14)) else T.1 q) (17 + 14 * i + r) (some x) q = if 17 ≤ q ∧ q < 857 then some (opC Z' ((q - 17) / 14) ((q - 17) % 14)) else T.1 q
  by_cases e : q = 17 + 14 * i + r
  · subst e
    rw [va_up_self, if_pos (by omega), show (17 + 14 * i + r - 17) / 14 = i by omega, show (17 + 14 * i + r - 17) % 14 = r by omega, h1]
  · rw [va_up_ne _ _ e]
    by_cases hq : 17 ≤ q ∧ q < 857
    · rw [if_pos hq, if_pos hq, h2 _ _ (Nat.mod_lt _ (by decide)) (by omega)]
    · rw [if_neg hq, if_neg hq]
def zO (Z : xZ) (i : Nat) (x : Nat × Nat × Int32 × Int32) : xZ := (va_up Z.1 i x, Z.2)
def zP (Z : xZ) (p : Nat) (x : Nat × Nat × Int32) : xZ := (Z.1, va_up Z.2.1 p x, Z.2.2)
def zL (Z : xZ) (p : Nat) (f : Nat → Int32) : xZ := (Z.1, Z.2.1, va_up Z.2.2 p f)
theorem opC_0 {Z : xZ} {i : Nat} : opC Z i 0 = .inr (5, [.ref (18 + 14 * i), .int (nI (Z.1 i).1), .int (nI (Z.1 i).2.1), .int (Z.1 i).2.2.1, .int (Z.1 i).2.2.2]) := rfl
theorem opC_p {Z : xZ} {i k : Nat} : opC Z i (2 + 2 * k) = .inr (6, [.ref (20 + 14 * i + 2 * k), .int (nI (Z.2.1 (6 * i + k)).1), .int (nI (Z.2.1 (6 * i + k)).2.1), .int (Z.2.1 (6 * i + k)).2.2]) := by
  unfold opC
  rw [if_neg (by omega), if_neg (by omega), if_pos (by omega), show (2 + 2 * k - 2) / 2 = k by omega]
theorem opC_l {Z : xZ} {i k : Nat} : opC Z i (3 + 2 * k) = rA 32 (Z.2.2 (6 * i + k)) := by
  unfold opC
  rw [if_neg (by omega), if_neg (by omega), if_neg (by omega), show (3 + 2 * k - 3) / 2 = k by omega]
theorem ju_op0 {Z : xZ} {T : jMem} {i : Nat} (hi : i < 60) (x : Nat × Nat × Int32 × Int32) : ju (opsM Z T) (17 + 14 * i) (.inr (5, [.ref (18 + 14 * i), .int (nI x.1), .int (nI x.2.1), .int x.2.2.1, .int x.2.2.2])) = opsM (zO Z i x) T := by
  refine ju_ops (r := 0) hi (by decide) ?_ (fun j q hq h => ?_)
  · show _ = opC (zO Z i x) i 0
    rw [opC_0, show (zO Z i x).1 i = x from va_up_self _ _ _]
  · unfold opC
    by_cases h0 : q = 0
    · rw [if_pos h0, if_pos h0, show (zO Z i x).1 j = Z.1 j from va_up_ne _ _ (by omega)]
    · rw [if_neg h0, if_neg h0]; rfl
theorem ju_opp {Z : xZ} {T : jMem} {i k : Nat} (hi : i < 60) (hk : k < 6) (x : Nat × Nat × Int32) : ju (opsM Z T) (19 + 14 * i + 2 * k) (.inr (6, [.ref (20 + 14 * i + 2 * k), .int (nI x.1), .int (nI x.2.1), .int x.2.2])) = opsM (zP Z (6 * i + k) x) T := by
  rw [show 19 + 14 * i + 2 * k = 17 + 14 * i + (2 + 2 * k) by omega]
  refine ju_ops hi (by omega) ?_ (fun j q hq h => ?_)
  · rw [opC_p, show (zP Z (6 * i + k) x).2.1 (6 * i + k) = x from va_up_self _ _ _]
  · unfold opC
    by_cases h0 : q = 0
    · rw [if_pos h0, if_pos h0]; rfl
    · rw [if_neg h0, if_neg h0]
      by_cases h1 : q = 1
      · rw [if_pos h1, if_pos h1]
      · rw [if_neg h1, if_neg h1]
        by_cases h2 : q % 2 = 0
        · rw [if_pos h2, if_pos h2, show (zP Z (6 * i + k) x).2.1 (6 * j + (q - 2) / 2) = Z.2.1 (6 * j + (q - 2) / 2) from va_up_ne _ _ (by omega)]
        · rw [if_neg h2, if_neg h2]; rfl
theorem ju_opl {Z : xZ} {T : jMem} {i k : Nat} (hi : i < 60) (hk : k < 6) (f : Nat → Int32) : ju (opsM Z T) (20 + 14 * i + 2 * k) (rA 32 f) = opsM (zL Z (6 * i + k) f) T := by
  rw [show 20 + 14 * i + 2 * k = 17 + 14 * i + (3 + 2 * k) by omega]
  refine ju_ops hi (by omega) ?_ (fun j q hq h => ?_)
  · rw [opC_l, show (zL Z (6 * i + k) f).2.2 (6 * i + k) = f from va_up_self _ _ _]
  · unfold opC
    by_cases h0 : q = 0
    · rw [if_pos h0, if_pos h0]; rfl
    · rw [if_neg h0, if_neg h0]
      by_cases h1 : q = 1
      · rw [if_pos h1, if_pos h1]
      · rw [if_neg h1, if_neg h1]
        by_cases h2 : q % 2 = 0
        · rw [if_pos h2, if_pos h2]; rfl
        · rw [if_neg h2, if_neg h2, show (zL Z (6 * i + k) f).2.2 (6 * j + (q - 3) / 2) = Z.2.2 (6 * j + (q - 3) / 2) from va_up_ne _ _ (by omega)]
abbrev xA : Type := Nat × (Nat → Nat) × (Nat → Int64)
abbrev xS : Type := Nat × Nat × (Nat → Nat) × (Nat → Nat) × (Nat → Nat)
abbrev xT : Type := Nat × Nat × Nat × Nat
abbrev xB : Type := Nat × Nat × xN × (Nat → Nat) × xN
abbrev xC : Type := Nat × Nat × (Nat → Int32) × xN × (Nat → Nat)
abbrev xV : Type := Nat × (Nat → Nat) × (Nat → Nat) × (Nat → Nat) × (Nat → Nat) × (Nat → Nat)
abbrev xL : Type := Nat × (Nat → Nat)
def encX (A : xA) (S : xS) (t : xT) (wr : Int32) (B : xB) (Z : xZ) (P : xC) (Q : xN) (V : xV) (L : xL) (T : jMem) : jMem := jlist 0
  [.inr (10, [.ref 1, .ref 2, .ref 3, .ref 8, .ref 857, .ref 863, .ref 867, .ref 873, .int (nI A.1)]), nA 4000 A.2.1, lA 6 A.2.2, .inr (9, [.ref 1, .ref 4, .int (nI t.1), .int (nI t.2.1), .int (nI t.2.2.1), .int (nI t.2.2.2), .int wr]), .inr (8, [.ref 1, .ref 5, .ref 6, .ref 7, .int (nI S.1), .int (nI S.2.1)]), nA 4001 S.2.2.1, nA 4001 S.2.2.2.1, nA 4001 S.2.2.2.2, .inr (2, [.ref 9, .ref 12, .ref 13, .ref 16, .int (nI B.1), .int (nI B.2.1)]), .inr (4, [.ref 10, .ref 11, .int (nI B.2.2.1.1)]), nA 144 B.2.2.1.2.1, nA 12 B.2.2.1.2.2, nA 12 B.2.2.2.1, .inr (4, [.ref 14, .ref 15, .int (nI B.2.2.2.2.1)]), nA 720 B.2.2.2.2.2.1, nA 60 B.2.2.2.2.2.2, qA 2 60 (fun i => some (17 + 14 * i))] (opsM Z (jlist 857
  [.inr (7, [.ref 858, .ref 859, .ref 862, .int (nI P.1), .int (nI P.2.1)]), rA 1000 P.2.2.1, .inr (4, [.ref 860, .ref 861, .int (nI P.2.2.2.1.1)]), nA 720 P.2.2.2.1.2.1, nA 60 P.2.2.2.1.2.2, nA 60 P.2.2.2.2, .inr (1, [.ref 3, .ref 8, .ref 864]), .inr (4, [.ref 865, .ref 866, .int (nI Q.1)]), nA 72 Q.2.1, nA 6 Q.2.2, .inr (0, [.ref 3, .ref 8, .ref 857, .ref 868, .ref 869, .ref 870, .ref 871, .ref 872, .int (nI V.1)]), nA 2000 V.2.1, nA 2000 V.2.2.1, nA 2000 V.2.2.2.1, nA 2000 V.2.2.2.2.1, nA 2000 V.2.2.2.2.2, .inr (3, [.ref 874, .int (nI L.1)]), nA 96 L.2] T))
section EX
variable {A : xA} {S : xS} {t : xT} {wr : Int32} {B : xB} {Z : xZ} {P : xC} {Q : xN} {V : xV} {L : xL} {T : jMem}
theorem uX_fed (v : Nat) : ju (encX A S t wr B Z P Q V L T) 0 (.inr (10, [.ref 1, .ref 2, .ref 3, .ref 8, .ref 857, .ref 863, .ref 867, .ref 873, .int (nI v)])) = encX (v, A.2) S t wr B Z P Q V L T := (jlist_set (b := 0) (i := 0) (jlt rfl)).trans rfl
theorem uX_octets (f : Nat → Nat) : ju (encX A S t wr B Z P Q V L T) 1 (nA 4000 f) = encX (A.1, f, A.2.2) S t wr B Z P Q V L T := (jlist_set (b := 0) (i := 1) (jlt rfl)).trans rfl
theorem uX_values (f : Nat → Int64) : ju (encX A S t wr B Z P Q V L T) 2 (lA 6 f) = encX (A.1, A.2.1, f) S t wr B Z P Q V L T := (jlist_set (b := 0) (i := 2) (jlt rfl)).trans rfl
theorem uX_index (v : Nat) : ju (encX A S t wr B Z P Q V L T) 3 (.inr (9, [.ref 1, .ref 4, .int (nI v), .int (nI t.2.1), .int (nI t.2.2.1), .int (nI t.2.2.2), .int wr])) = encX A S (v, t.2.1, t.2.2.1, t.2.2.2) wr B Z P Q V L T := (jlist_set (b := 0) (i := 3) (jlt rfl)).trans rfl
theorem uX_kind (v : Nat) : ju (encX A S t wr B Z P Q V L T) 3 (.inr (9, [.ref 1, .ref 4, .int (nI t.1), .int (nI v), .int (nI t.2.2.1), .int (nI t.2.2.2), .int wr])) = encX A S (t.1, v, t.2.2.1, t.2.2.2) wr B Z P Q V L T := (jlist_set (b := 0) (i := 3) (jlt rfl)).trans rfl
theorem uX_start (v : Nat) : ju (encX A S t wr B Z P Q V L T) 3 (.inr (9, [.ref 1, .ref 4, .int (nI t.1), .int (nI t.2.1), .int (nI v), .int (nI t.2.2.2), .int wr])) = encX A S (t.1, t.2.1, v, t.2.2.2) wr B Z P Q V L T := (jlist_set (b := 0) (i := 3) (jlt rfl)).trans rfl
theorem uX_end (v : Nat) : ju (encX A S t wr B Z P Q V L T) 3 (.inr (9, [.ref 1, .ref 4, .int (nI t.1), .int (nI t.2.1), .int (nI t.2.2.1), .int (nI v), .int wr])) = encX A S (t.1, t.2.1, t.2.2.1, v) wr B Z P Q V L T := (jlist_set (b := 0) (i := 3) (jlt rfl)).trans rfl
theorem uX_wrongAt (v : Int32) : ju (encX A S t wr B Z P Q V L T) 3 (.inr (9, [.ref 1, .ref 4, .int (nI t.1), .int (nI t.2.1), .int (nI t.2.2.1), .int (nI t.2.2.2), .int v])) = encX A S t (v) B Z P Q V L T := (jlist_set (b := 0) (i := 3) (jlt rfl)).trans rfl
theorem uX_length (v : Nat) : ju (encX A S t wr B Z P Q V L T) 4 (.inr (8, [.ref 1, .ref 5, .ref 6, .ref 7, .int (nI v), .int (nI S.2.1)])) = encX A (v, S.2.1, S.2.2.1, S.2.2.2.1, S.2.2.2.2) t wr B Z P Q V L T := (jlist_set (b := 0) (i := 4) (jlt rfl)).trans rfl
theorem uX_ssize (v : Nat) : ju (encX A S t wr B Z P Q V L T) 4 (.inr (8, [.ref 1, .ref 5, .ref 6, .ref 7, .int (nI S.1), .int (nI v)])) = encX A (S.1, v, S.2.2.1, S.2.2.2.1, S.2.2.2.2) t wr B Z P Q V L T := (jlist_set (b := 0) (i := 4) (jlt rfl)).trans rfl
theorem uX_kinds (f : Nat → Nat) : ju (encX A S t wr B Z P Q V L T) 5 (nA 4001 f) = encX A (S.1, S.2.1, f, S.2.2.2.1, S.2.2.2.2) t wr B Z P Q V L T := (jlist_set (b := 0) (i := 5) (jlt rfl)).trans rfl
theorem uX_starts (f : Nat → Nat) : ju (encX A S t wr B Z P Q V L T) 6 (nA 4001 f) = encX A (S.1, S.2.1, S.2.2.1, f, S.2.2.2.2) t wr B Z P Q V L T := (jlist_set (b := 0) (i := 6) (jlt rfl)).trans rfl
theorem uX_ends (f : Nat → Nat) : ju (encX A S t wr B Z P Q V L T) 7 (nA 4001 f) = encX A (S.1, S.2.1, S.2.2.1, S.2.2.2.1, f) t wr B Z P Q V L T := (jlist_set (b := 0) (i := 7) (jlt rfl)).trans rfl
theorem uX_width (v : Nat) : ju (encX A S t wr B Z P Q V L T) 8 (.inr (2, [.ref 9, .ref 12, .ref 13, .ref 16, .int (nI v), .int (nI B.2.1)])) = encX A S t wr (v, B.2.1, B.2.2.1, B.2.2.2.1, B.2.2.2.2) Z P Q V L T := (jlist_set (b := 0) (i := 8) (jlt rfl)).trans rfl
theorem uX_dstands (v : Nat) : ju (encX A S t wr B Z P Q V L T) 8 (.inr (2, [.ref 9, .ref 12, .ref 13, .ref 16, .int (nI B.1), .int (nI v)])) = encX A S t wr (B.1, v, B.2.2.1, B.2.2.2.1, B.2.2.2.2) Z P Q V L T := (jlist_set (b := 0) (i := 8) (jlt rfl)).trans rfl
theorem uX_snsize (v : Nat) : ju (encX A S t wr B Z P Q V L T) 9 (.inr (4, [.ref 10, .ref 11, .int (nI v)])) = encX A S t wr (B.1, B.2.1, (v, B.2.2.1.2.1, B.2.2.1.2.2), B.2.2.2.1, B.2.2.2.2) Z P Q V L T := (jlist_set (b := 0) (i := 9) (jlt rfl)).trans rfl
theorem uX_snlet (f : Nat → Nat) : ju (encX A S t wr B Z P Q V L T) 10 (nA 144 f) = encX A S t wr (B.1, B.2.1, (B.2.2.1.1, f, B.2.2.1.2.2), B.2.2.2.1, B.2.2.2.2) Z P Q V L T := (jlist_set (b := 0) (i := 10) (jlt rfl)).trans rfl
theorem uX_snlen (f : Nat → Nat) : ju (encX A S t wr B Z P Q V L T) 11 (nA 12 f) = encX A S t wr (B.1, B.2.1, (B.2.2.1.1, B.2.2.1.2.1, f), B.2.2.2.1, B.2.2.2.2) Z P Q V L T := (jlist_set (b := 0) (i := 11) (jlt rfl)).trans rfl
theorem uX_setSizes (f : Nat → Nat) : ju (encX A S t wr B Z P Q V L T) 12 (nA 12 f) = encX A S t wr (B.1, B.2.1, B.2.2.1, f, B.2.2.2.2) Z P Q V L T := (jlist_set (b := 0) (i := 12) (jlt rfl)).trans rfl
theorem uX_onsize (v : Nat) : ju (encX A S t wr B Z P Q V L T) 13 (.inr (4, [.ref 14, .ref 15, .int (nI v)])) = encX A S t wr (B.1, B.2.1, B.2.2.1, B.2.2.2.1, (v, B.2.2.2.2.2.1, B.2.2.2.2.2.2)) Z P Q V L T := (jlist_set (b := 0) (i := 13) (jlt rfl)).trans rfl
theorem uX_onlet (f : Nat → Nat) : ju (encX A S t wr B Z P Q V L T) 14 (nA 720 f) = encX A S t wr (B.1, B.2.1, B.2.2.1, B.2.2.2.1, (B.2.2.2.2.1, f, B.2.2.2.2.2.2)) Z P Q V L T := (jlist_set (b := 0) (i := 14) (jlt rfl)).trans rfl
theorem uX_onlen (f : Nat → Nat) : ju (encX A S t wr B Z P Q V L T) 15 (nA 60 f) = encX A S t wr (B.1, B.2.1, B.2.2.1, B.2.2.2.1, (B.2.2.2.2.1, B.2.2.2.2.2.1, f)) Z P Q V L T := (jlist_set (b := 0) (i := 15) (jlt rfl)).trans rfl
theorem uX_psize (v : Nat) : ju (encX A S t wr B Z P Q V L T) 857 (.inr (7, [.ref 858, .ref 859, .ref 862, .int (nI v), .int (nI P.2.1)])) = encX A S t wr B Z (v, P.2.1, P.2.2.1, P.2.2.2.1, P.2.2.2.2) Q V L T := by
  unfold encX
  rw [ju_out (Or.inr (jle rfl)), ju_opsO (Or.inr (jle rfl)), show (857 : Nat) = 857 + 0 from rfl, jlist_set (jlt rfl)]
  rfl
theorem uX_pstands (v : Nat) : ju (encX A S t wr B Z P Q V L T) 857 (.inr (7, [.ref 858, .ref 859, .ref 862, .int (nI P.1), .int (nI v)])) = encX A S t wr B Z (P.1, v, P.2.2.1, P.2.2.2.1, P.2.2.2.2) Q V L T := by
  unfold encX
  rw [ju_out (Or.inr (jle rfl)), ju_opsO (Or.inr (jle rfl)), show (857 : Nat) = 857 + 0 from rfl, jlist_set (jlt rfl)]
  rfl
theorem uX_words (f : Nat → Int32) : ju (encX A S t wr B Z P Q V L T) 858 (rA 1000 f) = encX A S t wr B Z (P.1, P.2.1, f, P.2.2.2.1, P.2.2.2.2) Q V L T := by
  unfold encX
  rw [ju_out (Or.inr (jle rfl)), ju_opsO (Or.inr (jle rfl)), show (858 : Nat) = 857 + 1 from rfl, jlist_set (jlt rfl)]
  rfl
theorem uX_lnsize (v : Nat) : ju (encX A S t wr B Z P Q V L T) 859 (.inr (4, [.ref 860, .ref 861, .int (nI v)])) = encX A S t wr B Z (P.1, P.2.1, P.2.2.1, (v, P.2.2.2.1.2.1, P.2.2.2.1.2.2), P.2.2.2.2) Q V L T := by
  unfold encX
  rw [ju_out (Or.inr (jle rfl)), ju_opsO (Or.inr (jle rfl)), show (859 : Nat) = 857 + 2 from rfl, jlist_set (jlt rfl)]
  rfl
theorem uX_lnlet (f : Nat → Nat) : ju (encX A S t wr B Z P Q V L T) 860 (nA 720 f) = encX A S t wr B Z (P.1, P.2.1, P.2.2.1, (P.2.2.2.1.1, f, P.2.2.2.1.2.2), P.2.2.2.2) Q V L T := by
  unfold encX
  rw [ju_out (Or.inr (jle rfl)), ju_opsO (Or.inr (jle rfl)), show (860 : Nat) = 857 + 3 from rfl, jlist_set (jlt rfl)]
  rfl
theorem uX_lnlen (f : Nat → Nat) : ju (encX A S t wr B Z P Q V L T) 861 (nA 60 f) = encX A S t wr B Z (P.1, P.2.1, P.2.2.1, (P.2.2.2.1.1, P.2.2.2.1.2.1, f), P.2.2.2.2) Q V L T := by
  unfold encX
  rw [ju_out (Or.inr (jle rfl)), ju_opsO (Or.inr (jle rfl)), show (861 : Nat) = 857 + 4 from rfl, jlist_set (jlt rfl)]
  rfl
theorem uX_pplaces (f : Nat → Nat) : ju (encX A S t wr B Z P Q V L T) 862 (nA 60 f) = encX A S t wr B Z (P.1, P.2.1, P.2.2.1, P.2.2.2.1, f) Q V L T := by
  unfold encX
  rw [ju_out (Or.inr (jle rfl)), ju_opsO (Or.inr (jle rfl)), show (862 : Nat) = 857 + 5 from rfl, jlist_set (jlt rfl)]
  rfl
theorem uX_qnsize (v : Nat) : ju (encX A S t wr B Z P Q V L T) 864 (.inr (4, [.ref 865, .ref 866, .int (nI v)])) = encX A S t wr B Z P (v, Q.2.1, Q.2.2) V L T := by
  unfold encX
  rw [ju_out (Or.inr (jle rfl)), ju_opsO (Or.inr (jle rfl)), show (864 : Nat) = 857 + 7 from rfl, jlist_set (jlt rfl)]
  rfl
theorem uX_qnlet (f : Nat → Nat) : ju (encX A S t wr B Z P Q V L T) 865 (nA 72 f) = encX A S t wr B Z P (Q.1, f, Q.2.2) V L T := by
  unfold encX
  rw [ju_out (Or.inr (jle rfl)), ju_opsO (Or.inr (jle rfl)), show (865 : Nat) = 857 + 8 from rfl, jlist_set (jlt rfl)]
  rfl
theorem uX_qnlen (f : Nat → Nat) : ju (encX A S t wr B Z P Q V L T) 866 (nA 6 f) = encX A S t wr B Z P (Q.1, Q.2.1, f) V L T := by
  unfold encX
  rw [ju_out (Or.inr (jle rfl)), ju_opsO (Or.inr (jle rfl)), show (866 : Nat) = 857 + 9 from rfl, jlist_set (jlt rfl)]
  rfl
theorem uX_wanted (v : Nat) : ju (encX A S t wr B Z P Q V L T) 867 (.inr (0, [.ref 3, .ref 8, .ref 857, .ref 868, .ref 869, .ref 870, .ref 871, .ref 872, .int (nI v)])) = encX A S t wr B Z P Q (v, V.2.1, V.2.2.1, V.2.2.2.1, V.2.2.2.2.1, V.2.2.2.2.2) L T := by
  unfold encX
  rw [ju_out (Or.inr (jle rfl)), ju_opsO (Or.inr (jle rfl)), show (867 : Nat) = 857 + 10 from rfl, jlist_set (jlt rfl)]
  rfl
theorem uX_wstarts (f : Nat → Nat) : ju (encX A S t wr B Z P Q V L T) 868 (nA 2000 f) = encX A S t wr B Z P Q (V.1, f, V.2.2.1, V.2.2.2.1, V.2.2.2.2.1, V.2.2.2.2.2) L T := by
  unfold encX
  rw [ju_out (Or.inr (jle rfl)), ju_opsO (Or.inr (jle rfl)), show (868 : Nat) = 857 + 11 from rfl, jlist_set (jlt rfl)]
  rfl
theorem uX_wends (f : Nat → Nat) : ju (encX A S t wr B Z P Q V L T) 869 (nA 2000 f) = encX A S t wr B Z P Q (V.1, V.2.1, f, V.2.2.2.1, V.2.2.2.2.1, V.2.2.2.2.2) L T := by
  unfold encX
  rw [ju_out (Or.inr (jle rfl)), ju_opsO (Or.inr (jle rfl)), show (869 : Nat) = 857 + 12 from rfl, jlist_set (jlt rfl)]
  rfl
theorem uX_wwords (f : Nat → Nat) : ju (encX A S t wr B Z P Q V L T) 870 (nA 2000 f) = encX A S t wr B Z P Q (V.1, V.2.1, V.2.2.1, f, V.2.2.2.2.1, V.2.2.2.2.2) L T := by
  unfold encX
  rw [ju_out (Or.inr (jle rfl)), ju_opsO (Or.inr (jle rfl)), show (870 : Nat) = 857 + 13 from rfl, jlist_set (jlt rfl)]
  rfl
theorem uX_wops (f : Nat → Nat) : ju (encX A S t wr B Z P Q V L T) 871 (nA 2000 f) = encX A S t wr B Z P Q (V.1, V.2.1, V.2.2.1, V.2.2.2.1, f, V.2.2.2.2.2) L T := by
  unfold encX
  rw [ju_out (Or.inr (jle rfl)), ju_opsO (Or.inr (jle rfl)), show (871 : Nat) = 857 + 14 from rfl, jlist_set (jlt rfl)]
  rfl
theorem uX_woperands (f : Nat → Nat) : ju (encX A S t wr B Z P Q V L T) 872 (nA 2000 f) = encX A S t wr B Z P Q (V.1, V.2.1, V.2.2.1, V.2.2.2.1, V.2.2.2.2.1, f) L T := by
  unfold encX
  rw [ju_out (Or.inr (jle rfl)), ju_opsO (Or.inr (jle rfl)), show (872 : Nat) = 857 + 15 from rfl, jlist_set (jlt rfl)]
  rfl
theorem uX_lsize (v : Nat) : ju (encX A S t wr B Z P Q V L T) 873 (.inr (3, [.ref 874, .int (nI v)])) = encX A S t wr B Z P Q V (v, L.2) T := by
  unfold encX
  rw [ju_out (Or.inr (jle rfl)), ju_opsO (Or.inr (jle rfl)), show (873 : Nat) = 857 + 16 from rfl, jlist_set (jlt rfl)]
  rfl
theorem uX_lletters (f : Nat → Nat) : ju (encX A S t wr B Z P Q V L T) 874 (nA 96 f) = encX A S t wr B Z P Q V (L.1, f) T := by
  unfold encX
  rw [ju_out (Or.inr (jle rfl)), ju_opsO (Or.inr (jle rfl)), show (874 : Nat) = 857 + 17 from rfl, jlist_set (jlt rfl)]
  rfl
theorem uX_op {i : Nat} (hi : i < 60) (x : Nat × Nat × Int32 × Int32) : ju (encX A S t wr B Z P Q V L T) (17 + 14 * i) (.inr (5, [.ref (18 + 14 * i), .int (nI x.1), .int (nI x.2.1), .int x.2.2.1, .int x.2.2.2])) = encX A S t wr B (zO Z i x) P Q V L T := by
  unfold encX
  rw [ju_out (Or.inr (by show 0 + 17 ≤ _; omega)), ju_op0 hi x]
theorem uX_opd {i k : Nat} (hi : i < 60) (hk : k < 6) (x : Nat × Nat × Int32) : ju (encX A S t wr B Z P Q V L T) (19 + 14 * i + 2 * k) (.inr (6, [.ref (20 + 14 * i + 2 * k), .int (nI x.1), .int (nI x.2.1), .int x.2.2])) = encX A S t wr B (zP Z (6 * i + k) x) P Q V L T := by
  unfold encX
  rw [ju_out (Or.inr (by show 0 + 17 ≤ _; omega)), ju_opp hi hk x]
theorem uX_opl {i k : Nat} (hi : i < 60) (hk : k < 6) (f : Nat → Int32) : ju (encX A S t wr B Z P Q V L T) (20 + 14 * i + 2 * k) (rA 32 f) = encX A S t wr B (zL Z (6 * i + k) f) P Q V L T := by
  unfold encX
  rw [ju_out (Or.inr (by show 0 + 17 ≤ _; omega)), ju_opl hi hk f]
theorem jlist_o {b k : Nat} {L : List va_E} {T : jMem} (h : k < b ∨ b + L.length ≤ k) : (jlist b L T).1 k = T.1 k := by
  show (if k < b then T.1 k else if k < b + L.length then L[k - b]? else T.1 k) = _
  by_cases h1 : k < b
  · rw [if_pos h1]
  · rw [if_neg h1, if_neg (by omega)]
theorem opsM_at {Z : xZ} {T : jMem} {i r : Nat} (hi : i < 60) (hr : r < 14) : (opsM Z T).1 (17 + 14 * i + r) = some (opC Z i r) := by
  show (if 17 ≤ 17 + 14 * i + r ∧ 17 + 14 * i + r < 857 then some (opC Z ((17 + 14 * i + r - 17) / 14) ((17 + 14 * i + r - 17) % 14)) else T.1 (17 + 14 * i + r)) = _
  rw [if_pos (by omega), show (17 + 14 * i + r - 17) / 14 = i by omega, show (17 + 14 * i + r - 17) % 14 = r by omega]
theorem gX_o {i r : Nat} (hi : i < 60) (hr : r < 14) : (encX A S t wr B Z P Q V L T).1 (17 + 14 * i + r) = some (opC Z i r) := by
  unfold encX
  rw [jlist_o (Or.inr (by show 0 + 17 ≤ _; omega)), opsM_at hi hr]
theorem gX_op {i : Nat} (hi : i < 60) : (encX A S t wr B Z P Q V L T).1 (17 + 14 * i) = some (.inr (5, [.ref (18 + 14 * i), .int (nI (Z.1 i).1), .int (nI (Z.1 i).2.1), .int (Z.1 i).2.2.1, .int (Z.1 i).2.2.2])) := gX_o (r := 0) hi (by decide)
theorem gX_ops {i : Nat} (hi : i < 60) : (encX A S t wr B Z P Q V L T).1 (18 + 14 * i) = some (qA 3 6 (fun k => some (19 + 14 * i + 2 * k))) := by
  rw [show 18 + 14 * i = 17 + 14 * i + 1 by omega, gX_o hi (by decide)]
  rfl
theorem gX_opd {i k : Nat} (hi : i < 60) (hk : k < 6) : (encX A S t wr B Z P Q V L T).1 (19 + 14 * i + 2 * k) = some (.inr (6, [.ref (20 + 14 * i + 2 * k), .int (nI (Z.2.1 (6 * i + k)).1), .int (nI (Z.2.1 (6 * i + k)).2.1), .int (Z.2.1 (6 * i + k)).2.2])) := by
  rw [show 19 + 14 * i + 2 * k = 17 + 14 * i + (2 + 2 * k) by omega, gX_o hi (by omega), opC_p]
theorem gX_opl {i k : Nat} (hi : i < 60) (hk : k < 6) : (encX A S t wr B Z P Q V L T).1 (20 + 14 * i + 2 * k) = some (rA 32 (Z.2.2 (6 * i + k))) := by
  rw [show 20 + 14 * i + 2 * k = 17 + 14 * i + (3 + 2 * k) by omega, gX_o hi (by omega), opC_l]
end EX
