/-! CLASS AND REFERENCE: the parts of an op -/
theorem mB_x {r : mR} {f : Nat × Nat × Nat → mD → mR} {p : Nat} (h : r.1 = some p) : (mB r f).1 = some p := by
  unfold mB
  rw [if_neg (by rw [h]; exact fun z => nomatch z)]
  exact h
theorem mB_t {r : mR} {f : Nat × Nat × Nat → mD → mR} (h : r.1 = none) : mB r f = f r.2.1 r.2.2 := if_pos h
theorem dP.x1 {X : Nat × (Nat → Nat)} {A : xA} {S : xS} {P : xC} {V : xV} {L : xL} {T : jMem} {R : mD → xB → xZ → xN → Prop} {r : mR} {p : Nat} {t : xT} {B : xB} {Z : xZ} {Q : xN} (h : r.1 = some p) (hg : gB B Q) : dP X A S P V L T R r (.inr (eIA, jno (encX A S t (nI p) B Z P Q V L T))) := Or.inr ⟨p, t, B, Z, Q, h, hg, rfl⟩
theorem opR.g {D : mD} {Z : xZ} {o n : Nat} (h : opR D Z o n) : oG D o := ⟨h.1.2.1, fun k hk => ⟨_, (h.2.1 k hk).2.2.1.1, (h.2.1 k hk).2.2.1.2, (h.2.1 k hk).2.2.2.1⟩⟩
/-- the operands of an op -/
def orF (X : Nat × (Nat → Nat)) (o : Nat) (K : Nat × Nat × Nat) (D : mD) : mR := if isSignF X K 61 = true then (none, K, D) else mB (opdF X K D o) (opsL X o (X.1 + 1))
theorem sg_nm {X : Nat × (Nat → Nat)} {K : Nat × Nat × Nat} {c : Nat} (h : isSignF X K c = true) : isNameF X K = false := by
  have h1 : K.1 = 4 := by simp [isSignF] at h; exact h.1
  unfold isNameF
  rw [decide_eq_false (by omega)]
  rfl
theorem op4_or {X : Nat × (Nat → Nat)} {a o : Nat} {K : Nat × Nat × Nat} {D : mD} : op4 X a o K D = mB (orF X o K D) (op7 X a o) := by
  unfold op4 orF
  by_cases e : isSignF X K 61 = true
  · rw [if_neg (by rw [sg_nm e]; decide), if_pos e, mB_n]
  · rw [if_neg e]
    by_cases e2 : isNameF X K = true
    · rw [if_pos e2]
    · have h1 : opdF X K D o = (some K.2.1, K, D) := by unfold opdF; rw [if_neg (fun z => e2 z.1)]
      rw [if_neg e2, h1, mB_s, mB_s]
      unfold op7
      rw [if_neg e]
def mFR (r : mF) : mR := (r.1, r.2.1, r.2.2.1)
theorem digOK_st {X : Nat × (Nat → Nat)} {b a : Nat} (h : a < b) : digOK X b a = if X.2 a ≤ 49 then digOK X b (a + 1) else false := by
  conv => lhs; rw [digOK]
  rw [if_pos h]
theorem fixW_st {X : Nat × (Nat → Nat)} {wt : Nat → Int32} {b a j : Nat} (h : a < b) : fixW X wt b a j = fixW X (va_up wt j (if X.2 a = 48 then -1 else -2)) b (a + 1) (j + 1) := by
  conv => lhs; rw [fixW]
  rw [if_pos h]
/-- the fixed bits from letter a on -/
def fxF (X : Nat × (Nat → Nat)) (K : Nat × Nat × Nat) (D0 : mD) (n0 : Nat) (D : mD) (o n a : Nat) : mF := if digOK X K.2.2 a = true then (none, nextF X K.2.2, mdW D (fixW X (mWhat D) K.2.2 a (32 * o + n)), n + (K.2.2 - a)) else (some K.2.1, K, D0, n0)
theorem fxF_st {X : Nat × (Nat → Nat)} {K : Nat × Nat × Nat} {D0 D : mD} {n0 o n a : Nat} (h : a < K.2.2) (h9 : X.2 a ≤ 49) : fxF X K D0 n0 D o n a = fxF X K D0 n0 (mdW D (va_up (mWhat D) (32 * o + n) (if X.2 a = 48 then -1 else -2))) o (n + 1) (a + 1) := by
  unfold fxF
  rw [digOK_st h, if_pos h9, fixW_st h]
  have e1 : n + (K.2.2 - a) = n + 1 + (K.2.2 - (a + 1)) := by omega
  rw [e1]
  rfl
theorem fxF_x {X : Nat × (Nat → Nat)} {K : Nat × Nat × Nat} {D0 D : mD} {n0 o n a : Nat} (h : a < K.2.2) (h9 : ¬ X.2 a ≤ 49) : fxF X K D0 n0 D o n a = (some K.2.1, K, D0, n0) := by
  unfold fxF
  rw [digOK_st h, if_neg h9]
  rfl
theorem fxF_e {X : Nat × (Nat → Nat)} {K : Nat × Nat × Nat} {D0 D : mD} {n0 o n a : Nat} (h : ¬ a < K.2.2) : fxF X K D0 n0 D o n a = (none, nextF X K.2.2, D, n) := by
  unfold fxF
  rw [digOK, if_neg h, if_pos rfl, fixW, if_neg h, show n + (K.2.2 - a) = n by omega]
  rfl
theorem fldF_2 {X : Nat × (Nat → Nat)} {K : Nat × Nat × Nat} {D : mD} {o n : Nat} (h2 : K.1 = 2) (hle : K.2.1 ≤ K.2.2) (h : n + (K.2.2 - K.2.1) ≤ D.1) : fldF X K D o n = fxF X K D n D o n K.2.1 := by
  unfold fldF fxF
  rw [if_pos h2]
  split
  · rw [if_pos (by omega)]
  · rfl
theorem fldF_2x {X : Nat × (Nat → Nat)} {K : Nat × Nat × Nat} {D : mD} {o n : Nat} (h2 : K.1 = 2) (hle : K.2.1 ≤ K.2.2) (h : ¬ n + (K.2.2 - K.2.1) ≤ D.1) : fldF X K D o n = (some K.2.1, K, D, n) := by
  unfold fldF
  rw [if_pos h2]
  split
  · rw [if_neg (by omega)]
  · rfl
theorem dR.fr {D : mD} {B : xB} {Z : xZ} {m o : Nat} (h : dR D B Z m) (ho : D.2.2.1 = o) {f : Nat → Int32} {Z' : xZ} (hf : ∀ q, q < 32 * o → f q = mWhat D q) (h4 : ∀ i, i < o → Z'.1 i = Z.1 i) (h5 : ∀ q, q < 6 * o → Z'.2.1 q = Z.2.1 q ∧ Z'.2.2 q = Z.2.2 q) : dR (mdW D f) B Z' m := by
  subst ho
  exact ⟨h.1, h.2.1, h.2.2.1, h.2.2.2.1, opsFr (D := D) h.2.2.2.2 rfl (Nat.le_refl _) (fun _ _ => rfl) (fun _ _ => rfl) (fun _ _ => ⟨rfl, rfl, rfl⟩) hf h4 h5⟩
theorem oS.fix {D : mD} {B : xB} {Z : xZ} {Q : xN} {o n x : Nat} (h : oS D B Z Q o n) (hn : n < D.1) (hx : x = 0 ∨ x = 1) : oS (mdW D (va_up (mWhat D) (32 * o + n) (if x = 0 then -1 else -2))) B (zO Z o ((Z.1 o).1, n + 1, (Z.1 o).2.2.1 ||| (nI 1 <<< (nI (D.1 - 1 - n) &&& 31)), (Z.1 o).2.2.2 ||| (nI x <<< (nI (D.1 - 1 - n) &&& 31)))) Q o (n + 1) := by
  refine ⟨h.1, h.2.1.fix hn hx, h.2.2.1, h.2.2.2.fr h.1 (fun q hq => va_up_ne _ _ (by omega)) (fun i hi => ?_) (fun q _ => ⟨rfl, rfl⟩)⟩
  show va_up Z.1 o _ i = Z.1 i
  exact va_up_ne _ _ (by omega)
theorem oS.lay {D : mD} {B : xB} {Z : xZ} {Q : xN} {o n k h lo : Nat} (hS : oS D B Z Q o n) (hk : k < mOpds D o) (hl : lo ≤ h) (hh : h < (Z.2.1 (6 * o + k)).2.1) (hW : n + (h + 1 - lo) ≤ D.1) (hs : ∀ b, lo ≤ b → b ≤ h → Z.2.2 (6 * o + k) b = -1) : oS (mdW D (lwF (mWhat D) o k lo (h + 1 - lo) n)) B (zO (zL Z (6 * o + k) (layF (Z.2.2 (6 * o + k)) h lo (D.1 - 1 - n) (h + 1 - lo))) o ((Z.1 o).1, n + (h + 1 - lo), (Z.1 o).2.2)) Q o (n + (h + 1 - lo)) := by
  refine ⟨hS.1, hS.2.1.lay hk hl hh hW hs, hS.2.2.1, hS.2.2.2.fr hS.1 (fun q hq => ?_) (fun i hi => ?_) (fun q hq => ⟨rfl, ?_⟩)⟩
  · unfold lwF
    rw [if_neg (by omega)]
  · show va_up Z.1 o _ i = Z.1 i
    exact va_up_ne _ _ (by omega)
  · show va_up Z.2.2 (6 * o + k) _ q = Z.2.2 q
    exact va_up_ne _ _ (by omega)
theorem fld9_t {a : Nat} {K : Nat × Nat × Nat} {D : mD} {o n k h lo : Nat} (hl : lo ≤ h) (hW : n + (h + 1 - lo) ≤ D.1) (hs : ∀ b, lo ≤ b → b ≤ h → standsF (mWhat D) o n (32 * k + b) 0 = false) : fld9 a K D o n k h lo = (none, K, mdW D (lwF (mWhat D) o k lo (h + 1 - lo) n), n + (h + 1 - lo)) := by
  unfold fld9
  rw [if_pos (by omega)]
  exact fldL_ok _ D n (Nat.le_refl _) (fun b h1 h2 => hs b h1 (by omega))
theorem fld9_x {a : Nat} {K : Nat × Nat × Nat} {D : mD} {o n k h lo : Nat} (hl : lo ≤ h) (hs : n + (h + 1 - lo) ≤ D.1 → ∃ b, lo ≤ b ∧ b ≤ h ∧ standsF (mWhat D) o n (32 * k + b) 0 = true) : (fld9 a K D o n k h lo).1 = some a := by
  unfold fld9
  by_cases e : n + h - lo + 1 ≤ D.1
  · rw [if_pos e]
    obtain ⟨b, h1, h2, h3⟩ := hs (by omega)
    exact fldL_x _ D n (Nat.le_refl _) ⟨b, h1, by omega, h3⟩
  · rw [if_neg e]
theorem fld5_x {X : Nat × (Nat → Nat)} {a : Nat} {K : Nat × Nat × Nat} {D : mD} {o n k h : Nat} (hq : ¬ (K.1 = 2 ∧ K.2.2 - K.2.1 ≤ 4 ∧ 0 ≤ decF X K.2.2 K.2.1 0 ∧ decF X K.2.2 K.2.1 0 ≤ h)) : fld5 X a K D o n k h = (some K.2.1, K, D, n) := by
  unfold fld5
  split
  · rename_i h1
    rw [if_neg (fun z => hq ⟨h1.1, h1.2, Nat.zero_le _, z⟩)]
  · rfl
theorem fld3_x {X : Nat × (Nat → Nat)} {a : Nat} {K : Nat × Nat × Nat} {D : mD} {o n k : Nat} (hq : ¬ (K.1 = 2 ∧ K.2.2 - K.2.1 ≤ 4 ∧ 0 ≤ decF X K.2.2 K.2.1 0 ∧ decF X K.2.2 K.2.1 0 ≤ bitsN D (6 * o + k) - 1)) : fld3 X a K D o n k = (some K.2.1, K, D, n) := by
  unfold fld3
  split
  · rename_i h1
    rw [if_neg (fun z => hq ⟨h1.1, h1.2, Nat.zero_le _, z⟩)]
  · rfl
theorem sg_4 {X : Nat × (Nat → Nat)} {K : Nat × Nat × Nat} {c : Nat} (h : isSignF X K c = true) : K.1 = 4 := by simp [isSignF] at h; exact h.1
