/-! set(), op(): what they keep -/
/-- the outcome of a part that may add a set or an op -/
def sG (X : Nat × (Nat → Nat)) (K : Nat × Nat × Nat) (D : mD) (r : mR) : Prop := tkG X r.2.1 ∧ K.2.1 ≤ r.2.1.2.1 ∧ dG r.2.2 ∧ r.2.2.2.2.2.1 = D.2.2.2.1 ∧ r.2.2.1 = D.1
theorem sG.bad {X : Nat × (Nat → Nat)} {K : Nat × Nat × Nat} {D : mD} {p : Nat} (hG : tkG X K) (hD : dG D) : sG X K D (some p, K, D) := ⟨hG, Nat.le_refl _, hD, rfl, rfl⟩
theorem sG.of {X : Nat × (Nat → Nat)} {K K' : Nat × Nat × Nat} {D D' : mD} {r : mR} (h : sG X K' D' r) (hk : K.2.1 ≤ K'.2.1) (hd : D'.2.2.2.1 = D.2.2.2.1) (hw : D'.1 = D.1) : sG X K D r := ⟨h.1, Nat.le_trans hk h.2.1, h.2.2.1, h.2.2.2.1.trans hd, h.2.2.2.2.trans hw⟩
theorem set3_G {X : Nat × (Nat → Nat)} {K : Nat × Nat × Nat} {D : mD} (hG : tkG X K) (hD : dG D) : sG X K D (set3 X K D) := by
  unfold set3
  split
  · exact ⟨hG.nx, hG.fr, hD, rfl, rfl⟩
  · exact sG.bad hG hD
theorem set2_G {X : Nat × (Nat → Nat)} {K : Nat × Nat × Nat} {D : mD} (hG : tkG X K) (hD : dG D) (h12 : D.2.1 < 12) : sG X K D (set2 X K D) := by
  unfold set2
  split
  · split
    · rename_i h1 h2
      obtain ⟨⟨d1, d2, d3, d4, d5⟩, d6, d7⟩ := hD
      refine sG.of (D' := (D.1, D.2.1 + 1, D.2.2.1, D.2.2.2.1, D.2.2.2.2.1, va_up D.2.2.2.2.2.1 D.2.1 (decF X K.2.2 K.2.1 0), D.2.2.2.2.2.2)) (set3_G hG.nx ⟨⟨h12, d2, d3, d4, d5⟩, d6, fun s hs => ?_⟩) hG.fr rfl rfl
      show 1 ≤ va_up D.2.2.2.2.2.1 D.2.1 _ s ∧ va_up D.2.2.2.2.2.1 D.2.1 _ s ≤ 6
      by_cases e : s = D.2.1
      · subst e; rw [va_up_self]; exact h2
      · rw [va_up_ne _ _ e]
        have hs : s < D.2.1 + 1 := hs
        exact d7 s (by omega)
    · exact sG.bad hG hD
  · exact sG.bad hG hD
theorem set1_G {X : Nat × (Nat → Nat)} (hX : ∀ k, X.2 k < 256) {K : Nat × Nat × Nat} {D : mD} (hG : tkG X K) (hD : dG D) (h12 : D.2.1 < 12) : sG X K D (set1 X K D) := by
  unfold set1
  split
  · obtain ⟨⟨d1, d2, d3, d4, d5⟩, d6, d7⟩ := hD
    exact sG.of (D' := mdN D (keepF X K D.2.2.2.2.1 D.2.1 12)) (set2_G hG.nx ⟨⟨d1, d2, keepF_lt hX d3 _ _, d4, d5⟩, d6, d7⟩ h12) hG.fr rfl rfl
  · exact sG.bad hG hD
theorem setF_G {X : Nat × (Nat → Nat)} (hX : ∀ k, X.2 k < 256) {K : Nat × Nat × Nat} {D : mD} (hG : tkG X K) (hD : dG D) {r : mR} (hr : setF X K D = r) : sG X K D r ∧ (r.1 = none → K.1 ≠ 0 → K.2.1 < r.2.1.2.1) := by
  unfold setF at hr
  split at hr
  · subst hr; exact ⟨sG.bad hG hD, fun h => nomatch h⟩
  · rename_i h
    have h1 := set1_G hX hG.nx hD (by have := hD.1.1; omega)
    rw [hr] at h1
    exact ⟨h1.of hG.fr rfl rfl, fun _ h0 => Nat.lt_of_lt_of_le (hG.lt h0) h1.2.1⟩
theorem flsL_G {X : Nat × (Nat → Nat)} {o : Nat} : ∀ (f : Nat) (K : Nat × Nat × Nat) (D : mD) (n : Nat), tkG X K → n ≤ D.1 → fG X K D o n (flsL X o f K D n) := by
  intro f
  induction f with
  | zero => intro K D n hG hn; exact ⟨hG, Nat.le_refl _, ⟨mWhat D, rfl, fun _ _ => rfl⟩, fun _ => hn⟩
  | succ f ih =>
    intro K D n hG hn
    rw [flsL]
    have g := fldF_G (D := D) (o := o) (n := n) hG
    split
    · rename_i h1
      split
      · exact g.1
      · obtain ⟨fw, e1, e2⟩ := g.1.2.2.1
        have hn' : (fldF X K D o n).2.2.2 ≤ (fldF X K D o n).2.2.1.1 := by rw [e1]; exact g.1.2.2.2 h1
        have h2 := ih (fldF X K D o n).2.1 (fldF X K D o n).2.2.1 (fldF X K D o n).2.2.2 g.1.1 hn'
        obtain ⟨a1, a2, ⟨f2, a3, a4⟩, a5⟩ := h2
        refine ⟨a1, Nat.le_trans g.1.2.1 a2, ⟨f2, ?_, fun q hq => ?_⟩, fun h => ?_⟩
        · rw [a3, e1]; rfl
        · rw [a4 q hq, e1]; exact e2 q hq
        · exact Nat.le_trans (a5 h) (by rw [e1]; exact Nat.le_refl _)
    · exact g.1
theorem op9_G {X : Nat × (Nat → Nat)} {a : Nat} {K : Nat × Nat × Nat} {D : mD} {o n : Nat} (hG : tkG X K) (hD : dG D) (h60 : D.2.2.1 < 60) : sG X K D (op9 X a K D o n) := by
  unfold op9
  split
  · exact sG.bad hG hD
  · split
    · split
      · obtain ⟨⟨d1, d2, d3, d4, d5⟩, d6, d7⟩ := hD
        exact ⟨hG.nx, hG.fr, ⟨⟨d1, h60, d3, d4, d5⟩, d6, d7⟩, rfl, rfl⟩
      · exact sG.bad hG hD
    · exact sG.bad hG hD
theorem opFr.sG {o : Nat} {X : Nat × (Nat → Nat)} {K K' : Nat × Nat × Nat} {D D' : mD} {r : mR} (h : opFr o D D') (k : sG X K' D' r) (hk : K.2.1 ≤ K'.2.1) : sG X K D r := k.of hk h.1.2.2.2.1 h.1.1
theorem op7_G {X : Nat × (Nat → Nat)} {a : Nat} {K : Nat × Nat × Nat} {D : mD} {o : Nat} (hG : tkG X K) (hD : dG D) (hO : oG D o) (h60 : D.2.2.1 < 60) : sG X K D (op7 X a o K D) := by
  unfold op7
  split
  · have h := flsL_G (X := X) (o := o) (X.1 + 1) (nextF X K.2.2) D 0 hG.nx (Nat.zero_le _)
    have h2 := h.oG hD hO
    unfold op8
    split
    · exact (op9_G h.1 h2.1 (by rw [h2.2.2.1.1.2.2.1]; exact h60)).of (Nat.le_trans hG.fr h.2.1) h2.2.2.1.1.2.2.2.1 h2.2.2.2
    · exact ⟨h.1, Nat.le_trans hG.fr h.2.1, h2.1, h2.2.2.1.1.2.2.2.1, h2.2.2.2⟩
  · exact sG.bad hG hD
theorem opsL_G {X : Nat × (Nat → Nat)} (hX : ∀ k, X.2 k < 256) {o : Nat} : ∀ (f : Nat) (K : Nat × Nat × Nat) (D : mD), tkG X K → dG D → oG D o → rG X K D o (opsL X o f K D) := by
  intro f
  induction f with
  | zero => intro K D hG hD hO; exact ⟨hG, Nat.le_refl _, hD, opFr.rfl, hO.1, fun _ => hO⟩
  | succ f ih =>
    intro K D hG hD hO
    rw [opsL]
    split
    · have g := opdF_G hX hG.nx hD hO
      unfold mB
      split
      · rename_i h1
        exact (ih _ _ g.1.1 g.1.2.2.1 (g.1.2.2.2.2.2 h1)).of (Nat.le_trans hG.fr g.1.2.1) g.1.2.2.2.1
      · exact g.1.of hG.fr opFr.rfl
    · exact ⟨hG, Nat.le_refl _, hD, opFr.rfl, hO.1, fun _ => hO⟩
theorem op4_G {X : Nat × (Nat → Nat)} (hX : ∀ k, X.2 k < 256) {a : Nat} {K : Nat × Nat × Nat} {D : mD} {o : Nat} (hG : tkG X K) (hD : dG D) (hO : oG D o) (h60 : D.2.2.1 < 60) : sG X K D (op4 X a o K D) := by
  unfold op4
  split
  · have g := (opdF_G hX hG hD hO).1
    have h2 : rG X K D o (mB (opdF X K D o) (opsL X o (X.1 + 1))) := by
      unfold mB
      split
      · rename_i h1
        exact (opsL_G hX _ _ _ g.1 g.2.2.1 (g.2.2.2.2.2 h1)).of g.2.1 g.2.2.2.1
      · exact g
    generalize mB (opdF X K D o) (opsL X o (X.1 + 1)) = r at h2
    unfold mB
    split
    · rename_i h1
      exact h2.2.2.2.1.sG (op7_G h2.1 h2.2.2.1 (h2.2.2.2.2.2 h1) (by rw [h2.2.2.2.1.1.2.2.1]; exact h60)) h2.2.1
    · exact ⟨h2.1, h2.2.1, h2.2.2.1, h2.2.2.2.1.1.2.2.2.1, h2.2.2.2.1.1.1⟩
  · exact op7_G hG hD hO h60
theorem op1_G {X : Nat × (Nat → Nat)} (hX : ∀ k, X.2 k < 256) {K : Nat × Nat × Nat} {D : mD} (hG : tkG X K) (hD : dG D) (h60 : D.2.2.1 < 60) : sG X K D (op1 X K D) := by
  unfold op1
  split
  · obtain ⟨⟨d1, d2, d3, d4, d5⟩, d6, d7⟩ := hD
    have hz : mOpds (mdA (mdP D (keepF X K (mOpN D) D.2.2.1 12)) (va_up (mOpds D) D.2.2.1 0)) D.2.2.1 = 0 := va_up_self _ _ _
    exact sG.of (D' := mdA (mdP D (keepF X K (mOpN D) D.2.2.1 12)) (va_up (mOpds D) D.2.2.1 0)) (op4_G hX hG.nx ⟨⟨d1, d2, d3, keepF_lt hX d4 _ _, d5⟩, d6, d7⟩ ⟨by rw [hz]; decide, fun k hk => by rw [hz] at hk; exact absurd hk (by omega)⟩ h60) hG.fr rfl rfl
  · exact sG.bad hG hD
theorem opF_G {X : Nat × (Nat → Nat)} (hX : ∀ k, X.2 k < 256) {K : Nat × Nat × Nat} {D : mD} (hG : tkG X K) (hD : dG D) {r : mR} (hr : opF X K D = r) : sG X K D r ∧ (r.1 = none → K.1 ≠ 0 → K.2.1 < r.2.1.2.1) := by
  unfold opF at hr
  split at hr
  · subst hr; exact ⟨sG.bad hG hD, fun h => nomatch h⟩
  · rename_i h
    have h1 := op1_G hX hG.nx hD (by have := hD.1.2.1; omega)
    rw [hr] at h1
    exact ⟨h1.of hG.fr rfl rfl, fun _ h0 => Nat.lt_of_lt_of_le (hG.lt h0) h1.2.1⟩
/-! description() -/
def dsL (X : Nat × (Nat → Nat)) : Nat → Nat × Nat × Nat → mD → mR
  | 0, K, D => (none, K, D)
  | f + 1, K, D => if K.1 = 0 then (none, K, D) else if K.1 = 1 ∧ isW X K [115, 101, 116] = true then mB (setF X K D) (dsL X f) else if K.1 = 1 ∧ isW X K [111, 112] = true then mB (opF X K D) (dsL X f) else (some K.2.1, K, D)
def ds3 (X : Nat × (Nat → Nat)) (K : Nat × Nat × Nat) (D : mD) : mR := if isSignF X K 59 = true then dsL X (X.1 + 1) (nextF X K.2.2) D else (some K.2.1, K, D)
def ds2 (X : Nat × (Nat → Nat)) (K : Nat × Nat × Nat) (D : mD) : mR := if K.1 = 2 ∧ K.2.2 - K.2.1 ≤ 4 then if decF X K.2.2 K.2.1 0 = 8 ∨ decF X K.2.2 K.2.1 0 = 16 ∨ decF X K.2.2 K.2.1 0 = 24 ∨ decF X K.2.2 K.2.1 0 = 32 then ds3 X (nextF X K.2.2) (decF X K.2.2 K.2.1 0, D.2) else (some K.2.1, K, D) else (some K.2.1, K, D)
def dsF (X : Nat × (Nat → Nat)) (K : Nat × Nat × Nat) (D : mD) : mR := if isW X K [119, 105, 100, 116, 104] = true ∧ K.1 = 1 then ds2 X (nextF X K.2.2) D else (some K.2.1, K, D)
/-- the first letter from k on that no text has -/
def fbF (X : Nat × (Nat → Nat)) (k : Nat) : Option Nat := if k < X.1 then if okL (X.2 k) = true then fbF X (k + 1) else some k else none
termination_by X.1 - k
theorem wrF_pos {X : Nat × (Nat → Nat)} {k p : Nat} (hp : p < 2 ^ 31) : wrF X k (nI p) = nI p := by
  induction hm : X.1 - k generalizing k with
  | zero => rw [wrF, if_neg (by omega)]
  | succ d ih =>
    rw [wrF, if_pos (by omega)]
    have h : badW (nI p) k = nI p := by unfold badW; exact if_neg (Int32.not_lt.mpr (nI_pos' hp))
    rw [h]
    split <;> exact ih (by omega)
theorem wrF_fb {X : Nat × (Nat → Nat)} (hn : X.1 ≤ 4000) {k : Nat} : wrF X k (-1) = wrI (fbF X k) := by
  induction hm : X.1 - k generalizing k with
  | zero => rw [wrF, if_neg (by omega), fbF, if_neg (by omega)]; rfl
  | succ d ih =>
    rw [wrF, if_pos (show k < X.1 by omega), fbF, if_pos (show k < X.1 by omega)]
    split
    · exact ih (by omega)
    · rw [badW_1]; exact wrF_pos (by omega)
theorem fbF_lt {X : Nat × (Nat → Nat)} {k p : Nat} (h : fbF X k = some p) : p < X.1 := by
  induction hm : X.1 - k generalizing k with
  | zero => rw [fbF, if_neg (by omega)] at h; cases h
  | succ d ih =>
    rw [fbF, if_pos (by omega)] at h
    split at h
    · exact ih h (by omega)
    · cases h; omega
/-- describe's reading: from the text X and the description D -/
def dsR (X : Nat × (Nat → Nat)) (D : mD) : mR := if fbF X 0 = none then dsF X (nextF X 0) D else (fbF X 0, nextF X 0, D)
def dsE (r : mR) : mD := if r.1 = none then (r.2.2.1, r.2.2.2.1, r.2.2.2.2.1, 1, r.2.2.2.2.2.2) else (0, 0, 0, r.2.2.2.2.2.1, r.2.2.2.2.2.2)
theorem sG.le {X : Nat × (Nat → Nat)} {K : Nat × Nat × Nat} {D : mD} {r : mR} (h : sG X K D r) : r.2.1.2.1 ≤ X.1 := Nat.le_trans h.1.1.1 h.1.1.2.1
theorem wrI_neg {x : Option Nat} (h : wrI x < 0) (hx : ∀ p, x = some p → p < 2 ^ 31) : x = none := by
  cases x with
  | none => rfl
  | some p => exact absurd h (Int32.not_lt.mpr (nI_pos' (hx p rfl)))
theorem wrI_pos {x : Option Nat} (h : 0 ≤ wrI x) : x ≠ none := by
  intro z; rw [z] at h; exact absurd h (by decide)
