/-! CLASS AND REFERENCE: text -/
theorem nib_u (w : Int32) {k : Nat} (hk : k ≤ 28) : (w.toUInt32 >>> ((nI k).toUInt32 &&& Int32.toUInt32 31)).toInt32 &&& nI 15 = nI (nibN w k) := by
  rw [← nib_s w hk]
  refine b_ext fun i hi => ?_
  have h15 : ∀ i, i < 32 → bt (nI 15) i = decide (i < 4) := by decide +kernel
  rw [b_and, b_and, b_ushr k (by omega), b_sshr k (by omega) w hi, h15 i hi]
  by_cases h4 : i < 4
  · rw [if_pos (by omega)]
  · rw [decide_eq_false h4, Bool.and_false, Bool.and_false]
/-- the letters of name i from k on -/
def xnL (N : xN) (i k : Nat) : List Nat := if k < N.2.2 i then N.2.1 (12 * i + k) :: xnL N i (k + 1) else []
termination_by N.2.2 i - k
theorem xnL_st {N : xN} {i k : Nat} (h : k < N.2.2 i) : xnL N i k = N.2.1 (12 * i + k) :: xnL N i (k + 1) := by
  conv => lhs; rw [xnL]
  rw [if_pos h]
theorem xnL_e {N : xN} {i k : Nat} (h : ¬ k < N.2.2 i) : xnL N i k = [] := by rw [xnL, if_neg h]
theorem xnL_len {N : xN} {i k : Nat} : (xnL N i k).length = N.2.2 i - k := by
  induction hm : N.2.2 i - k generalizing k with
  | zero => rw [xnL_e (by omega)]; rfl
  | succ d ih => rw [xnL_st (by omega), List.length_cons, ih (by omega)]
theorem nmR_xn {N : xN} {nm : Nat → Nat} {i : Nat} (h : nR1 N nm i) (k : Nat) (hk : k ≤ N.2.2 i) : nmR nm i k = xnL N i k := by
  obtain ⟨⟨h1, h2⟩, h3, h4, -, -⟩ := h
  induction hm : N.2.2 i - k generalizing k with
  | zero =>
    rw [xnL_e (by omega), nmR]
    by_cases e : k < 12
    · rw [if_neg (fun z => z.2 (by rw [h3 k e, if_neg (by omega)]))]
    · rw [if_neg (fun z => e z.1)]
  | succ d ih =>
    have e1 : nmR nm i k = nm (12 * i + k) :: nmR nm i (k + 1) := by
      conv => lhs; rw [nmR]
      rw [if_pos ⟨by omega, by rw [h3 k (by omega), if_pos (by omega)]; exact (nmF_0 (h4 k (by omega))).1⟩]
    rw [e1, xnL_st (by omega), ih (k + 1) (by omega) (by omega), h3 k (by omega), if_pos (by omega)]
theorem cmp_10 {a : Nat} (ha : a < 2 ^ 62) : lg_cmp (lN a) 10 < 0 ↔ a < 10 := by
  rw [lg_cmp_lt, show (10 : Int64) = lN 10 by decide, pk_lLT (by omega) (by decide)]
theorem absl {v : Int64} (h : v.toInt.natAbs < 2 ^ 62) : (if 0 < v then v else -v) = lN v.toInt.natAbs := by
  rcases l_split v h with z | z
  · by_cases e : 0 < v
    · rw [if_pos e]; exact z.2
    · rw [if_neg e]
      have e0 : v = 0 := by
        have h1 := Int64.not_lt.mp e
        have h2 := Int64.not_lt.mp z.1
        exact Int64.le_antisymm h1 h2
      rw [e0]; decide
  · rw [if_neg (fun y => Int64.lt_irrefl (Int64.lt_trans y z.1))]; exact z.2
theorem numL_le {n m : Nat} (hm : 1 ≤ m) (h : n < 10 ^ m) : (numL n).length ≤ m := by
  refine dgL_len m _ ?_
  have hp : 1 ≤ 10 ^ m - 1 := by
    have := Nat.pow_le_pow_right (n := 10) (by decide) hm
    omega
  have h1 := byF_le (n := n) (u := 1) (m := 10 ^ m - 1) (by decide) hp (by omega)
  omega
theorem nuL_le {v : Int64} (h : v.toInt.natAbs < 10 ^ 10) : (nuL v).length ≤ 11 := by
  have := numL_le (m := 10) (by decide) h
  unfold nuL
  split
  · simp only [List.length_cons]; omega
  · omega
/-- how large an operand can be -/
theorem gth_abs {kd n : Nat} {pl : Nat → Int32} {w : Int32} (hn : 1 ≤ n ∧ n ≤ 32) (hp : ∀ b, b < n → ∃ s, s < 32 ∧ pl b = nI s) : (gthF kd n pl w).toInt.natAbs < 2 ^ n ∧ (kd = 3 → ¬ gthF kd n pl w < 0) := by
  obtain ⟨g, g1, g2⟩ := ga_lt (w := w) hn.2 hp
  have p32 : 2 ^ n ≤ 2 ^ 32 := Nat.pow_le_pow_right (by decide) hn.2
  have pn : 2 ^ n = 2 * 2 ^ (n - 1) := by
    have := Nat.pow_succ (n := 2) (m := n - 1)
    rw [show (n - 1).succ = n by omega] at this
    omega
  have hpos : 0 < 2 ^ (n - 1) := Nat.pow_pos (by decide)
  have hlt : ∀ a, a < 2 ^ 33 → ∀ b, b < 2 ^ 33 → (lN a < lN b ↔ a < b) := fun a ha b hb => pk_lLT (by omega) (by omega)
  have hsub : ∀ m, 0 < m → lN m - 1 = lN (m - 1) := fun m hm => lN_sub (b := 1) hm
  have hgt : (lN g).toInt = g := pk_lT (by omega)
  unfold gthF
  rw [g2]
  unfold moF
  by_cases e : kd = 1 ∨ kd = 2
  · rw [if_pos e]
    unfold pw
    rw [hsub _ hpos]
    by_cases e2 : 2 ^ (n - 1) ≤ g
    · rw [if_pos ((hlt _ (by omega) _ (by omega)).mpr (by omega))]
      have hpw : (lN (2 ^ n)).toInt = ((2 ^ n : Nat) : Int) := pk_lT (by omega)
      refine ⟨?_, fun z => by omega⟩
      rw [Int64.toInt_sub, hgt, hpw, Int.bmod_eq_of_le (by omega) (by omega)]
      omega
    · rw [if_neg (fun z => by have := (hlt _ (by omega) _ (by omega)).mp z; omega)]
      refine ⟨by rw [hgt]; omega, fun z => by omega⟩
  · rw [if_neg e]
    unfold pw
    rw [hsub _ (by omega), if_neg (fun z => by have := (hlt _ (by omega) _ (by omega)).mp z; omega)]
    refine ⟨by rw [hgt]; omega, fun _ => ?_⟩
    rw [lN_0', hlt _ (by omega) _ (by decide)]
    omega
theorem nuL_r {v : Int64} (h : v.toInt.natAbs < 2 ^ 6) (h0 : ¬ v < 0) : (nuL v).length ≤ 2 := by
  rw [nuL_p h0]
  exact numL_le (by decide) (by have : (2 : Nat) ^ 6 < 10 ^ 2 := by decide
                                omega)
theorem opT_len {D : mD} {B : xB} {Z : xZ} {o k : Nat} {w : Int32} (hd : dR D B Z D.2.2.1) (hb : nB B.2.2.1 12) (ho : o < D.2.2.1) (hk : k < mOpds D o) : (opT D o w k).length ≤ if k = 0 then 13 else 14 := by
  obtain ⟨hR, hW⟩ := hd.2.2.2.2 o ho
  have hpd := hR.2.1 k hk
  have hga := gth_abs (kd := mKind D (6 * o + k)) (w := w) hpd.2.2.1 (hR.pp hW hk)
  rw [← hR.tak hW w hk] at hga
  have h32 : 2 ^ (Z.2.1 (6 * o + k)).2.1 ≤ 2 ^ 32 := Nat.pow_le_pow_right (by decide) hpd.2.2.1.2
  have h10 : (2 : Nat) ^ 32 < 10 ^ 10 := by decide
  have hnl := nuL_le (v := takenF D o w k) (by omega)
  have hpre : (if k = 0 then [32] else [44, 32] : List Nat).length = if k = 0 then 1 else 2 := by split <;> rfl
  have hrest : ((if mKind D (6 * o + k) = 3 then nmR (mSetN D) (setN D (6 * o + k)) 0 else []) ++ nuL (takenF D o w k)).length ≤ 12 := by
    by_cases h3 : mKind D (6 * o + k) = 3
    · rw [if_pos h3]
      obtain ⟨s9, hs1, hs2, hs3, hs4⟩ := hpd.2.2.2.2 h3
      have hb6 := (hd.2.2.1 s9 hs1).2.2
      have h64 : 2 ^ (Z.2.1 (6 * o + k)).2.1 ≤ 2 ^ 6 := Nat.pow_le_pow_right (by decide) (by omega)
      have hnr := nuL_r (v := takenF D o w k) (by omega) (hga.2 h3)
      have hx10 := hd.1.2.2.2.2 s9 hs1
      have hq : s9 < 2 ^ 31 ∨ 2 ^ 31 ≤ s9 := by omega
      have hnx := nmR_xn (hd.2.1.2 s9 hs1) 0 (Nat.zero_le _)
      have hxl := xnL_len (N := B.2.2.1) (i := s9) (k := 0)
      rw [List.length_append]
      by_cases e : setN D (6 * o + k) = s9
      · rw [e, hnx, hxl]; omega
      · exfalso
        apply e
        unfold setN
        rw [hs2]
        exact nI_clamp (by have := hd.2.1.1; have := hb.1; omega)
    · rw [if_neg h3, List.nil_append]; omega
  unfold opT
  rw [List.length_append, hpre]
  split <;> omega
theorem opsT_le {D : mD} {B : xB} {Z : xZ} {o : Nat} {w : Int32} (hd : dR D B Z D.2.2.1) (hb : nB B.2.2.1 12) (ho : o < D.2.2.1) : ∀ cn k, k + cn = mOpds D o → (opsT D o w cn k).length + (if k = 0 ∧ 0 < cn then 1 else 0) ≤ 14 * cn := by
  intro cn
  induction cn with
  | zero => intro k _; rw [if_neg (by omega)]; exact Nat.le_refl _
  | succ cn ih =>
    intro k hk
    have h1 := opT_len (w := w) hd hb ho (show k < mOpds D o by omega)
    have h2 := ih (k + 1) (by omega)
    rw [if_neg (by omega)] at h2
    rw [opsT, List.length_append]
    by_cases e : k = 0
    · rw [if_pos e] at h1
      rw [if_pos ⟨e, by omega⟩]
      omega
    · rw [if_neg e] at h1
      rw [if_neg (fun z => e z.1)]
      omega
theorem opsT_len {D : mD} {B : xB} {Z : xZ} {o : Nat} {w : Int32} (hd : dR D B Z D.2.2.1) (hb : nB B.2.2.1 12) (ho : o < D.2.2.1) : (opsT D o w (mOpds D o) 0).length ≤ 83 := by
  have h1 := opsT_le (w := w) hd hb ho (mOpds D o) 0 (Nat.zero_add _)
  have h6 := (hd.2.2.2.2 o ho).1.1.2.1
  by_cases e : 0 < mOpds D o
  · rw [if_pos ⟨rfl, e⟩] at h1; omega
  · have : mOpds D o = 0 := by omega
    rw [this]; exact Nat.zero_le _
