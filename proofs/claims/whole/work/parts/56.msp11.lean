theorem drop_c {L : List Nat} {k : Nat} (h : k < L.length) : L.drop k = L.getD k 0 :: L.drop (k + 1) := by
  rw [List.drop_eq_getElem_cons h, List.getD_eq_getElem?_getD, List.getElem?_eq_getElem h]
  rfl
theorem lN_ne0 {u : Nat} (h0 : 0 < u) (h : u < 2 ^ 63) : ¬ lN u = 0 := by
  rw [lN_0', pk_lEQ h (by decide)]
  omega
theorem div_l {a b : Nat} (ha : a < 2 ^ 62) (h0 : 0 < b) (hb : b < 2 ^ 62) : lN a / lN b = lN (a / b) := pk_lDiv (by omega) h0 (by omega)
theorem div_10 {a : Nat} (ha : a < 2 ^ 62) : lN a / 10 = lN (a / 10) := div_l (b := 10) ha (by decide) (by decide)
theorem rem_10 {a : Nat} (ha : a < 2 ^ 62) : lN a - lN a / 10 * 10 = lN (a % 10) := pk_lRem (b := 10) (by omega) (by decide) (by decide)
theorem mul_10 {a : Nat} : lN a * 10 = lN (a * 10) := lN_mul a 10
theorem cmp_9 {a : Nat} (ha : a < 2 ^ 62) : lg_cmp (lN a) 9 ≤ 0 ↔ a ≤ 9 := by
  rw [lg_cmp_le, show (9 : Int64) = lN 9 by decide, pk_lLE (by omega) (by decide)]
theorem cmp_0 {a : Nat} (ha : a < 2 ^ 62) : lg_cmp (lN a) 0 ≤ 0 ↔ a = 0 := by
  rw [lg_cmp_le, lN_0', pk_lLE (by omega) (by decide)]
  omega
theorem nuL_p {v : Int64} (h : ¬ v < 0) : nuL v = numL v.toInt.natAbs := if_neg h
theorem nuL_n {v : Int64} (h : v < 0) : nuL v = 45 :: numL v.toInt.natAbs := if_pos h
theorem nuL_len {v : Int64} (h : v.toInt.natAbs < 10 ^ 12) : (nuL v).length ≤ 13 := by
  have := numL_len h
  unfold nuL
  split
  · simp only [List.length_cons]; omega
  · omega
/-! how large an operand is -/
theorem tkF_or {wt : Nat → Int32} {W o : Nat} {w : Int32} {q k : Nat} {v : Int64} {m : Nat} (hv : ∃ a, a < 2 ^ 32 ∧ v = lN a) (hw : wOK wt W o) : ∃ a, a < 2 ^ 32 ∧ tkF wt W o w q k v = lN a := by
  induction hm : W - k generalizing k v with
  | zero => rw [tkF, if_neg (by omega)]; exact hv
  | succ d ih =>
    rw [tkF, if_pos (by omega)]
    refine ih ?_ (by omega)
    split
    · obtain ⟨a, ha, rfl⟩ := hv
      rcases hw k (by omega) with h | ⟨x, hx, ex⟩
      · rename_i h2; exact absurd h (Int32.not_lt.mpr h2.1)
      · rw [ex, nI_clamp (by omega)]
        have h1 : ∃ b, b < 2 ∧ (wb1 w W k) = nI b := by
          obtain ⟨j, h1, h2⟩ := pk_andE (w >>> (nI (W - 1 - k) &&& 31)) (m := nI 1) 1 (by decide)
          exact ⟨j, h1, h2⟩
        obtain ⟨b, hb, eb⟩ := h1
        have h31 : x % 32 ≤ 31 := by omega
        have hp : 2 ^ (x % 32) ≤ 2 ^ 31 := Nat.pow_le_pow_right (by decide) h31
        have hbp : b * 2 ^ (x % 32) < 2 ^ 32 := by
          have : b * 2 ^ (x % 32) ≤ 1 * 2 ^ 31 := Nat.mul_le_mul (by omega) hp
          omega
        rw [eb, nI_l (by omega), wb_shl b (by omega), wb_or (by omega) (by omega)]
        exact ⟨_, Nat.or_lt_two_pow ha hbp, rfl⟩
    · exact hv
theorem pw_int {b : Nat} (hb : b ≤ 32) : (pw b).toInt = (2 ^ b : Nat) ∧ 2 ^ b ≤ 2 ^ 32 := by
  have h : 2 ^ b ≤ 2 ^ 32 := Nat.pow_le_pow_right (by decide) hb
  exact ⟨pk_lT (by have : (2 : Nat) ^ 32 < 2 ^ 63 := by decide
                   omega), h⟩
theorem taken_abs {D : mD} {o q : Nat} {w : Int32} (hw : wOK (mWhat D) D.1 o) (hb : bitsN D (6 * o + q) ≤ 32) : (takenF D o w q).toInt.natAbs < 2 ^ 33 := by
  obtain ⟨a, ha, ea⟩ := tkF_or (w := w) (q := q) (k := 0) (v := 0) (m := 0) ⟨0, by decide, by decide⟩ hw
  have h1 : (lN a).toInt = a := pk_lT (by omega)
  obtain ⟨h2, h3⟩ := pw_int hb
  unfold takenF sgF
  rw [ea]
  generalize (2 : Nat) ^ bitsN D (6 * o + q) = p at h2 h3
  split
  · rw [Int64.toInt_sub, h1, h2, Int.bmod_eq_of_le (by omega) (by omega)]
    omega
  · rw [h1]
    omega
theorem jStr_len {i : Nat} {q : String × Nat × String × List Nat} (h : jStr[i]? = some q) : q.2.2.2.length < 100 := by
  have h1 : ∀ q ∈ jStr, q.2.2.2.length < 100 := by decide
  exact h1 q (List.mem_of_getElem? h)
theorem im4 (x : Int32) : x + Int32.ofInt (-4) = x - nI 4 := by rw [Int32.sub_eq_add_neg]; rfl
