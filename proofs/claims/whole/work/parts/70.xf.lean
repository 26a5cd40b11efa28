/-! THE CLASS: the words of its throws -/
theorem in_IA : Cond.initialized eIA ∈ jB := jB_in (List.mem_of_getElem? (i := 90) (by decide +kernel)) (by decide +kernel)
theorem in_IO : Cond.initialized eIO ∈ jB := jB_in (List.mem_of_getElem? (i := 89) (by decide +kernel)) (by decide +kernel)
theorem in_IS : Cond.initialized eIS ∈ jB := jB_in (List.mem_of_getElem? (i := 98) (by decide +kernel)) (by decide +kernel)
theorem kl_X9_54 : Cond.classLink RX9 54 eIA ∈ jB := jB_in (List.mem_of_getElem? (i := 536) (by decide +kernel)) (by decide +kernel)
theorem kl_X10_69 : Cond.classLink RX10 69 eIO ∈ jB := jB_in (List.mem_of_getElem? (i := 439) (by decide +kernel)) (by decide +kernel)
theorem kl_X10_173 : Cond.classLink RX10 173 eIS ∈ jB := jB_in (List.mem_of_getElem? (i := 789) (by decide +kernel)) (by decide +kernel)
theorem kl_X10_166 : Cond.classLink RX10 166 eIA ∈ jB := jB_in (List.mem_of_getElem? (i := 935) (by decide +kernel)) (by decide +kernel)
theorem ot_X9_54 : ∀ w ∈ Cond.classLink RX9 54 eIA :: Cond.initialized eIA :: vx_atS RX9 58 eIA eUp, vx_ot w = true := by decide +kernel
theorem ot_X10_69 : ∀ w ∈ Cond.classLink RX10 69 eIO :: Cond.initialized eIO :: vx_atS RX10 73 eIO eUp, vx_ot w = true := by decide +kernel
theorem ot_X10_173 : ∀ w ∈ Cond.classLink RX10 173 eIS :: Cond.initialized eIS :: vx_atS RX10 177 eIS eUp, vx_ot w = true := by decide +kernel
theorem ot_X10_166 : ∀ w ∈ Cond.classLink RX10 166 eIA :: Cond.initialized eIA :: vx_atS RX10 170 eIA eUp, vx_ot w = true := by decide +kernel
theorem at_X9_54 : ∀ w ∈ vx_atS RX9 58 eIA eUp, w ∈ lw_tbl ∧ (goodWord w || jNk w) = true := by decide +kernel
theorem at_X10_69 : ∀ w ∈ vx_atS RX10 73 eIO eUp, w ∈ lw_tbl ∧ (goodWord w || jNk w) = true := by decide +kernel
theorem at_X10_173 : ∀ w ∈ vx_atS RX10 177 eIS eUp, w ∈ lw_tbl ∧ (goodWord w || jNk w) = true := by decide +kernel
theorem at_X10_166 : ∀ w ∈ vx_atS RX10 170 eIA eUp, w ∈ lw_tbl ∧ (goodWord w || jNk w) = true := by decide +kernel
theorem jo2 {M M' : jMem} {v : Option Value} (h : M = M') : (.inl (v, M) : jO) = .inl (v, M') := by rw [h]
theorem lI_lt0 {x : Nat} (hx : x = 1000 ∨ x < 2 ^ 31) (h : lI x < 0) : x = 1000 := by
  rcases hx with hx | hx
  · exact hx
  · unfold lI at h
    split at h
    · assumption
    · exact absurd h (nI_pos hx)
/-- a hexadecimal number's letters -/
theorem tk_hex {X : Nat × (Nat → Nat)} (hX : ∀ k, X.2 k < 256) {K : Nat × Nat × Nat} (h : tkN X K) (h3 : K.1 = 3) : K.2.1 + 2 ≤ K.2.2 ∧ ∀ k, K.2.1 + 2 ≤ k → k < K.2.2 → hx (X.2 k) ≠ 1000 :=
  ⟨(h.hex hX h3).1, fun k a b => by have := (h.hex hX h3).2.2 k a b; omega⟩
theorem xfF_lt {oc : Nat → Nat} {N : xN} {f e j : Nat} : xfF oc N f e j = 1000 ∨ xfF oc N f e j < N.1 := by
  induction hm : N.1 - j generalizing j with
  | zero => left; rw [xfF, if_neg (by omega)]
  | succ d ih =>
    rw [xfF_st (by omega)]
    split
    · right; omega
    · exact ih (by omega)
