/-! CLASS AND REFERENCE: words -/
def lb (v : Int64) (i : Nat) : Bool := v.toBitVec.getLsbD i
theorem l_ext {x y : Int64} (h : ∀ i, i < 64 → lb x i = lb y i) : x = y := Int64.toBitVec_inj.mp (BitVec.eq_of_getLsbD_eq (fun i hi => h i hi))
theorem l_or (x y : Int64) (i : Nat) : lb (x ||| y) i = (lb x i || lb y i) := by unfold lb; rw [Int64.toBitVec_or, BitVec.getLsbD_or]
theorem l_and (x y : Int64) (i : Nat) : lb (x &&& y) i = (lb x i && lb y i) := by unfold lb; rw [Int64.toBitVec_and, BitVec.getLsbD_and]
theorem l_1 : ∀ i, i < 64 → lb 1 i = decide (i = 0) := by decide +kernel
theorem l_0 (i : Nat) : lb 0 i = false := BitVec.getLsbD_zero
theorem l_n (n i : Nat) : lb (lN n) i = (decide (i < 64) && n.testBit i) := by unfold lb; rw [wb_tb, BitVec.getLsbD_ofNat]
theorem b_bI (t : Bool) {i : Nat} (hi : i < 32) : bt (bI t) i = (t && decide (i = 0)) := by
  cases t
  · show bt 0 i = _
    rw [b_0]; rfl
  · show bt (nI 1) i = _
    rw [b_n1 i hi]; rfl
theorem b_and1 (x : Int32) : x &&& nI 1 = bI (bt x 0) := by
  refine b_ext (fun i hi => ?_)
  rw [b_and, b_n1 i hi, b_bI _ hi]
  by_cases e : i = 0
  · subst e; rfl
  · rw [decide_eq_false e, Bool.and_false, Bool.and_false]
theorem wb1_b {w : Int32} {W k : Nat} (h : W - 1 - k < 32) : wb1 w W k = bI (bt w (W - 1 - k)) := by
  unfold wb1
  rw [b_and1, b_sshr _ h _ (by decide), Nat.add_zero, if_pos h]
theorem bI_l (t : Bool) : (bI t).toInt64 = lN (if t = true then 1 else 0) := by cases t <;> decide
/-- one bit of a long -/
theorem l_sb (t : Bool) {b : Nat} (hb : b < 64) {c : Nat} (hc : c < 64) : lb ((bI t).toInt64 <<< ((nI b).toInt64 &&& 63)) c = (t && decide (c = b)) := by
  rw [bI_l, wb_shl _ hb, l_n, decide_eq_true hc, Bool.true_and]
  cases t
  · simp
  · simp only [if_true, Nat.one_mul, Bool.true_and]
    rw [Nat.testBit_two_pow]
    rw [Bool.eq_iff_iff]
    simp only [decide_eq_true_eq]
    omega
theorem spB_b {pl : Nat → Int32} {v : Int64} {b s : Nat} (hb : b < 64) (hs : s < 32) (hp : pl b = nI s) {q : Nat} (hq : q < 32) : bt (spB pl v b) q = (lb v b && decide (q = s)) := by
  obtain ⟨n, hn, e⟩ := wb_of v
  subst e
  unfold spB
  rw [hp, wb_bit hn hb, lN_i, l_n, decide_eq_true hb, Bool.true_and, Nat.testBit_eq_decide_div_mod_eq]
  have h2 : n / 2 ^ b % 2 = 0 ∨ n / 2 ^ b % 2 = 1 := by omega
  rcases h2 with h2 | h2
  · rw [h2, b_zero hs hq]; rfl
  · rw [h2, b_one hs hq]; simp
theorem spF_b {pl : Nat → Int32} {v : Int64} {n : Nat} (hn : n ≤ 32) (hp : ∀ b, b < n → ∃ s, s < 32 ∧ pl b = nI s) {q : Nat} (hq : q < 32) (b : Nat) (w : Int32) : bt (spF pl v n b w) q = true ↔ bt w q = true ∨ ∃ c, b ≤ c ∧ c < n ∧ pl c = nI q ∧ lb v c = true := by
  induction hm : n - b generalizing b w with
  | zero =>
    rw [spF, if_neg (by omega)]
    constructor
    · exact fun h => Or.inl h
    · rintro (h | ⟨c, h1, h2, _⟩)
      · exact h
      · omega
  | succ d ih =>
    obtain ⟨s, s1, s2⟩ := hp b (by omega)
    rw [spF, if_pos (by omega), ih (b + 1) _ (by omega), b_or, Bool.or_eq_true, spB_b (by omega) s1 s2 hq, Bool.and_eq_true, decide_eq_true_eq]
    constructor
    · rintro ((h | ⟨h1, h2⟩) | ⟨c, h1, h2, h3⟩)
      · exact Or.inl h
      · exact Or.inr ⟨b, Nat.le_refl _, by omega, by rw [s2, h2], h1⟩
      · exact Or.inr ⟨c, by omega, h2, h3⟩
    · rintro (h | ⟨c, h1, h2, h3, h4⟩)
      · exact Or.inl (Or.inl h)
      · by_cases e : c = b
        · subst e
          rw [s2, nI_eq (by omega) (by omega)] at h3
          exact Or.inl (Or.inr ⟨h4, h3.symm⟩)
        · exact Or.inr ⟨c, by omega, h2, h3, h4⟩
theorem l_sshr0 (v : Int64) {b : Nat} (hb : b < 64) : lb (v >>> ((nI b).toInt64 &&& 63)) 0 = lb v b := by
  unfold lb
  rw [wb_c b hb, Int64.toBitVec_shiftRight]
  show (v.toBitVec.sshiftRight ((lN b).toBitVec.smod 64).toNat).getLsbD 0 = _
  rw [wb_tb, wb_sm b hb, BitVec.toNat_ofNat, Nat.mod_eq_of_lt (by omega), BitVec.getLsbD_sshiftRight]
  simp
  intro h
  omega
theorem l_s1 (v : Int64) {b : Nat} (hb : b < 64) : ((v >>> ((nI b).toInt64 &&& 63)) &&& 1 = 0) ↔ lb v b = false := by
  constructor
  · intro h
    have := congrArg (fun z => lb z 0) h
    rw [l_and, l_sshr0 v hb, l_0, l_1 0 (by decide)] at this
    simpa using this
  · intro h
    refine l_ext (fun i hi => ?_)
    rw [l_and, l_1 i hi, l_0]
    by_cases e : i = 0
    · subst e; rw [l_sshr0 v hb, h]; rfl
    · rw [decide_eq_false e, Bool.and_false]
section OPM
variable {D : mD} {Z : xZ} {o : Nat}
theorem opR.own (h : opR D Z o D.1) (w : Int32) : owF (Z.1 o).2.2.1 (Z.1 o).2.2.2 w = allF (ownF (mWhat D) D.1 w o) D.1 0 := by
  obtain ⟨⟨a1, a2, a3, a4, a5⟩, b1, b2, b3, b4, b5⟩ := h
  rw [Bool.eq_iff_iff, allF_iff]
  unfold owF
  rw [decide_eq_true_eq]
  constructor
  · intro hw j _ hj
    have hq := b2 (D.1 - 1 - j) (by omega)
    have hq3 := b3 (D.1 - 1 - j) (by omega)
    rw [show D.1 - 1 - (D.1 - 1 - j) = j by omega] at hq hq3
    have hb := congrArg (fun z => bt z (D.1 - 1 - j)) hw
    rw [b_and] at hb
    unfold ownF
    rw [wb1_b (by omega), Bool.or_eq_true, decide_eq_true_eq, decide_eq_true_eq]
    rcases b4 j hj with z | z | ⟨k, b, c1, c2, c3, c4⟩
    · right
      have hm : bt (Z.1 o).2.2.1 (D.1 - 1 - j) = true := hq.mpr ⟨by omega, by omega, by rw [z]; decide⟩
      have hp : bt (Z.1 o).2.2.2 (D.1 - 1 - j) = false := by
        cases e : bt (Z.1 o).2.2.2 (D.1 - 1 - j) with
        | false => rfl
        | true => have := (hq3.mp e).2.2; rw [z] at this; exact absurd this (by decide)
      rw [hm, hp, Bool.and_true] at hb
      rw [hb, z]; decide
    · right
      have hm : bt (Z.1 o).2.2.1 (D.1 - 1 - j) = true := hq.mpr ⟨by omega, by omega, by rw [z]; decide⟩
      have hp : bt (Z.1 o).2.2.2 (D.1 - 1 - j) = true := hq3.mpr ⟨by omega, by omega, z⟩
      rw [hm, hp, Bool.and_true] at hb
      rw [hb, z]; decide
    · left
      have := (b1 k c1).2.2.1
      rw [c3]; exact nI_pos' (by omega)
  · intro hw
    refine b_ext (fun q hq => ?_)
    rw [b_and]
    have h2 := b2 q hq
    have h3 := b3 q hq
    cases em : bt (Z.1 o).2.2.1 q with
    | false =>
      rw [Bool.and_false]
      cases ep : bt (Z.1 o).2.2.2 q with
      | false => rfl
      | true =>
        have c := h3.mp ep
        have := h2.mpr ⟨c.1, c.2.1, by rw [c.2.2]; decide⟩
        rw [em] at this; cases this
    | true =>
      rw [Bool.and_true]
      have c := h2.mp em
      have hj := hw (D.1 - 1 - q) (Nat.zero_le _) (by omega)
      unfold ownF at hj
      rw [wb1_b (by omega), Bool.or_eq_true, decide_eq_true_eq, decide_eq_true_eq, show D.1 - 1 - (D.1 - 1 - q) = q by omega] at hj
      rcases hj with hj | hj
      · exact absurd c.2.2 (Int32.not_lt.mpr hj)
      · cases ew : bt w q with
        | false =>
          rw [ew] at hj
          cases ep : bt (Z.1 o).2.2.2 q with
          | false => rfl
          | true => have := (h3.mp ep).2.2; rw [hj] at this; exact absurd this (by decide)
        | true =>
          rw [ew] at hj
          exact (h3.mpr ⟨c.1, c.2.1, by rw [hj]; decide⟩).symm
theorem opR.neg {n : Nat} (h : opR D Z o n) {j : Nat} (hj : j < n) (hn : mWhat D (32 * o + j) < 0) : mWhat D (32 * o + j) = -1 ∨ mWhat D (32 * o + j) = -2 := by
  rcases h.2.2.2.2.1 j hj with z | z | ⟨k, b, c1, c2, c3, c4⟩
  · exact Or.inl z
  · exact Or.inr z
  · exfalso
    have h1 := h.1.2.1
    have h2 := (h.2.1 k c1).2.2.1
    rw [c3] at hn
    exact nI_pos (by omega) hn
theorem opR.shr {i : Nat} (h : opR D Z o D.1) (g : opR D Z i D.1) : shF (Z.1 i).2.2.1 (Z.1 i).2.2.2 (Z.1 o).2.2.1 (Z.1 o).2.2.2 = !anyF (apF (mWhat D) o i) D.1 0 := by
  have a5 := h.1.2.2.2.2
  rw [Bool.eq_iff_iff]
  unfold shF
  rw [decide_eq_true_eq, Bool.not_eq_true', ← Bool.not_eq_true, anyF_iff]
  constructor
  · rintro hz ⟨j, -, hj, ha⟩
    unfold apF at ha
    rw [Bool.and_eq_true, Bool.and_eq_true, decide_eq_true_eq, decide_eq_true_eq, decide_eq_true_eq] at ha
    obtain ⟨a1, a2, a3⟩ := ha
    have hb := congrArg (fun z => bt z (D.1 - 1 - j)) hz
    rw [b_and, b_and, b_xor, b_0] at hb
    have e1 := h.2.2.1 (D.1 - 1 - j) (by omega)
    have e2 := h.2.2.2.1 (D.1 - 1 - j) (by omega)
    have f1 := g.2.2.1 (D.1 - 1 - j) (by omega)
    have f2 := g.2.2.2.1 (D.1 - 1 - j) (by omega)
    rw [show D.1 - 1 - (D.1 - 1 - j) = j by omega] at e1 e2 f1 f2
    rw [e1.mpr ⟨by omega, hj, a1⟩, f1.mpr ⟨by omega, hj, a2⟩, Bool.and_true, Bool.and_true] at hb
    have n1 := h.neg hj a1
    have n2 := g.neg hj a2
    rcases n1 with n1 | n1 <;> rcases n2 with n2 | n2
    · exact a3 (by rw [n1, n2])
    · rw [f2.mpr ⟨by omega, hj, n2⟩] at hb
      cases ep : bt (Z.1 o).2.2.2 (D.1 - 1 - j) with
      | false => rw [ep] at hb; cases hb
      | true => have := (e2.mp ep).2.2; rw [n1] at this; exact absurd this (by decide)
    · rw [e2.mpr ⟨by omega, hj, n1⟩] at hb
      cases ep : bt (Z.1 i).2.2.2 (D.1 - 1 - j) with
      | false => rw [ep] at hb; cases hb
      | true => have := (f2.mp ep).2.2; rw [n2] at this; exact absurd this (by decide)
    · exact a3 (by rw [n1, n2])
  · intro hz
    refine b_ext (fun q hq => ?_)
    rw [b_and, b_and, b_xor, b_0]
    have e1 := h.2.2.1 q hq
    have e2 := h.2.2.2.1 q hq
    have f1 := g.2.2.1 q hq
    have f2 := g.2.2.2.1 q hq
    cases m1 : bt (Z.1 o).2.2.1 q with
    | false => rw [Bool.and_false]
    | true =>
      cases m2 : bt (Z.1 i).2.2.1 q with
      | false => rw [Bool.and_false]; rfl
      | true =>
        have c1 := e1.mp m1
        have c2 := f1.mp m2
        rw [Bool.and_true, Bool.and_true]
        have hne : mWhat D (32 * o + (D.1 - 1 - q)) = mWhat D (32 * i + (D.1 - 1 - q)) := by
          by_cases e : mWhat D (32 * o + (D.1 - 1 - q)) = mWhat D (32 * i + (D.1 - 1 - q))
          · exact e
          · exact absurd ⟨D.1 - 1 - q, Nat.zero_le _, by omega, by unfold apF; rw [decide_eq_true c1.2.2, decide_eq_true c2.2.2, decide_eq_true e]; rfl⟩ hz
        rw [hne] at e2
        have : bt (Z.1 o).2.2.2 q = bt (Z.1 i).2.2.2 q := by rw [Bool.eq_iff_iff, e2, f2]
        rw [this, Bool.xor_self]
/-- every bit of every operand stands -/
def opW (D : mD) (Z : xZ) (o : Nat) : Prop := ∀ k b, k < mOpds D o → b < (Z.2.1 (6 * o + k)).2.1 → Z.2.2 (6 * o + k) b ≠ -1
theorem opR.at (h : opR D Z o D.1) (hw : opW D Z o) {k b : Nat} (hk : k < mOpds D o) (hb : b < (Z.2.1 (6 * o + k)).2.1) : ∃ j, j < D.1 ∧ mWhat D (32 * o + j) = nI (32 * k + b) ∧ Z.2.2 (6 * o + k) b = nI (D.1 - 1 - j) := by
  rcases h.2.2.2.2.2 k b hk hb with z | z
  · exact absurd z (hw k b hk hb)
  · exact z
theorem opR.whole {n : Nat} (h : opR D Z o n) : (allF (fun k => swF (Z.2.2 (6 * o + k)) (Z.2.1 (6 * o + k)).2.1 0) (Z.1 o).1 0) = stAll D o n := by
  unfold stAll
  rw [Bool.eq_iff_iff, allF_iff, allF_iff, h.1.1]
  constructor
  · intro z k _ hk
    rw [allF_iff, (h.2.1 k hk).bits]
    intro b _ hb
    rw [h.st hk hb]
    exact swF_iff.mp (z k (Nat.zero_le _) hk) b (Nat.zero_le _) hb
  · intro z k _ hk
    rw [swF_iff]
    intro b _ hb
    have z1 := z k (Nat.zero_le _) hk
    rw [allF_iff, (h.2.1 k hk).bits] at z1
    exact (h.st hk hb).mp (z1 b (Nat.zero_le _) hb)
theorem opR.stW {n : Nat} (h : opR D Z o n) (hs : stAll D o n = true) : opW D Z o := by
  intro k b hk hb
  rw [← h.whole, allF_iff, h.1.1] at hs
  exact swF_iff.mp (hs k (Nat.zero_le _) hk) b (Nat.zero_le _) hb
theorem bitM_b {gv : Nat → Int64} {k b : Nat} (hk : k < 6) (hb : b < 32) : bitM (nI (32 * k + b)) gv = bI (lb (gv k) b) := by
  unfold bitM
  rw [if_neg (nI_pos (by omega)), nI_clamp (by omega), show (32 * k + b) / 32 = k by omega, show (32 * k + b) % 32 = b by omega]
  show _ &&& nI 1 = _
  rw [b_and1]
  congr 1
  show ((gv k) >>> ((nI b).toInt64 &&& 63)).toInt32.toBitVec.getLsbD 0 = (gv k).toBitVec.getLsbD b
  rw [Int64.toBitVec_toInt32, BitVec.getLsbD_signExtend, if_pos (by decide)]
  show (true && lb (gv k >>> ((nI b).toInt64 &&& 63)) 0) = lb (gv k) b
  rw [Bool.true_and, l_sshr0 _ (by omega)]
theorem mkF_b {wt : Nat → Int32} {gv : Nat → Int64} {W o q : Nat} (hW : W ≤ 32) (hq : q < 32) (k : Nat) (a : Int32) (hk : k ≤ W) (hb : ∀ j, j < W → ∃ t, bitM (wt (32 * o + j)) gv = bI t) : bt (mkF wt gv W o k a) q = if q < W - k then bt (bitM (wt (32 * o + (W - 1 - q))) gv) 0 else bt a (q - (W - k)) := by
  induction hm : W - k generalizing k a with
  | zero => rw [mkF, if_neg (by omega), if_neg (by omega)]; rfl
  | succ d ih =>
    rw [mkF, if_pos (by omega), ih (k + 1) _ (by omega) (by omega)]
    by_cases e : q < d
    · rw [if_pos e, if_pos (by omega)]
    · rw [if_neg e]
      obtain ⟨t, ht⟩ := hb k (by omega)
      rw [b_or, b_shl 1 (by decide) _ (by omega), ht, b_bI _ (by omega)]
      by_cases e2 : q = d
      · rw [if_pos (by omega), show W - 1 - q = k by omega, ht, b_bI _ (by decide), show q - d = 0 by omega]
        simp
      · rw [if_neg (by omega), decide_eq_true (show 1 ≤ q - d by omega), decide_eq_false (show ¬ q - d = 0 by omega), Bool.true_and, Bool.and_false, Bool.or_false, show q - d - 1 = q - (d + 1) by omega]
theorem opR.bm {n : Nat} (h : opR D Z o n) (gv : Nat → Int64) {j : Nat} (hj : j < n) : ∃ t, bitM (mWhat D (32 * o + j)) gv = bI t := by
  rcases h.2.2.2.2.1 j hj with z | z | ⟨k, b, c1, c2, c3, c4⟩
  · exact ⟨false, by rw [z]; rfl⟩
  · exact ⟨true, by rw [z]; rfl⟩
  · have h1 := h.1.2.1
    have h2 := (h.2.1 k c1).2.2.1
    exact ⟨_, by rw [c3]; exact bitM_b (by omega) (by omega)⟩
theorem opR.mb (h : opR D Z o D.1) (gv : Nat → Int64) {q : Nat} (hq : q < 32) : bt (madeF D gv o) q = true ↔ q < D.1 ∧ (mWhat D (32 * o + (D.1 - 1 - q)) = -2 ∨ ∃ k b, k < mOpds D o ∧ b < (Z.2.1 (6 * o + k)).2.1 ∧ mWhat D (32 * o + (D.1 - 1 - q)) = nI (32 * k + b) ∧ lb (gv k) b = true) := by
  have a5 := h.1.2.2.2.2
  unfold madeF
  rw [mkF_b a5 hq 0 _ (Nat.zero_le _) (fun j hj => h.bm gv hj), Nat.sub_zero]
  by_cases e : q < D.1
  · rw [if_pos e]
    have h6 := h.1.2.1
    rcases h.2.2.2.2.1 (D.1 - 1 - q) (by omega) with z | z | ⟨k, b, c1, c2, c3, c4⟩
    · rw [z, show bitM (-1) gv = bI false from rfl]
      constructor
      · intro z2; exact absurd z2 (by decide)
      · rintro ⟨-, z2 | ⟨k, b, d1, d2, d3, -⟩⟩
        · exact absurd z2 (by decide)
        · have h2 := (h.2.1 k d1).2.2.1
          exact absurd d3.symm (nI_m1 (by omega))
    · rw [z, show bitM (-2) gv = bI true from rfl]
      exact ⟨fun _ => ⟨e, Or.inl rfl⟩, fun _ => by decide⟩
    · have h2 := (h.2.1 k c1).2.2.1
      rw [c3, bitM_b (by omega) (by omega), b_bI _ (by decide)]
      constructor
      · intro z2
        exact ⟨e, Or.inr ⟨k, b, c1, c2, rfl, by simpa using z2⟩⟩
      · rintro ⟨-, z2 | ⟨k', b', d1, d2, d3, d4⟩⟩
        · exact absurd z2 (nI_m2 (by omega))
        · have h3 := (h.2.1 k' d1).2.2.1
          rw [nI_eq (by omega) (by omega)] at d3
          have e1 : k' = k := by omega
          subst e1
          have e2 : b' = b := by omega
          subst e2
          simpa using d4
  · rw [if_neg e, b_n0]
    constructor
    · intro z; cases z
    · rintro ⟨z, -⟩; exact absurd z e
/-- the word of an op, operand by operand -/
def cwF (Z : xZ) (o : Nat) (gv : Nat → Int64) : Nat → Int32
  | 0 => (Z.1 o).2.2.2
  | k + 1 => cwF Z o gv k ||| spF (Z.2.2 (6 * o + k)) (gv k) (Z.2.1 (6 * o + k)).2.1 0 (nI 0)
theorem opR.pp (h : opR D Z o D.1) (hw : opW D Z o) {k : Nat} (hk : k < mOpds D o) : ∀ b, b < (Z.2.1 (6 * o + k)).2.1 → ∃ s, s < 32 ∧ Z.2.2 (6 * o + k) b = nI s := by
  intro b hb
  obtain ⟨j, h1, h2, h3⟩ := h.at hw hk hb
  have a5 := h.1.2.2.2.2
  exact ⟨D.1 - 1 - j, by omega, h3⟩
theorem opR.cb (h : opR D Z o D.1) (hw : opW D Z o) (gv : Nat → Int64) {q : Nat} (hq : q < 32) : ∀ m, m ≤ mOpds D o → (bt (cwF Z o gv m) q = true ↔ bt (Z.1 o).2.2.2 q = true ∨ ∃ k c, k < m ∧ c < (Z.2.1 (6 * o + k)).2.1 ∧ Z.2.2 (6 * o + k) c = nI q ∧ lb (gv k) c = true) := by
  intro m
  induction m with
  | zero =>
    intro _
    rw [cwF]
    constructor
    · exact fun z => Or.inl z
    · rintro (z | ⟨k, c, z, _⟩)
      · exact z
      · omega
  | succ m ih =>
    intro hm
    have h2 := (h.2.1 m (by omega)).2.2.1
    rw [cwF, b_or, Bool.or_eq_true, ih (by omega), spF_b (by omega) (h.pp hw (by omega)) hq, b_n0]
    constructor
    · rintro ((z | ⟨k, c, d1, d2⟩) | (z | ⟨c, -, d1, d2⟩))
      · exact Or.inl z
      · exact Or.inr ⟨k, c, by omega, d2⟩
      · cases z
      · exact Or.inr ⟨m, c, by omega, d1, d2⟩
    · rintro (z | ⟨k, c, d1, d2, d3⟩)
      · exact Or.inl (Or.inl z)
      · by_cases e : k = m
        · subst e; exact Or.inr (Or.inr ⟨c, Nat.zero_le _, d2, d3⟩)
        · exact Or.inl (Or.inr ⟨k, c, by omega, d2, d3⟩)
theorem opR.made (h : opR D Z o D.1) (hw : opW D Z o) (gv : Nat → Int64) : cwF Z o gv (mOpds D o) = madeF D gv o := by
  have a5 := h.1.2.2.2.2
  refine b_ext (fun q hq => ?_)
  rw [Bool.eq_iff_iff, h.cb hw gv hq _ (Nat.le_refl _), h.mb gv hq, h.2.2.2.1 q hq]
  constructor
  · rintro (⟨z1, -, z3⟩ | ⟨k, c, d1, d2, d3, d4⟩)
    · exact ⟨z1, Or.inl z3⟩
    · obtain ⟨j, e1, e2, e3⟩ := h.at hw d1 d2
      rw [e3, nI_eq (by omega) (by omega)] at d3
      refine ⟨by omega, Or.inr ⟨k, c, d1, d2, ?_, d4⟩⟩
      rw [show D.1 - 1 - q = j by omega]; exact e2
  · rintro ⟨z1, z2 | ⟨k, b, d1, d2, d3, d4⟩⟩
    · exact Or.inl ⟨z1, by omega, z2⟩
    · refine Or.inr ⟨k, b, d1, d2, ?_, d4⟩
      rw [h.pl d1 d2 (by omega) d3]
      congr 1; omega
theorem opR.mcong (h : opR D Z o D.1) {gv gv' : Nat → Int64} (hg : ∀ k b, k < mOpds D o → b < (Z.2.1 (6 * o + k)).2.1 → lb (gv k) b = lb (gv' k) b) : madeF D gv o = madeF D gv' o := by
  refine b_ext (fun q hq => ?_)
  rw [Bool.eq_iff_iff, h.mb gv hq, h.mb gv' hq]
  constructor
  · rintro ⟨z1, z2 | ⟨k, b, d1, d2, d3, d4⟩⟩
    · exact ⟨z1, Or.inl z2⟩
    · exact ⟨z1, Or.inr ⟨k, b, d1, d2, d3, by rw [← hg k b d1 d2]; exact d4⟩⟩
  · rintro ⟨z1, z2 | ⟨k, b, d1, d2, d3, d4⟩⟩
    · exact ⟨z1, Or.inl z2⟩
    · exact ⟨z1, Or.inr ⟨k, b, d1, d2, d3, by rw [hg k b d1 d2]; exact d4⟩⟩
/-! taken and gather -/
theorem tkF_b {wt : Nat → Int32} {W o q c : Nat} {w : Int32} (hW : W ≤ 32) (hc : c < 64) (k : Nat) (v : Int64) : lb (tkF wt W o w q k v) c = true ↔ lb v c = true ∨ ∃ j, k ≤ j ∧ j < W ∧ 0 ≤ wt (32 * o + j) ∧ (wt (32 * o + j)).toNatClampNeg / 32 = q ∧ (wt (32 * o + j)).toNatClampNeg % 32 = c ∧ bt w (W - 1 - j) = true := by
  induction hm : W - k generalizing k v with
  | zero =>
    rw [tkF, if_neg (by omega)]
    constructor
    · exact fun z => Or.inl z
    · rintro (z | ⟨j, h1, h2, _⟩)
      · exact z
      · omega
  | succ d ih =>
    rw [tkF, if_pos (by omega), ih (k + 1) _ (by omega)]
    by_cases e : 0 ≤ wt (32 * o + k) ∧ (wt (32 * o + k)).toNatClampNeg / 32 = q
    · rw [if_pos e, l_or, Bool.or_eq_true, wb1_b (by omega), l_sb _ (by omega) hc, Bool.and_eq_true, decide_eq_true_eq]
      constructor
      · rintro ((z | ⟨z1, z2⟩) | ⟨j, d1, d2, d3⟩)
        · exact Or.inl z
        · exact Or.inr ⟨k, Nat.le_refl _, by omega, e.1, e.2, z2.symm, z1⟩
        · exact Or.inr ⟨j, by omega, d2, d3⟩
      · rintro (z | ⟨j, d1, d2, d3, d4, d5, d6⟩)
        · exact Or.inl (Or.inl z)
        · by_cases e2 : j = k
          · subst e2; exact Or.inl (Or.inr ⟨d6, d5.symm⟩)
          · exact Or.inr ⟨j, by omega, d2, d3, d4, d5, d6⟩
    · rw [if_neg e]
      constructor
      · rintro (z | ⟨j, d1, d2, d3⟩)
        · exact Or.inl z
        · exact Or.inr ⟨j, by omega, d2, d3⟩
      · rintro (z | ⟨j, d1, d2, d3, d4, d5⟩)
        · exact Or.inl z
        · by_cases e2 : j = k
          · subst e2; exact absurd ⟨d3, d4⟩ e
          · exact Or.inr ⟨j, by omega, d2, d3, d4, d5⟩
theorem gaF_b {pl : Nat → Int32} {n c : Nat} {w : Int32} (hn : n ≤ 32) (hc : c < 64) (hp : ∀ b, b < n → ∃ s, s < 32 ∧ pl b = nI s) (b : Nat) (v : Int64) : lb (gaF pl w n b v) c = true ↔ lb v c = true ∨ (b ≤ c ∧ c < n ∧ ∃ s, s < 32 ∧ pl c = nI s ∧ bt w s = true) := by
  induction hm : n - b generalizing b v with
  | zero =>
    rw [gaF, if_neg (by omega)]
    constructor
    · exact fun z => Or.inl z
    · rintro (z | ⟨h1, h2, _⟩)
      · exact z
      · omega
  | succ d ih =>
    obtain ⟨s, s1, s2⟩ := hp b (by omega)
    rw [gaF, if_pos (by omega), ih (b + 1) _ (by omega), l_or, Bool.or_eq_true]
    have hg : lb (gaB pl w b) c = (bt w s && decide (c = b)) := by
      unfold gaB
      rw [s2, b_and1, b_ushr s s1, Nat.add_zero]
      exact l_sb _ (by omega) hc
    rw [hg, Bool.and_eq_true, decide_eq_true_eq]
    constructor
    · rintro ((z | ⟨z1, z2⟩) | ⟨h1, h2, h3⟩)
      · exact Or.inl z
      · subst z2; exact Or.inr ⟨Nat.le_refl _, by omega, s, s1, s2, z1⟩
      · exact Or.inr ⟨by omega, h2, h3⟩
    · rintro (z | ⟨h1, h2, s', h3, h4, h5⟩)
      · exact Or.inl (Or.inl z)
      · by_cases e : c = b
        · subst e
          rw [s2, nI_eq (by omega) (by omega)] at h4
          subst h4
          exact Or.inl (Or.inr ⟨h5, rfl⟩)
        · exact Or.inr ⟨by omega, h2, s', h3, h4, h5⟩
theorem opR.ga (h : opR D Z o D.1) (hw : opW D Z o) (w : Int32) {k : Nat} (hk : k < mOpds D o) : tkF (mWhat D) D.1 o w k 0 0 = gaF (Z.2.2 (6 * o + k)) w (Z.2.1 (6 * o + k)).2.1 0 0 := by
  have a5 := h.1.2.2.2.2
  have h6 := h.1.2.1
  have h2 := (h.2.1 k hk).2.2.1
  refine l_ext (fun c hc => ?_)
  rw [Bool.eq_iff_iff, tkF_b a5 hc, gaF_b h2.2 hc (h.pp hw hk), l_0]
  constructor
  · rintro (z | ⟨j, -, d1, d2, d3, d4, d5⟩)
    · cases z
    · rcases h.2.2.2.2.1 j d1 with z | z | ⟨k', b, c1, c2, c3, c4⟩
      · rw [z] at d2; exact absurd d2 (by decide)
      · rw [z] at d2; exact absurd d2 (by decide)
      · have h3 := (h.2.1 k' c1).2.2.1
        rw [c3, nI_clamp (by omega)] at d3 d4
        have e1 : k' = k := by omega
        subst e1
        have e2 : b = c := by omega
        subst e2
        exact Or.inr ⟨Nat.zero_le _, c2, D.1 - 1 - j, by omega, c4, d5⟩
  · rintro (z | ⟨-, d1, s, d2, d3, d4⟩)
    · cases z
    · obtain ⟨j, e1, e2, e3⟩ := h.at hw hk d1
      rw [e3, nI_eq (by omega) (by omega)] at d3
      refine Or.inr ⟨j, Nat.zero_le _, e1, ?_, ?_, ?_, by rw [d3]; exact d4⟩
      · rw [e2]; exact nI_pos' (by omega)
      · rw [e2, nI_clamp (by omega)]; omega
      · rw [e2, nI_clamp (by omega)]; omega
theorem ga_lt {pl : Nat → Int32} {n : Nat} {w : Int32} (hn : n ≤ 32) (hp : ∀ b, b < n → ∃ s, s < 32 ∧ pl b = nI s) : ∃ g, g < 2 ^ n ∧ gaF pl w n 0 0 = lN g := by
  obtain ⟨g, h1, h2⟩ := wb_of (gaF pl w n 0 0)
  refine ⟨g, ?_, h2⟩
  refine Nat.lt_pow_two_of_testBit _ (fun i hi => ?_)
  cases e : g.testBit i with
  | false => rfl
  | true =>
    exfalso
    by_cases h64 : i < 64
    · have h3 : lb (gaF pl w n 0 0) i = true := by rw [h2, l_n, decide_eq_true h64, e]; rfl
      rw [gaF_b hn h64 hp, l_0] at h3
      rcases h3 with z | z
      · cases z
      · omega
    · have := Nat.testBit_lt_two_pow (x := g) (i := i) (Nat.lt_of_lt_of_le h1 (Nat.pow_le_pow_right (by decide) (by omega)))
      rw [e] at this; cases this
theorem opR.tak (h : opR D Z o D.1) (hw : opW D Z o) (w : Int32) {k : Nat} (hk : k < mOpds D o) : takenF D o w k = gthF (mKind D (6 * o + k)) (Z.2.1 (6 * o + k)).2.1 (Z.2.2 (6 * o + k)) w := by
  obtain ⟨-, -, h2, -, -⟩ := h.2.1 k hk
  unfold takenF
  rw [h.ga hw w hk, (h.2.1 k hk).bits]
  obtain ⟨g, g1, g2⟩ := ga_lt (w := w) h2.2 (h.pp hw hk)
  unfold gthF
  rw [g2]
  generalize (Z.2.1 (6 * o + k)).2.1 = n at h2 g1
  have p32 : 2 ^ n ≤ 2 ^ 32 := Nat.pow_le_pow_right (by decide) h2.2
  have pn : 2 ^ n = 2 * 2 ^ (n - 1) := by
    have := Nat.pow_succ (n := 2) (m := n - 1)
    rw [show (n - 1).succ = n by omega] at this
    omega
  have hpos : 0 < 2 ^ (n - 1) := Nat.pow_pos (by decide)
  have hlt : ∀ a, a < 2 ^ 33 → ∀ b, b < 2 ^ 33 → (lN a < lN b ↔ a < b) := fun a ha b hb => pk_lLT (by omega) (by omega)
  have hsub : ∀ m, 0 < m → lN m - 1 = lN (m - 1) := fun m hm => lN_sub (b := 1) hm
  unfold sgF moF pw
  by_cases e : mKind D (6 * o + k) = 1 ∨ mKind D (6 * o + k) = 2
  · rw [if_pos e, hsub _ hpos]
    have hsg : (¬ ((lN g >>> ((nI (n - 1)).toInt64 &&& 63)) &&& 1 = 0)) ↔ 2 ^ (n - 1) ≤ g := by
      rw [l_s1 _ (by omega), l_n, decide_eq_true (show n - 1 < 64 by omega), Bool.true_and, Bool.not_eq_false, Nat.testBit_eq_decide_div_mod_eq, decide_eq_true_eq]
      constructor
      · intro z
        by_cases e3 : g < 2 ^ (n - 1)
        · rw [Nat.div_eq_of_lt e3] at z; omega
        · omega
      · intro z
        rw [Nat.div_eq_of_lt_le (k := 1) (by omega) (by omega)]
    by_cases e2 : 2 ^ (n - 1) ≤ g
    · rw [if_pos ⟨e, hsg.mpr e2⟩, if_pos ((hlt _ (by omega) _ (by omega)).mpr (by omega))]
    · rw [if_neg (fun z => e2 (hsg.mp z.2)), if_neg (fun z => by have := (hlt _ (by omega) _ (by omega)).mp z; omega)]
  · rw [if_neg e, if_neg (fun z => e z.1), hsub _ (by omega), if_neg (fun z => by have := (hlt _ (by omega) _ (by omega)).mp z; omega)]
end OPM
