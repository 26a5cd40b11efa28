section JT
variable {p : Program} {l : Launch} {e : Env} {R : Room} {s : State} {m : MethodId} {args : Array Value} {below : List Frame} {meth : Method} {c : Code} {G : jG} {cc : ByteArray} {nL : Nat} {own : String} {ret : Option FieldType}
variable {mc ms pc kc ks : Nat} {out : jO} {lv : List (Option Value)} {st : List Value} {M : jMem}
theorem J_tabIn (C : jX0 p l R s m args meth c G cc nL own ret) {dflt lo hi : Int} {offs : Array Int} {len : Nat} {x : Int32} {off : Int} {tgt : Nat} (hd : decode cc pc = .ok (.tableswitch dflt lo hi offs, len)) (h1 : ¬ x.toInt < lo) (h2 : ¬ hi < x.toInt) (ho : offs[(x.toInt - lo).toNat]? = some off) (ht : (pc : Int) + off = (tgt : Int)) (k : J p l e R s m args below meth c G nL mc ms out tgt lv st M kc ks) : J p l e R s m args below meth c G nL mc ms out pc lv (.int x :: st) M kc ks := fun H locs ls hM hS hl => lv_tableIn C.1 C.2.1 hd h1 h2 ho ht (k H locs ls hM hS hl)
theorem J_tabOut (C : jX0 p l R s m args meth c G cc nL own ret) {dflt lo hi : Int} {offs : Array Int} {len : Nat} {x : Int32} {tgt : Nat} (hd : decode cc pc = .ok (.tableswitch dflt lo hi offs, len)) (h : x.toInt < lo ∨ hi < x.toInt) (ht : (pc : Int) + dflt = (tgt : Int)) (k : J p l e R s m args below meth c G nL mc ms out tgt lv st M kc ks) : J p l e R s m args below meth c G nL mc ms out pc lv (.int x :: st) M kc ks := fun H locs ls hM hS hl => lv_tableOut C.1 C.2.1 hd h ht (k H locs ls hM hS hl)
end JT
/-! feeding -/
/-- the octet of w from bit s on -/
def octN (w : Int32) (s : Nat) : Nat := w.toBitVec.toNat / 2 ^ s % 256
theorem octN_lt (w : Int32) (s : Nat) : octN w s < 256 := Nat.mod_lt _ (by decide)
theorem oct_sh : ∀ k, k < 20 → nI 24 - nI 8 * (nI k &&& nI 3) = nI (24 - 8 * (k % 4)) := by decide +kernel
theorem oct_and (x : Int32) : x &&& nI 255 = nI (x.toBitVec.toNat % 2 ^ 8) := pk_and x 8 (by decide)
theorem oct_s (w : Int32) {s : Nat} (hs : s < 32) : (w.toUInt32 >>> ((nI s).toUInt32 &&& Int32.toUInt32 31)).toInt32 &&& nI 255 = nI (octN w s) := by
  rw [oct_and, pk_ushr w (nI s) s (s_u s hs)]
  rfl
theorem oct_eq (w : Int32) {k : Nat} (hk : k < 20) : (w.toUInt32 >>> ((nI 24 - nI 8 * (nI k &&& nI 3)).toUInt32 &&& Int32.toUInt32 31)).toInt32 &&& nI 255 = nI (octN w (24 - 8 * (k % 4))) := by
  rw [oct_sh k hk, oct_s w (by omega)]
def fdV (a b c d e : Int32) (k : Nat) : Int32 := if k < 4 then a else if k < 8 then b else if k < 12 then c else if k < 16 then d else e
def fdF (oc : Nat → Nat) (n : Nat) (a b c d e : Int32) : Nat → Nat → Nat
  | 0 => oc
  | k + 1 => va_up (fdF oc n a b c d e k) (n + k) (octN (fdV a b c d e k) (24 - 8 * (k % 4)))
/-- an index that is asked for -/
theorem inX {v : Int32} {n : Nat} (hn : n < 2 ^ 30) : jin2 0 (nI n - nI 1).toInt64 v.toInt64 = (decide (0 ≤ v) && decide (v < nI n)) := by
  have h1 : (nI n - nI 1).toInt = (n : Int) - 1 := pk_sub_toInt hn (by decide)
  have h2 : (nI n).toInt = n := nI_toInt (by omega)
  unfold jin2
  rw [Bool.eq_iff_iff]
  simp only [Bool.and_eq_true, decide_eq_true_eq]
  rw [Int64.le_iff_toInt_le, Int64.le_iff_toInt_le, Int32.le_iff_toInt_le, Int32.lt_iff_toInt_lt, Int32.toInt_toInt64, Int32.toInt_toInt64, h1, h2]
  have h3 : (0 : Int64).toInt = 0 := by decide
  have h4 : (0 : Int32).toInt = 0 := by decide
  rw [h3, h4]
  omega
theorem inX_t {v : Int32} {n k : Nat} (hn : n < 2 ^ 30) (hv : v = nI k) (hk : k < n) : jin2 0 (nI n - nI 1).toInt64 v.toInt64 = true := by
  rw [inX hn, hv, decide_eq_true (nI_pos' (by omega)), decide_eq_true (nI_lt hk (by omega))]; rfl
theorem inX_f {v : Int32} {n : Nat} (hn : n < 2 ^ 30) (hv : v < 0 ∨ nI n ≤ v) : jin2 0 (nI n - nI 1).toInt64 v.toInt64 = false := by
  rw [inX hn]
  rcases hv with h | h
  · rw [decide_eq_false (Int32.not_le.mpr h)]; rfl
  · rw [decide_eq_false (Int32.not_lt.mpr h), Bool.and_false]
/-! encode -/
def eV (a b c d e f : Int64) (k : Nat) : Int64 := if k = 0 then a else if k = 1 then b else if k = 2 then c else if k = 3 then d else if k = 4 then e else f
def egF (gv vs : Nat → Int64) : Nat → Nat → Int64
  | 0 => gv
  | k + 1 => va_up (egF gv vs k) k (vs k)
/-- the first operand from k on, below m, that can not be its value; m: none -/
def efF (D : mD) (o : Nat) (vs : Nat → Int64) (m k : Nat) : Nat := if k < m then if fitF (mKind D (6 * o + k)) (bitsN D (6 * o + k)) (vs k) = true then efF D o vs m (k + 1) else k else m
termination_by m - k
/-! a line's letters -/
def apO (O : Nat × (Nat → Nat)) : List Nat → Nat × (Nat → Nat)
  | [] => O
  | x :: L => apO (O.1 + 1, va_up O.2 O.1 x) L
theorem apO_app (O : Nat × (Nat → Nat)) (L M : List Nat) : apO O (L ++ M) = apO (apO O L) M := by
  induction L generalizing O with
  | nil => rfl
  | cons x L ih => exact ih _
theorem apO_1 (O : Nat × (Nat → Nat)) (L : List Nat) : (apO O L).1 = O.1 + L.length := by
  induction L generalizing O with
  | nil => rfl
  | cons x L ih =>
    show (apO (O.1 + 1, va_up O.2 O.1 x) L).1 = _
    rw [ih]
    simp only [List.length_cons]
    omega
/-- the letters of name j from k on -/
def nmR (nm : Nat → Nat) (j k : Nat) : List Nat := if k < 12 ∧ nm (12 * j + k) ≠ 0 then nm (12 * j + k) :: nmR nm j (k + 1) else []
termination_by 12 - k
theorem nmR_len {nm : Nat → Nat} {j k : Nat} : (nmR nm j k).length ≤ 12 - k := by
  induction hm : 12 - k generalizing k with
  | zero => rw [nmR, if_neg (by omega)]; exact Nat.zero_le _
  | succ d ih =>
    rw [nmR]
    split
    · have := ih (k := k + 1) (by omega)
      simp only [List.length_cons]
      omega
    · exact Nat.zero_le _
/-- the largest power of ten, from u on, that n reaches -/
def byF (n u : Nat) : Nat := if 9 < n / u ∧ 0 < u then byF n (u * 10) else u
termination_by n - u
decreasing_by
  rename_i h
  have h1 : u * 10 ≤ n := by
    have := (Nat.le_div_iff_mul_le h.2).mp (show 10 ≤ n / u by omega)
    omega
  omega
theorem byF_ge {n u : Nat} (hu : 0 < u) : u ≤ byF n u := by
  induction hm : n - u using Nat.strongRecOn generalizing u with
  | _ d ih =>
    rw [byF]
    split
    · rename_i h
      have h1 : u * 10 ≤ n := by
        have := (Nat.le_div_iff_mul_le h.2).mp (show 10 ≤ n / u by omega)
        omega
      have := ih (n - u * 10) (by omega) (u := u * 10) (by omega) rfl
      omega
    · exact Nat.le_refl _
theorem byF_le {n u m : Nat} (hu : 0 < u) (h1 : u ≤ m) (h2 : n ≤ m) : byF n u ≤ m := by
  induction hm : n - u using Nat.strongRecOn generalizing u with
  | _ d ih =>
    rw [byF]
    split
    · rename_i h
      have h3 : u * 10 ≤ n := by
        have := (Nat.le_div_iff_mul_le h.2).mp (show 10 ≤ n / u by omega)
        omega
      exact ih (n - u * 10) (by omega) (u := u * 10) (by omega) (by omega) rfl
    · exact h1
def dgL (n u : Nat) : List Nat := if 0 < u then (48 + n / u % 10) :: dgL n (u / 10) else []
termination_by u
theorem dgL_len {n : Nat} : ∀ (m u : Nat), u < 10 ^ m → (dgL n u).length ≤ m := by
  intro m
  induction m with
  | zero =>
    intro u hu
    rw [dgL, if_neg (by simp at hu; omega)]
    exact Nat.zero_le _
  | succ m ih =>
    intro u hu
    rw [dgL]
    split
    · have h1 : u / 10 < 10 ^ m := by
        rw [Nat.div_lt_iff_lt_mul (by decide)]
        rw [Nat.pow_succ] at hu
        exact hu
      have := ih _ h1
      simp only [List.length_cons]
      omega
    · exact Nat.zero_le _
def numL (n : Nat) : List Nat := dgL n (byF n 1)
theorem numL_len {n : Nat} (h : n < 10 ^ 12) : (numL n).length ≤ 12 := by
  refine dgL_len 12 _ ?_
  have h1 := byF_le (n := n) (u := 1) (m := 10 ^ 12 - 1) (by decide) (by decide) (by omega)
  have h2 : (0 : Nat) < 10 ^ 12 := by decide
  omega
def nuL (v : Int64) : List Nat := if v < 0 then 45 :: numL v.toInt.natAbs else numL v.toInt.natAbs
/-- four bits of w from k on -/
def nibN (w : Int32) (k : Nat) : Nat := w.toBitVec.toNat / 2 ^ k % 16
def hdL (x : Nat) : Nat := if x < 10 then 48 + x else 97 + x - 10
def hxL (w : Int32) : Nat → List Nat
  | 0 => []
  | c + 1 => hdL (nibN w (4 * c)) :: hxL w c
theorem hxL_len (w : Int32) (c : Nat) : (hxL w c).length = c := by
  induction c with
  | zero => rfl
  | succ c ih => rw [hxL, List.length_cons, ih]
/-- operand k as text -/
def opT (D : mD) (o : Nat) (w : Int32) (k : Nat) : List Nat := (if k = 0 then [32] else [44, 32]) ++ ((if mKind D (6 * o + k) = 3 then nmR (mSetN D) (setN D (6 * o + k)) 0 else []) ++ nuL (takenF D o w k))
def opsT (D : mD) (o : Nat) (w : Int32) : Nat → Nat → List Nat
  | 0, _ => []
  | c + 1, k => opT D o w k ++ opsT D o w c (k + 1)
/-- text(w) -/
def textL (D : mD) (w : Int32) : List Nat := (if opOfF D w = 1000 then [119, 111, 114, 100, 32, 48, 120] ++ hxL w (D.1 / 4) else nmR (mOpN D) (opOfF D w) 0 ++ opsT D (opOfF D w) w (mOpds D (opOfF D w)) 0) ++ [59]
/-- eight letters from 8 k on -/
def l8F (O : Nat × (Nat → Nat)) (k j : Nat) (v : Int64) : Int64 := if j < 8 then l8F O k (j + 1) (v <<< ((nI 8).toInt64 &&& 63) ||| lN (if 8 * k + j < O.1 then O.2 (8 * k + j) else 0)) else v
termination_by 8 - j
theorem nib_s (w : Int32) {k : Nat} (hk : k ≤ 28) : (w >>> (nI k &&& 31)) &&& nI 15 = nI (nibN w k) := by
  refine b_ext fun i hi => ?_
  have h15 : ∀ i, i < 32 → bt (nI 15) i = decide (i < 4) := by decide +kernel
  rw [b_and, b_sshr k (by omega) w hi, h15 i hi]
  have h1 : bt (nI (nibN w k)) i = (nibN w k).testBit i := by
    unfold bt
    show (BitVec.ofNat 32 (nibN w k)).getLsbD i = _
    rw [BitVec.getLsbD_ofNat, decide_eq_true hi, Bool.true_and]
  rw [h1]
  unfold nibN
  rw [show (16 : Nat) = 2 ^ 4 by decide, Nat.testBit_mod_two_pow, Nat.testBit_div_two_pow]
  by_cases h4 : i < 4
  · rw [if_pos (by omega), decide_eq_true h4, Bool.and_true, Bool.true_and, Nat.add_comm]
    rfl
  · rw [decide_eq_false h4, Bool.and_false, Bool.false_and]
theorem J_ldcWS {p : Program} {l : Launch} {e : Env} {R : Room} {s : State} {m : MethodId} {args : Array Value} {below : List Frame} {meth : Method} {c : Code} {G : jG} {cc : ByteArray} {nL : Nat} {own : String} {ret : Option FieldType} {mc ms pc kc ks : Nat} {out : jO} {lv : List (Option Value)} {st : List Value} {M : jMem} (C : jX0 p l R s m args meth c G cc nL own ret) {i idx : Nat} {tx : String} {by9 : List Nat} (hd : decode cc pc = .ok (.ldc_w idx, 3)) (hs : jStr[i]? = some (own, idx, tx, by9)) (k' : J p l e R s m args below meth c G nL mc ms out (pc + 3) lv (.ref (2000 + i) :: st) M kc ks) : J p l e R s m args below meth c G nL mc ms out pc lv st M kc ks := by
  intro H locs ls hM hS hl
  have k2 : W p l e R s m args below meth c H locs kc ks (vx_MQ below (jQ G out) (jX G out) args s mc ms (jA G)) (F0 m (pc + 3) ls (.ref (jr G (2000 + i)) :: st.map (jv G))) := k' H locs ls hM hS hl
  rw [jr_s] at k2
  intro T hT X
  obtain ⟨t, a1, b1⟩ := k2 T hT X
  have hZ := (C.S.2.2.2.2.2.2.2 i _ hs).1
  exact ⟨t, X.ldcStringW C.1 C.2.2.2.1 (text := tx) (a := G.2.1 i) hZ.1 hZ.2 (g := F0 m pc ls (st.map (jv G))) rfl (by rw [C.2.1]; exact hd) t a1, b1⟩
theorem egF_at {gv vs : Nat → Int64} {n : Nat} (k : Nat) (h : k < n) : egF gv vs n k = vs k := by
  induction n with
  | zero => omega
  | succ n ih =>
    show va_up (egF gv vs n) n (vs n) k = _
    by_cases e : k = n
    · subst e; exact va_up_self _ _ _
    · rw [va_up_ne _ _ e]; exact ih (by omega)
theorem efF_le {D : mD} {o : Nat} {vs : Nat → Int64} {m k : Nat} (h : k ≤ m) : k ≤ efF D o vs m k ∧ efF D o vs m k ≤ m := by
  induction hm : m - k generalizing k with
  | zero => rw [efF, if_neg (by omega)]; omega
  | succ d ih =>
    rw [efF]
    split
    · split
      · have := ih (k := k + 1) (by omega) (by omega); omega
      · omega
    · omega
/-- encode's outcome: the error, the answer, what was given -/
def enR (D : mD) (gv vs : Nat → Int64) (o m k : Nat) : Nat × Int32 × (Nat → Int64) := if k < m then if fitF (mKind D (6 * o + k)) (bitsN D (6 * o + k)) (vs k) = true then enR D (va_up gv k (vs k)) vs o m (k + 1) else (3, nI 0, va_up gv k (vs k)) else (0, madeF D gv o, gv)
termination_by m - k
theorem natAbs_l {n : Nat} (h : n < 2 ^ 63) : (lN n).toInt.natAbs = n := by rw [pk_lT h]; rfl
theorem neg_l {n : Nat} (h : n < 2 ^ 62) : (-(lN n)).toInt = -(n : Int) := by
  have h1 : (lN n).toInt = n := pk_lT (by omega)
  rw [Int64.toInt_neg, h1]
  exact Int.bmod_eq_of_le (by omega) (by omega)
/-- a number of no great size: its sign and size -/
theorem l_split (v : Int64) (h : v.toInt.natAbs < 2 ^ 62) : (¬ v < 0 ∧ v = lN v.toInt.natAbs) ∨ (v < 0 ∧ -v = lN v.toInt.natAbs) := by
  by_cases e : v < 0
  · refine Or.inr ⟨e, Int64.toInt_inj.mp ?_⟩
    have h0 : v.toInt < 0 := by have := Int64.lt_iff_toInt_lt.mp e; exact this
    rw [pk_lT (by omega), Int64.toInt_neg, Int.bmod_eq_of_le (by omega) (by omega)]
    omega
  · refine Or.inl ⟨e, Int64.toInt_inj.mp ?_⟩
    have h0 : ¬ v.toInt < 0 := fun z => e (Int64.lt_iff_toInt_lt.mpr z)
    rw [pk_lT (by omega)]
    omega
