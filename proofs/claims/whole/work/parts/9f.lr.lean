/-! LAW: the class is the reference -/
theorem i_idx {v : Int32} {n : Nat} (hn : n < 2 ^ 31) : (v < 0 ∨ nI n ≤ v) ∨ ∃ k, k < n ∧ v = nI k := by
  by_cases h : v < 0
  · exact Or.inl (Or.inl h)
  · have h0 : 0 ≤ v.toInt := by have := Int32.not_lt.mp h; exact Int32.le_iff_toInt_le.mp this
    have hv : v = nI v.toInt.toNat := by
      apply Int32.toInt_inj.mp
      rw [nI_toInt (by have := Int32.toInt_lt v; omega)]
      omega
    by_cases h2 : v.toInt.toNat < n
    · exact Or.inr ⟨_, h2, hv⟩
    · refine Or.inl (Or.inr ?_)
      rw [hv]
      exact (nI_leI hn (by have := Int32.toInt_lt v; omega)).mpr (by omega)
theorem i_idxle {v : Int32} {n : Nat} (hn : n < 2 ^ 30) : (v < 0 ∨ nI n < v) ∨ ∃ k, k ≤ n ∧ v = nI k := by
  rcases i_idx (v := v) (n := n + 1) (by omega) with (h | h) | ⟨k, hk, e⟩
  · exact Or.inl (Or.inl h)
  · refine Or.inl (Or.inr ?_)
    have h1 : nI n < nI (n + 1) := (nI_ltI (by omega) (by omega)).mpr (by omega)
    exact Int32.lt_of_lt_of_le h1 h
  · exact Or.inr ⟨k, by omega, e⟩
theorem fdF_lt {oc : Nat → Nat} {n : Nat} {a b c d e : Int32} (h : ∀ k, oc k < 256) : ∀ m k, fdF oc n a b c d e m k < 256 := by
  intro m
  induction m with
  | zero => exact h
  | succ m ih =>
    intro k
    show va_up (fdF oc n a b c d e m) (n + m) _ k < 256
    by_cases hk : k = n + m
    · subst hk; rw [va_up_self]; exact octN_lt _ _
    · rw [va_up_ne _ _ hk]; exact ih k
theorem cpF_lt9 {f g : Nat → Nat} {n : Nat} (hf : ∀ k, f k < 256) (hg : ∀ k, g k < 256) : ∀ k, cpF f g n k < 256 := by
  intro k
  unfold cpF
  split
  · exact hf k
  · exact hg k
theorem apO_get {xs : List Nat} : ∀ (n : Nat) (f g : Nat → Nat), (∀ q, q < n → f q = g q) → ∀ q, q < n + xs.length → (apO (n, f) xs).2 q = (apO (n, g) xs).2 q := by
  induction xs with
  | nil => intro n f g h q hq; exact h q hq
  | cons x xs ih =>
    intro n f g h q hq
    refine ih (n + 1) _ _ (fun q hq2 => ?_) q (by rw [List.length_cons] at hq; omega)
    show va_up f n x q = va_up g n x q
    by_cases e : q = n
    · subst e; rw [va_up_self, va_up_self]
    · rw [va_up_ne _ _ e, va_up_ne _ _ e]; exact h q (by omega)
theorem apO_lt {xs : List Nat} : ∀ (n : Nat) (f : Nat → Nat), (∀ q, f q < 256) → (∀ x ∈ xs, x < 256) → ∀ q, (apO (n, f) xs).2 q < 256 := by
  induction xs with
  | nil => intro n f h _ q; exact h q
  | cons x xs ih =>
    intro n f h hx q
    refine ih (n + 1) _ (fun q => ?_) (fun y hy => hx y (List.mem_cons_of_mem _ hy)) q
    show va_up f n x q < 256
    by_cases e : q = n
    · subst e; rw [va_up_self]; exact hx x List.mem_cons_self
    · rw [va_up_ne _ _ e]; exact h q
theorem l8F_e {O : Nat × (Nat → Nat)} {k j : Nat} {v : Int64} (h : ¬ j < 8) : l8F O k j v = v := by rw [l8F, if_neg h]
theorem l8F_s {O : Nat × (Nat → Nat)} {k j : Nat} {v : Int64} (h : j < 8) : l8F O k j v = l8F O k (j + 1) (v <<< ((nI 8).toInt64 &&& 63) ||| lN (if 8 * k + j < O.1 then O.2 (8 * k + j) else 0)) := by rw [l8F, if_pos h]
theorem l8F_cong {L O : Nat × (Nat → Nat)} {k : Nat} (h1 : L.1 = O.1) (h2 : ∀ q, q < L.1 → L.2 q = O.2 q) : ∀ j v, l8F L k j v = l8F O k j v := by
  intro j
  induction hm : 8 - j generalizing j with
  | zero => intro v; rw [l8F_e (by omega), l8F_e (by omega)]
  | succ m ih =>
    intro v
    have hj : j < 8 := by omega
    rw [l8F_s hj, l8F_s hj, ih (j + 1) (by omega), h1]
    by_cases e : 8 * k + j < O.1
    · rw [if_pos e, if_pos e, h2 _ (by omega)]
    · rw [if_neg e, if_neg e]
theorem nmR_lt {nm : Nat → Nat} {j : Nat} (h : ∀ k, nm k < 256) : ∀ k, ∀ x ∈ nmR nm j k, x < 256 := by
  intro k
  induction hm : 12 - k generalizing k with
  | zero => intro x hx; rw [nmR, if_neg (by omega)] at hx; exact absurd hx List.not_mem_nil
  | succ m ih =>
    intro x hx
    rw [nmR] at hx
    split at hx
    · rcases List.mem_cons.mp hx with e | e
      · rw [e]; exact h _
      · exact ih (k + 1) (by omega) x e
    · exact absurd hx List.not_mem_nil
theorem dgL_lt {n : Nat} : ∀ u, ∀ x ∈ dgL n u, x < 256 := by
  intro u
  induction u using Nat.strongRecOn with
  | ind u ih =>
    intro x hx
    rw [dgL] at hx
    split at hx
    · rcases List.mem_cons.mp hx with e | e
      · rw [e]; omega
      · exact ih (u / 10) (by omega) x e
    · exact absurd hx List.not_mem_nil
theorem nuL_lt {v : Int64} : ∀ x ∈ nuL v, x < 256 := by
  intro x hx
  unfold nuL numL at hx
  split at hx
  · rcases List.mem_cons.mp hx with e | e
    · omega
    · exact dgL_lt _ x e
  · exact dgL_lt _ x hx
theorem hxL_lt {w : Int32} : ∀ c, ∀ x ∈ hxL w c, x < 256 := by
  intro c
  induction c with
  | zero => intro x hx; exact absurd hx List.not_mem_nil
  | succ c ih =>
    intro x hx
    rcases List.mem_cons.mp hx with e | e
    · rw [e]; have h16 : nibN w (4 * c) < 16 := Nat.mod_lt _ (by decide)
      unfold hdL
      split <;> omega
    · exact ih x e
theorem opsT_lt {D : mD} {o : Nat} {w : Int32} (h : ∀ k, mSetN D k < 256) : ∀ c k, ∀ x ∈ opsT D o w c k, x < 256 := by
  intro c
  induction c with
  | zero => intro k x hx; exact absurd hx List.not_mem_nil
  | succ c ih =>
    intro k x hx
    rcases List.mem_append.mp hx with e | e
    · unfold opT at e
      rcases List.mem_append.mp e with e | e
      · split at e <;> simp at e <;> omega
      · rcases List.mem_append.mp e with e | e
        · split at e
          · exact nmR_lt h _ x e
          · exact absurd e List.not_mem_nil
        · exact nuL_lt x e
    · exact ih (k + 1) x e
theorem textL_lt {D : mD} {w : Int32} (hd : dOK D) : ∀ x ∈ textL D w, x < 256 := by
  intro x hx
  unfold textL at hx
  rcases List.mem_append.mp hx with e | e
  · split at e
    · rcases List.mem_append.mp e with e | e
      · simp at e; omega
      · exact hxL_lt _ x e
    · rcases List.mem_append.mp e with e | e
      · exact nmR_lt hd.2.2.2.1 _ x e
      · exact opsT_lt hd.2.2.1 _ _ x e
  · simp at e; omega
theorem textL_len {D : mD} {B : xB} {Z : xZ} {w : Int32} (hd : dR D B Z D.2.2.1) (hb : nB B.2.2.1 12) : (textL D w).length ≤ 96 := by
  unfold textL
  rw [List.length_append]
  split
  · rw [List.length_append, hxL_len]
    have := hd.1.2.1
    simp only [List.length_cons, List.length_nil]
    omega
  · rename_i ho
    have hl : opOfF D w < D.2.2.1 := by
      rcases ooF_lt (wt := mWhat D) (W := D.1) (w := w) (m := D.2.2.1) (o := 0) with h | h
      · exact absurd h ho
      · exact h
    rw [List.length_append]
    have h1 := nmR_len (nm := mOpN D) (j := opOfF D w) (k := 0)
    have h2 := opsT_len (w := w) hd hb hl
    simp only [List.length_cons, List.length_nil]
    omega
theorem enR_ok {D : mD} {o m : Nat} {vs : Nat → Int64} : ∀ (k : Nat) (gv : Nat → Int64), efF D o vs m k = m → ∃ g, enR D gv vs o m k = (0, madeF D g o, g) ∧ ∀ j, j < m → (k ≤ j → g j = vs j) ∧ (j < k → g j = gv j) := by
  intro k
  induction hm : m - k generalizing k with
  | zero =>
    intro gv _
    refine ⟨gv, by rw [enR, if_neg (by omega)], fun j hj => ⟨fun h => absurd h (by omega), fun _ => rfl⟩⟩
  | succ n ih =>
    intro gv h
    rw [efF_st (by omega)] at h
    split at h
    · rename_i hf
      obtain ⟨g, h1, h2⟩ := ih (k + 1) (by omega) (va_up gv k (vs k)) h
      refine ⟨g, ?_, fun j hj => ⟨fun hkj => ?_, fun hjk => ?_⟩⟩
      · rw [enR, if_pos (by omega), if_pos hf]; exact h1
      · by_cases e : j = k
        · subst e
          rw [(h2 j hj).2 (by omega), va_up_self]
        · exact (h2 j hj).1 (by omega)
      · rw [(h2 j hj).2 (by omega), va_up_ne _ _ (by omega)]
    · omega
theorem enR_no {D : mD} {o m : Nat} {vs : Nat → Int64} : ∀ (k : Nat) (gv : Nat → Int64), efF D o vs m k < m → ∃ g, enR D gv vs o m k = (3, nI 0, g) := by
  intro k
  induction hm : m - k generalizing k with
  | zero =>
    intro gv h
    by_cases hk : k < m
    · omega
    · rw [efF_e hk] at h; omega
  | succ n ih =>
    intro gv h
    rw [efF_st (by omega)] at h
    split at h
    · rename_i hf
      obtain ⟨g, h1⟩ := ih (k + 1) (by omega) (va_up gv k (vs k)) h
      exact ⟨g, by rw [enR, if_pos (by omega), if_pos hf]; exact h1⟩
    · rename_i hf
      exact ⟨_, by rw [enR, if_pos (by omega), if_neg hf]⟩
def T0 (f : Nat → Int64) (n : Option Nat) : jMem := (fun q => if q = 1021 then some (lA 1 f) else none, n)
def LR (A : xA) (B : xB) (Z : xZ) (P : xC) (Q : xN) (L : xL) (F X : Nat × (Nat → Nat)) (D : mD) (Pm : mP) (O : Nat × (Nat → Nat)) : Prop :=
  (A.1 = F.1 ∧ A.2.1 = F.2 ∧ F.1 ≤ 4000 ∧ (∀ k, F.2 k < 256) ∧ (∀ k, X.2 k < 256)) ∧
  (B.2.1 = D.2.2.2.1 ∧ B.2.1 ≤ 1 ∧ (B.2.1 = 1 → dR D B Z D.2.2.1) ∧ nB B.2.2.1 12 ∧ nB B.2.2.2.2 60 ∧ nB Q 6 ∧ dG D) ∧
  (P.2.1 ≤ 1 ∧ nB P.2.2.2.1 60 ∧ (P.2.1 = 1 → P.1 = Pm.1 ∧ P.2.2.2.1.1 = Pm.2.1 ∧ ∀ w, w < Pm.1 → P.2.2.1 w = Pm.2.2.2.2.2.1 w) ∧ (P.2.1 = 0 → Pm.1 = 0 ∧ Pm.2.1 = 0) ∧ Pm.1 ≤ 1000 ∧ ∀ k, Pm.2.2.2.1 k < 256) ∧
  (L.1 = O.1 ∧ L.1 ≤ 96 ∧ (∀ q, q < L.1 → L.2 q = O.2 q) ∧ ∀ k, O.2 k < 256)
/-- the law's memory between two calls -/
def lE (er : Nat) (f : Nat → Int64) (n : Option Nat) (M : jMem) : Prop := ∃ (A : xA) (S : xS) (t : xT) (wr : Int32) (B : xB) (Z : xZ) (P : xC) (Q : xN) (V : xV) (L : xL) (F X : Nat × (Nat → Nat)) (K : Nat × Nat × Nat) (D : mD) (Pm : mP) (gv : Nat → Int64) (O : Nat × (Nat → Nat)), LR A B Z P Q L F X D Pm O ∧ M = encX A S t wr B Z P Q V L (encM er F X K wr D Pm gv O (T0 f n))
section LE
variable {l : Launch} {G : jG} {A : xA} {S : xS} {t : xT} {wr wrm : Int32} {B : xB} {Z : xZ} {P : xC} {Q : xN} {V : xV} {L : xL} {er : Nat} {F X : Nat × (Nat → Nat)} {K : Nat × Nat × Nat} {D : mD} {Pm : mP} {gv : Nat → Int64} {O : Nat × (Nat → Nat)} {T : jMem} {f : Nat → Int64} {n : Option Nat}
theorem encX_hi {q : Nat} (h : 875 ≤ q) : (encX A S t wr B Z P Q V L T).1 q = T.1 q := by
  unfold encX
  rw [jlist_o (by simp only [List.length_cons, List.length_nil]; omega)]
  show (if 17 ≤ q ∧ q < 857 then _ else _) = _
  rw [if_neg (by omega), jlist_o (by simp only [List.length_cons, List.length_nil]; omega)]
theorem encX_lo {q : Nat} {T' : jMem} (h : q < 875) : (encX A S t wr B Z P Q V L T).1 q = (encX A S t wr B Z P Q V L T').1 q := by
  unfold encX
  by_cases h1 : q < 17
  · have e := jlist_get (b := 0) (i := q) (L := [.inr (10, [.ref 1, .ref 2, .ref 3, .ref 8, .ref 857, .ref 863, .ref 867, .ref 873, .int (nI A.1)]), nA 4000 A.2.1, lA 6 A.2.2, .inr (9, [.ref 1, .ref 4, .int (nI t.1), .int (nI t.2.1), .int (nI t.2.2.1), .int (nI t.2.2.2), .int wr]), .inr (8, [.ref 1, .ref 5, .ref 6, .ref 7, .int (nI S.1), .int (nI S.2.1)]), nA 4001 S.2.2.1, nA 4001 S.2.2.2.1, nA 4001 S.2.2.2.2, .inr (2, [.ref 9, .ref 12, .ref 13, .ref 16, .int (nI B.1), .int (nI B.2.1)]), .inr (4, [.ref 10, .ref 11, .int (nI B.2.2.1.1)]), nA 144 B.2.2.1.2.1, nA 12 B.2.2.1.2.2, nA 12 B.2.2.2.1, .inr (4, [.ref 14, .ref 15, .int (nI B.2.2.2.2.1)]), nA 720 B.2.2.2.2.2.1, nA 60 B.2.2.2.2.2.2, qA 2 60 (fun i => some (17 + 14 * i))]) (T := opsM Z (jlist 857 [.inr (7, [.ref 858, .ref 859, .ref 862, .int (nI P.1), .int (nI P.2.1)]), rA 1000 P.2.2.1, .inr (4, [.ref 860, .ref 861, .int (nI P.2.2.2.1.1)]), nA 720 P.2.2.2.1.2.1, nA 60 P.2.2.2.1.2.2, nA 60 P.2.2.2.2, .inr (1, [.ref 3, .ref 8, .ref 864]), .inr (4, [.ref 865, .ref 866, .int (nI Q.1)]), nA 72 Q.2.1, nA 6 Q.2.2, .inr (0, [.ref 3, .ref 8, .ref 857, .ref 868, .ref 869, .ref 870, .ref 871, .ref 872, .int (nI V.1)]), nA 2000 V.2.1, nA 2000 V.2.2.1, nA 2000 V.2.2.2.1, nA 2000 V.2.2.2.2.1, nA 2000 V.2.2.2.2.2, .inr (3, [.ref 874, .int (nI L.1)]), nA 96 L.2] T)) (by simp only [List.length_cons, List.length_nil]; omega)
    have e' := jlist_get (b := 0) (i := q) (L := [.inr (10, [.ref 1, .ref 2, .ref 3, .ref 8, .ref 857, .ref 863, .ref 867, .ref 873, .int (nI A.1)]), nA 4000 A.2.1, lA 6 A.2.2, .inr (9, [.ref 1, .ref 4, .int (nI t.1), .int (nI t.2.1), .int (nI t.2.2.1), .int (nI t.2.2.2), .int wr]), .inr (8, [.ref 1, .ref 5, .ref 6, .ref 7, .int (nI S.1), .int (nI S.2.1)]), nA 4001 S.2.2.1, nA 4001 S.2.2.2.1, nA 4001 S.2.2.2.2, .inr (2, [.ref 9, .ref 12, .ref 13, .ref 16, .int (nI B.1), .int (nI B.2.1)]), .inr (4, [.ref 10, .ref 11, .int (nI B.2.2.1.1)]), nA 144 B.2.2.1.2.1, nA 12 B.2.2.1.2.2, nA 12 B.2.2.2.1, .inr (4, [.ref 14, .ref 15, .int (nI B.2.2.2.2.1)]), nA 720 B.2.2.2.2.2.1, nA 60 B.2.2.2.2.2.2, qA 2 60 (fun i => some (17 + 14 * i))]) (T := opsM Z (jlist 857 [.inr (7, [.ref 858, .ref 859, .ref 862, .int (nI P.1), .int (nI P.2.1)]), rA 1000 P.2.2.1, .inr (4, [.ref 860, .ref 861, .int (nI P.2.2.2.1.1)]), nA 720 P.2.2.2.1.2.1, nA 60 P.2.2.2.1.2.2, nA 60 P.2.2.2.2, .inr (1, [.ref 3, .ref 8, .ref 864]), .inr (4, [.ref 865, .ref 866, .int (nI Q.1)]), nA 72 Q.2.1, nA 6 Q.2.2, .inr (0, [.ref 3, .ref 8, .ref 857, .ref 868, .ref 869, .ref 870, .ref 871, .ref 872, .int (nI V.1)]), nA 2000 V.2.1, nA 2000 V.2.2.1, nA 2000 V.2.2.2.1, nA 2000 V.2.2.2.2.1, nA 2000 V.2.2.2.2.2, .inr (3, [.ref 874, .int (nI L.1)]), nA 96 L.2] T')) (by simp only [List.length_cons, List.length_nil]; omega)
    rw [Nat.zero_add] at e e'
    exact e.trans e'.symm
  · rw [jlist_o (by simp only [List.length_cons, List.length_nil]; omega), jlist_o (by simp only [List.length_cons, List.length_nil]; omega)]
    show (if 17 ≤ q ∧ q < 857 then _ else _) = (if 17 ≤ q ∧ q < 857 then _ else _)
    by_cases h2 : 17 ≤ q ∧ q < 857
    · rw [if_pos h2, if_pos h2]
    · rw [if_neg h2, if_neg h2]
      obtain ⟨i, rfl⟩ : ∃ i, q = 857 + i := ⟨q - 857, by omega⟩
      rw [jlist_get (by simp only [List.length_cons, List.length_nil]; omega), jlist_get (by simp only [List.length_cons, List.length_nil]; omega)]
theorem encM_out {q : Nat} (h : q < 1000 ∨ 1021 ≤ q) : (encM er F X K wrm D Pm gv O T).1 q = T.1 q := by
  unfold encM
  rw [jlist_o (by simp only [List.length_cons, List.length_nil]; omega)]
theorem encM_in {q : Nat} {T' : jMem} (h : 1000 ≤ q ∧ q < 1021) : (encM er F X K wrm D Pm gv O T).1 q = (encM er F X K wrm D Pm gv O T').1 q := by
  obtain ⟨i, rfl⟩ : ∃ i, q = 1000 + i := ⟨q - 1000, by omega⟩
  unfold encM
  rw [jlist_get (by simp only [List.length_cons, List.length_nil]; omega), jlist_get (by simp only [List.length_cons, List.length_nil]; omega)]
theorem l_comm : encX A S t wr B Z P Q V L (encM er F X K wrm D Pm gv O T) = encM er F X K wrm D Pm gv O (encX A S t wr B Z P Q V L T) := by
  refine Prod.ext (funext fun q => ?_) rfl
  by_cases h : q < 875
  · rw [encX_lo (T' := T) h, encM_out (by omega)]
  · rw [encX_hi (by omega)]
    by_cases h2 : 1000 ≤ q ∧ q < 1021
    · exact encM_in h2
    · rw [encM_out (by omega), encM_out (by omega), encX_hi (by omega)]
theorem l_ju {g : Nat → Int64} : ju (encX A S t wr B Z P Q V L (encM er F X K wrm D Pm gv O (T0 f n))) 1021 (lA 1 g) = encX A S t wr B Z P Q V L (encM er F X K wrm D Pm gv O (T0 g n)) := by
  refine Prod.ext (funext fun q => ?_) rfl
  show va_up (encX A S t wr B Z P Q V L (encM er F X K wrm D Pm gv O (T0 f n))).1 1021 (some (lA 1 g)) q = _
  by_cases e : q = 1021
  · subst e
    rw [va_up_self, encX_hi (by omega), encM_out (by omega)]
    rfl
  · rw [va_up_ne _ _ e]
    by_cases h : q < 875
    · exact encX_lo h
    · rw [encX_hi (by omega), encX_hi (by omega)]
      by_cases h2 : 1000 ≤ q ∧ q < 1021
      · exact encM_in h2
      · rw [encM_out (by omega), encM_out (by omega)]
        show (if q = 1021 then _ else _) = (if q = 1021 then _ else _)
        rw [if_neg e, if_neg e]
theorem l_no : jno (encX A S t wr B Z P Q V L (encM er F X K wrm D Pm gv O (T0 f n))) = encX A S t wr B Z P Q V L (encM er F X K wrm D Pm gv O (T0 f none)) := rfl
theorem l_1021 : (encX A S t wr B Z P Q V L (encM er F X K wrm D Pm gv O (T0 f n))).1 1021 = some (lA 1 f) := by
  rw [encX_hi (by omega), encM_out (by omega)]
  rfl
theorem l_1000 : ∃ fs, (encX A S t wr B Z P Q V L (encM er F X K wrm D Pm gv O (T0 f n))).1 1000 = some (.inr (11, fs)) := by
  rw [encX_hi (by omega)]
  exact ⟨_, rfl⟩
theorem l_00 : ∃ fs, (encX A S t wr B Z P Q V L (encM er F X K wrm D Pm gv O (T0 f n))).1 0 = some (.inr (10, fs)) := ⟨_, rfl⟩
end LE
theorem jCw.mono {l : Launch} {G : jG} {y : MethodName} {cc : ByteArray} {maxL : Nat} {ret : Option FieldType} {hh : List (Nat × Nat × Nat × Nat)} {fr lo mc ms : Nat} {As : List Value} {M : jMem} {Φ Ψ : jO → Prop} (hi : ∀ o, Φ o → Ψ o) (h : jCw l G y cc maxL ret hh fr lo mc ms As M Φ) : jCw l G y cc maxL ret hh fr lo mc ms As M Ψ := by
  intro p' e' ha hc hk s' m' args' below' hf happ hP hK
  obtain ⟨k, o, h1, h2, h3, h4⟩ := h p' e' ha hc hk s' m' args' below' hf happ hP hK
  refine ⟨k, o, h1, h2, h3, ?_⟩
  rcases h4 with ⟨⟨v, M', a1, a2⟩, a3⟩ | ⟨q, hq, E, ce, L, ⟨M', a1, a2⟩, a3⟩
  · exact Or.inl ⟨⟨v, M', hi _ a1, a2⟩, a3⟩
  · exact Or.inr ⟨q, hq, E, ce, L, ⟨M', hi _ a1, a2⟩, a3⟩
theorem lA_inj {f g : Nat → Int64} (e4 : lA 1 f = lA 1 g) : f = g := by injection e4 with e6; injection e6 with e7 e8; injection e8 with e9 e10; injection e10 with e11; injection e11 with e12
theorem hP_ok {cd : List (String × Nat)} {v : Value} {x : Int64} {M' : jMem} {f : Nat → Int64} {o : jO} (hv : hV v = some x) (hM : M'.1 1021 = some (lA 1 f)) (h : hP cd (fun o => o = .inl (some v, M')) o) : o = .inl (some (.int (nI 0)), ju M' 1021 (lA 1 (va_up f 0 x))) := by
  rcases h with ⟨v2, x2, M2, f2, h1, h2, h3, h4⟩ | ⟨E, M2, k, -, h1, -⟩
  · have h1 := Sum.inl.inj h1
    have e1 : v2 = v := Option.some.inj (congrArg Prod.fst h1)
    have e2 : M2 = M' := congrArg Prod.snd h1
    subst e1 e2
    have e3 : x2 = x := Option.some.inj (h2.symm.trans hv)
    have e4 : lA 1 f2 = lA 1 f := Option.some.inj (h3.symm.trans hM)
    have e5 : f2 = f := lA_inj e4
    subst e3 e5
    exact h4
  · cases h1
theorem hP_ex {cd : List (String × Nat)} {E : String} {M' : jMem} {k : Nat} {o : jO} (hu : ∀ k', (E, k') ∈ cd → k' = k) (h : hP cd (fun o => o = .inr (E, M')) o) : o = .inl (some (.int (nI k)), M') := by
  rcases h with ⟨v2, x2, M2, f2, h1, -⟩ | ⟨E2, M2, k2, hm, h1, h2⟩
  · cases h1
  · have h1 := Sum.inr.inj h1
    have e1 : E2 = E := congrArg Prod.fst h1
    have e2 : M2 = M' := congrArg Prod.snd h1
    subst e1 e2
    rw [hu _ hm] at h2
    exact h2
