/-! arrays of naturals and of ints; memories as lists of cells; rows over them -/
theorem jlt {a b : Nat} (h : Nat.ble (a + 1) b = true) : a < b := Nat.le_of_ble_eq_true h
theorem jle {a b : Nat} (h : Nat.ble a b = true) : a ≤ b := Nat.le_of_ble_eq_true h
def nA (n : Nat) (f : Nat → Nat) : va_E := .inl (0, n, .inl (fun j => nI (f j)))
def rA (n : Nat) (f : Nat → Int32) : va_E := .inl (0, n, .inl f)
def lA (n : Nat) (f : Nat → Int64) : va_E := .inl (1, n, .inr (.inl f))
def qA (t n : Nat) (f : Nat → Option Nat) : va_E := .inl (t, n, .inr (.inr (.inr (.inr f))))
theorem nA_up (f : Nat → Nat) (a x : Nat) : upd (fun j => nI (f j)) a (nI x) = fun j => nI (va_up f a x j) := by
  funext j
  by_cases h : j = a <;> simp [upd, va_up, h]
theorem rA_up (f : Nat → Int32) (a : Nat) (x : Int32) : upd f a x = va_up f a x := by
  funext j
  by_cases h : j = a <;> simp [upd, va_up, h]
theorem lA_up (f : Nat → Int64) (a : Nat) (x : Int64) : vp_updL f a x = va_up f a x := by
  funext j
  by_cases h : j = a <;> simp [vp_updL, va_up, h]
/-- a memory with a list of cells from index b on -/
def jlist (b : Nat) (L : List va_E) (T : jMem) : jMem := (fun k => if k < b then T.1 k else if k < b + L.length then L[k - b]? else T.1 k, T.2)
theorem jlist_get {b i : Nat} {L : List va_E} {T : jMem} (h : i < L.length) : (jlist b L T).1 (b + i) = L[i]? := by
  show (if b + i < b then _ else if b + i < b + L.length then L[b + i - b]? else _) = _
  rw [if_neg (by omega), if_pos (by omega)]
  congr 1
  omega
theorem jlist_set {b i : Nat} {L : List va_E} {T : jMem} {x : va_E} (h : i < L.length) : ju (jlist b L T) (b + i) x = jlist b (L.set i x) T := by
  refine Prod.ext (funext fun k => ?_) rfl
  show va_up (fun k => if k < b then T.1 k else if k < b + L.length then L[k - b]? else T.1 k) (b + i) (some x) k = if k < b then T.1 k else if k < b + (L.set i x).length then (L.set i x)[k - b]? else T.1 k
  rw [List.length_set]
  by_cases e : k = b + i
  · subst e
    rw [va_up_self, if_neg (by omega), if_pos (by omega), show b + i - b = i by omega, List.getElem?_set_self h]
  · rw [va_up_ne _ _ e]
    by_cases h1 : k < b
    · rw [if_pos h1, if_pos h1]
    · rw [if_neg h1, if_neg h1]
      by_cases h2 : k < b + L.length
      · rw [if_pos h2, if_pos h2, List.getElem?_set_ne (by omega)]
      · rw [if_neg h2, if_neg h2]
section JN
variable {p : Program} {l : Launch} {e : Env} {R : Room} {s : State} {m : MethodId} {args : Array Value} {below : List Frame} {meth : Method} {c : Code} {G : jG} {cc : ByteArray} {nL : Nat} {own : String} {ret : Option FieldType}
variable {mc ms pc kc ks : Nat} {out : jO} {lv : List (Option Value)} {st : List Value} {M M2 : jMem}
theorem J_ialdN (C : jX0 p l R s m args meth c G cc nL own ret) {k n a : Nat} {f : Nat → Nat} (hd : decode cc pc = .ok (.iaload, 1)) (hM0 : M.1 k = some (nA n f)) (ha : a < n) (hn : n < 2 ^ 31) (k' : J p l e R s m args below meth c G nL mc ms out (pc + 1) lv (.int (nI (f a)) :: st) M kc ks) : J p l e R s m args below meth c G nL mc ms out pc lv (.int (nI a) :: .ref k :: st) M kc ks :=
  J_iald C hd hM0 (vp_in_nI ha hn) (by rw [nI_clamp (by omega)]; exact k')
theorem J_ialdR (C : jX0 p l R s m args meth c G cc nL own ret) {k n a : Nat} {f : Nat → Int32} (hd : decode cc pc = .ok (.iaload, 1)) (hM0 : M.1 k = some (rA n f)) (ha : a < n) (hn : n < 2 ^ 31) (k' : J p l e R s m args below meth c G nL mc ms out (pc + 1) lv (.int (f a) :: st) M kc ks) : J p l e R s m args below meth c G nL mc ms out pc lv (.int (nI a) :: .ref k :: st) M kc ks :=
  J_iald C hd hM0 (vp_in_nI ha hn) (by rw [nI_clamp (by omega)]; exact k')
theorem J_laldN (C : jX0 p l R s m args meth c G cc nL own ret) {k n a : Nat} {f : Nat → Int64} (hd : decode cc pc = .ok (.laload, 1)) (hM0 : M.1 k = some (lA n f)) (ha : a < n) (hn : n < 2 ^ 31) (k' : J p l e R s m args below meth c G nL mc ms out (pc + 1) lv (.long (f a) :: st) M kc ks) : J p l e R s m args below meth c G nL mc ms out pc lv (.int (nI a) :: .ref k :: st) M kc ks :=
  J_lald C hd hM0 (vp_in_nI ha hn) (by rw [nI_clamp (by omega)]; exact k')
theorem J_aaldN (C : jX0 p l R s m args meth c G cc nL own ret) {k n a t b : Nat} {f : Nat → Option Nat} (hd : decode cc pc = .ok (.aaload, 1)) (hM0 : M.1 k = some (qA t n f)) (ht : t = 2 ∨ t = 3) (ha : a < n) (hn : n < 2 ^ 31) (hb : f a = some b) (k' : J p l e R s m args below meth c G nL mc ms out (pc + 1) lv (.ref b :: st) M kc ks) : J p l e R s m args below meth c G nL mc ms out pc lv (.int (nI a) :: .ref k :: st) M kc ks :=
  J_aald C hd hM0 ht (vp_in_nI ha hn) (by rw [nI_clamp (by omega)]; exact hb) k'
theorem J_iastN (C : jX0 p l R s m args meth c G cc nL own ret) {k n a x : Nat} {f : Nat → Nat} (hd : decode cc pc = .ok (.iastore, 1)) (hM0 : M.1 k = some (nA n f)) (ha : a < n) (hn : n < 2 ^ 31) (hu : ju M k (nA n (va_up f a x)) = M2) (k' : J p l e R s m args below meth c G nL mc ms out (pc + 1) lv st M2 kc ks) : J p l e R s m args below meth c G nL mc ms out pc lv (.int (nI x) :: .int (nI a) :: .ref k :: st) M kc ks :=
  J_iast C hd hM0 (vp_in_nI ha hn) (by rw [nI_clamp (by omega), nA_up]; exact J.to hu k')
theorem J_iastR (C : jX0 p l R s m args meth c G cc nL own ret) {k n a : Nat} {x : Int32} {f : Nat → Int32} (hd : decode cc pc = .ok (.iastore, 1)) (hM0 : M.1 k = some (rA n f)) (ha : a < n) (hn : n < 2 ^ 31) (hu : ju M k (rA n (va_up f a x)) = M2) (k' : J p l e R s m args below meth c G nL mc ms out (pc + 1) lv st M2 kc ks) : J p l e R s m args below meth c G nL mc ms out pc lv (.int x :: .int (nI a) :: .ref k :: st) M kc ks :=
  J_iast C hd hM0 (vp_in_nI ha hn) (by rw [nI_clamp (by omega), rA_up]; exact J.to hu k')
theorem J_lastN (C : jX0 p l R s m args meth c G cc nL own ret) {k n a : Nat} {x : Int64} {f : Nat → Int64} (hd : decode cc pc = .ok (.lastore, 1)) (hM0 : M.1 k = some (lA n f)) (ha : a < n) (hn : n < 2 ^ 31) (hu : ju M k (lA n (va_up f a x)) = M2) (k' : J p l e R s m args below meth c G nL mc ms out (pc + 1) lv st M2 kc ks) : J p l e R s m args below meth c G nL mc ms out pc lv (.long x :: .int (nI a) :: .ref k :: st) M kc ks :=
  J_last C hd hM0 (vp_in_nI ha hn) (by rw [nI_clamp (by omega), lA_up]; exact J.to hu k')
theorem J_putU (C : jX0 p l R s m args meth c G cc nL own ret) {idx ci j k : Nat} {fs : List Value} {v : Value} {ty : FieldType} (hd : decode cc pc = .ok (.putfield idx, 3)) (hf : jFp false own idx ci j ty) (hM0 : M.1 k = some (.inr (ci, fs))) (hj' : j < fs.length) (hn : narrow ty (jv G v) = jv G v) (hfit : fits ty (jv G v) = true) (hu : ju M k (.inr (ci, fs.set j v)) = M2) (k' : J p l e R s m args below meth c G nL mc ms out (pc + 3) lv st M2 kc ks) : J p l e R s m args below meth c G nL mc ms out pc lv (v :: .ref k :: st) M kc ks :=
  J_put C hd hf hM0 hj' hn hfit (J.to hu k')
theorem J_callV1 {y : MethodName} {bytes : ByteArray} {maxL n idx fr lo k ci : Nat} {ret' : Option FieldType} {As fs stk : List Value} {v : Value} {M' : jMem} {q : vw_C} (C : jX0 p l R s m args meth c G cc nL own ret) (hd : decode cc pc = .ok (.invokevirtual idx, 3)) (hm : jMv own idx y bytes maxL ret' n) (K : jC l G y bytes maxL ret' fr lo 0 0 (.ref k :: As) M (.inl (some v, M'))) (hR : fr + 1 ≤ R.frames ∧ 8 + (maxL + 11) + lo ≤ R.locals) (hk : M.1 k = some (.inr (ci, fs))) (hci : vwCl[ci]? = some q) (hq : q.1 = y.cls) (hn : As.length = n) (hst : stk = As.reverse ++ .ref k :: st) (h8 : (st.map fun v => v.category).sum ≤ 8) (hf : kc ≤ R.cells ∧ ks ≤ R.slots)
    (k' : J p l e R s m args below meth c G nL mc ms out (pc + 3) lv (v :: st) M' kc ks) : J p l e R s m args below meth c G nL mc ms out pc lv stk M kc ks := J_callV C hd hm K hR hk hci hq hn hst h8 hf k'
theorem J_callV0 {y : MethodName} {bytes : ByteArray} {maxL n idx fr lo k ci : Nat} {ret' : Option FieldType} {As fs stk : List Value} {M' : jMem} {q : vw_C} (C : jX0 p l R s m args meth c G cc nL own ret) (hd : decode cc pc = .ok (.invokevirtual idx, 3)) (hm : jMv own idx y bytes maxL ret' n) (K : jC l G y bytes maxL ret' fr lo 0 0 (.ref k :: As) M (.inl (none, M'))) (hR : fr + 1 ≤ R.frames ∧ 8 + (maxL + 11) + lo ≤ R.locals) (hk : M.1 k = some (.inr (ci, fs))) (hci : vwCl[ci]? = some q) (hq : q.1 = y.cls) (hn : As.length = n) (hst : stk = As.reverse ++ .ref k :: st) (h8 : (st.map fun v => v.category).sum ≤ 8) (hf : kc ≤ R.cells ∧ ks ≤ R.slots)
    (k' : J p l e R s m args below meth c G nL mc ms out (pc + 3) lv st M' kc ks) : J p l e R s m args below meth c G nL mc ms out pc lv stk M kc ks := J_callV C hd hm K hR hk hci hq hn hst h8 hf k'
theorem J_callS1 {y : MethodName} {bytes : ByteArray} {maxL n idx fr lo : Nat} {ret' : Option FieldType} {As stk : List Value} {v : Value} {M' : jMem} (C : jX0 p l R s m args meth c G cc nL own ret) (hd : decode cc pc = .ok (.invokestatic idx, 3)) (hm : jMs own idx y bytes maxL ret' n) (K : jC l G y bytes maxL ret' fr lo 0 0 As M (.inl (some v, M'))) (hR : fr + 1 ≤ R.frames ∧ 8 + (maxL + 11) + lo ≤ R.locals) (hn : As.length = n) (hst : stk = As.reverse ++ st) (h8 : (st.map fun v => v.category).sum ≤ 8) (hf : kc ≤ R.cells ∧ ks ≤ R.slots)
    (k' : J p l e R s m args below meth c G nL mc ms out (pc + 3) lv (v :: st) M' kc ks) : J p l e R s m args below meth c G nL mc ms out pc lv stk M kc ks := J_callS C hd hm K hR hn hst h8 hf k'
end JN
/-! THE REFERENCE's MEMORY: the object at 1000, its arrays behind it -/
/-- width, sets, ops, described; setName, setBits, opName, operandName, operands, kind; bits, setOf, what -/
abbrev mD : Type := Nat × Nat × Nat × Nat × (Nat → Nat) × (Nat → Nat) × (Nat → Nat) × (Nat → Nat) × (Nat → Nat) × (Nat → Nat) × (Nat → Int32) × (Nat → Int32) × (Nat → Int32)
/-- words, labels, uses; labelName, labelPlace; word; useAt, useWord, useOperand, useOp -/
abbrev mP : Type := Nat × Nat × Nat × (Nat → Nat) × (Nat → Nat) × (Nat → Int32) × (Nat → Nat) × (Nat → Nat) × (Nat → Nat) × (Nat → Nat)
/-- err; fed and octets; letters and text; token, from, to; wrong; the description; the program; given; size and out -/
def encM (er : Nat) (F X : Nat × (Nat → Nat)) (K : Nat × Nat × Nat) (wr : Int32) (D : mD) (P : mP) (gv : Nat → Int64) (O : Nat × (Nat → Nat)) (T : jMem) : jMem := jlist 1000
  [.inr (11, [.int (nI er), .int (nI F.1), .int (nI X.1), .int wr, .int (nI D.1), .int (nI D.2.1), .int (nI D.2.2.1), .int (nI P.1), .int (nI P.2.1), .int (nI O.1), .int (nI D.2.2.2.1), .ref 1001, .ref 1002, .ref 1003, .ref 1004, .ref 1005, .ref 1006, .ref 1007, .ref 1008, .ref 1009, .ref 1010, .ref 1011, .ref 1012, .ref 1013, .ref 1014, .ref 1015, .ref 1016, .ref 1017, .ref 1018, .ref 1019, .int (nI P.2.2.1), .int (nI K.1), .int (nI K.2.1), .int (nI K.2.2), .ref 1020]),
   nA 4000 F.2, nA 4000 X.2, nA 400 O.2, nA 144 D.2.2.2.2.1, nA 12 D.2.2.2.2.2.1, nA 720 D.2.2.2.2.2.2.1, nA 72 D.2.2.2.2.2.2.2.1, nA 720 P.2.2.2.1, nA 60 P.2.2.2.2.1, nA 60 D.2.2.2.2.2.2.2.2.1, nA 360 D.2.2.2.2.2.2.2.2.2.1, rA 360 D.2.2.2.2.2.2.2.2.2.2.1, rA 360 D.2.2.2.2.2.2.2.2.2.2.2.1, rA 1920 D.2.2.2.2.2.2.2.2.2.2.2.2, rA 1000 P.2.2.2.2.2.1, nA 6000 P.2.2.2.2.2.2.1, nA 6000 P.2.2.2.2.2.2.2.1, nA 6000 P.2.2.2.2.2.2.2.2.1, nA 6000 P.2.2.2.2.2.2.2.2.2, lA 6 gv] T
section EM
variable {er : Nat} {F X : Nat × (Nat → Nat)} {K : Nat × Nat × Nat} {wr : Int32} {D : mD} {P : mP} {gv : Nat → Int64} {O : Nat × (Nat → Nat)} {T : jMem}
abbrev mObj (er fed n : Nat) (wr : Int32) (w sets ops words labels size desc uses tk fr to : Nat) : va_E := .inr (11, [.int (nI er), .int (nI fed), .int (nI n), .int wr, .int (nI w), .int (nI sets), .int (nI ops), .int (nI words), .int (nI labels), .int (nI size), .int (nI desc), .ref 1001, .ref 1002, .ref 1003, .ref 1004, .ref 1005, .ref 1006, .ref 1007, .ref 1008, .ref 1009, .ref 1010, .ref 1011, .ref 1012, .ref 1013, .ref 1014, .ref 1015, .ref 1016, .ref 1017, .ref 1018, .ref 1019, .int (nI uses), .int (nI tk), .int (nI fr), .int (nI to), .ref 1020])
theorem uM_err (v : Nat) : ju (encM er F X K wr D P gv O T) 1000 (mObj v F.1 X.1 wr D.1 D.2.1 D.2.2.1 P.1 P.2.1 O.1 D.2.2.2.1 P.2.2.1 K.1 K.2.1 K.2.2) = encM v F X K wr D P gv O T := (jlist_set (b := 1000) (i := 0) (jlt rfl)).trans rfl
theorem uM_fed (v : Nat) : ju (encM er F X K wr D P gv O T) 1000 (mObj er v X.1 wr D.1 D.2.1 D.2.2.1 P.1 P.2.1 O.1 D.2.2.2.1 P.2.2.1 K.1 K.2.1 K.2.2) = encM er (v, F.2) X K wr D P gv O T := (jlist_set (b := 1000) (i := 0) (jlt rfl)).trans rfl
theorem uM_letters (v : Nat) : ju (encM er F X K wr D P gv O T) 1000 (mObj er F.1 v wr D.1 D.2.1 D.2.2.1 P.1 P.2.1 O.1 D.2.2.2.1 P.2.2.1 K.1 K.2.1 K.2.2) = encM er F (v, X.2) K wr D P gv O T := (jlist_set (b := 1000) (i := 0) (jlt rfl)).trans rfl
theorem uM_wrong (v : Int32) : ju (encM er F X K wr D P gv O T) 1000 (mObj er F.1 X.1 v D.1 D.2.1 D.2.2.1 P.1 P.2.1 O.1 D.2.2.2.1 P.2.2.1 K.1 K.2.1 K.2.2) = encM er F X K v D P gv O T := (jlist_set (b := 1000) (i := 0) (jlt rfl)).trans rfl
theorem uM_width (v : Nat) : ju (encM er F X K wr D P gv O T) 1000 (mObj er F.1 X.1 wr v D.2.1 D.2.2.1 P.1 P.2.1 O.1 D.2.2.2.1 P.2.2.1 K.1 K.2.1 K.2.2) = encM er F X K wr (v, D.2) P gv O T := (jlist_set (b := 1000) (i := 0) (jlt rfl)).trans rfl
theorem uM_sets (v : Nat) : ju (encM er F X K wr D P gv O T) 1000 (mObj er F.1 X.1 wr D.1 v D.2.2.1 P.1 P.2.1 O.1 D.2.2.2.1 P.2.2.1 K.1 K.2.1 K.2.2) = encM er F X K wr (D.1, v, D.2.2) P gv O T := (jlist_set (b := 1000) (i := 0) (jlt rfl)).trans rfl
theorem uM_ops (v : Nat) : ju (encM er F X K wr D P gv O T) 1000 (mObj er F.1 X.1 wr D.1 D.2.1 v P.1 P.2.1 O.1 D.2.2.2.1 P.2.2.1 K.1 K.2.1 K.2.2) = encM er F X K wr (D.1, D.2.1, v, D.2.2.2) P gv O T := (jlist_set (b := 1000) (i := 0) (jlt rfl)).trans rfl
theorem uM_words (v : Nat) : ju (encM er F X K wr D P gv O T) 1000 (mObj er F.1 X.1 wr D.1 D.2.1 D.2.2.1 v P.2.1 O.1 D.2.2.2.1 P.2.2.1 K.1 K.2.1 K.2.2) = encM er F X K wr D (v, P.2) gv O T := (jlist_set (b := 1000) (i := 0) (jlt rfl)).trans rfl
theorem uM_labels (v : Nat) : ju (encM er F X K wr D P gv O T) 1000 (mObj er F.1 X.1 wr D.1 D.2.1 D.2.2.1 P.1 v O.1 D.2.2.2.1 P.2.2.1 K.1 K.2.1 K.2.2) = encM er F X K wr D (P.1, v, P.2.2) gv O T := (jlist_set (b := 1000) (i := 0) (jlt rfl)).trans rfl
theorem uM_size (v : Nat) : ju (encM er F X K wr D P gv O T) 1000 (mObj er F.1 X.1 wr D.1 D.2.1 D.2.2.1 P.1 P.2.1 v D.2.2.2.1 P.2.2.1 K.1 K.2.1 K.2.2) = encM er F X K wr D P gv (v, O.2) T := (jlist_set (b := 1000) (i := 0) (jlt rfl)).trans rfl
theorem uM_described (v : Nat) : ju (encM er F X K wr D P gv O T) 1000 (mObj er F.1 X.1 wr D.1 D.2.1 D.2.2.1 P.1 P.2.1 O.1 v P.2.2.1 K.1 K.2.1 K.2.2) = encM er F X K wr (D.1, D.2.1, D.2.2.1, v, D.2.2.2.2) P gv O T := (jlist_set (b := 1000) (i := 0) (jlt rfl)).trans rfl
theorem uM_uses (v : Nat) : ju (encM er F X K wr D P gv O T) 1000 (mObj er F.1 X.1 wr D.1 D.2.1 D.2.2.1 P.1 P.2.1 O.1 D.2.2.2.1 v K.1 K.2.1 K.2.2) = encM er F X K wr D (P.1, P.2.1, v, P.2.2.2) gv O T := (jlist_set (b := 1000) (i := 0) (jlt rfl)).trans rfl
theorem uM_token (v : Nat) : ju (encM er F X K wr D P gv O T) 1000 (mObj er F.1 X.1 wr D.1 D.2.1 D.2.2.1 P.1 P.2.1 O.1 D.2.2.2.1 P.2.2.1 v K.2.1 K.2.2) = encM er F X (v, K.2) wr D P gv O T := (jlist_set (b := 1000) (i := 0) (jlt rfl)).trans rfl
theorem uM_from (v : Nat) : ju (encM er F X K wr D P gv O T) 1000 (mObj er F.1 X.1 wr D.1 D.2.1 D.2.2.1 P.1 P.2.1 O.1 D.2.2.2.1 P.2.2.1 K.1 v K.2.2) = encM er F X (K.1, v, K.2.2) wr D P gv O T := (jlist_set (b := 1000) (i := 0) (jlt rfl)).trans rfl
theorem uM_to (v : Nat) : ju (encM er F X K wr D P gv O T) 1000 (mObj er F.1 X.1 wr D.1 D.2.1 D.2.2.1 P.1 P.2.1 O.1 D.2.2.2.1 P.2.2.1 K.1 K.2.1 v) = encM er F X (K.1, K.2.1, v) wr D P gv O T := (jlist_set (b := 1000) (i := 0) (jlt rfl)).trans rfl
theorem uM_octets (f : Nat → Nat) : ju (encM er F X K wr D P gv O T) 1001 (nA 4000 f) = encM er (F.1, f) X K wr D P gv O T := (jlist_set (b := 1000) (i := 1) (jlt rfl)).trans rfl
theorem uM_text (f : Nat → Nat) : ju (encM er F X K wr D P gv O T) 1002 (nA 4000 f) = encM er F (X.1, f) K wr D P gv O T := (jlist_set (b := 1000) (i := 2) (jlt rfl)).trans rfl
theorem uM_out (f : Nat → Nat) : ju (encM er F X K wr D P gv O T) 1003 (nA 400 f) = encM er F X K wr D P gv (O.1, f) T := (jlist_set (b := 1000) (i := 3) (jlt rfl)).trans rfl
theorem uM_setName (f : Nat → Nat) : ju (encM er F X K wr D P gv O T) 1004 (nA 144 f) = encM er F X K wr (D.1, D.2.1, D.2.2.1, D.2.2.2.1, f, D.2.2.2.2.2) P gv O T := (jlist_set (b := 1000) (i := 4) (jlt rfl)).trans rfl
theorem uM_setBits (f : Nat → Nat) : ju (encM er F X K wr D P gv O T) 1005 (nA 12 f) = encM er F X K wr (D.1, D.2.1, D.2.2.1, D.2.2.2.1, D.2.2.2.2.1, f, D.2.2.2.2.2.2) P gv O T := (jlist_set (b := 1000) (i := 5) (jlt rfl)).trans rfl
theorem uM_opName (f : Nat → Nat) : ju (encM er F X K wr D P gv O T) 1006 (nA 720 f) = encM er F X K wr (D.1, D.2.1, D.2.2.1, D.2.2.2.1, D.2.2.2.2.1, D.2.2.2.2.2.1, f, D.2.2.2.2.2.2.2) P gv O T := (jlist_set (b := 1000) (i := 6) (jlt rfl)).trans rfl
theorem uM_operandName (f : Nat → Nat) : ju (encM er F X K wr D P gv O T) 1007 (nA 72 f) = encM er F X K wr (D.1, D.2.1, D.2.2.1, D.2.2.2.1, D.2.2.2.2.1, D.2.2.2.2.2.1, D.2.2.2.2.2.2.1, f, D.2.2.2.2.2.2.2.2) P gv O T := (jlist_set (b := 1000) (i := 7) (jlt rfl)).trans rfl
theorem uM_given (f : Nat → Int64) : ju (encM er F X K wr D P gv O T) 1020 (lA 6 f) = encM er F X K wr D P f O T := (jlist_set (b := 1000) (i := 20) (jlt rfl)).trans rfl
end EM
