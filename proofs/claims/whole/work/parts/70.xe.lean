/-! THE CLASS: rows for its memory and its throws -/
section XE
variable {A : xA} {S : xS} {t : xT} {wr : Int32} {B : xB} {Z : xZ} {P : xC} {Q : xN} {V : xV} {L : xL} {T : jMem}
theorem zO_self {i : Nat} {x : Nat × Nat × Int32 × Int32} : (zO Z i x).1 i = x := va_up_self _ _ _
theorem zO_zO {i : Nat} {x y : Nat × Nat × Int32 × Int32} : zO (zO Z i x) i y = zO Z i y := by
  refine Prod.ext (funext fun q => ?_) rfl
  show va_up (va_up Z.1 i x) i y q = va_up Z.1 i y q
  by_cases e : q = i
  · subst e; rw [va_up_self, va_up_self]
  · rw [va_up_ne _ _ e, va_up_ne _ _ e, va_up_ne _ _ e]
theorem zP_self {p : Nat} {x : Nat × Nat × Int32} : (zP Z p x).2.1 p = x := va_up_self _ _ _
theorem zP_zP {p : Nat} {x y : Nat × Nat × Int32} : zP (zP Z p x) p y = zP Z p y := by
  refine Prod.ext rfl (Prod.ext (funext fun q => ?_) rfl)
  show va_up (va_up Z.2.1 p x) p y q = va_up Z.2.1 p y q
  by_cases e : q = p
  · subst e; rw [va_up_self, va_up_self]
  · rw [va_up_ne _ _ e, va_up_ne _ _ e, va_up_ne _ _ e]
theorem uX_osize {i : Nat} (hi : i < 60) (v : Nat) : ju (encX A S t wr B Z P Q V L T) (17 + 14 * i) (.inr (5, [.ref (18 + 14 * i), .int (nI v), .int (nI (Z.1 i).2.1), .int (Z.1 i).2.2.1, .int (Z.1 i).2.2.2])) = encX A S t wr B (zO Z i (v, (Z.1 i).2)) P Q V L T := uX_op hi (v, (Z.1 i).2)
theorem uX_olaid {i : Nat} (hi : i < 60) (v : Nat) : ju (encX A S t wr B Z P Q V L T) (17 + 14 * i) (.inr (5, [.ref (18 + 14 * i), .int (nI (Z.1 i).1), .int (nI v), .int (Z.1 i).2.2.1, .int (Z.1 i).2.2.2])) = encX A S t wr B (zO Z i ((Z.1 i).1, v, (Z.1 i).2.2)) P Q V L T := uX_op hi ((Z.1 i).1, v, (Z.1 i).2.2)
theorem uX_omask {i : Nat} (hi : i < 60) (v : Int32) : ju (encX A S t wr B Z P Q V L T) (17 + 14 * i) (.inr (5, [.ref (18 + 14 * i), .int (nI (Z.1 i).1), .int (nI (Z.1 i).2.1), .int v, .int (Z.1 i).2.2.2])) = encX A S t wr B (zO Z i ((Z.1 i).1, (Z.1 i).2.1, v, (Z.1 i).2.2.2)) P Q V L T := uX_op hi ((Z.1 i).1, (Z.1 i).2.1, v, (Z.1 i).2.2.2)
theorem uX_opat {i : Nat} (hi : i < 60) (v : Int32) : ju (encX A S t wr B Z P Q V L T) (17 + 14 * i) (.inr (5, [.ref (18 + 14 * i), .int (nI (Z.1 i).1), .int (nI (Z.1 i).2.1), .int (Z.1 i).2.2.1, .int v])) = encX A S t wr B (zO Z i ((Z.1 i).1, (Z.1 i).2.1, (Z.1 i).2.2.1, v)) P Q V L T := uX_op hi ((Z.1 i).1, (Z.1 i).2.1, (Z.1 i).2.2.1, v)
theorem uX_pkind {i k : Nat} (hi : i < 60) (hk : k < 6) (v : Nat) : ju (encX A S t wr B Z P Q V L T) (19 + 14 * i + 2 * k) (.inr (6, [.ref (20 + 14 * i + 2 * k), .int (nI v), .int (nI (Z.2.1 (6 * i + k)).2.1), .int (Z.2.1 (6 * i + k)).2.2])) = encX A S t wr B (zP Z (6 * i + k) (v, (Z.2.1 (6 * i + k)).2)) P Q V L T := uX_opd hi hk (v, (Z.2.1 (6 * i + k)).2)
theorem uX_psz {i k : Nat} (hi : i < 60) (hk : k < 6) (v : Nat) : ju (encX A S t wr B Z P Q V L T) (19 + 14 * i + 2 * k) (.inr (6, [.ref (20 + 14 * i + 2 * k), .int (nI (Z.2.1 (6 * i + k)).1), .int (nI v), .int (Z.2.1 (6 * i + k)).2.2])) = encX A S t wr B (zP Z (6 * i + k) ((Z.2.1 (6 * i + k)).1, v, (Z.2.1 (6 * i + k)).2.2)) P Q V L T := uX_opd hi hk ((Z.2.1 (6 * i + k)).1, v, (Z.2.1 (6 * i + k)).2.2)
theorem uX_pset {i k : Nat} (hi : i < 60) (hk : k < 6) (v : Int32) : ju (encX A S t wr B Z P Q V L T) (19 + 14 * i + 2 * k) (.inr (6, [.ref (20 + 14 * i + 2 * k), .int (nI (Z.2.1 (6 * i + k)).1), .int (nI (Z.2.1 (6 * i + k)).2.1), .int v])) = encX A S t wr B (zP Z (6 * i + k) ((Z.2.1 (6 * i + k)).1, (Z.2.1 (6 * i + k)).2.1, v)) P Q V L T := uX_opd hi hk ((Z.2.1 (6 * i + k)).1, (Z.2.1 (6 * i + k)).2.1, v)
end XE
abbrev eIA : String := "java/lang/IllegalArgumentException"
abbrev eIS : String := "java/lang/IllegalStateException"
abbrev eIO : String := "java/lang/IndexOutOfBoundsException"
abbrev eUp : List String := ["java/lang/RuntimeException", "java/lang/Exception"]
section JX
variable {p : Program} {l : Launch} {e : Env} {R : Room} {s : State} {m : MethodId} {args : Array Value} {below : List Frame} {meth : Method} {c : Code} {G : jG} {cc : ByteArray} {nL : Nat} {own : String} {ret : Option FieldType} {mc ms pc kc ks : Nat} {Φ : jO → Prop} {lv : List (Option Value)} {st : List Value} {M : jMem}
/-- a call that throws -/
theorem E_callVx {y : MethodName} {bytes : ByteArray} {maxL n idx fr lo c1 s1 k ci : Nat} {ret' : Option FieldType} {As fs stk : List Value} {E : String} {M' : jMem} {q : vw_C} (C : jX0 p l R s m args meth c G cc nL own ret) (hT : ∀ x ∈ c.exceptionTable.toList, False) (hd : decode cc pc = .ok (.invokevirtual idx, 3)) (hm : jMv own idx y bytes maxL ret' n) (K : jCp l G y bytes maxL ret' fr lo c1 s1 (.ref k :: As) M (fun o => o = .inr (E, M'))) (hR : fr + 1 ≤ R.frames ∧ 8 + (maxL + 11) + lo ≤ R.locals) (hk : M.1 k = some (.inr (ci, fs))) (hci : vwCl[ci]? = some q) (hq : q.1 = y.cls) (hn : As.length = n) (hst : stk = As.reverse ++ .ref k :: st) (h8 : (st.map fun v => v.category).sum ≤ 8) (hf : kc + c1 ≤ R.cells ∧ ks + s1 ≤ R.slots) (hc : kc + c1 ≤ mc) (hs : ks + s1 ≤ ms) (ho : Φ (.inr (E, M'))) : Jp p l e R s m args below meth c G nL mc ms Φ pc lv stk M kc ks :=
  E_callVp C hT hd hm K hR hk hci hq hn hst h8 hf hc hs (fun E9 M9 h9 => by injection h9 with h; injection h with a b; subst a b; exact ho) (fun v M9 h9 => nomatch h9)
end JX
/-- where the index of the next token is -/
def axF (ix : Nat) (K : Nat × Nat × Nat) : Nat := if K.1 = 0 then ix else ix + 1
theorem xtk.adv {X : Nat × (Nat → Nat)} {S : xS} (hS : sOK X S) {ix : Nat} {K : Nat × Nat × Nat} (h : xtk X S ix K) : xtk X S (axF ix K) (nextF X K.2.2) := by
  unfold axF
  by_cases h0 : K.1 = 0
  · rw [if_pos h0, (tkN_end h.n h0).2]; exact h
  · rw [if_neg h0]; exact h.next hS h0
theorem xtk.lt {X : Nat × (Nat → Nat)} {S : xS} (hS : sOK X S) {ix : Nat} {K : Nat × Nat × Nat} (h : xtk X S ix K) : ix < 4001 := Nat.lt_of_lt_of_le h.1 hS.2.1
