/-! J: A JUDGEMENT OF MY OWN OVER THE KIT'S W. One memory (index to cell, references are indices), one row an instruction. -/
/-- base address, addresses of the string constants, class numbers and slots, array classes -/
abbrev jG : Type := Nat × (Nat → Nat) × va_G × (Nat → ClassId)
/-- the memory: cells by their indices; how many cells the heap has from the base on, where that is known -/
abbrev jMem : Type := (Nat → Option va_E) × Option Nat
def ju (M : jMem) (k : Nat) (x : va_E) : jMem := (va_up M.1 k (some x), M.2)
/-- an outcome: an answer and the memory behind it, or an exception's class and the memory behind it -/
abbrev jO : Type := (Option Value × jMem) ⊕ (String × jMem)
def jA (G : jG) : Nat → Prop := fun q => G.1 ≤ q
/-- indices below 875: the class's cells; 1000 to 1999: the reference's, and what the law makes behind them; from 2000 on: string constants -/
def jr (G : jG) (k : Nat) : Nat := if k < 1000 then G.1 + k else if k < 2000 then G.1 + 875 + (k - 1000) else G.2.1 (k - 2000)
def jin (k : Nat) : Prop := k < 875 ∨ (1000 ≤ k ∧ k < 2000)
def jv (G : jG) (v : Value) : Value := match v with
  | .ref k => .ref (jr G k)
  | v => v
def je (G : jG) (x : va_E) : va_E := match x with
  | .inl (t, n, .inl f) => .inl (G.2.2.2 t, n, .inl f)
  | .inl (t, n, .inr (.inl f)) => .inl (G.2.2.2 t, n, .inr (.inl f))
  | .inl (t, n, .inr (.inr (.inl f))) => .inl (G.2.2.2 t, n, .inr (.inr (.inl f)))
  | .inl (t, n, .inr (.inr (.inr (.inl f)))) => .inl (G.2.2.2 t, n, .inr (.inr (.inr (.inl f))))
  | .inl (t, n, .inr (.inr (.inr (.inr f)))) => .inl (G.2.2.2 t, n, .inr (.inr (.inr (.inr (fun j => (f j).map (jr G))))))
  | .inr (ci, fs) => .inr (ci, fs.map (jv G))
def jW (G : jG) (M : jMem) (H : Heap) : Prop := (∀ (k : Nat) (x : va_E), M.1 k = some x → jin k ∧ va_at G.2.2.1 vwCl (jr G k, je G x) H) ∧ ∀ n : Nat, M.2 = some n → H.size = G.1 + n
def jT (G : jG) : List (ClassId × FieldType) := [(G.2.2.2 0, .int), (G.2.2.2 1, .long), (G.2.2.2 2, .object RX5), (G.2.2.2 3, .object RX6)]
def jK (G : jG) (U : State) : Prop := va_K G.2.2.1 vwCl (jT G) U
/-- the string constants: own class, pool entry, text, its letters -/
def jStr : List (String × Nat × String × List Nat) := [("OpForge", 71, "more than 4,000 octets", [109, 111, 114, 101, 32, 116, 104, 97, 110, 32, 52, 44, 48, 48, 48, 32, 111, 99, 116, 101, 116, 115]), ("OpForge", 171, "not so much is fed", [110, 111, 116, 32, 115, 111, 32, 109, 117, 99, 104, 32, 105, 115, 32, 102, 101, 100]), ("OpForge$Tokens", 56, "the text is wrong", [116, 104, 101, 32, 116, 101, 120, 116, 32, 105, 115, 32, 119, 114, 111, 110, 103]), ("OpForge$Splitter", 76, "width", [119, 105, 100, 116, 104]), ("OpForge$Splitter", 82, "set", [115, 101, 116]), ("OpForge$Splitter", 84, "op", [111, 112]), ("OpForge$Splitter", 86, "word", [119, 111, 114, 100]), ("OpForge$Splitter", 88, "u", [117]), ("OpForge$Splitter", 90, "s", [115]), ("OpForge$Splitter", 92, "p", [112]), ("OpForge", 175, "no description", [110, 111, 32, 100, 101, 115, 99, 114, 105, 112, 116, 105, 111, 110]), ("OpForge", 113, "no such word", [110, 111, 32, 115, 117, 99, 104, 32, 119, 111, 114, 100]), ("OpForge", 129, "no such operand", [110, 111, 32, 115, 117, 99, 104, 32, 111, 112, 101, 114, 97, 110, 100]), ("OpForge", 141, "no such op", [110, 111, 32, 115, 117, 99, 104, 32, 111, 112]), ("OpForge", 185, "an operand can not be that", [97, 110, 32, 111, 112, 101, 114, 97, 110, 100, 32, 99, 97, 110, 32, 110, 111, 116, 32, 98, 101, 32, 116, 104, 97, 116]), ("OpForge$Line", 64, "word 0x", [119, 111, 114, 100, 32, 48, 120]), ("OpForge$Line", 81, " ", [32]), ("OpForge$Line", 83, ", ", [44, 32]), ("OpForge", 152, "no such letters", [110, 111, 32, 115, 117, 99, 104, 32, 108, 101, 116, 116, 101, 114, 115]), ("OpForge", 168, "nothing to count", [110, 111, 116, 104, 105, 110, 103, 32, 116, 111, 32, 99, 111, 117, 110, 116]), ("OpForgeModel", 148, "width", [119, 105, 100, 116, 104]), ("OpForgeModel", 154, "set", [115, 101, 116]), ("OpForgeModel", 156, "op", [111, 112]), ("OpForgeModel", 158, "word", [119, 111, 114, 100]), ("OpForgeModel", 159, "u", [117]), ("OpForgeModel", 161, "s", [115]), ("OpForgeModel", 163, "p", [112]), ("OpForgeModel", 271, "word 0x", [119, 111, 114, 100, 32, 48, 120])]
/-- string constant i: where it lies and what it holds -/
def jStrAt (G : jG) (U : State) (H : Heap) (i : Nat) (q : String × Nat × String × List Nat) : Prop := vk_R q.1 q.2.1 q.2.2.1 (G.2.1 i) U ∧ va_O "java/lang/String" (G.2.1 i) (jA G) U H ∧ va_OF "java/lang/String" "coder" "B" (.int 0) (G.2.1 i) (jA G) U H ∧ va_OF "java/lang/String" "value" "[B" (.ref (G.2.1 (1000 + i))) (G.2.1 i) (jA G) U H ∧ va_T .byte (G.2.1 (1000 + i)) q.2.2.2.length (fun j => .int (nI (q.2.2.2.getD j 0))) (jA G) U H
/-- what stands outside the memory, at a state and a heap -/
def jS (G : jG) (U : State) (H : Heap) : Prop :=
  vx_Zq Bundle.tN "UNASSIGNED_STACK" Bundle.steD (jA G) U H ∧ vx_Zq Bundle.tN "SUPPRESSED_SENTINEL" Bundle.listD (jA G) U H ∧ (∀ w ∈ jN, va_Nw w U) ∧ va_AO RX5 U ∧ va_AO RX6 U ∧ va_Z "java/lang/String" "COMPACT_STRINGS" "Z" (.int 1) (jA G) U H ∧ (va_Z "jdk/internal/util/Preconditions" "SIOOBE_FORMATTER" "Ljava/util/function/BiFunction;" .null (jA G) U H ∨ va_Z "jdk/internal/util/Preconditions" "SIOOBE_FORMATTER" "Ljava/util/function/BiFunction;" (.ref (G.2.1 1999)) (jA G) U H) ∧ ∀ (i : Nat) (q : String × Nat × String × List Nat), jStr[i]? = some q → jStrAt G U H i q
def jH (G : jG) (M : jMem) (U : State) : Prop := jW G M U.heap ∧ jK G U ∧ jS G U U.heap ∧ G.1 ≤ U.heap.size
def jQ (G : jG) (out : jO) : Array Value → State → Outcome → State → Prop := fun _ st o t => match out with
  | .inl (v, M') => o = .returned (v.map (jv G)) ∧ jW G M' t.heap ∧ va_F (jA G) st t
  | .inr _ => False
def jX (G : jG) (out : jO) : String → State → State → Prop := fun E st t => match out with
  | .inl _ => False
  | .inr (E', M') => E = E' ∧ jW G M' t.heap ∧ va_F (jA G) st t
def jR (fr lo mc ms : Nat) : Room := { frames := fr, cells := mc, slots := ms, locals := lo }
abbrev jws (y : MethodName) (cc : ByteArray) (maxL : Nat) (ret : Option FieldType) : List Cond := Cond.code y cc maxL ret :: jB
/-- A CONTRACT: from memory M with these arguments method y comes to out -/
def jC (l : Launch) (G : jG) (y : MethodName) (cc : ByteArray) (maxL : Nat) (ret : Option FieldType) (fr lo mc ms : Nat) (As : List Value) (M : jMem) (out : jO) : Prop :=
  vx_Met l y (jws y cc maxL ret) (jR fr lo mc ms) (va_Pc (As.map (jv G)) (fun U => jH G M U)) (jQ G out) (jX G out) mc ms (jA G)
theorem jS.kept {G : jG} {U : State} {H H1 : Heap} (h : jS G U H) (hq : ∀ a : Nat, a < H.size → ¬ jA G a → H1[a]? = H[a]?) : jS G U H1 :=
  ⟨vx_Zq.kept h.1 hq, vx_Zq.kept h.2.1 hq, h.2.2.1, h.2.2.2.1, h.2.2.2.2.1, va_Z.kept h.2.2.2.2.2.1 hq, h.2.2.2.2.2.2.1.imp (fun z => z.kept hq) (fun z => z.kept hq), fun i q hi => by
    obtain ⟨a1, a2, a3, a4, a5⟩ := h.2.2.2.2.2.2.2 i q hi
    exact ⟨a1, a2.kept hq, a3.kept hq, a4.kept hq, a5.kept hq⟩⟩
theorem jS.warm {G : jG} {s U : State} {H : Heap} (hW : s.WarmedH U.vm) (h : jS G s H) : jS G U H := by
  refine ⟨vx_Zq.moved hW.alike h.1, vx_Zq.moved hW.alike h.2.1, fun w hw => ?_, va_AO.moved hW.alike h.2.2.2.1, va_AO.moved hW.alike h.2.2.2.2.1, va_Z.moved hW.alike h.2.2.2.2.2.1, h.2.2.2.2.2.2.1.imp (va_Z.moved hW.alike) (va_Z.moved hW.alike), fun i q hi => by
    obtain ⟨a1, a2, a3, a4, a5⟩ := h.2.2.2.2.2.2.2 i q hi
    exact ⟨a1.warm hW, va_O.moved hW.alike a2, va_OF.moved hW.alike a3, va_OF.moved hW.alike a4, va_T.moved hW.alike a5⟩⟩
  have h3 := h.2.2.1 w hw
  have h4 := (List.mem_filter.mp hw).2
  cases w <;> first | exact va_Nw.warmM hW h3 | exact va_Nw.warmF hW h3 | exact va_Nw.warmD hW h3 | exact va_Nw.warmC hW h3 | (simp [jNk] at h4; done)
theorem jS.calling {G : jG} {U : State} {H : Heap} {g : JFrame} {mk : MethodId} {a : Array Value} (h : jS G U H) : jS G (U.calling g mk a) H := by
  refine ⟨vx_Zq.moved (Vm.Alike.refl U.vm) h.1, vx_Zq.moved (Vm.Alike.refl U.vm) h.2.1, fun w hw => ?_, va_AO.moved (Vm.Alike.refl U.vm) h.2.2.2.1, va_AO.moved (Vm.Alike.refl U.vm) h.2.2.2.2.1, va_Z.moved (Vm.Alike.refl U.vm) h.2.2.2.2.2.1, h.2.2.2.2.2.2.1.imp (va_Z.moved (Vm.Alike.refl U.vm)) (va_Z.moved (Vm.Alike.refl U.vm)), fun i q hi => by
    obtain ⟨a1, a2, a3, a4, a5⟩ := h.2.2.2.2.2.2.2 i q hi
    exact ⟨vk_R.same rfl a1, va_O.moved (Vm.Alike.refl U.vm) a2, va_OF.moved (Vm.Alike.refl U.vm) a3, va_OF.moved (Vm.Alike.refl U.vm) a4, va_T.moved (Vm.Alike.refl U.vm) a5⟩⟩
  have h3 := h.2.2.1 w hw
  have h4 := (List.mem_filter.mp hw).2
  exact va_Nw.same (u := U) (U := U.calling g mk a) (jN_tab h4) rfl h3
theorem jH.blind {G : jG} {M : jMem} {As : List Value} : FrameBlind (va_Pc As (fun U => jH G M U)) := by
  intro a U g mk h
  exact ⟨h.1, h.2.1, va_K.moved (u := U) (U := U.calling g mk a) (Vm.Alike.refl U.vm) h.2.2.1, jS.calling h.2.2.2.1, h.2.2.2.2⟩
theorem jr_ge {G : jG} {k : Nat} (h : jin k) : G.1 ≤ jr G k := by
  unfold jin at h
  unfold jr
  split
  · omega
  · split
    · omega
    · omega
theorem jr_inj {G : jG} {j k : Nat} (hj : jin j) (hk : jin k) (h : jr G j = jr G k) : j = k := by
  unfold jin at hj hk
  unfold jr at h
  split at h <;> split at h <;> (first | omega | (split at h <;> (first | omega | (split at h <;> omega))))
theorem jW.at {G : jG} {M : jMem} {H : Heap} (h : jW G M H) {k : Nat} {x : va_E} (hk : M.1 k = some x) : G.1 ≤ jr G k ∧ va_at G.2.2.1 vwCl (jr G k, je G x) H := ⟨jr_ge (h.1 k x hk).1, (h.1 k x hk).2⟩
/-- a cell is written: the others stay -/
theorem jW.set {G : jG} {M : jMem} {H H1 : Heap} {k : Nat} {x y : va_E} (h : jW G M H) (hk : M.1 k = some x) (hn : va_at G.2.2.1 vwCl (jr G k, je G y) H1) (hz : H1.size = H.size) (ho : ∀ q : Nat, q ≠ jr G k → H1[q]? = H[q]?) : jW G (ju M k y) H1 := by
  refine ⟨fun j z hj => ?_, fun n hn => hz.trans (h.2 n hn)⟩
  obtain ⟨h1, -⟩ := h.1 k x hk
  have hj : va_up M.1 k (some y) j = some z := hj
  by_cases e : j = k
  · subst e
    rw [va_up_self] at hj
    cases hj
    exact ⟨h1, hn⟩
  · rw [va_up_ne _ _ e] at hj
    obtain ⟨h2, h3⟩ := h.1 j z hj
    exact ⟨h2, h3.kept (ho _ (fun q => e (jr_inj h2 h1 q)))⟩
/-- nothing of it is written, no cell is made or cells are made where nothing is said of their number -/
theorem jW.keep {G : jG} {M : jMem} {H H1 : Heap} (h : jW G M H) (hn : M.2 = none) (ho : ∀ q : Nat, q < H.size → H1[q]? = H[q]?) : jW G M H1 :=
  ⟨fun k x hk => ⟨(h.1 k x hk).1, (h.1 k x hk).2.kept (ho _ (h.1 k x hk).2.lt)⟩, fun n hn' => by rw [hn] at hn'; cases hn'⟩
section JCTX
variable {p : Program} {l : Launch} {e : Env} {R : Room} {s : State} {m : MethodId} {args : Array Value} {below : List Frame} {meth : Method} {c : Code} {G : jG} {cc : ByteArray} {nL : Nat} {own : String} {ret : Option FieldType}
/-- what holds in a method's body -/
def jX0 (p : Program) (l : Launch) (R : Room) (s : State) (m : MethodId) (args : Array Value) (meth : Method) (c : Code) (G : jG) (cc : ByteArray) (nL : Nat) (own : String) (ret : Option FieldType) : Prop :=
  p.tables.exec = Jvm.exec ∧ c.code = cc ∧ c.maxLocals = nL ∧ s.vm.findClass own = some m.cls ∧ (∀ w ∈ jB, w.before args s = true) ∧ meth.sig.returnType = ret ∧ meth.locks = false ∧ jK G s ∧ jS G s s.heap ∧ G.1 ≤ s.heap.size
/-- the locals as a list of slots -/
def jasc (G : jG) : Nat → List (Option Value) → List (Nat × Value)
  | _, [] => []
  | i, none :: r => jasc G (i + 1) r
  | i, some v :: r => (i, jv G v) :: jasc G (i + 1) r
def jL (G : jG) (ls : Array Slot) (nL : Nat) (lv : List (Option Value)) : Prop := lv_has ls nL (jasc G 0 lv)
/-- THE JUDGEMENT: from here the method comes to out -/
def J (p : Program) (l : Launch) (e : Env) (R : Room) (s : State) (m : MethodId) (args : Array Value) (below : List Frame) (meth : Method) (c : Code) (G : jG) (nL mc ms : Nat) (out : jO) (pc : Nat) (lv : List (Option Value)) (st : List Value) (M : jMem) (kc ks : Nat) : Prop :=
  ∀ (H : Heap) (locs : List Loc) (ls : Array Slot), jW G M H → va_S (jA G) s.heap H locs → jL G ls nL lv →
    W p l e R s m args below meth c H locs kc ks (vx_MQ below (jQ G out) (jX G out) args s mc ms (jA G)) (F0 m pc ls (st.map (jv G)))
variable {mc ms pc kc ks : Nat} {out : jO} {lv : List (Option Value)} {st : List Value} {M : jMem}
theorem J.to {M' : jMem} (h : M = M') (k : J p l e R s m args below meth c G nL mc ms out pc lv st M' kc ks) : J p l e R s m args below meth c G nL mc ms out pc lv st M kc ks := h ▸ k
theorem jv_cat (v : Value) : (jv G v).category = v.category := by cases v <;> rfl
theorem jasc_mem {lv : List (Option Value)} : ∀ {n i : Nat} {w : Value}, (i, w) ∈ jasc G n lv ↔ ∃ v, n ≤ i ∧ lv[i - n]? = some (some v) ∧ w = jv G v := by
  induction lv with
  | nil => intro n i w; simp [jasc]
  | cons a r ih =>
    intro n i w
    cases a with
    | none =>
      show (i, w) ∈ jasc G (n + 1) r ↔ _
      rw [ih]
      constructor
      · rintro ⟨v, h1, h2, h3⟩
        refine ⟨v, by omega, ?_, h3⟩
        rw [show i - n = (i - (n + 1)) + 1 by omega]
        exact h2
      · rintro ⟨v, h1, h2, h3⟩
        have hne : i ≠ n := by
          intro e
          subst e
          simp at h2
        refine ⟨v, by omega, ?_, h3⟩
        rw [show i - n = (i - (n + 1)) + 1 by omega] at h2
        exact h2
    | some u =>
      show (i, w) ∈ (n, jv G u) :: jasc G (n + 1) r ↔ _
      rw [List.mem_cons, ih]
      constructor
      · rintro (h | ⟨v, h1, h2, h3⟩)
        · cases h
          exact ⟨u, Nat.le_refl _, by simp, rfl⟩
        · refine ⟨v, by omega, ?_, h3⟩
          rw [show i - n = (i - (n + 1)) + 1 by omega]
          exact h2
      · rintro ⟨v, h1, h2, h3⟩
        by_cases e : i = n
        · subst e
          simp at h2
          rw [h3, ← h2]
          exact Or.inl rfl
        · refine Or.inr ⟨v, by omega, ?_, h3⟩
          rw [show i - n = (i - (n + 1)) + 1 by omega] at h2
          exact h2
theorem jL.get {ls : Array Slot} {i : Nat} {v : Value} (hl : jL G ls nL lv) (h : lv[i]? = some (some v)) : ls[i]? = some (.val (jv G v)) :=
  hl.2.2 (i, jv G v) (jasc_mem.mpr ⟨v, Nat.zero_le _, h, rfl⟩)
/-- the slot ahead of i holds no long -/
def jok (lv : List (Option Value)) (i : Nat) : Bool := match i with
  | 0 => true
  | j + 1 => match lv[j]? with
    | some (some v) => v.category != 2
    | _ => true
theorem jL.set1 {ls ls' : Array Slot} {i : Nat} {v : Value} (h' : lv_has ls' nL ((i, jv G v) :: (jasc G 0 lv).filter (fun q => !(q.1 == i) && !(q.1 + 1 == i && q.2.category == 2)))) (hok : jok lv i = true) : jL G ls' nL (lv.set i (some v)) := by
  refine ⟨h'.1, h'.2.1, fun q hq => h'.2.2 q ?_⟩
  obtain ⟨j, w⟩ := q
  obtain ⟨u, -, h2, rfl⟩ := jasc_mem.mp hq
  rw [Nat.sub_zero, List.getElem?_set] at h2
  by_cases e : i = j
  · subst e
    rw [if_pos rfl] at h2
    by_cases hl : i < lv.length
    · rw [if_pos hl] at h2
      cases h2
      exact List.mem_cons_self
    · rw [if_neg hl] at h2
      cases h2
  · rw [if_neg e] at h2
    refine List.mem_cons_of_mem _ (List.mem_filter.mpr ⟨jasc_mem.mpr ⟨u, Nat.zero_le _, by simpa using h2, rfl⟩, ?_⟩)
    have e1 : (j == i) = false := by simpa using fun q => e q.symm
    have e2 : (j + 1 == i && (jv G u).category == 2) = false := by
      by_cases q : j + 1 = i
      · subst q
        simp only [jok, h2] at hok
        rw [jv_cat]
        simpa using hok
      · have : (j + 1 == i) = false := by simpa using q
        rw [this]; rfl
    show (!(j == i) && !(j + 1 == i && (jv G u).category == 2)) = true
    rw [e1, e2]; rfl
theorem jL.set2 {ls ls' : Array Slot} {i : Nat} {v : Value} (h' : lv_has ls' nL ((i, jv G v) :: (jasc G 0 lv).filter (fun q => !(q.1 == i) && (!(q.1 == i + 1) && !(q.1 + 1 == i && q.2.category == 2))))) (hok : jok lv i = true) : jL G ls' nL ((lv.set i (some v)).set (i + 1) none) := by
  refine ⟨h'.1, h'.2.1, fun q hq => h'.2.2 q ?_⟩
  obtain ⟨j, w⟩ := q
  obtain ⟨u, -, h2, rfl⟩ := jasc_mem.mp hq
  rw [Nat.sub_zero, List.getElem?_set] at h2
  by_cases e3 : i + 1 = j
  · rw [if_pos e3] at h2
    split at h2 <;> cases h2
  · rw [if_neg e3, List.getElem?_set] at h2
    by_cases e : i = j
    · subst e
      rw [if_pos rfl] at h2
      by_cases hl : i < lv.length
      · rw [if_pos hl] at h2
        cases h2
        exact List.mem_cons_self
      · rw [if_neg hl] at h2
        cases h2
    · rw [if_neg e] at h2
      refine List.mem_cons_of_mem _ (List.mem_filter.mpr ⟨jasc_mem.mpr ⟨u, Nat.zero_le _, by simpa using h2, rfl⟩, ?_⟩)
      have e1 : (j == i) = false := by simpa using fun q => e q.symm
      have e4 : (j == i + 1) = false := by simpa using fun q => e3 q.symm
      have e2 : (j + 1 == i && (jv G u).category == 2) = false := by
        by_cases q : j + 1 = i
        · subst q
          simp only [jok, h2] at hok
          rw [jv_cat]
          simpa using hok
        · have : (j + 1 == i) = false := by simpa using q
          rw [this]; rfl
      show (!(j == i) && (!(j == i + 1) && !(j + 1 == i && (jv G u).category == 2))) = true
      rw [e1, e2, e4]; rfl
/-- fewer locals are known -/
def jfew : List (Option Value) → List (Option Value) → Prop
  | [], _ => True
  | none :: r, [] => jfew r []
  | none :: r, _ :: t => jfew r t
  | some v :: r, [] => False
  | some v :: r, a :: t => a = some v ∧ jfew r t
theorem jfew_get : ∀ {lv' lv : List (Option Value)}, jfew lv' lv → ∀ {i : Nat} {v : Value}, lv'[i]? = some (some v) → lv[i]? = some (some v) := by
  intro lv'
  induction lv' with
  | nil => intro lv _ i v h; simp at h
  | cons a r ih =>
    intro lv hf i v h
    cases i with
    | zero =>
      simp at h
      subst h
      cases lv with
      | nil => exact hf.elim
      | cons b t => simp [hf.1]
    | succ i =>
      have h' : r[i]? = some (some v) := by simpa using h
      cases a with
      | none =>
        cases lv with
        | nil => have := ih (lv := []) hf h'; simp at this
        | cons b t => simpa using ih (lv := t) hf h'
      | some w =>
        cases lv with
        | nil => exact hf.elim
        | cons b t => simpa using ih (lv := t) hf.2 h'
theorem J.few {lv' : List (Option Value)} (h : jfew lv' lv) (k : J p l e R s m args below meth c G nL mc ms out pc lv' st M kc ks) : J p l e R s m args below meth c G nL mc ms out pc lv st M kc ks := by
  intro H locs ls hM hS hl
  refine k H locs ls hM hS ⟨hl.1, hl.2.1, fun q hq => ?_⟩
  obtain ⟨i, w⟩ := q
  obtain ⟨v, -, h2, rfl⟩ := jasc_mem.mp hq
  exact jL.get hl (jfew_get h (by simpa using h2))
end JCTX
