/-! System.arraycopy between two int arrays of the memory -/
def jcells (G : jG) (M : jMem) : List (Nat × va_E) := (List.range 2000).filterMap (fun k => (M.1 k).map (fun x => (jr G k, je G x)))
theorem jcells_mem {G : jG} {M : jMem} {q : Nat × va_E} : q ∈ jcells G M ↔ ∃ k x, k < 2000 ∧ M.1 k = some x ∧ q = (jr G k, je G x) := by
  unfold jcells
  rw [List.mem_filterMap]
  constructor
  · rintro ⟨k, hk, h⟩
    cases hx : M.1 k with
    | none => rw [hx] at h; cases h
    | some x => rw [hx] at h; cases h; exact ⟨k, x, List.mem_range.mp hk, hx, rfl⟩
  · rintro ⟨k, x, hk, hx, rfl⟩
    exact ⟨k, List.mem_range.mpr hk, by rw [hx]; rfl⟩
theorem jin_lt {k : Nat} (h : jin k) : k < 2000 := by unfold jin at h; omega
/-- each cell once -/
theorem jcells_nd {G : jG} {M : jMem} (hM : ∀ k x, M.1 k = some x → jin k) : ∀ (n : Nat) (i j : Nat) (a b : Nat × va_E), ((List.range n).filterMap (fun k => (M.1 k).map (fun x => (jr G k, je G x))))[i]? = some a → ((List.range n).filterMap (fun k => (M.1 k).map (fun x => (jr G k, je G x))))[j]? = some b → a.1 = b.1 → i = j := by
  intro n
  induction n with
  | zero => intro i j a b h; simp at h
  | succ n ih =>
    intro i j a b h1 h2 h
    have hmem : ∀ {i : Nat} {a : Nat × va_E}, ((List.range n).filterMap (fun k => (M.1 k).map (fun x => (jr G k, je G x))))[i]? = some a → ∃ k x, k < n ∧ M.1 k = some x ∧ a = (jr G k, je G x) := by
      intro i a hi
      have := List.mem_of_getElem? hi
      rw [List.mem_filterMap] at this
      obtain ⟨k, hk, e⟩ := this
      cases hx : M.1 k with
      | none => rw [hx] at e; cases e
      | some x => rw [hx] at e; cases e; exact ⟨k, x, List.mem_range.mp hk, hx, rfl⟩
    rw [List.range_succ, List.filterMap_append] at h1 h2
    cases hx : M.1 n with
    | none =>
      simp only [List.filterMap_cons, hx, Option.map_none, List.filterMap_nil, List.append_nil] at h1 h2
      exact ih i j a b h1 h2 h
    | some x =>
      simp only [List.filterMap_cons, hx, Option.map_some, List.filterMap_nil] at h1 h2
      rw [List.getElem?_append] at h1 h2
      split at h1
      · split at h2
        · exact ih i j a b h1 h2 h
        · obtain ⟨k, y, hk, hy, rfl⟩ := hmem h1
          have e2 := List.getElem?_eq_some_iff.mp h2
          obtain ⟨hlt, e2⟩ := e2
          have : b = (jr G n, je G x) := by
            have := List.mem_of_getElem? h2
            simpa using this
          rw [this] at h
          exact absurd (jr_inj (hM k y hy) (hM n x hx) h) (by omega)
      · split at h2
        · obtain ⟨k, y, hk, hy, rfl⟩ := hmem h2
          have : a = (jr G n, je G x) := by
            have := List.mem_of_getElem? h1
            simpa using this
          rw [this] at h
          exact absurd (jr_inj (hM n x hx) (hM k y hy) h) (by omega)
        · have g1 := (List.getElem?_eq_some_iff.mp h1).1
          have g2 := (List.getElem?_eq_some_iff.mp h2).1
          simp only [List.length_cons, List.length_nil] at g1 g2
          omega
theorem jcells_at {G : jG} {M : jMem} {H : Heap} (hM : jW G M H) {k : Nat} {x : va_E} (hk : M.1 k = some x) : ∃ i : Nat, (jcells G M)[i]? = some (jr G k, je G x) :=
  List.getElem?_of_mem (jcells_mem.mpr ⟨k, x, jin_lt (hM.1 k x hk).1, hk, rfl⟩)
def jcw : List Cond := [.methodLink RX4 22 arraycopyName, .native arraycopyName, .static arraycopyName, .initialized "java/lang/System"]
theorem jcw_in : ∀ w ∈ jcw, w ∈ jB := by
  have h : ∀ w ∈ jcw, w ∈ lw_tbl ∧ goodWord w = true := by decide +kernel
  exact fun w hw => jB_in (h w hw).1 (h w hw).2
theorem J_copy {p : Program} {l : Launch} {e : Env} {R : Room} {s : State} {m : MethodId} {args : Array Value} {below : List Frame} {meth : Method} {c : Code} {G : jG} {cc : ByteArray} {nL : Nat} {ret : Option FieldType} {mc ms pc : Nat} {out : jO} {lv : List (Option Value)} {st : List Value} {M M2 : jMem} (C : jX0 p l R s m args meth c G cc nL RX4 ret) {a b n0 n1 sp dp n : Nat} {f g : Nat → Nat} (hd : decode cc pc = .ok (.invokestatic 22, 3)) (ha : M.1 a = some (nA n0 f)) (hb : M.1 b = some (nA n1 g)) (h4 : sp + n ≤ n0) (h5 : dp + n ≤ n1) (h0 : n0 < 2 ^ 31) (h1 : n1 < 2 ^ 31) (hf : 1 ≤ R.frames) (hlo : (st.map fun v => v.category).sum + (nativeFrameWords "java/lang/System" "arraycopy" 5 + 11) ≤ R.locals) (hu : ju M b (nA n1 (va_cpy f g sp dp n)) = M2)
    (k' : J p l e R s m args below meth c G nL mc ms out (pc + 3) lv st M2 0 0) : J p l e R s m args below meth c G nL mc ms out pc lv (.int (nI n) :: .int (nI dp) :: .ref b :: .int (nI sp) :: .ref a :: st) M 0 0 := by
  subst hu
  intro H locs ls hM hS hl T0 hT0 X0
  have hsz : H.size = s.heap.size := by
    have := X0.heapSize
    have := X0.same.2.1
    have e1 : s.heap.size ≤ T0.heap.size := X0.same.2.1
    rw [hT0] at e1
    have e2 := X0.heapSize
    rw [hT0] at e2
    omega
  have hP : va_P G.2.2.1 vwCl (jcells G M) H := by
    intro i q hq
    obtain ⟨k, x, -, hx, rfl⟩ := jcells_mem.mp (List.mem_of_getElem? hq)
    exact (hM.at hx).2
  have hD : va_D (jA G) (jcells G M) := ⟨fun i j p q => jcells_nd (fun k x h => (hM.1 k x h).1) 2000 i j p q, fun i q hq => by
    obtain ⟨k, x, -, hx, rfl⟩ := jcells_mem.mp (List.mem_of_getElem? hq)
    exact (hM.at hx).1⟩
  obtain ⟨i0, hi0⟩ := jcells_at hM ha
  obtain ⟨i1, hi1⟩ := jcells_at hM hb
  have hw : ∀ w ∈ jcw, w.before args s = true := fun w h => C.w (jcw_in w h)
  have en : (nI n).toNatClampNeg = n := nI_clamp (by omega)
  have es : (nI sp).toNatClampNeg = sp := nI_clamp (by omega)
  have ed : (nI dp).toNatClampNeg = dp := nI_clamp (by omega)
  refine va_copyi (ty := .int) (index := 22) C.1 C.2.1 (by rw [C.2.2.1]; exact hl.1.symm) C.2.2.2.1 (hw _ (by decide)) (hw _ (by decide)) (hw _ (by decide)) (hw _ (by decide)) C.k hP hD hS i0 i1 0 0 (c0 := G.2.2.2 0) (c1 := G.2.2.2 0) (f := fun j => nI (f j)) (g := fun j => nI (g j)) hi0 hi1 rfl rfl rfl (sp := nI sp) (dp := nI dp) (n := nI n) (nI_pos (by omega)) (nI_pos (by omega)) (nI_pos (by omega)) (by rw [es, en]; exact h4) (by rw [ed, en]; exact h5) (fun _ _ => rfl) hf (by rw [jcat]; exact hlo) hd (fun H1 locs1 hP1 hD1 hS1 T hT X => ?_) T0 hT0 X0
  rw [es, ed, en] at hP1
  have hsz1 : H1.size = s.heap.size := by
    have e1 : s.heap.size ≤ T.heap.size := X.same.2.1
    have e2 := X.heapSize
    rw [hT] at e1 e2
    omega
  refine k' H1 locs1 ls ⟨fun k x hk => ?_, fun n9 h9 => ?_⟩ hS1 hl T hT X
  · have hk : va_up M.1 b (some (nA n1 (va_cpy f g sp dp n))) k = some x := hk
    by_cases e : k = b
    · subst e
      rw [va_up_self] at hk
      cases hk
      refine ⟨(hM.1 k _ hb).1, ?_⟩
      have h9 := hP1 i1 _ (List.getElem?_set_self (List.getElem?_eq_some_iff.mp hi1).1)
      have e9 : (fun j => nI (va_cpy f g sp dp n j)) = va_cpy (fun j => nI (f j)) (fun j => nI (g j)) sp dp n := by
        funext j
        unfold va_cpy
        split <;> rfl
      show va_at G.2.2.1 vwCl (jr G k, .inl (G.2.2.2 0, n1, .inl (fun j => nI (va_cpy f g sp dp n j)))) H1
      rw [e9]
      exact h9
    · rw [va_up_ne _ _ e] at hk
      have hj := hM.1 k x hk
      refine ⟨hj.1, ?_⟩
      obtain ⟨i, hi⟩ := jcells_at hM hk
      have hne : i1 ≠ i := by
        intro z
        subst z
        have := hi1.symm.trans hi
        have := congrArg Prod.fst (Option.some.inj this)
        exact e (jr_inj hj.1 (hM.1 b _ hb).1 this.symm)
      exact hP1 i _ (by rw [List.getElem?_set_ne hne]; exact hi)
  · have := hM.2 n9 h9
    omega
section JMM
variable {p : Program} {l : Launch} {e : Env} {R : Room} {s : State} {m : MethodId} {args : Array Value} {below : List Frame} {meth : Method} {c : Code} {G : jG} {cc : ByteArray} {nL : Nat} {own : String} {ret : Option FieldType}
variable {mc ms pc kc ks : Nat} {out : jO} {lv : List (Option Value)} {st : List Value} {M : jMem}
theorem J_min (C : jX0 p l R s m args meth c G cc nL own ret) {idx a b : Nat} (hd : decode cc pc = .ok (.invokestatic idx, 3)) (hm : jMs own idx yJ9_min_7cf53 cJ9_min_7cf53 2 (some .int) 2) (ha : a < 2 ^ 31) (hb : b < 2 ^ 31) (hf : 1 ≤ R.frames) (hlo : (st.map fun v => v.category).sum + 13 ≤ R.locals) (hc : kc ≤ R.cells) (hs : ks ≤ R.slots) (k' : J p l e R s m args below meth c G nL mc ms out (pc + 3) lv (.int (nI (min a b)) :: st) M kc ks) : J p l e R s m args below meth c G nL mc ms out pc lv (.int (nI b) :: .int (nI a) :: st) M kc ks := by
  intro H locs ls hM hS hl
  have e9 : (if nI b < nI a then nI b else nI a) = nI (min a b) := by
    by_cases h : b < a
    · rw [if_pos (nI_lt h ha), Nat.min_eq_right (by omega)]
    · rw [if_neg (fun z => h ((nI_ltI hb ha).mp z)), Nat.min_eq_left (by omega)]
  refine va_mmin C.1 C.2.1 (by rw [C.2.2.1]; exact hl.1.symm) C.2.2.2.1 (C.w hm.2.1) (C.w hm.2.2) (C.w hm.1.2.1) (C.w hm.1.1) hf (by rw [jcat]; exact hlo) hc hs hd ?_
  rw [e9]
  exact k' H locs ls hM hS hl
theorem J_absl (C : jX0 p l R s m args meth c G cc nL own ret) {idx : Nat} {v : Int64} (hd : decode cc pc = .ok (.invokestatic idx, 3)) (hm : jMs own idx yJ9_abs_067f4 cJ9_abs_067f4 2 (some .long) 1) (hf : 1 ≤ R.frames) (hlo : (st.map fun v => v.category).sum + 13 ≤ R.locals) (hc : kc ≤ R.cells) (hs : ks ≤ R.slots) (k' : J p l e R s m args below meth c G nL mc ms out (pc + 3) lv (.long (if 0 < v then v else -v) :: st) M kc ks) : J p l e R s m args below meth c G nL mc ms out pc lv (.long v :: st) M kc ks := by
  intro H locs ls hM hS hl
  exact va_mabs_long C.1 C.2.1 (by rw [C.2.2.1]; exact hl.1.symm) C.2.2.2.1 (C.w hm.2.1) (C.w hm.2.2) (C.w hm.1.2.1) (C.w hm.1.1) hf (by rw [jcat]; exact hlo) hc hs hd (k' H locs ls hM hS hl)
end JMM
