/-! LAW: what the Statement gives of the start -/
abbrev jQs : Type := String × Nat × String × List Nat
def strV (q : jQs) : Term := .field (.string q.1 q.2.1) "java/lang/String" "value" "[B"
def strW (q : jQs) : List Cond := Cond.exactly (.string q.1 q.2.1) "java/lang/String" :: Cond.eq (.field (.string q.1 q.2.1) "java/lang/String" "coder" "B") (.int (nI 0)) :: Cond.arrayOf (strV q) .byte :: Cond.eq (.length (strV q)) (.int (nI q.2.2.2.length)) :: (List.range q.2.2.2.length).map (fun j => Cond.eq (.elem (strV q) (.int (nI j))) (.int (nI (q.2.2.2.getD j 0))))
def nF : List Cond := flatC (Jvm.Cond.and given_1 narrow_1)
theorem of_fld {args : Array Value} {s : State} {tm : Term} {o n d : String} {a : Nat} {v : Value} {A : Nat → Prop} (hev : tm.eval args s none [] s = some (.ref a)) (hv : (Term.field tm o n d).eval args s none [] s = some v) (hA : ∀ a : Nat, a < s.heap.size → ¬ A a) : va_OF o n d v a A s s.heap := by
  cases hfo : s.fieldFound? o n d with
  | none =>
    rw [va_fe hev] at hv
    simp [State.fieldOf?, State.fieldNamed?, hfo] at hv
  | some x =>
    obtain ⟨cf, k, fi, f⟩ := x
    obtain ⟨g1, cell, g2, g3, -, -, g6⟩ := Term.field_spec hfo hev hv
    exact ⟨cf, k, fi, f, cell, hfo, g1, g2, g3, g6, hA _ (Array.getElem?_eq_some_iff.mp g2).1⟩
theorem str_at {args : Array Value} {s : State} {A : Nat → Prop} (q : jQs) (hw : ∀ w ∈ strW q, w.before args s = true) (hsr : (Cond.stringRef q.1 q.2.1 q.2.2.1).before args s = true) (hlen : q.2.2.2.length < 2 ^ 31) (hA : ∀ a : Nat, a < s.heap.size → ¬ A a) :
    ∃ z : Nat × Nat, vk_R q.1 q.2.1 q.2.2.1 z.1 s ∧ va_O "java/lang/String" z.1 A s s.heap ∧ va_OF "java/lang/String" "coder" "B" (.int 0) z.1 A s s.heap ∧ va_OF "java/lang/String" "value" "[B" (.ref z.2) z.1 A s s.heap ∧ va_T .byte z.2 q.2.2.2.length (fun j => .int (nI (q.2.2.2.getD j 0))) A s s.heap := by
  have h1 := hw _ (List.mem_cons_self)
  have h2 := hw _ (List.mem_cons_of_mem _ List.mem_cons_self)
  have h3 := hw _ (List.mem_cons_of_mem _ (List.mem_cons_of_mem _ List.mem_cons_self))
  have h4 := hw _ (List.mem_cons_of_mem _ (List.mem_cons_of_mem _ (List.mem_cons_of_mem _ List.mem_cons_self)))
  have h5 : ∀ j, j < q.2.2.2.length → (Cond.eq (.elem (strV q) (.int (nI j))) (.int (nI (q.2.2.2.getD j 0)))).before args s = true := fun j hj => hw _ (List.mem_cons_of_mem _ (List.mem_cons_of_mem _ (List.mem_cons_of_mem _ (List.mem_cons_of_mem _ (List.mem_map.mpr ⟨j, List.mem_range.mpr hj, rfl⟩)))))
  obtain ⟨a, c, cA, kA, q1, -⟩ := Cond.exactly_spec (args := args) (first := s) (o := none) (s := s) (idx := []) (t := Term.string q.1 q.2.1) (cls := "java/lang/String") h1
  obtain ⟨t, ht, hT⟩ := va_Tof (A := A) hlen h3 (va_eqt h4) (fun j hj => va_eqt (h5 j hj)) hA
  exact ⟨(a, t), vk_R.of hsr q1, va_Oof h1 q1 hA, of_fld q1 (va_eqt h2) hA, of_fld q1 ht hA, hT⟩
theorem sw_0 : ∀ w ∈ strW ("OpForge", 71, "more than 4,000 octets", [109, 111, 114, 101, 32, 116, 104, 97, 110, 32, 52, 44, 48, 48, 48, 32, 111, 99, 116, 101, 116, 115]), w ∈ nF := by
  have e : (nF.drop 53).take 26 = strW ("OpForge", 71, "more than 4,000 octets", [109, 111, 114, 101, 32, 116, 104, 97, 110, 32, 52, 44, 48, 48, 48, 32, 111, 99, 116, 101, 116, 115]) := by decide +kernel
  intro w hw
  rw [← e] at hw
  exact List.mem_of_mem_drop (List.mem_of_mem_take hw)
theorem sr_0 : Cond.stringRef "OpForge" 71 "more than 4,000 octets" ∈ lw_tbl := List.mem_of_getElem? (i := 480) (by decide +kernel)
theorem sw_1 : ∀ w ∈ strW ("OpForge", 171, "not so much is fed", [110, 111, 116, 32, 115, 111, 32, 109, 117, 99, 104, 32, 105, 115, 32, 102, 101, 100]), w ∈ nF := by
  have e : (nF.drop 79).take 22 = strW ("OpForge", 171, "not so much is fed", [110, 111, 116, 32, 115, 111, 32, 109, 117, 99, 104, 32, 105, 115, 32, 102, 101, 100]) := by decide +kernel
  intro w hw
  rw [← e] at hw
  exact List.mem_of_mem_drop (List.mem_of_mem_take hw)
theorem sr_1 : Cond.stringRef "OpForge" 171 "not so much is fed" ∈ lw_tbl := List.mem_of_getElem? (i := 523) (by decide +kernel)
theorem sw_2 : ∀ w ∈ strW ("OpForge$Tokens", 56, "the text is wrong", [116, 104, 101, 32, 116, 101, 120, 116, 32, 105, 115, 32, 119, 114, 111, 110, 103]), w ∈ nF := by
  have e : (nF.drop 101).take 21 = strW ("OpForge$Tokens", 56, "the text is wrong", [116, 104, 101, 32, 116, 101, 120, 116, 32, 105, 115, 32, 119, 114, 111, 110, 103]) := by decide +kernel
  intro w hw
  rw [← e] at hw
  exact List.mem_of_mem_drop (List.mem_of_mem_take hw)
theorem sr_2 : Cond.stringRef "OpForge$Tokens" 56 "the text is wrong" ∈ lw_tbl := List.mem_of_getElem? (i := 545) (by decide +kernel)
theorem sw_3 : ∀ w ∈ strW ("OpForge$Splitter", 76, "width", [119, 105, 100, 116, 104]), w ∈ nF := by
  have e : (nF.drop 122).take 9 = strW ("OpForge$Splitter", 76, "width", [119, 105, 100, 116, 104]) := by decide +kernel
  intro w hw
  rw [← e] at hw
  exact List.mem_of_mem_drop (List.mem_of_mem_take hw)
theorem sr_3 : Cond.stringRef "OpForge$Splitter" 76 "width" ∈ lw_tbl := List.mem_of_getElem? (i := 600) (by decide +kernel)
theorem sw_4 : ∀ w ∈ strW ("OpForge$Splitter", 82, "set", [115, 101, 116]), w ∈ nF := by
  have e : (nF.drop 131).take 7 = strW ("OpForge$Splitter", 82, "set", [115, 101, 116]) := by decide +kernel
  intro w hw
  rw [← e] at hw
  exact List.mem_of_mem_drop (List.mem_of_mem_take hw)
theorem sr_4 : Cond.stringRef "OpForge$Splitter" 82 "set" ∈ lw_tbl := List.mem_of_getElem? (i := 653) (by decide +kernel)
theorem sw_5 : ∀ w ∈ strW ("OpForge$Splitter", 84, "op", [111, 112]), w ∈ nF := by
  have e : (nF.drop 138).take 6 = strW ("OpForge$Splitter", 84, "op", [111, 112]) := by decide +kernel
  intro w hw
  rw [← e] at hw
  exact List.mem_of_mem_drop (List.mem_of_mem_take hw)
theorem sr_5 : Cond.stringRef "OpForge$Splitter" 84 "op" ∈ lw_tbl := List.mem_of_getElem? (i := 654) (by decide +kernel)
theorem sw_6 : ∀ w ∈ strW ("OpForge$Splitter", 86, "word", [119, 111, 114, 100]), w ∈ nF := by
  have e : (nF.drop 144).take 8 = strW ("OpForge$Splitter", 86, "word", [119, 111, 114, 100]) := by decide +kernel
  intro w hw
  rw [← e] at hw
  exact List.mem_of_mem_drop (List.mem_of_mem_take hw)
theorem sr_6 : Cond.stringRef "OpForge$Splitter" 86 "word" ∈ lw_tbl := List.mem_of_getElem? (i := 655) (by decide +kernel)
theorem sw_7 : ∀ w ∈ strW ("OpForge$Splitter", 88, "u", [117]), w ∈ nF := by
  have e : (nF.drop 152).take 5 = strW ("OpForge$Splitter", 88, "u", [117]) := by decide +kernel
  intro w hw
  rw [← e] at hw
  exact List.mem_of_mem_drop (List.mem_of_mem_take hw)
theorem sr_7 : Cond.stringRef "OpForge$Splitter" 88 "u" ∈ lw_tbl := List.mem_of_getElem? (i := 656) (by decide +kernel)
theorem sw_8 : ∀ w ∈ strW ("OpForge$Splitter", 90, "s", [115]), w ∈ nF := by
  have e : (nF.drop 157).take 5 = strW ("OpForge$Splitter", 90, "s", [115]) := by decide +kernel
  intro w hw
  rw [← e] at hw
  exact List.mem_of_mem_drop (List.mem_of_mem_take hw)
theorem sr_8 : Cond.stringRef "OpForge$Splitter" 90 "s" ∈ lw_tbl := List.mem_of_getElem? (i := 657) (by decide +kernel)
theorem sw_9 : ∀ w ∈ strW ("OpForge$Splitter", 92, "p", [112]), w ∈ nF := by
  have e : (nF.drop 162).take 5 = strW ("OpForge$Splitter", 92, "p", [112]) := by decide +kernel
  intro w hw
  rw [← e] at hw
  exact List.mem_of_mem_drop (List.mem_of_mem_take hw)
theorem sr_9 : Cond.stringRef "OpForge$Splitter" 92 "p" ∈ lw_tbl := List.mem_of_getElem? (i := 658) (by decide +kernel)
theorem sw_10 : ∀ w ∈ strW ("OpForge", 175, "no description", [110, 111, 32, 100, 101, 115, 99, 114, 105, 112, 116, 105, 111, 110]), w ∈ nF := by
  have e : (nF.drop 167).take 18 = strW ("OpForge", 175, "no description", [110, 111, 32, 100, 101, 115, 99, 114, 105, 112, 116, 105, 111, 110]) := by decide +kernel
  intro w hw
  rw [← e] at hw
  exact List.mem_of_mem_drop (List.mem_of_mem_take hw)
theorem sr_10 : Cond.stringRef "OpForge" 175 "no description" ∈ lw_tbl := List.mem_of_getElem? (i := 798) (by decide +kernel)
theorem sw_11 : ∀ w ∈ strW ("OpForge", 113, "no such word", [110, 111, 32, 115, 117, 99, 104, 32, 119, 111, 114, 100]), w ∈ nF := by
  have e : (nF.drop 185).take 16 = strW ("OpForge", 113, "no such word", [110, 111, 32, 115, 117, 99, 104, 32, 119, 111, 114, 100]) := by decide +kernel
  intro w hw
  rw [← e] at hw
  exact List.mem_of_mem_drop (List.mem_of_mem_take hw)
theorem sr_11 : Cond.stringRef "OpForge" 113 "no such word" ∈ lw_tbl := List.mem_of_getElem? (i := 894) (by decide +kernel)
theorem sw_12 : ∀ w ∈ strW ("OpForge", 129, "no such operand", [110, 111, 32, 115, 117, 99, 104, 32, 111, 112, 101, 114, 97, 110, 100]), w ∈ nF := by
  have e : (nF.drop 201).take 19 = strW ("OpForge", 129, "no such operand", [110, 111, 32, 115, 117, 99, 104, 32, 111, 112, 101, 114, 97, 110, 100]) := by decide +kernel
  intro w hw
  rw [← e] at hw
  exact List.mem_of_mem_drop (List.mem_of_mem_take hw)
theorem sr_12 : Cond.stringRef "OpForge" 129 "no such operand" ∈ lw_tbl := List.mem_of_getElem? (i := 917) (by decide +kernel)
theorem sw_13 : ∀ w ∈ strW ("OpForge", 141, "no such op", [110, 111, 32, 115, 117, 99, 104, 32, 111, 112]), w ∈ nF := by
  have e : (nF.drop 220).take 14 = strW ("OpForge", 141, "no such op", [110, 111, 32, 115, 117, 99, 104, 32, 111, 112]) := by decide +kernel
  intro w hw
  rw [← e] at hw
  exact List.mem_of_mem_drop (List.mem_of_mem_take hw)
theorem sr_13 : Cond.stringRef "OpForge" 141 "no such op" ∈ lw_tbl := List.mem_of_getElem? (i := 929) (by decide +kernel)
theorem sw_14 : ∀ w ∈ strW ("OpForge", 185, "an operand can not be that", [97, 110, 32, 111, 112, 101, 114, 97, 110, 100, 32, 99, 97, 110, 32, 110, 111, 116, 32, 98, 101, 32, 116, 104, 97, 116]), w ∈ nF := by
  have e : (nF.drop 234).take 30 = strW ("OpForge", 185, "an operand can not be that", [97, 110, 32, 111, 112, 101, 114, 97, 110, 100, 32, 99, 97, 110, 32, 110, 111, 116, 32, 98, 101, 32, 116, 104, 97, 116]) := by decide +kernel
  intro w hw
  rw [← e] at hw
  exact List.mem_of_mem_drop (List.mem_of_mem_take hw)
theorem sr_14 : Cond.stringRef "OpForge" 185 "an operand can not be that" ∈ lw_tbl := List.mem_of_getElem? (i := 936) (by decide +kernel)
theorem sw_15 : ∀ w ∈ strW ("OpForge$Line", 64, "word 0x", [119, 111, 114, 100, 32, 48, 120]), w ∈ nF := by
  have e : (nF.drop 264).take 11 = strW ("OpForge$Line", 64, "word 0x", [119, 111, 114, 100, 32, 48, 120]) := by decide +kernel
  intro w hw
  rw [← e] at hw
  exact List.mem_of_mem_drop (List.mem_of_mem_take hw)
theorem sr_15 : Cond.stringRef "OpForge$Line" 64 "word 0x" ∈ lw_tbl := List.mem_of_getElem? (i := 955) (by decide +kernel)
theorem sw_16 : ∀ w ∈ strW ("OpForge$Line", 81, " ", [32]), w ∈ nF := by
  have e : (nF.drop 275).take 5 = strW ("OpForge$Line", 81, " ", [32]) := by decide +kernel
  intro w hw
  rw [← e] at hw
  exact List.mem_of_mem_drop (List.mem_of_mem_take hw)
theorem sr_16 : Cond.stringRef "OpForge$Line" 81 " " ∈ lw_tbl := List.mem_of_getElem? (i := 974) (by decide +kernel)
theorem sw_17 : ∀ w ∈ strW ("OpForge$Line", 83, ", ", [44, 32]), w ∈ nF := by
  have e : (nF.drop 280).take 6 = strW ("OpForge$Line", 83, ", ", [44, 32]) := by decide +kernel
  intro w hw
  rw [← e] at hw
  exact List.mem_of_mem_drop (List.mem_of_mem_take hw)
theorem sr_17 : Cond.stringRef "OpForge$Line" 83 ", " ∈ lw_tbl := List.mem_of_getElem? (i := 975) (by decide +kernel)
theorem sw_18 : ∀ w ∈ strW ("OpForge", 152, "no such letters", [110, 111, 32, 115, 117, 99, 104, 32, 108, 101, 116, 116, 101, 114, 115]), w ∈ nF := by
  have e : (nF.drop 286).take 19 = strW ("OpForge", 152, "no such letters", [110, 111, 32, 115, 117, 99, 104, 32, 108, 101, 116, 116, 101, 114, 115]) := by decide +kernel
  intro w hw
  rw [← e] at hw
  exact List.mem_of_mem_drop (List.mem_of_mem_take hw)
theorem sr_18 : Cond.stringRef "OpForge" 152 "no such letters" ∈ lw_tbl := List.mem_of_getElem? (i := 992) (by decide +kernel)
theorem sw_19 : ∀ w ∈ strW ("OpForge", 168, "nothing to count", [110, 111, 116, 104, 105, 110, 103, 32, 116, 111, 32, 99, 111, 117, 110, 116]), w ∈ nF := by
  have e : (nF.drop 305).take 20 = strW ("OpForge", 168, "nothing to count", [110, 111, 116, 104, 105, 110, 103, 32, 116, 111, 32, 99, 111, 117, 110, 116]) := by decide +kernel
  intro w hw
  rw [← e] at hw
  exact List.mem_of_mem_drop (List.mem_of_mem_take hw)
theorem sr_19 : Cond.stringRef "OpForge" 168 "nothing to count" ∈ lw_tbl := List.mem_of_getElem? (i := 1004) (by decide +kernel)
theorem sw_20 : ∀ w ∈ strW ("OpForgeModel", 148, "width", [119, 105, 100, 116, 104]), w ∈ nF := by
  have e : (nF.drop 325).take 9 = strW ("OpForgeModel", 148, "width", [119, 105, 100, 116, 104]) := by decide +kernel
  intro w hw
  rw [← e] at hw
  exact List.mem_of_mem_drop (List.mem_of_mem_take hw)
theorem sr_20 : Cond.stringRef "OpForgeModel" 148 "width" ∈ lw_tbl := List.mem_of_getElem? (i := 1174) (by decide +kernel)
theorem sw_21 : ∀ w ∈ strW ("OpForgeModel", 154, "set", [115, 101, 116]), w ∈ nF := by
  have e : (nF.drop 335).take 7 = strW ("OpForgeModel", 154, "set", [115, 101, 116]) := by decide +kernel
  intro w hw
  rw [← e] at hw
  exact List.mem_of_mem_drop (List.mem_of_mem_take hw)
theorem sr_21 : Cond.stringRef "OpForgeModel" 154 "set" ∈ lw_tbl := List.mem_of_getElem? (i := 1193) (by decide +kernel)
theorem sw_22 : ∀ w ∈ strW ("OpForgeModel", 156, "op", [111, 112]), w ∈ nF := by
  have e : (nF.drop 343).take 6 = strW ("OpForgeModel", 156, "op", [111, 112]) := by decide +kernel
  intro w hw
  rw [← e] at hw
  exact List.mem_of_mem_drop (List.mem_of_mem_take hw)
theorem sr_22 : Cond.stringRef "OpForgeModel" 156 "op" ∈ lw_tbl := List.mem_of_getElem? (i := 1206) (by decide +kernel)
theorem sw_23 : ∀ w ∈ strW ("OpForgeModel", 158, "word", [119, 111, 114, 100]), w ∈ nF := by
  have e : (nF.drop 350).take 8 = strW ("OpForgeModel", 158, "word", [119, 111, 114, 100]) := by decide +kernel
  intro w hw
  rw [← e] at hw
  exact List.mem_of_mem_drop (List.mem_of_mem_take hw)
theorem sr_23 : Cond.stringRef "OpForgeModel" 158 "word" ∈ lw_tbl := List.mem_of_getElem? (i := 1207) (by decide +kernel)
theorem sw_24 : ∀ w ∈ strW ("OpForgeModel", 159, "u", [117]), w ∈ nF := by
  have e : (nF.drop 359).take 5 = strW ("OpForgeModel", 159, "u", [117]) := by decide +kernel
  intro w hw
  rw [← e] at hw
  exact List.mem_of_mem_drop (List.mem_of_mem_take hw)
theorem sr_24 : Cond.stringRef "OpForgeModel" 159 "u" ∈ lw_tbl := List.mem_of_getElem? (i := 1208) (by decide +kernel)
theorem sw_25 : ∀ w ∈ strW ("OpForgeModel", 161, "s", [115]), w ∈ nF := by
  have e : (nF.drop 365).take 5 = strW ("OpForgeModel", 161, "s", [115]) := by decide +kernel
  intro w hw
  rw [← e] at hw
  exact List.mem_of_mem_drop (List.mem_of_mem_take hw)
theorem sr_25 : Cond.stringRef "OpForgeModel" 161 "s" ∈ lw_tbl := List.mem_of_getElem? (i := 1209) (by decide +kernel)
theorem sw_26 : ∀ w ∈ strW ("OpForgeModel", 163, "p", [112]), w ∈ nF := by
  have e : (nF.drop 371).take 5 = strW ("OpForgeModel", 163, "p", [112]) := by decide +kernel
  intro w hw
  rw [← e] at hw
  exact List.mem_of_mem_drop (List.mem_of_mem_take hw)
theorem sr_26 : Cond.stringRef "OpForgeModel" 163 "p" ∈ lw_tbl := List.mem_of_getElem? (i := 1210) (by decide +kernel)
theorem sw_27 : ∀ w ∈ strW ("OpForgeModel", 271, "word 0x", [119, 111, 114, 100, 32, 48, 120]), w ∈ nF := by
  have e : (nF.drop 377).take 11 = strW ("OpForgeModel", 271, "word 0x", [119, 111, 114, 100, 32, 48, 120]) := by decide +kernel
  intro w hw
  rw [← e] at hw
  exact List.mem_of_mem_drop (List.mem_of_mem_take hw)
theorem sr_27 : Cond.stringRef "OpForgeModel" 271 "word 0x" ∈ lw_tbl := List.mem_of_getElem? (i := 1294) (by decide +kernel)
theorem str_all : ∀ (i : Nat) (q : jQs), jStr[i]? = some q → (∀ w ∈ strW q, w ∈ nF) ∧ Cond.stringRef q.1 q.2.1 q.2.2.1 ∈ lw_tbl ∧ q.2.2.2.length < 2 ^ 31 ∧ i < 28 := by
  intro i q h
  have hi : i < 28 := (List.getElem?_eq_some_iff.mp h).1
  have hc : i = 0 ∨ i = 1 ∨ i = 2 ∨ i = 3 ∨ i = 4 ∨ i = 5 ∨ i = 6 ∨ i = 7 ∨ i = 8 ∨ i = 9 ∨ i = 10 ∨ i = 11 ∨ i = 12 ∨ i = 13 ∨ i = 14 ∨ i = 15 ∨ i = 16 ∨ i = 17 ∨ i = 18 ∨ i = 19 ∨ i = 20 ∨ i = 21 ∨ i = 22 ∨ i = 23 ∨ i = 24 ∨ i = 25 ∨ i = 26 ∨ i = 27 := by omega
  rcases hc with rfl | rfl | rfl | rfl | rfl | rfl | rfl | rfl | rfl | rfl | rfl | rfl | rfl | rfl | rfl | rfl | rfl | rfl | rfl | rfl | rfl | rfl | rfl | rfl | rfl | rfl | rfl | rfl
  · have h : some ("OpForge", 71, "more than 4,000 octets", [109, 111, 114, 101, 32, 116, 104, 97, 110, 32, 52, 44, 48, 48, 48, 32, 111, 99, 116, 101, 116, 115]) = some q := h
    cases h
    exact ⟨sw_0, sr_0, jlt rfl, jlt rfl⟩
  · have h : some ("OpForge", 171, "not so much is fed", [110, 111, 116, 32, 115, 111, 32, 109, 117, 99, 104, 32, 105, 115, 32, 102, 101, 100]) = some q := h
    cases h
    exact ⟨sw_1, sr_1, jlt rfl, jlt rfl⟩
  · have h : some ("OpForge$Tokens", 56, "the text is wrong", [116, 104, 101, 32, 116, 101, 120, 116, 32, 105, 115, 32, 119, 114, 111, 110, 103]) = some q := h
    cases h
    exact ⟨sw_2, sr_2, jlt rfl, jlt rfl⟩
  · have h : some ("OpForge$Splitter", 76, "width", [119, 105, 100, 116, 104]) = some q := h
    cases h
    exact ⟨sw_3, sr_3, jlt rfl, jlt rfl⟩
  · have h : some ("OpForge$Splitter", 82, "set", [115, 101, 116]) = some q := h
    cases h
    exact ⟨sw_4, sr_4, jlt rfl, jlt rfl⟩
  · have h : some ("OpForge$Splitter", 84, "op", [111, 112]) = some q := h
    cases h
    exact ⟨sw_5, sr_5, jlt rfl, jlt rfl⟩
  · have h : some ("OpForge$Splitter", 86, "word", [119, 111, 114, 100]) = some q := h
    cases h
    exact ⟨sw_6, sr_6, jlt rfl, jlt rfl⟩
  · have h : some ("OpForge$Splitter", 88, "u", [117]) = some q := h
    cases h
    exact ⟨sw_7, sr_7, jlt rfl, jlt rfl⟩
  · have h : some ("OpForge$Splitter", 90, "s", [115]) = some q := h
    cases h
    exact ⟨sw_8, sr_8, jlt rfl, jlt rfl⟩
  · have h : some ("OpForge$Splitter", 92, "p", [112]) = some q := h
    cases h
    exact ⟨sw_9, sr_9, jlt rfl, jlt rfl⟩
  · have h : some ("OpForge", 175, "no description", [110, 111, 32, 100, 101, 115, 99, 114, 105, 112, 116, 105, 111, 110]) = some q := h
    cases h
    exact ⟨sw_10, sr_10, jlt rfl, jlt rfl⟩
  · have h : some ("OpForge", 113, "no such word", [110, 111, 32, 115, 117, 99, 104, 32, 119, 111, 114, 100]) = some q := h
    cases h
    exact ⟨sw_11, sr_11, jlt rfl, jlt rfl⟩
  · have h : some ("OpForge", 129, "no such operand", [110, 111, 32, 115, 117, 99, 104, 32, 111, 112, 101, 114, 97, 110, 100]) = some q := h
    cases h
    exact ⟨sw_12, sr_12, jlt rfl, jlt rfl⟩
  · have h : some ("OpForge", 141, "no such op", [110, 111, 32, 115, 117, 99, 104, 32, 111, 112]) = some q := h
    cases h
    exact ⟨sw_13, sr_13, jlt rfl, jlt rfl⟩
  · have h : some ("OpForge", 185, "an operand can not be that", [97, 110, 32, 111, 112, 101, 114, 97, 110, 100, 32, 99, 97, 110, 32, 110, 111, 116, 32, 98, 101, 32, 116, 104, 97, 116]) = some q := h
    cases h
    exact ⟨sw_14, sr_14, jlt rfl, jlt rfl⟩
  · have h : some ("OpForge$Line", 64, "word 0x", [119, 111, 114, 100, 32, 48, 120]) = some q := h
    cases h
    exact ⟨sw_15, sr_15, jlt rfl, jlt rfl⟩
  · have h : some ("OpForge$Line", 81, " ", [32]) = some q := h
    cases h
    exact ⟨sw_16, sr_16, jlt rfl, jlt rfl⟩
  · have h : some ("OpForge$Line", 83, ", ", [44, 32]) = some q := h
    cases h
    exact ⟨sw_17, sr_17, jlt rfl, jlt rfl⟩
  · have h : some ("OpForge", 152, "no such letters", [110, 111, 32, 115, 117, 99, 104, 32, 108, 101, 116, 116, 101, 114, 115]) = some q := h
    cases h
    exact ⟨sw_18, sr_18, jlt rfl, jlt rfl⟩
  · have h : some ("OpForge", 168, "nothing to count", [110, 111, 116, 104, 105, 110, 103, 32, 116, 111, 32, 99, 111, 117, 110, 116]) = some q := h
    cases h
    exact ⟨sw_19, sr_19, jlt rfl, jlt rfl⟩
  · have h : some ("OpForgeModel", 148, "width", [119, 105, 100, 116, 104]) = some q := h
    cases h
    exact ⟨sw_20, sr_20, jlt rfl, jlt rfl⟩
  · have h : some ("OpForgeModel", 154, "set", [115, 101, 116]) = some q := h
    cases h
    exact ⟨sw_21, sr_21, jlt rfl, jlt rfl⟩
  · have h : some ("OpForgeModel", 156, "op", [111, 112]) = some q := h
    cases h
    exact ⟨sw_22, sr_22, jlt rfl, jlt rfl⟩
  · have h : some ("OpForgeModel", 158, "word", [119, 111, 114, 100]) = some q := h
    cases h
    exact ⟨sw_23, sr_23, jlt rfl, jlt rfl⟩
  · have h : some ("OpForgeModel", 159, "u", [117]) = some q := h
    cases h
    exact ⟨sw_24, sr_24, jlt rfl, jlt rfl⟩
  · have h : some ("OpForgeModel", 161, "s", [115]) = some q := h
    cases h
    exact ⟨sw_25, sr_25, jlt rfl, jlt rfl⟩
  · have h : some ("OpForgeModel", 163, "p", [112]) = some q := h
    cases h
    exact ⟨sw_26, sr_26, jlt rfl, jlt rfl⟩
  · have h : some ("OpForgeModel", 271, "word 0x", [119, 111, 114, 100, 32, 48, 120]) = some q := h
    cases h
    exact ⟨sw_27, sr_27, jlt rfl, jlt rfl⟩
theorem t_iT : Cond.initialized Bundle.tN ∈ lw_tbl := List.mem_of_getElem? (i := 86) (by decide +kernel)
theorem t_iS : Cond.initialized "java/lang/String" ∈ lw_tbl := List.mem_of_getElem? (i := 92) (by decide +kernel)
theorem t_iP : Cond.initialized "jdk/internal/util/Preconditions" ∈ lw_tbl := List.mem_of_getElem? (i := 94) (by decide +kernel)
theorem t_a5 : Cond.arrayOver (.object RX5) ∈ lw_tbl := List.mem_of_getElem? (i := 203) (by decide +kernel)
theorem t_a6 : Cond.arrayOver (.object RX6) ∈ lw_tbl := List.mem_of_getElem? (i := 210) (by decide +kernel)
theorem t_l1 : Cond.laysStatic Bundle.tN "UNASSIGNED_STACK" Bundle.steD ∈ lw_tbl := List.mem_of_getElem? (i := 466) (by decide +kernel)
theorem t_l2 : Cond.laysStatic Bundle.tN "SUPPRESSED_SENTINEL" Bundle.listD ∈ lw_tbl := List.mem_of_getElem? (i := 468) (by decide +kernel)
theorem t_l3 : Cond.laysStatic "java/lang/String" "COMPACT_STRINGS" "Z" ∈ lw_tbl := List.mem_of_getElem? (i := 614) (by decide +kernel)
theorem t_l4 : Cond.laysStatic "jdk/internal/util/Preconditions" "SIOOBE_FORMATTER" "Ljava/util/function/BiFunction;" ∈ lw_tbl := List.mem_of_getElem? (i := 630) (by decide +kernel)
theorem n_1 : Cond.isRef (.static Bundle.tN "UNASSIGNED_STACK" Bundle.steD) ∈ nF := List.mem_of_getElem? (i := 4) (by decide +kernel)
theorem n_2 : Cond.isRef (.static Bundle.tN "SUPPRESSED_SENTINEL" Bundle.listD) ∈ nF := List.mem_of_getElem? (i := 5) (by decide +kernel)
theorem n_3 : Cond.eq (.static "java/lang/String" "COMPACT_STRINGS" "Z") (.int 1) ∈ nF := List.mem_of_getElem? (i := 6) (by decide +kernel)
theorem n_4 : Cond.isRef (.static "jdk/internal/util/Preconditions" "SIOOBE_FORMATTER" "Ljava/util/function/BiFunction;") ∈ nF := List.mem_of_getElem? (i := 7) (by decide +kernel)
theorem n_c1 : Cond.not (.castable eIA eIO) ∈ nF := List.mem_of_getElem? (i := 23) (by decide +kernel)
theorem n_c2 : Cond.not (.castable eIS eIO) ∈ nF := List.mem_of_getElem? (i := 24) (by decide +kernel)
theorem n_c3 : Cond.not (.castable eIA eIS) ∈ nF := List.mem_of_getElem? (i := 52) (by decide +kernel)
theorem n_c4 : Cond.not (.castable eIO eIS) ∈ nF := List.mem_of_getElem? (i := 51) (by decide +kernel)
theorem jB_tbl {w : Cond} (h : w ∈ jB) : w ∈ lw_tbl := (List.mem_filter.mp h).1
theorem cls_all : ∀ (ci : Nat) (q : vw_C), vwCl[ci]? = some q → Cond.instantiable q.1 q.2.2 ∈ jB := by
  intro ci q h
  have hi : ci < 12 := (List.getElem?_eq_some_iff.mp h).1
  have hc : ci = 0 ∨ ci = 1 ∨ ci = 2 ∨ ci = 3 ∨ ci = 4 ∨ ci = 5 ∨ ci = 6 ∨ ci = 7 ∨ ci = 8 ∨ ci = 9 ∨ ci = 10 ∨ ci = 11 := by omega
  rcases hc with rfl | rfl | rfl | rfl | rfl | rfl | rfl | rfl | rfl | rfl | rfl | rfl
  · have h : some (RX0, TX0, 9) = some q := h
    cases h
    exact in_X0
  · have h : some (RX1, TX1, 3) = some q := h
    cases h
    exact in_X1
  · have h : some (RX2, TX2, 6) = some q := h
    cases h
    exact in_X2
  · have h : some (RX3, TX3, 2) = some q := h
    cases h
    exact in_X3
  · have h : some (RX4, TX4, 3) = some q := h
    cases h
    exact in_X4
  · have h : some (RX5, TX5, 5) = some q := h
    cases h
    exact in_X5
  · have h : some (RX6, TX6, 4) = some q := h
    cases h
    exact in_X6
  · have h : some (RX7, TX7, 5) = some q := h
    cases h
    exact in_X7
  · have h : some (RX8, TX8, 6) = some q := h
    cases h
    exact in_X8
  · have h : some (RX9, TX9, 7) = some q := h
    cases h
    exact in_X9
  · have h : some (RX10, TX10, 9) = some q := h
    cases h
    exact in_X10
  · have h : some (RX11, TX11, 35) = some q := h
    cases h
    exact in_X11
theorem start_G {s : State} {args : Array Value} {b : Nat} (hts : ∀ w ∈ lw_tbl, w.before args s = true) (hgv : (Jvm.Cond.and given_1 narrow_1).before args s = true) (hb : b < s.heap.size) : ∃ G : jG, G.1 = s.heap.size ∧ G.2.1 900 = b ∧ jK G s ∧ jS G s s.heap ∧ jNC s := by
  have hn : ∀ w ∈ nF, w.before args s = true := flat_of_before _ hgv
  have hcl : ∀ ci : Nat, ∃ z : ClassId × (Nat → Nat), ∀ q : vw_C, vwCl[ci]? = some q → u_Kn s q.1 q.2.1 q.2.2 z.1 z.2 := by
    intro ci
    cases hq : vwCl[ci]? with
    | none => exact ⟨(default, fun _ => 0), fun q h => by cases h⟩
    | some q0 =>
      obtain ⟨cC, iS, hK⟩ := u_known (ws := jB) (fun w hw => hts w (jB_tbl hw)) (jB_cls ci q0 hq).1 (hts _ (jB_tbl (cls_all ci q0 hq)))
      exact ⟨(cC, iS), fun q h => by cases h; exact hK⟩
  obtain ⟨F, hF⟩ := Classical.axiomOfChoice hcl
  have hA : ∀ a : Nat, a < s.heap.size → ¬ (fun q => s.heap.size ≤ q) a := fun a h h2 => absurd (show s.heap.size ≤ a from h2) (by omega)
  have hst : ∀ i : Nat, ∃ z : Nat × Nat, ∀ q : jQs, jStr[i]? = some q → vk_R q.1 q.2.1 q.2.2.1 z.1 s ∧ va_O "java/lang/String" z.1 (fun q => s.heap.size ≤ q) s s.heap ∧ va_OF "java/lang/String" "coder" "B" (.int 0) z.1 (fun q => s.heap.size ≤ q) s s.heap ∧ va_OF "java/lang/String" "value" "[B" (.ref z.2) z.1 (fun q => s.heap.size ≤ q) s s.heap ∧ va_T .byte z.2 q.2.2.2.length (fun j => .int (nI (q.2.2.2.getD j 0))) (fun q => s.heap.size ≤ q) s s.heap := by
    intro i
    cases hq : jStr[i]? with
    | none => exact ⟨(0, 0), fun q h => by cases h⟩
    | some q0 =>
      obtain ⟨h1, h2, h3, -⟩ := str_all i q0 hq
      obtain ⟨z, hz⟩ := str_at (args := args) (s := s) (A := fun q => s.heap.size ≤ q) q0 (fun w hw => hn w (h1 w hw)) (hts _ h2) h3 hA
      exact ⟨z, fun q h => by cases h; exact hz⟩
  obtain ⟨E, hE⟩ := Classical.axiomOfChoice hst
  obtain ⟨ci, ki, compi, i1, i2, i3⟩ := Cond.arrayClass_spec (hts _ (jB_tbl a_int))
  obtain ⟨cl, kl, compl, l1, l2, l3⟩ := Cond.arrayClass_spec (hts _ (jB_tbl a_long))
  obtain ⟨comp5, c5, k5, o1, -, o3, o4, o5⟩ := Cond.arrayOver_spec (hts _ t_a5)
  obtain ⟨comp6, c6, k6, p1, -, p3, p4, p5⟩ := Cond.arrayOver_spec (hts _ t_a6)
  obtain ⟨t9, h9⟩ : ∃ t9 : Nat, va_Z "jdk/internal/util/Preconditions" "SIOOBE_FORMATTER" "Ljava/util/function/BiFunction;" .null (fun q => s.heap.size ≤ q) s s.heap ∨ va_Z "jdk/internal/util/Preconditions" "SIOOBE_FORMATTER" "Ljava/util/function/BiFunction;" (.ref t9) (fun q => s.heap.size ≤ q) s s.heap := by
    rcases va_Zqof (hts _ t_l4) (hts _ t_iP) (hn _ n_4) hA with h | ⟨t, h⟩
    · exact ⟨0, Or.inl h⟩
    · exact ⟨t, Or.inr h⟩
  refine ⟨(s.heap.size, fun k => if k = 900 then b else if k = 1999 then t9 else if k < 1000 then (E k).1 else (E (k - 1000)).2, (fun ci => (F ci).1, fun ci => (F ci).2), fun t => if t = 0 then ci else if t = 1 then cl else if t = 2 then c5 else c6), rfl, rfl, ⟨fun ci q h => hF ci q h, fun k q hk => ?_⟩, ⟨?_, ?_, ?_, ?_, ?_, ?_, ?_, ?_⟩, ?_⟩
  · have h4 : k < 4 := (List.getElem?_eq_some_iff.mp hk).1
    have hc : k = 0 ∨ k = 1 ∨ k = 2 ∨ k = 3 := by omega
    rcases hc with rfl | rfl | rfl | rfl
    · have hk : some (ci, FieldType.int) = some q := hk
      cases hk
      exact ⟨fun n z => ⟨fun k h => (by cases h), ki, i2, compi, i3⟩, i1⟩
    · have hk : some (cl, FieldType.long) = some q := hk
      cases hk
      exact ⟨fun n z => ⟨fun k h => (by cases h), kl, l2, compl, l3⟩, l1⟩
    · have hk : some (c5, FieldType.object RX5) = some q := hk
      cases hk
      exact ⟨fun n z => ⟨fun k h => (by cases h), k5, o3, comp5, o4⟩, k5, comp5, o3, o4, o1, o5⟩
    · have hk : some (c6, FieldType.object RX6) = some q := hk
      cases hk
      exact ⟨fun n z => ⟨fun k h => (by cases h), k6, p3, comp6, p4⟩, k6, comp6, p3, p4, p1, p5⟩
  · exact vx_Zqof (hts _ t_l1) (hts _ t_iT) (hn _ n_1) hA
  · exact vx_Zqof (hts _ t_l2) (hts _ t_iT) (hn _ n_2) hA
  · intro w hw
    obtain ⟨h1, h2⟩ := List.mem_filter.mp hw
    exact va_Nw.of (jN_tab h2) (hts w h1)
  · exact hts _ t_a5
  · exact hts _ t_a6
  · exact va_Zof (hts _ t_l3) (hts _ t_iS) (va_eqi (hn _ n_3)) hA
  · exact h9
  · intro i q hq
    obtain ⟨-, -, -, hi⟩ := str_all i q hq
    have h := hE i q hq
    have e1 : (if i = 900 then b else if i = 1999 then t9 else if i < 1000 then (E i).1 else (E (i - 1000)).2) = (E i).1 := by rw [if_neg (by omega), if_neg (by omega), if_pos (by omega)]
    have e2 : (if 1000 + i = 900 then b else if 1000 + i = 1999 then t9 else if 1000 + i < 1000 then (E (1000 + i)).1 else (E (1000 + i - 1000)).2) = (E i).2 := by rw [if_neg (by omega), if_neg (by omega), if_neg (by omega), show 1000 + i - 1000 = i by omega]
    unfold jStrAt
    dsimp only
    rw [e1, e2]
    exact h
  · exact ⟨va_Nc.of (hn _ n_c1), va_Nc.of (hn _ n_c2), va_Nc.of (hn _ n_c3), va_Nc.of (hn _ n_c4)⟩
