/-! MAKING: contracts -/
theorem ii_L : Cond.initialized RL ∈ jB := jB_in (List.mem_of_getElem? (i := 73) (by decide +kernel)) (by decide +kernel)
theorem ii_X10 : Cond.initialized RX10 ∈ jB := jB_in (List.mem_of_getElem? (i := 74) (by decide +kernel)) (by decide +kernel)
theorem ii_X9 : Cond.initialized RX9 ∈ jB := jB_in (List.mem_of_getElem? (i := 75) (by decide +kernel)) (by decide +kernel)
theorem ii_X8 : Cond.initialized RX8 ∈ jB := jB_in (List.mem_of_getElem? (i := 76) (by decide +kernel)) (by decide +kernel)
theorem ii_X2 : Cond.initialized RX2 ∈ jB := jB_in (List.mem_of_getElem? (i := 77) (by decide +kernel)) (by decide +kernel)
theorem ii_X4 : Cond.initialized RX4 ∈ jB := jB_in (List.mem_of_getElem? (i := 78) (by decide +kernel)) (by decide +kernel)
theorem ii_X5 : Cond.initialized RX5 ∈ jB := jB_in (List.mem_of_getElem? (i := 79) (by decide +kernel)) (by decide +kernel)
theorem ii_X6 : Cond.initialized RX6 ∈ jB := jB_in (List.mem_of_getElem? (i := 80) (by decide +kernel)) (by decide +kernel)
theorem ii_X7 : Cond.initialized RX7 ∈ jB := jB_in (List.mem_of_getElem? (i := 81) (by decide +kernel)) (by decide +kernel)
theorem ii_X1 : Cond.initialized RX1 ∈ jB := jB_in (List.mem_of_getElem? (i := 82) (by decide +kernel)) (by decide +kernel)
theorem ii_X0 : Cond.initialized RX0 ∈ jB := jB_in (List.mem_of_getElem? (i := 83) (by decide +kernel)) (by decide +kernel)
theorem ii_X3 : Cond.initialized RX3 ∈ jB := jB_in (List.mem_of_getElem? (i := 84) (by decide +kernel)) (by decide +kernel)
theorem ii_X11 : Cond.initialized RX11 ∈ jB := jB_in (List.mem_of_getElem? (i := 85) (by decide +kernel)) (by decide +kernel)
theorem cl_L_8 : Cond.classLink RL 8 RX10 ∈ jB := jB_in (List.mem_of_getElem? (i := 99) (by decide +kernel)) (by decide +kernel)
theorem in_X10 : Cond.instantiable RX10 9 ∈ jB := jB_in (List.mem_of_getElem? (i := 100) (by decide +kernel)) (by decide +kernel)
theorem im_X10 : Cond.instanceMethod yX10_init ∈ jB := jB_in (List.mem_of_getElem? (i := 102) (by decide +kernel)) (by decide +kernel)
theorem ol_X10 : Cond.methodLink RX10 1 Lib.objectInit ∈ jB := jB_in (List.mem_of_getElem? (i := 104) (by decide +kernel)) (by decide +kernel)
theorem cl_X10_17 : Cond.classLink RX10 17 RX9 ∈ jB := jB_in (List.mem_of_getElem? (i := 107) (by decide +kernel)) (by decide +kernel)
theorem in_X9 : Cond.instantiable RX9 7 ∈ jB := jB_in (List.mem_of_getElem? (i := 108) (by decide +kernel)) (by decide +kernel)
theorem im_X9 : Cond.instanceMethod yX9_init ∈ jB := jB_in (List.mem_of_getElem? (i := 110) (by decide +kernel)) (by decide +kernel)
theorem ol_X9 : Cond.methodLink RX9 3 Lib.objectInit ∈ jB := jB_in (List.mem_of_getElem? (i := 112) (by decide +kernel)) (by decide +kernel)
theorem cl_X9_31 : Cond.classLink RX9 31 RX8 ∈ jB := jB_in (List.mem_of_getElem? (i := 113) (by decide +kernel)) (by decide +kernel)
theorem in_X8 : Cond.instantiable RX8 6 ∈ jB := jB_in (List.mem_of_getElem? (i := 114) (by decide +kernel)) (by decide +kernel)
theorem im_X8 : Cond.instanceMethod yX8_init ∈ jB := jB_in (List.mem_of_getElem? (i := 116) (by decide +kernel)) (by decide +kernel)
theorem ol_X8 : Cond.methodLink RX8 3 Lib.objectInit ∈ jB := jB_in (List.mem_of_getElem? (i := 118) (by decide +kernel)) (by decide +kernel)
theorem cl_X10_26 : Cond.classLink RX10 26 RX2 ∈ jB := jB_in (List.mem_of_getElem? (i := 174) (by decide +kernel)) (by decide +kernel)
theorem in_X2 : Cond.instantiable RX2 6 ∈ jB := jB_in (List.mem_of_getElem? (i := 175) (by decide +kernel)) (by decide +kernel)
theorem im_X2 : Cond.instanceMethod yX2_init ∈ jB := jB_in (List.mem_of_getElem? (i := 177) (by decide +kernel)) (by decide +kernel)
theorem ol_X2 : Cond.methodLink RX2 3 Lib.objectInit ∈ jB := jB_in (List.mem_of_getElem? (i := 179) (by decide +kernel)) (by decide +kernel)
theorem cl_X2_9 : Cond.classLink RX2 9 RX4 ∈ jB := jB_in (List.mem_of_getElem? (i := 180) (by decide +kernel)) (by decide +kernel)
theorem in_X4 : Cond.instantiable RX4 3 ∈ jB := jB_in (List.mem_of_getElem? (i := 181) (by decide +kernel)) (by decide +kernel)
theorem im_X4 : Cond.instanceMethod yX4_init ∈ jB := jB_in (List.mem_of_getElem? (i := 183) (by decide +kernel)) (by decide +kernel)
theorem ol_X4 : Cond.methodLink RX4 3 Lib.objectInit ∈ jB := jB_in (List.mem_of_getElem? (i := 185) (by decide +kernel)) (by decide +kernel)
theorem cl_X2_27 : Cond.classLink RX2 27 RX5 ∈ jB := jB_in (List.mem_of_getElem? (i := 202) (by decide +kernel)) (by decide +kernel)
theorem in_X5 : Cond.instantiable RX5 5 ∈ jB := jB_in (List.mem_of_getElem? (i := 204) (by decide +kernel)) (by decide +kernel)
theorem im_X5 : Cond.instanceMethod yX5_init ∈ jB := jB_in (List.mem_of_getElem? (i := 206) (by decide +kernel)) (by decide +kernel)
theorem ol_X5 : Cond.methodLink RX5 3 Lib.objectInit ∈ jB := jB_in (List.mem_of_getElem? (i := 208) (by decide +kernel)) (by decide +kernel)
theorem cl_X5_9 : Cond.classLink RX5 9 RX6 ∈ jB := jB_in (List.mem_of_getElem? (i := 209) (by decide +kernel)) (by decide +kernel)
theorem in_X6 : Cond.instantiable RX6 4 ∈ jB := jB_in (List.mem_of_getElem? (i := 211) (by decide +kernel)) (by decide +kernel)
theorem im_X6 : Cond.instanceMethod yX6_init ∈ jB := jB_in (List.mem_of_getElem? (i := 213) (by decide +kernel)) (by decide +kernel)
theorem ol_X6 : Cond.methodLink RX6 3 Lib.objectInit ∈ jB := jB_in (List.mem_of_getElem? (i := 215) (by decide +kernel)) (by decide +kernel)
theorem cl_X10_33 : Cond.classLink RX10 33 RX7 ∈ jB := jB_in (List.mem_of_getElem? (i := 301) (by decide +kernel)) (by decide +kernel)
theorem in_X7 : Cond.instantiable RX7 5 ∈ jB := jB_in (List.mem_of_getElem? (i := 302) (by decide +kernel)) (by decide +kernel)
theorem im_X7 : Cond.instanceMethod yX7_init ∈ jB := jB_in (List.mem_of_getElem? (i := 304) (by decide +kernel)) (by decide +kernel)
theorem ol_X7 : Cond.methodLink RX7 3 Lib.objectInit ∈ jB := jB_in (List.mem_of_getElem? (i := 306) (by decide +kernel)) (by decide +kernel)
theorem cl_X7_15 : Cond.classLink RX7 15 RX4 ∈ jB := jB_in (List.mem_of_getElem? (i := 307) (by decide +kernel)) (by decide +kernel)
theorem cl_X10_40 : Cond.classLink RX10 40 RX1 ∈ jB := jB_in (List.mem_of_getElem? (i := 333) (by decide +kernel)) (by decide +kernel)
theorem in_X1 : Cond.instantiable RX1 3 ∈ jB := jB_in (List.mem_of_getElem? (i := 334) (by decide +kernel)) (by decide +kernel)
theorem im_X1 : Cond.instanceMethod yX1_init ∈ jB := jB_in (List.mem_of_getElem? (i := 336) (by decide +kernel)) (by decide +kernel)
theorem ol_X1 : Cond.methodLink RX1 3 Lib.objectInit ∈ jB := jB_in (List.mem_of_getElem? (i := 338) (by decide +kernel)) (by decide +kernel)
theorem cl_X1_9 : Cond.classLink RX1 9 RX4 ∈ jB := jB_in (List.mem_of_getElem? (i := 339) (by decide +kernel)) (by decide +kernel)
theorem cl_X10_49 : Cond.classLink RX10 49 RX0 ∈ jB := jB_in (List.mem_of_getElem? (i := 351) (by decide +kernel)) (by decide +kernel)
theorem in_X0 : Cond.instantiable RX0 9 ∈ jB := jB_in (List.mem_of_getElem? (i := 352) (by decide +kernel)) (by decide +kernel)
theorem im_X0 : Cond.instanceMethod yX0_init ∈ jB := jB_in (List.mem_of_getElem? (i := 354) (by decide +kernel)) (by decide +kernel)
theorem ol_X0 : Cond.methodLink RX0 3 Lib.objectInit ∈ jB := jB_in (List.mem_of_getElem? (i := 356) (by decide +kernel)) (by decide +kernel)
theorem cl_X10_58 : Cond.classLink RX10 58 RX3 ∈ jB := jB_in (List.mem_of_getElem? (i := 385) (by decide +kernel)) (by decide +kernel)
theorem in_X3 : Cond.instantiable RX3 2 ∈ jB := jB_in (List.mem_of_getElem? (i := 386) (by decide +kernel)) (by decide +kernel)
theorem im_X3 : Cond.instanceMethod yX3_init ∈ jB := jB_in (List.mem_of_getElem? (i := 388) (by decide +kernel)) (by decide +kernel)
theorem ol_X3 : Cond.methodLink RX3 3 Lib.objectInit ∈ jB := jB_in (List.mem_of_getElem? (i := 390) (by decide +kernel)) (by decide +kernel)
theorem cl_L_51 : Cond.classLink RL 51 RX11 ∈ jB := jB_in (List.mem_of_getElem? (i := 1005) (by decide +kernel)) (by decide +kernel)
theorem in_X11 : Cond.instantiable RX11 35 ∈ jB := jB_in (List.mem_of_getElem? (i := 1006) (by decide +kernel)) (by decide +kernel)
theorem im_X11 : Cond.instanceMethod yX11_init ∈ jB := jB_in (List.mem_of_getElem? (i := 1008) (by decide +kernel)) (by decide +kernel)
theorem ol_X11 : Cond.methodLink RX11 1 Lib.objectInit ∈ jB := jB_in (List.mem_of_getElem? (i := 1010) (by decide +kernel)) (by decide +kernel)
theorem o_im : Cond.instanceMethod Lib.objectInit ∈ jB := jB_in (List.mem_of_getElem? (i := 105) (by decide +kernel)) (by decide +kernel)
theorem o_cd : Cond.code Lib.objectInit ⟨#[0xb1]⟩ 1 none ∈ jB := jB_in (List.mem_of_getElem? (i := 106) (by decide +kernel)) (by decide +kernel)
theorem a_int : Cond.arrayClass .int ∈ jB := jB_in (List.mem_of_getElem? (i := 141) (by decide +kernel)) (by decide +kernel)
theorem a_long : Cond.arrayClass .long ∈ jB := jB_in (List.mem_of_getElem? (i := 142) (by decide +kernel)) (by decide +kernel)
theorem jr_lo {G : jG} {k : Nat} (h : k < 1000) : jr G k = G.1 + k := by unfold jr; rw [if_pos h]
theorem jr_hi {G : jG} {k : Nat} (h : k < 1000) : jr G (1000 + k) = G.1 + (875 + k) := by unfold jr; rw [if_neg (by omega), if_pos (by omega)]; omega
/-- a contract that can't throw, as the kit's Met -/
theorem jCp.met {l : Launch} {G : jG} {y : MethodName} {bytes : ByteArray} {maxL fr lo c1 s1 : Nat} {ret' : Option FieldType} {As : List Value} {M : jMem} {Φ : jO → Prop} (K : jCp l G y bytes maxL ret' fr lo c1 s1 As M Φ) (hno : ∀ E M', ¬ Φ (.inr (E, M'))) : Met l y (jws y bytes maxL ret') (jR fr lo c1 s1) (va_Pc (As.map (jv G)) (fun U => jH G M U)) (jQp G Φ) c1 s1 (jA G) := by
  intro p' e' ha hc hk s' m' args' below' hf happ hP hK
  obtain ⟨k, o, h1, h2, h3, h4⟩ := K p' e' ha hc hk s' m' args' below' hf happ hP hK
  refine ⟨k, o, h1, h2, h3, ?_⟩
  rcases h4 with h | ⟨q, -, E, ce, L, ⟨M', hx, -⟩, -⟩
  · exact h
  · exact (hno _ _ hx).elim
section JQI
variable {p : Program} {l : Launch} {e : Env} {R : Room} {s : State} {m : MethodId} {args : Array Value} {below : List Frame} {meth : Method} {c : Code} {G : jG} {cc : ByteArray} {nL : Nat} {own : String} {ret : Option FieldType}
variable {pc kc ks : Nat} {Q : State → Prop} {lv : List (Option Value)} {st : List Value} {M : jMem}
theorem qrun_p {H : Heap} {locs : List Loc} {ls : Array Slot} {c1 s1 : Nat} {Φ : jO → Prop} {a : Array Value} {st0 rest : List Value} (hr : va_Run p l e R s m args below meth c H locs kc ks c1 s1 (F0 m pc ls st0) (rest.map (jv G)) (jQp G Φ a) (jA G)) (hS : va_S (jA G) s.heap H locs) (hl : jL G ls nL lv) (kr : ∀ v M', Φ (.inl (v, M')) → Jq p l e R s m args below meth c G nL Q (pc + 3) lv (v.toList ++ rest) M' (kc + c1) (ks + s1)) :
    W p l e R s m args below meth c H locs kc ks Q (F0 m pc ls st0) := by
  intro T hT X
  obtain ⟨w, st₀, t, T', L, h0, X', hL, e1, e2, ⟨v, M', hΦ, hw, hM', hF⟩, stp⟩ := hr T hT X
  have hw : w = v.map (jv G) := Outcome.returned.inj hw
  obtain ⟨-, -, k3⟩ := vx_keep h0 e1 hS (fun _ _ h => h) (fun _ h => h) hL hF
  obtain ⟨t2, a1, b1⟩ := kr v M' hΦ T'.heap (locs ++ L) ls (by rw [e1]; exact hM') k3 hl T' rfl X'
  refine ⟨t2, stp t2 ?_, b1⟩
  subst hw
  cases v <;> exact a1
theorem Q_callIp {y : MethodName} {bytes : ByteArray} {maxL n idx fr lo c1 s1 k : Nat} {As stk : List Value} {Φ : jO → Prop} (C : jX0 p l R s m args meth c G cc nL own ret) (hd : decode cc pc = .ok (.invokespecial idx, 3)) (hm : jMi own idx y bytes maxL n) (K : jCp l G y bytes maxL none fr lo c1 s1 (.ref k :: As) M Φ) (hno : ∀ E M', ¬ Φ (.inr (E, M'))) (hR : fr + 1 ≤ R.frames ∧ 8 + (maxL + 11) + lo ≤ R.locals) (hn : As.length = n) (hst : stk = As.reverse ++ .ref k :: st) (h8 : (st.map fun v => v.category).sum ≤ 8) (hf : kc + c1 ≤ R.cells ∧ ks + s1 ≤ R.slots)
    (kr : ∀ v M', Φ (.inl (v, M')) → Jq p l e R s m args below meth c G nL Q (pc + 3) lv (v.toList ++ st) M' (kc + c1) (ks + s1)) : Jq p l e R s m args below meth c G nL Q pc lv stk M kc ks := by
  intro H locs ls hM hS hl
  have hp := jpre (As := .ref k :: As) C hM hS
  refine qrun_p (rest := st) (a := (Value.ref (jr G k) :: As.map (jv G)).toArray) (va_runI (As := As.map (jv G)) (b := jr G k) (rest := st.map (jv G)) (n := n) (Ts := jB) (own := own) (nL := nL) (cc := cc) (maxL := maxL) (bytes := bytes) (index := idx) ⟨C.1, C.2.1, C.2.2.1, C.2.2.2.1, C.2.2.2.2.1⟩ (K.met hno) ⟨jcB C hm.1 hm.2.1 hR, hm.2.2.2, C.w hm.2.2.1⟩ hp rfl (by rw [List.length_map]; exact hn) hl.1 ?_ ?_ hd hf) hS hl kr
  · rw [hst]; exact jstk
  · exact lv_room (by rw [jcat]; exact h8)
theorem Q_callINp {y : MethodName} {bytes : ByteArray} {maxL n idx fr lo c1 s1 k : Nat} {host : String} {As stk : List Value} {Φ : jO → Prop} (C : jX0 p l R s m args meth c G cc nL own ret) (hd : decode cc pc = .ok (.invokespecial idx, 3)) (hm : jMc y bytes maxL none n) (hl9 : Cond.methodLinkNest own idx y host ∈ jN) (hi9 : Cond.instanceMethod y ∈ jB) (hy9 : y.name = "<init>") (K : jCp l G y bytes maxL none fr lo c1 s1 (.ref k :: As) M Φ) (hno : ∀ E M', ¬ Φ (.inr (E, M'))) (hR : fr + 1 ≤ R.frames ∧ 8 + (maxL + 11) + lo ≤ R.locals) (hn : As.length = n) (hst : stk = As.reverse ++ .ref k :: st) (h8 : (st.map fun v => v.category).sum ≤ 8) (hf : kc + c1 ≤ R.cells ∧ ks + s1 ≤ R.slots)
    (kr : ∀ v M', Φ (.inl (v, M')) → Jq p l e R s m args below meth c G nL Q (pc + 3) lv (v.toList ++ st) M' (kc + c1) (ks + s1)) : Jq p l e R s m args below meth c G nL Q pc lv stk M kc ks := by
  intro H locs ls hM hS hl
  have hp := jpre (As := .ref k :: As) C hM hS
  refine qrun_p (rest := st) (a := (Value.ref (jr G k) :: As.map (jv G)).toArray) (va_runIN (As := As.map (jv G)) (b := jr G k) (rest := st.map (jv G)) (n := n) (Ts := jB) (own := own) (nL := nL) (cc := cc) (maxL := maxL) (bytes := bytes) (index := idx) (host := host) ⟨C.1, C.2.1, C.2.2.1, C.2.2.2.1, C.2.2.2.2.1⟩ (K.met hno) ⟨va_cnB n C.2.2.2.2.1 (jB_GoodIn (fun w hw => ?_)) rfl rfl rfl (C.S.2.2.1 _ hl9) (C.w hm.2.1) hm.2.2 hR, hy9, C.w hi9⟩ hp rfl (by rw [List.length_map]; exact hn) hl.1 ?_ ?_ hd hf) hS hl kr
  · rcases List.mem_cons.mp hw with h | h
    · rw [h]; exact hm.1
    · exact h
  · rw [hst]; exact jstk
  · exact lv_room (by rw [jcat]; exact h8)
end JQI
theorem jn_eq {M : jMem} {k n : Nat} {x : va_E} : (jn M k x n).1 k = some x := va_up_self _ _ _
theorem jn_ne {M : jMem} {k q n : Nat} {x : va_E} (h : q ≠ k) : (jn M k x n).1 q = M.1 q := va_up_ne _ _ h
