/-! LAW: the beginning -/
theorem rm_c : 100000 ≤ room_1.cells := Nat.le_of_ble_eq_true rfl
theorem rm_s : 1000000 ≤ room_1.slots := Nat.le_of_ble_eq_true rfl
set_option maxRecDepth 100000 in
theorem e0_T {T T' : jMem} (h : ∀ q, 875 ≤ q → T.1 q = T'.1 q) (h2 : T.2 = T'.2) : e0 T = e0 T' := by
  refine Prod.ext (funext fun q => ?_) h2
  by_cases hq : q < 875
  · exact encX_lo hq
  · rw [e0_out (by omega), e0_out (by omega)]; exact h q (by omega)
def t0 (n : Nat) : jMem := (fun _ => none, some n)
set_option maxRecDepth 100000 in
theorem first_M (x : va_E) (M : jMem) (hM : M = jn (m0 ((jn (e0 (t0 875)) 1000 x 875).1, some 896)) 1021 (lA 1 (fun _ => 0)) 896) : M = e0 (m0 (T0 (fun _ => 0) (some 897))) := by
  subst hM
  refine Prod.ext (funext fun q => ?_) rfl
  by_cases h1 : q = 1021
  · subst h1
    rw [jn_eq, e0_out (by omega), m0_out (by omega)]
    rfl
  · rw [jn_ne h1]
    by_cases h2 : 1000 ≤ q ∧ q < 1021
    · rw [e0_out (by omega)]; exact encM_in h2
    · rw [m0_out (by omega)]
      show (jn (e0 (t0 875)) 1000 x 875).1 q = _
      rw [jn_ne (by omega)]
      by_cases h3 : q < 875
      · exact encX_lo h3
      · rw [e0_out (by omega), e0_out (by omega), m0_out (by omega)]
        show none = if q = 1021 then _ else none
        rw [if_neg h1]
set_option maxHeartbeats 4000000 in
set_option maxRecDepth 100000 in
theorem lw_begin {p : Program} {l : Launch} {e : Env} {s : State} {m : MethodId} {args : Array Value} {below : List Frame} {meth : Method} {c : Code} {G : jG} {Q : State → Prop} {b L : Nat} {xs : Nat → Int32} (C : jX0 p l room_1 s m args meth c G cL_law 8 RL ret) (N : jNC s) (hst : l.stackTraces = false) (hX : va_X b L xs s s.heap) (hb : b < s.heap.size) (hbG : b < G.1) (hG : G.2.1 900 = b) (hL : L ≤ 896)
    (hend : ∀ lv M kc ks, kc ≤ room_1.cells → ks ≤ room_1.slots → Jq p l e room_1 s m args below meth c G 8 Q 1018 lv [.int (nI 1)] M kc ks) : Jq p l e room_1 s m args below meth c G 8 Q 0 [some (.ref 2900), none, none, none, none, none, none, none] [] (t0 0) 0 0 := by
  have rmc := rm_c
  have rms := rm_s
  refine Q_new (pc := 0) (ci := 10) (fs := [.null, .null, .null, .null, .null, .null, .null, .null, .int (nI 0)]) (k := 0) (n := 0) C dL_law_0 rfl cl_L_8 in_X10 ii_X10 df_X10 rfl rfl (by unfold jin; omega) (jr_lo (by omega)) (by show 0 + 1 ≤ room_1.cells; omega) (by show 0 + 9 ≤ room_1.slots; omega) ?_
  refine Q_dup (pc := 3) C dL_law_3 rfl ?_
  refine Q_callIp (pc := 4) (k := 0) (As := []) (st := [.ref 0]) C dL_law_4 m_L_50 (i_X10 l G _ jn_eq rfl) (by rintro E M' h; cases h) ⟨jle rfl, jle rfl⟩ rfl rfl (jle rfl) ⟨by show 0 + 1 + 874 ≤ room_1.cells; omega, by show 0 + 9 + 42701 ≤ room_1.slots; omega⟩ (fun v M' h => ?_)
  cases h
  rw [show e0 ((jn (t0 0) 0 (.inr (10, [.null, .null, .null, .null, .null, .null, .null, .null, .int (nI 0)])) 0).1, some 875) = e0 (t0 875) from e0_T (fun q hq => jn_ne (by omega)) rfl]
  refine Q_astore_n (pc := 7) C dL_law_7 rfl (jlt rfl) rfl ?_
  dsimp only [List.set]
  refine Q_new (pc := 8) (ci := 11) (fs := (.int (nI 0) :: .int (nI 0) :: .int (nI 0) :: .int (nI 0) :: .int (nI 0) :: .int (nI 0) :: .int (nI 0) :: .int (nI 0) :: .int (nI 0) :: .int (nI 0) :: .int (nI 0) :: .null :: .null :: .null :: .null :: .null :: .null :: .null :: .null :: .null :: .null :: .null :: .null :: .null :: .null :: .null :: .null :: .null :: .null :: .null :: .int (nI 0) :: .int (nI 0) :: .int (nI 0) :: .int (nI 0) :: .null :: [])) (k := 1000) (n := 875) C dL_law_8 rfl cl_L_51 in_X11 ii_X11 df_X11 rfl rfl (by unfold jin; omega) (jr_hi (k := 0) (by omega)) (by show 0 + 1 + 874 + 1 ≤ room_1.cells; omega) (by show 0 + 9 + 42701 + 35 ≤ room_1.slots; omega) ?_
  refine Q_dup (pc := 11) C dL_law_11 rfl ?_
  refine Q_callIp (pc := 12) (k := 1000) (As := []) (st := [.ref 1000]) C dL_law_12 m_L_53 (i_X11 l G _ jn_eq rfl) (by rintro E M' h; cases h) ⟨jle rfl, jle rfl⟩ rfl rfl (jle rfl) ⟨by show 0 + 1 + 874 + 1 + 20 ≤ room_1.cells; omega, by show 0 + 9 + 42701 + 35 + 38194 ≤ room_1.slots; omega⟩ (fun v M' h => ?_)
  cases h
  refine Q_astore_n (pc := 15) C dL_law_15 rfl (jlt rfl) rfl ?_
  dsimp only [List.set]
  refine Q_iconst (pc := 16) (v := nI 1) C dL_law_16 (by decide) ?_
  refine Q_newl (pc := 17) (k := 1021) (n := 896) (N := 1) C dL_law_17 a_long (by omega) rfl (by unfold jin; omega) (jr_hi (k := 21) (by omega)) (by show 0 + 1 + 874 + 1 + 20 + 1 ≤ room_1.cells; omega) (by show 0 + 9 + 42701 + 35 + 38194 + 1 ≤ room_1.slots; omega) ?_
  rw [first_M _ _ rfl]
  refine Q_astore_n (pc := 19) C dL_law_19 rfl (jlt rfl) rfl ?_
  dsimp only [List.set]
  refine Q_iconst (pc := 20) (v := nI 0) C dL_law_20 (by decide) ?_
  refine Q_istore (pc := 21) C dL_law_21 (jlt rfl) rfl ?_
  dsimp only [List.set]
  exact lw_loop C N hst hX hb hbG hG hL hend 64 0 _ _ 0 _ _ _ (lE_0 _ _) (by omega) (by omega) (by omega) (by omega)
