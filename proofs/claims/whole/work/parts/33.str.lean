/-! String constants: rows and contracts of String.length() and String.charAt(int) -/
section JSTR
variable {p : Program} {l : Launch} {e : Env} {R : Room} {s : State} {m : MethodId} {args : Array Value} {below : List Frame} {meth : Method} {c : Code} {G : jG} {cc : ByteArray} {nL : Nat} {own : String} {ret : Option FieldType}
variable {mc ms pc kc ks : Nat} {out : jO} {lv : List (Option Value)} {st : List Value} {M : jMem}
theorem jr_s (i : Nat) : jr G (2000 + i) = G.2.1 i := by
  unfold jr
  rw [if_neg (by omega), if_neg (by omega), show 2000 + i - 2000 = i by omega]
theorem jr_t (i : Nat) : jr G (3000 + i) = G.2.1 (1000 + i) := by
  unfold jr
  rw [if_neg (by omega), if_neg (by omega), show 3000 + i - 2000 = 1000 + i by omega]
theorem J_ldcS (C : jX0 p l R s m args meth c G cc nL own ret) {i idx : Nat} {tx : String} {by9 : List Nat} (hd : decode cc pc = .ok (.ldc idx, 2)) (hs : jStr[i]? = some (own, idx, tx, by9)) (k' : J p l e R s m args below meth c G nL mc ms out (pc + 2) lv (.ref (2000 + i) :: st) M kc ks) : J p l e R s m args below meth c G nL mc ms out pc lv st M kc ks := by
  intro H locs ls hM hS hl
  have k2 : W p l e R s m args below meth c H locs kc ks (vx_MQ below (jQ G out) (jX G out) args s mc ms (jA G)) (F0 m (pc + 2) ls (.ref (jr G (2000 + i)) :: st.map (jv G))) := k' H locs ls hM hS hl
  rw [jr_s] at k2
  exact va_ldcS C.1 C.2.1 C.2.2.2.1 (C.S.2.2.2.2.2.2.2 i _ hs).1 hd k2
theorem J_getSv (C : jX0 p l R s m args meth c G cc nL own ret) {i idx : Nat} {q : String × Nat × String × List Nat} (hd : decode cc pc = .ok (.getfield idx, 3)) (hs : jStr[i]? = some q) (hw : Cond.fieldLink own idx "java/lang/String" "value" "[B" ∈ jB) (k' : J p l e R s m args below meth c G nL mc ms out (pc + 3) lv (.ref (3000 + i) :: st) M kc ks) : J p l e R s m args below meth c G nL mc ms out pc lv (.ref (2000 + i) :: st) M kc ks := by
  intro H locs ls hM hS hl
  have k2 : W p l e R s m args below meth c H locs kc ks (vx_MQ below (jQ G out) (jX G out) args s mc ms (jA G)) (F0 m (pc + 3) ls (.ref (jr G (3000 + i)) :: st.map (jv G))) := k' H locs ls hM hS hl
  rw [jr_t] at k2
  show W p l e R s m args below meth c H locs kc ks _ (F0 m pc ls (.ref (jr G (2000 + i)) :: st.map (jv G)))
  rw [jr_s]
  exact vk_getf C.1 C.2.1 (C.S.2.2.2.2.2.2.2 i _ hs).2.2.2.1 hS C.2.2.2.1 (C.w hw) (fun _ h => h) hd k2
theorem J_getSc (C : jX0 p l R s m args meth c G cc nL own ret) {i idx : Nat} {q : String × Nat × String × List Nat} (hd : decode cc pc = .ok (.getfield idx, 3)) (hs : jStr[i]? = some q) (hw : Cond.fieldLink own idx "java/lang/String" "coder" "B" ∈ jB) (k' : J p l e R s m args below meth c G nL mc ms out (pc + 3) lv (.int 0 :: st) M kc ks) : J p l e R s m args below meth c G nL mc ms out pc lv (.ref (2000 + i) :: st) M kc ks := by
  intro H locs ls hM hS hl
  show W p l e R s m args below meth c H locs kc ks _ (F0 m pc ls (.ref (jr G (2000 + i)) :: st.map (jv G)))
  rw [jr_s]
  exact vk_getf C.1 C.2.1 (C.S.2.2.2.2.2.2.2 i _ hs).2.2.1 hS C.2.2.2.1 (C.w hw) (fun _ h => h) hd (k' H locs ls hM hS hl)
theorem J_alenS (C : jX0 p l R s m args meth c G cc nL own ret) {i : Nat} {q : String × Nat × String × List Nat} (hd : decode cc pc = .ok (.arraylength, 1)) (hs : jStr[i]? = some q) (k' : J p l e R s m args below meth c G nL mc ms out (pc + 1) lv (.int (nI q.2.2.2.length) :: st) M kc ks) : J p l e R s m args below meth c G nL mc ms out pc lv (.ref (3000 + i) :: st) M kc ks := by
  intro H locs ls hM hS hl
  show W p l e R s m args below meth c H locs kc ks _ (F0 m pc ls (.ref (jr G (3000 + i)) :: st.map (jv G)))
  rw [jr_t]
  exact va_tlen C.1 C.2.1 (C.S.2.2.2.2.2.2.2 i _ hs).2.2.2.2 hS rfl hd (k' H locs ls hM hS hl)
theorem J_baldS (C : jX0 p l R s m args meth c G cc nL own ret) {i a : Nat} {q : String × Nat × String × List Nat} (hd : decode cc pc = .ok (.baload, 1)) (hs : jStr[i]? = some q) (ha : a < q.2.2.2.length) (hn : q.2.2.2.length < 2 ^ 31) (k' : J p l e R s m args below meth c G nL mc ms out (pc + 1) lv (.int (nI (q.2.2.2.getD a 0)) :: st) M kc ks) : J p l e R s m args below meth c G nL mc ms out pc lv (.int (nI a) :: .ref (3000 + i) :: st) M kc ks := by
  intro H locs ls hM hS hl
  show W p l e R s m args below meth c H locs kc ks _ (F0 m pc ls (.int (nI a) :: .ref (jr G (3000 + i)) :: st.map (jv G)))
  rw [jr_t]
  exact va_tb C.1 C.2.1 (C.S.2.2.2.2.2.2.2 i _ hs).2.2.2.2 hS (vp_in_nI ha hn) (by rw [nI_clamp (by omega)]; rfl) hd (k' H locs ls hM hS hl)
theorem J_getsC (C : jX0 p l R s m args meth c G cc nL own ret) {idx : Nat} (hd : decode cc pc = .ok (.getstatic idx, 3)) (hw : Cond.fieldLink own idx "java/lang/String" "COMPACT_STRINGS" "Z" ∈ jB) (k' : J p l e R s m args below meth c G nL mc ms out (pc + 3) lv (.int 1 :: st) M kc ks) : J p l e R s m args below meth c G nL mc ms out pc lv st M kc ks := by
  intro H locs ls hM hS hl
  exact va_gets C.1 C.2.1 C.S.2.2.2.2.2.1 hS C.2.2.2.1 (C.w hw) (fun _ h => h) hd (k' H locs ls hM hS hl)
theorem J_getsF (C : jX0 p l R s m args meth c G cc nL own ret) {idx : Nat} (hd : decode cc pc = .ok (.getstatic idx, 3)) (hw : Cond.fieldLink own idx "jdk/internal/util/Preconditions" "SIOOBE_FORMATTER" "Ljava/util/function/BiFunction;" ∈ jB) (k1 : J p l e R s m args below meth c G nL mc ms out (pc + 3) lv (.null :: st) M kc ks) (k2 : J p l e R s m args below meth c G nL mc ms out (pc + 3) lv (.ref 3999 :: st) M kc ks) : J p l e R s m args below meth c G nL mc ms out pc lv st M kc ks := by
  intro H locs ls hM hS hl
  rcases C.S.2.2.2.2.2.2.1 with h | h
  · exact va_gets C.1 C.2.1 h hS C.2.2.2.1 (C.w hw) (fun _ h => h) hd (k1 H locs ls hM hS hl)
  · exact va_gets C.1 C.2.1 h hS C.2.2.2.1 (C.w hw) (fun _ h => h) hd (k2 H locs ls hM hS hl)
/-- a call on a string constant -/
theorem J_callVS {y : MethodName} {bytes : ByteArray} {maxL n idx fr lo i : Nat} {ret' : Option FieldType} {As stk : List Value} {v : Value} {M' : jMem} {q : String × Nat × String × List Nat} (C : jX0 p l R s m args meth c G cc nL own ret) (hd : decode cc pc = .ok (.invokevirtual idx, 3)) (hm : jMv own idx y bytes maxL ret' n) (hq : y.cls = "java/lang/String") (hs : jStr[i]? = some q) (K : jC l G y bytes maxL ret' fr lo 0 0 (.ref (2000 + i) :: As) M (.inl (some v, M'))) (hR : fr + 1 ≤ R.frames ∧ 8 + (maxL + 11) + lo ≤ R.locals) (hn : As.length = n) (hst : stk = As.reverse ++ .ref (2000 + i) :: st) (h8 : (st.map fun v => v.category).sum ≤ 8) (hf : kc ≤ R.cells ∧ ks ≤ R.slots)
    (k' : J p l e R s m args below meth c G nL mc ms out (pc + 3) lv (v :: st) M' kc ks) : J p l e R s m args below meth c G nL mc ms out pc lv stk M kc ks := by
  intro H locs ls hM hS hl
  have hp := jpre (As := .ref (2000 + i) :: As) C hM hS
  have hrec : ∃ cellB : Cell, H[jr G (2000 + i)]? = some cellB ∧ cellB.vm.isStatics = false ∧ s.vm.findClass y.cls = some cellB.cls := by
    obtain ⟨cell, h1, h2, h3, -⟩ := (C.S.2.2.2.2.2.2.2 i _ hs).2.1.kept hS.2.1
    rw [jr_s, hq]
    exact ⟨cell, h1, h2, h3⟩
  refine jrun_ret (c1 := 0) (s1 := 0) (rest := st) (a := (Value.ref (jr G (2000 + i)) :: As.map (jv G)).toArray) (vx_runV (As := As.map (jv G)) (rest := st.map (jv G)) (C := y.cls) (n := n) (Ts := jB) (own := own) (nL := nL) (cc := cc) (ret := ret') (maxL := maxL) (bytes := bytes) (index := idx) ⟨C.1, C.2.1, C.2.2.1, C.2.2.2.1, C.2.2.2.2.1⟩ K ⟨jcB C hm.1 hm.2.1 hR, C.w hm.2.2.1, C.w hm.2.2.2⟩ ⟨hp.1, hrec, hp.2⟩ rfl (by rw [List.length_map]; exact hn) hl.1 ?_ ?_ hd hf) hS hl k'
  · rw [hst]; exact jstk
  · exact lv_room (by rw [jcat]; exact h8)
theorem J_callS0 {y : MethodName} {bytes : ByteArray} {maxL n idx fr lo : Nat} {ret' : Option FieldType} {As stk : List Value} {M' : jMem} (C : jX0 p l R s m args meth c G cc nL own ret) (hd : decode cc pc = .ok (.invokestatic idx, 3)) (hm : jMs own idx y bytes maxL ret' n) (K : jC l G y bytes maxL ret' fr lo 0 0 As M (.inl (none, M'))) (hR : fr + 1 ≤ R.frames ∧ 8 + (maxL + 11) + lo ≤ R.locals) (hn : As.length = n) (hst : stk = As.reverse ++ st) (h8 : (st.map fun v => v.category).sum ≤ 8) (hf : kc ≤ R.cells ∧ ks ≤ R.slots)
    (k' : J p l e R s m args below meth c G nL mc ms out (pc + 3) lv st M' kc ks) : J p l e R s m args below meth c G nL mc ms out pc lv stk M kc ks := J_callS C hd hm K hR hn hst h8 hf k'
end JSTR
theorem w_J0_9 : Cond.fieldLink RJ0 9 "java/lang/String" "value" "[B" ∈ jB := jB_in (by decide +kernel) (by decide +kernel)
theorem w_J0_15 : Cond.fieldLink RJ0 15 "java/lang/String" "coder" "B" ∈ jB := jB_in (by decide +kernel) (by decide +kernel)
theorem w_J0_38 : Cond.fieldLink RJ0 38 "java/lang/String" "COMPACT_STRINGS" "Z" ∈ jB := jB_in (by decide +kernel) (by decide +kernel)
theorem w_J0_1053 : Cond.fieldLink RJ0 1053 "jdk/internal/util/Preconditions" "SIOOBE_FORMATTER" "Ljava/util/function/BiFunction;" ∈ jB := jB_in (by decide +kernel) (by decide +kernel)
theorem jStr_ok : ∀ q ∈ jStr, q.2.2.2.length < 100 ∧ ∀ b ∈ q.2.2.2, b < 128 := by decide +kernel
theorem jStr_get {i a : Nat} {q : String × Nat × String × List Nat} (h : jStr[i]? = some q) : q.2.2.2.length < 100 ∧ q.2.2.2.getD a 0 < 128 := by
  have h1 := jStr_ok q (List.mem_of_getElem? h)
  refine ⟨h1.1, ?_⟩
  rw [List.getD_eq_getElem?_getD]
  cases h2 : q.2.2.2[a]? with
  | none => decide
  | some b => exact h1.2 b (List.mem_of_getElem? h2)
set_option maxHeartbeats 4000000 in
set_option maxRecDepth 100000 in
theorem c_coder (l : Launch) (G : jG) (M : jMem) {i : Nat} {q : String × Nat × String × List Nat} (hs : jStr[i]? = some q) : jC l G yJ0_coder_7d493 cJ0_coder_7d493 1 (some .byte) 1 12 0 0 [.ref (2000 + i)] M (.inl (some (.int 0), M)) := by
  refine jC.of (by decide) 0 rfl [some (.ref (2000 + i))] rfl (fun p e s m args below meth c C hT hN => ?_)
  refine J_getsC (pc := 0) C dJ0_coder_7d493_0 w_J0_38 ?_
  refine J_if_eq (pc := 3) (tgt := 13) C dJ0_coder_7d493_3 (by decide) (fun h => absurd h (by decide)) (fun h => ?_)
  refine J_aload_n (pc := 6) C dJ0_coder_7d493_6 rfl rfl ?_
  refine J_getSc (pc := 7) C dJ0_coder_7d493_7 hs w_J0_15 ?_
  refine J_goto (pc := 10) (tgt := 14) C dJ0_coder_7d493_10 (by decide) ?_
  exact J_zret (pc := 14) C dJ0_coder_7d493_14 rfl rfl rfl (Nat.zero_le _) (Nat.zero_le _)
set_option maxHeartbeats 4000000 in
set_option maxRecDepth 100000 in
theorem c_isLatin1 (l : Launch) (G : jG) (M : jMem) {i : Nat} {q : String × Nat × String × List Nat} (hs : jStr[i]? = some q) : jC l G yJ0_isLatin1_aae02 cJ0_isLatin1_aae02 1 (some .boolean) 1 12 0 0 [.ref (2000 + i)] M (.inl (some (.int (nI 1)), M)) := by
  refine jC.of (by decide) 0 rfl [some (.ref (2000 + i))] rfl (fun p e s m args below meth c C hT hN => ?_)
  refine J_getsC (pc := 0) C dJ0_isLatin1_aae02_0 w_J0_38 ?_
  refine J_if_eq (pc := 3) (tgt := 17) C dJ0_isLatin1_aae02_3 (by decide) (fun h => absurd h (by decide)) (fun h => ?_)
  refine J_aload_n (pc := 6) C dJ0_isLatin1_aae02_6 rfl rfl ?_
  refine J_getSc (pc := 7) C dJ0_isLatin1_aae02_7 hs w_J0_15 ?_
  refine J_if_ne (pc := 10) (tgt := 17) C dJ0_isLatin1_aae02_10 (by decide) (fun h => absurd rfl h) (fun h => ?_)
  refine J_iconst (pc := 13) (v := nI 1) C dJ0_isLatin1_aae02_13 (by decide) ?_
  refine J_goto (pc := 14) (tgt := 18) C dJ0_isLatin1_aae02_14 (by decide) ?_
  exact J_zret (pc := 18) C dJ0_isLatin1_aae02_18 rfl (by decide) rfl (Nat.zero_le _) (Nat.zero_le _)
set_option maxHeartbeats 4000000 in
set_option maxRecDepth 100000 in
theorem c_length (l : Launch) (G : jG) (M : jMem) {i : Nat} {q : String × Nat × String × List Nat} (hs : jStr[i]? = some q) : jC l G yJ0_length_8abf5 cJ0_length_8abf5 1 (some .int) 2 32 0 0 [.ref (2000 + i)] M (.inl (some (.int (nI q.2.2.2.length)), M)) := by
  have hq := (jStr_get (a := 0) hs).1
  refine jC.of (by decide) 0 rfl [some (.ref (2000 + i))] rfl (fun p e s m args below meth c C hT hN => ?_)
  refine J_aload_n (pc := 0) C dJ0_length_8abf5_0 rfl rfl ?_
  refine J_getSv (pc := 1) C dJ0_length_8abf5_1 hs w_J0_9 ?_
  refine J_alenS (pc := 4) C dJ0_length_8abf5_4 hs ?_
  refine J_aload_n (pc := 5) C dJ0_length_8abf5_5 rfl rfl ?_
  refine J_callVS (pc := 6) C dJ0_length_8abf5_6 m_J0_335 rfl hs (c_coder l G M hs) ⟨jle rfl, jle rfl⟩ rfl rfl (jle rfl) ⟨Nat.zero_le _, Nat.zero_le _⟩ ?_
  refine J_ishr (pc := 9) C dJ0_length_8abf5_9 ?_
  rw [sc_shr0 (by omega)]
  exact J_iret (pc := 10) C dJ0_length_8abf5_10 rfl rfl (Nat.zero_le _) (Nat.zero_le _)
set_option maxHeartbeats 4000000 in
set_option maxRecDepth 100000 in
theorem c_pci (l : Launch) (G : jG) (M : jMem) (a n : Nat) (v : Value) (hv : v = .null ∨ v = .ref 3999) (ha : a < n) (hn : n < 2 ^ 31) : jC l G yJ3_checkIndex_8e157 cJ3_checkIndex_8e157 3 (some .int) 1 12 0 0 [.int (nI a), .int (nI n), v] M (.inl (some (.int (nI a)), M)) := by
  have hc : v.category = 1 := by rcases hv with h | h <;> rw [h] <;> rfl
  have hk : (lg_sl ([Value.int (nI a), Value.int (nI n), v].map (jv G))).length + 0 = 3 := by rcases hv with h | h <;> rw [h] <;> rfl
  refine jC.of (by decide) 0 hk [some (.int (nI a)), some (.int (nI n)), some v] (by rcases hv with h | h <;> rw [h] <;> rfl) (fun p e s m args below meth c C hT hN => ?_)
  refine J_iload_n (pc := 0) C dJ3_checkIndex_8e157_0 rfl rfl ?_
  refine J_if_ltN (pc := 1) (tgt := 9) C dJ3_checkIndex_8e157_1 (by decide) (by omega) ?_
  refine J_iload_n (pc := 4) C dJ3_checkIndex_8e157_4 rfl rfl ?_
  refine J_iload_n (pc := 5) C dJ3_checkIndex_8e157_5 rfl rfl ?_
  refine J_icmp_ltN (pc := 6) (tgt := 16) C dJ3_checkIndex_8e157_6 (by decide) (by omega) (by omega) (fun h => ?_) (fun h => absurd h (by omega))
  refine J_iload_n (pc := 16) C dJ3_checkIndex_8e157_16 rfl rfl ?_
  exact J_iret (pc := 17) C dJ3_checkIndex_8e157_17 rfl rfl (Nat.zero_le _) (Nat.zero_le _)
set_option maxHeartbeats 4000000 in
set_option maxRecDepth 100000 in
theorem c_sci (l : Launch) (G : jG) (M : jMem) (a n : Nat) (ha : a < n) (hn : n < 2 ^ 31) : jC l G yJ0_checkIndex_df160 cJ0_checkIndex_df160 2 none 2 34 0 0 [.int (nI a), .int (nI n)] M (.inl (none, M)) := by
  refine jC.of (by decide) 0 rfl [some (.int (nI a)), some (.int (nI n))] rfl (fun p e s m args below meth c C hT hN => ?_)
  refine J_iload_n (pc := 0) C dJ0_checkIndex_df160_0 rfl rfl ?_
  refine J_iload_n (pc := 1) C dJ0_checkIndex_df160_1 rfl rfl ?_
  refine J_getsF (pc := 2) C dJ0_checkIndex_df160_2 w_J0_1053 ?_ ?_
  · refine J_callS1 (pc := 5) C dJ0_checkIndex_df160_5 m_J0_1059 (c_pci l G M a n _ (Or.inl rfl) ha hn) ⟨jle rfl, jle rfl⟩ rfl rfl (jle rfl) ⟨Nat.zero_le _, Nat.zero_le _⟩ ?_
    refine J_pop (pc := 8) C dJ0_checkIndex_df160_8 rfl ?_
    exact J_vret (pc := 9) C dJ0_checkIndex_df160_9 rfl rfl (Nat.zero_le _) (Nat.zero_le _)
  · refine J_callS1 (pc := 5) C dJ0_checkIndex_df160_5 m_J0_1059 (c_pci l G M a n _ (Or.inr rfl) ha hn) ⟨jle rfl, jle rfl⟩ rfl rfl (jle rfl) ⟨Nat.zero_le _, Nat.zero_le _⟩ ?_
    refine J_pop (pc := 8) C dJ0_checkIndex_df160_8 rfl ?_
    exact J_vret (pc := 9) C dJ0_checkIndex_df160_9 rfl rfl (Nat.zero_le _) (Nat.zero_le _)
set_option maxHeartbeats 4000000 in
set_option maxRecDepth 100000 in
theorem c_lca (l : Launch) (G : jG) (M : jMem) {i : Nat} {q : String × Nat × String × List Nat} (hs : jStr[i]? = some q) (a : Nat) (ha : a < q.2.2.2.length) : jC l G yJ1_charAt_3b067 cJ1_charAt_3b067 2 (some .char) 3 55 0 0 [.ref (3000 + i), .int (nI a)] M (.inl (some (.int (nI (q.2.2.2.getD a 0))), M)) := by
  have hq := jStr_get (a := a) hs
  refine jC.of (by decide) 0 rfl [some (.ref (3000 + i)), some (.int (nI a))] rfl (fun p e s m args below meth c C hT hN => ?_)
  refine J_iload_n (pc := 0) C dJ1_charAt_3b067_0 rfl rfl ?_
  refine J_aload_n (pc := 1) C dJ1_charAt_3b067_1 rfl rfl ?_
  refine J_alenS (pc := 2) C dJ1_charAt_3b067_2 hs ?_
  refine J_callS0 (pc := 3) C dJ1_charAt_3b067_3 m_J1_9 (c_sci l G M a _ ha (by omega)) ⟨jle rfl, jle rfl⟩ rfl rfl (jle rfl) ⟨Nat.zero_le _, Nat.zero_le _⟩ ?_
  refine J_aload_n (pc := 6) C dJ1_charAt_3b067_6 rfl rfl ?_
  refine J_iload_n (pc := 7) C dJ1_charAt_3b067_7 rfl rfl ?_
  refine J_baldS (pc := 8) C dJ1_charAt_3b067_8 hs ha (by omega) ?_
  refine J_sipush (pc := 9) (v := 255) C dJ1_charAt_3b067_9 (by decide) ?_
  refine J_iand (pc := 12) C dJ1_charAt_3b067_12 ?_
  rw [pk_andN (by omega) 8 (by decide), Nat.mod_eq_of_lt (by omega)]
  refine J_i2c (pc := 13) (v := nI (q.2.2.2.getD a 0)) C dJ1_charAt_3b067_13 (by rw [pk_char, pk_tn (by omega), Nat.mod_eq_of_lt (by omega)]) ?_
  exact J_zret (pc := 14) C dJ1_charAt_3b067_14 rfl (pk_charN (by omega)).1 rfl (Nat.zero_le _) (Nat.zero_le _)
set_option maxHeartbeats 4000000 in
set_option maxRecDepth 100000 in
theorem c_charAt (l : Launch) (G : jG) (M : jMem) {i : Nat} {q : String × Nat × String × List Nat} (hs : jStr[i]? = some q) (a : Nat) (ha : a < q.2.2.2.length) : jC l G yJ0_charAt_5068e cJ0_charAt_5068e 2 (some .char) 5 97 0 0 [.ref (2000 + i), .int (nI a)] M (.inl (some (.int (nI (q.2.2.2.getD a 0))), M)) := by
  have hq := jStr_get (a := a) hs
  refine jC.of (by decide) 0 rfl [some (.ref (2000 + i)), some (.int (nI a))] rfl (fun p e s m args below meth c C hT hN => ?_)
  refine J_aload_n (pc := 0) C dJ0_charAt_5068e_0 rfl rfl ?_
  refine J_callVS (pc := 1) C dJ0_charAt_5068e_1 m_J0_492 rfl hs (c_isLatin1 l G M hs) ⟨jle rfl, jle rfl⟩ rfl rfl (jle rfl) ⟨Nat.zero_le _, Nat.zero_le _⟩ ?_
  refine J_if_eqN (pc := 4) (tgt := 16) C dJ0_charAt_5068e_4 (by decide) (by omega) (fun h => absurd h (by decide)) (fun h => ?_)
  refine J_aload_n (pc := 7) C dJ0_charAt_5068e_7 rfl rfl ?_
  refine J_getSv (pc := 8) C dJ0_charAt_5068e_8 hs w_J0_9 ?_
  refine J_iload_n (pc := 11) C dJ0_charAt_5068e_11 rfl rfl ?_
  refine J_callS1 (pc := 12) C dJ0_charAt_5068e_12 m_J0_495 (c_lca l G M hs a ha) ⟨jle rfl, jle rfl⟩ rfl rfl (jle rfl) ⟨Nat.zero_le _, Nat.zero_le _⟩ ?_
  exact J_zret (pc := 15) C dJ0_charAt_5068e_15 rfl (pk_charN (by omega)).1 rfl (Nat.zero_le _) (Nat.zero_le _)
