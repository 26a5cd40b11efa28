theorem gt14 {L i : Nat} (hL : L ≤ 896) (hi : i ≤ L) : (nI L - nI 14 < nI i) ↔ L < i + 14 := by
  rw [Int32.lt_iff_toInt_lt, pk_sub_toInt (by omega) (by omega), nI_toInt (by omega)]
  omega
set_option maxHeartbeats 4000000 in
set_option maxRecDepth 100000 in
theorem lw_loop {p : Program} {l : Launch} {e : Env} {s : State} {m : MethodId} {args : Array Value} {below : List Frame} {meth : Method} {c : Code} {G : jG} {Q : State → Prop} {b L : Nat} {xs : Nat → Int32} (C : jX0 p l room_1 s m args meth c G cL_law 8 RL ret) (N : jNC s) (hst : l.stackTraces = false) (hX : va_X b L xs s s.heap) (hb : b < s.heap.size) (hbG : b < G.1) (hG : G.2.1 900 = b) (hL : L ≤ 896)
    (hend : ∀ lv M kc ks, kc ≤ room_1.cells → ks ≤ room_1.slots → Jq p l e room_1 s m args below meth c G 8 Q 1018 lv [.int (nI 1)] M kc ks) :
    ∀ d i kc ks er f n M, lE er f n M → L < i + 14 + 14 * d → i ≤ L → kc + d ≤ room_1.cells → ks + 6 * d ≤ room_1.slots → Jq p l e room_1 s m args below meth c G 8 Q 23 [some (.ref 2900), some (.ref 0), some (.ref 1000), some (.ref 1021), some (.int (nI i)), none, none, none] [] M kc ks := by
  intro d
  induction d with
  | zero =>
    intro i kc ks er f n M hE hd hi hc hs
    refine Q_iload (pc := 23) C dL_law_23 rfl ?_
    refine Q_aload_n (pc := 25) C dL_law_25 rfl rfl ?_
    refine Q_slen (pc := 26) C hX hb hbG hG dL_law_26 ?_
    refine Q_bipush (pc := 27) (v := nI 14) C dL_law_27 (by decide) ?_
    refine Q_isub (pc := 29) C dL_law_29 ?_
    refine Q_icmp_gt (pc := 30) (tgt := 1017) C dL_law_30 rfl (fun _ => ?_) (fun h => absurd ((gt14 hL hi).mpr (by omega)) h)
    refine Q_iconst (pc := 1017) (v := nI 1) C dL_law_1017 (by decide) ?_
    exact hend _ _ _ _ (by omega) (by omega)
  | succ d ih =>
    intro i kc ks er f n M hE hd hi hc hs
    refine Q_iload (pc := 23) C dL_law_23 rfl ?_
    refine Q_aload_n (pc := 25) C dL_law_25 rfl rfl ?_
    refine Q_slen (pc := 26) C hX hb hbG hG dL_law_26 ?_
    refine Q_bipush (pc := 27) (v := nI 14) C dL_law_27 (by decide) ?_
    refine Q_isub (pc := 29) C dL_law_29 ?_
    refine Q_icmp_gt (pc := 30) (tgt := 1017) C dL_law_30 rfl (fun _ => ?_) (fun h => ?_)
    · refine Q_iconst (pc := 1017) (v := nI 1) C dL_law_1017 (by decide) ?_
      exact hend _ _ _ _ (by omega) (by omega)
    · have hi14 : i + 14 ≤ L := by have := mt (gt14 hL hi).mpr h; omega
      refine Q_know C (fun nz => ?_)
      have hE' := hE.know nz
      refine Q_aload_n (pc := 33) C dL_law_33 rfl rfl ?_
      refine Q_iload (pc := 34) C dL_law_34 rfl ?_
      refine Q_sld (pc := 36) C hX hb hbG hG (by omega) (by omega) dL_law_36 ?_
      refine Q_bipush (pc := 37) (v := nI 15) C dL_law_37 (by decide) ?_
      refine Q_iand (pc := 39) C dL_law_39 ?_
      obtain ⟨k, hk, ek⟩ := and15 (xs i)
      rw [ek]
      have hnext : ∀ (a5 a6 a7 : Option Value) (M : jMem) (er : Nat) (f : Nat → Int64) (n : Option Nat) (kc ks : Nat), lE er f n M → kc + d ≤ room_1.cells → ks + 6 * d ≤ room_1.slots → Jq p l e room_1 s m args below meth c G 8 Q 1011 [some (.ref 2900), some (.ref 0), some (.ref 1000), some (.ref 1021), some (.int (nI i)), a5, a6, a7] [] M kc ks := by
        intro a5 a6 a7 M er f n kc ks hE hc hs
        refine Q_iinc (pc := 1011) (v := nI (i + 14)) C dL_law_1011 rfl (nI_add i 14) (jlt rfl) rfl ?_
        dsimp only [List.set]
        refine Q_goto (pc := 1014) (tgt := 23) C dL_law_1014 rfl ?_
        refine Q_drop ?_ (ih (i + 14) kc ks er f n M hE (by omega) (by omega) hc hs)
        intro j v h
        rcases j with _ | _ | _ | _ | _ | _ | _ | _ | j
        · exact h
        · exact h
        · exact h
        · exact h
        · exact h
        · cases h
        · cases h
        · cases h
        · cases h
      have h16 : k = 0 ∨ k = 1 ∨ k = 2 ∨ k = 3 ∨ k = 4 ∨ k = 5 ∨ k = 6 ∨ k = 7 ∨ k = 8 ∨ k = 9 ∨ k = 10 ∨ k = 11 ∨ k = 12 ∨ k = 13 ∨ k = 14 ∨ k = 15 := by omega
      rcases h16 with rfl | rfl | rfl | rfl | rfl | rfl | rfl | rfl | rfl | rfl | rfl | rfl | rfl | rfl | rfl | rfl
      · exact Q_tabIn (pc := 40) (off := 60) (tgt := 100) C dL_law_40 (by decide) (by decide) (by decide) rfl (lc_0 C N hst hX hb hbG hG hL hnext hE' hi14 (by omega) (by omega))
      · exact Q_tabIn (pc := 40) (off := 164) (tgt := 204) C dL_law_40 (by decide) (by decide) (by decide) rfl (lc_1 C N hst hX hb hbG hG hL hnext hE' hi14 (by omega) (by omega))
      · exact Q_tabIn (pc := 40) (off := 220) (tgt := 260) C dL_law_40 (by decide) (by decide) (by decide) rfl (lc_2 C N hst hX hb hbG hG hL hnext hE' hi14 (by omega) (by omega))
      · exact Q_tabIn (pc := 40) (off := 276) (tgt := 316) C dL_law_40 (by decide) (by decide) (by decide) rfl (lc_3 C N hst hX hb hbG hG hL hnext hE' hi14 (by omega) (by omega))
      · exact Q_tabIn (pc := 40) (off := 289) (tgt := 329) C dL_law_40 (by decide) (by decide) (by decide) rfl (lc_4 C N hst hX hb hbG hG hL hnext hE' hi14 (by omega) (by omega))
      · exact Q_tabIn (pc := 40) (off := 345) (tgt := 385) C dL_law_40 (by decide) (by decide) (by decide) rfl (lc_5 C N hst hX hb hbG hG hL hnext hE' hi14 (by omega) (by omega))
      · exact Q_tabIn (pc := 40) (off := 401) (tgt := 441) C dL_law_40 (by decide) (by decide) (by decide) rfl (lc_6 C N hst hX hb hbG hG hL hnext hE' hi14 (by omega) (by omega))
      · exact Q_tabIn (pc := 40) (off := 468) (tgt := 508) C dL_law_40 (by decide) (by decide) (by decide) rfl (lc_7 C N hst hX hb hbG hG hL hnext hE' hi14 (by omega) (by omega))
      · exact Q_tabIn (pc := 40) (off := 804) (tgt := 844) C dL_law_40 (by decide) (by decide) (by decide) rfl (lc_8 C N hst hX hb hbG hG hL hnext hE' hi14 (by omega) (by omega))
      · exact Q_tabIn (pc := 40) (off := 860) (tgt := 900) C dL_law_40 (by decide) (by decide) (by decide) rfl (lc_9 C N hst hX hb hbG hG hL hnext hE' hi14 (by omega) (by omega))
      · exact Q_tabIn (pc := 40) (off := 915) (tgt := 955) C dL_law_40 (by decide) (by decide) (by decide) rfl (lc_10 C N hst hX hb hbG hG hL hnext hE' hi14 (by omega) (by omega))
      · exact Q_tabOut (pc := 40) (tgt := 1011) C dL_law_40 (by decide) rfl (hnext none none none _ er f (some nz) kc ks hE' (by omega) (by omega))
      · exact Q_tabOut (pc := 40) (tgt := 1011) C dL_law_40 (by decide) rfl (hnext none none none _ er f (some nz) kc ks hE' (by omega) (by omega))
      · exact Q_tabOut (pc := 40) (tgt := 1011) C dL_law_40 (by decide) rfl (hnext none none none _ er f (some nz) kc ks hE' (by omega) (by omega))
      · exact Q_tabOut (pc := 40) (tgt := 1011) C dL_law_40 (by decide) rfl (hnext none none none _ er f (some nz) kc ks hE' (by omega) (by omega))
      · exact Q_tabOut (pc := 40) (tgt := 1011) C dL_law_40 (by decide) rfl (hnext none none none _ er f (some nz) kc ks hE' (by omega) (by omega))
