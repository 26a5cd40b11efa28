/-! MAKING: rows for any end Q -/
def jn (M : jMem) (k : Nat) (x : va_E) (n : Nat) : jMem := (va_up M.1 k (some x), some (n + 1))
theorem jW.alloc {G : jG} {M : jMem} {H H1 : Heap} {k n : Nat} {x : va_E} (h : jW G M H) (hn : M.2 = some n) (hk : jin k) (hz : H1.size = H.size + 1) (ho : ∀ q : Nat, q < H.size → H1[q]? = H[q]?) (hx : va_at G.2.2.1 vwCl (jr G k, je G x) H1) : jW G (jn M k x n) H1 := by
  have hs := h.2 n hn
  refine ⟨fun j z hj => ?_, fun n' hn' => ?_⟩
  · have hj : va_up M.1 k (some x) j = some z := hj
    by_cases e : j = k
    · subst e
      rw [va_up_self] at hj
      cases hj
      exact ⟨hk, hx⟩
    · rw [va_up_ne _ _ e] at hj
      obtain ⟨h2, h3⟩ := h.1 j z hj
      exact ⟨h2, h3.kept (ho _ h3.lt)⟩
  · have hn' : some (n + 1) = some n' := hn'
    cases hn'
    rw [hz, hs]; omega
section JQ
variable {p : Program} {l : Launch} {e : Env} {R : Room} {s : State} {m : MethodId} {args : Array Value} {below : List Frame} {meth : Method} {c : Code} {G : jG} {cc : ByteArray} {nL : Nat} {own : String} {ret : Option FieldType}
variable {pc kc ks : Nat} {Q : State → Prop} {lv : List (Option Value)} {st : List Value} {M : jMem}
def Jq (p : Program) (l : Launch) (e : Env) (R : Room) (s : State) (m : MethodId) (args : Array Value) (below : List Frame) (meth : Method) (c : Code) (G : jG) (nL : Nat) (Q : State → Prop) (pc : Nat) (lv : List (Option Value)) (st : List Value) (M : jMem) (kc ks : Nat) : Prop :=
  ∀ (H : Heap) (locs : List Loc) (ls : Array Slot), jW G M H → va_S (jA G) s.heap H locs → jL G ls nL lv → W p l e R s m args below meth c H locs kc ks Q (F0 m pc ls (st.map (jv G)))
theorem jS_ext {H H1 : Heap} {locs : List Loc} (hS : va_S (jA G) s.heap H locs) (z1 : H1.size = H.size + 1) (o1 : ∀ q : Nat, q < H.size → H1[q]? = H[q]?) : va_S (jA G) s.heap H1 locs :=
  ⟨Nat.le_trans hS.1 (by omega), fun x h1 h2 => (o1 x (Nat.lt_of_lt_of_le h1 hS.1)).trans (hS.2.1 x h1 h2), hS.2.2⟩
theorem Q_new (C : jX0 p l R s m args meth c G cc nL own ret) {idx ci k n N : Nat} {cn : String} {T : u_T} {fs : List Value} (hd : decode cc pc = .ok (.new idx, 3)) (hc : vwCl[ci]? = some (cn, T, N)) (hl : Cond.classLink own idx cn ∈ jB) (hi : Cond.instantiable cn N ∈ jB) (hini : Cond.initialized cn ∈ jB) (hfs : ∀ j, j < N → (parseFieldDescriptor (T j).2.2.1).map defaultValue = some (vp_V fs j)) (hj : fs.map (jv G) = fs) (hn : M.2 = some n) (hk : jin k) (hr : jr G k = G.1 + n) (hcs : kc + 1 ≤ R.cells) (hss : ks + N ≤ R.slots)
    (k' : Jq p l e R s m args below meth c G nL Q (pc + 3) lv (.ref k :: st) (jn M k (.inr (ci, fs)) n) (kc + 1) (ks + N)) : Jq p l e R s m args below meth c G nL Q pc lv st M kc ks := by
  intro H locs ls hM hS hl'
  obtain ⟨hin, ⟨ty0, hty0⟩, -⟩ := jB_cls _ _ hc
  have hKn := C.k.1 ci _ hc
  have hsz := hM.2 n hn
  refine W.newcK C.1 C.2.1 C.2.2.2.1 (C.w hl) (C.w hi) (C.w hini) rfl hd hcs hss hKn.2.1 rfl (fun H1 kC hkC e1 z1 o1 => ?_)
  have hat : va_at G.2.2.1 vwCl (jr G k, je G (.inr (ci, fs))) H1 := by
    show va_at G.2.2.1 vwCl (jr G k, .inr (ci, fs.map (jv G))) H1
    rw [hj, hr, ← hsz]
    refine ⟨_, hc, (u_born ty0 (fun w hw => C.w hw) hin hKn hkC e1 hty0).to (fun j hj => ?_)⟩
    have h1 := hfs j hj
    rw [hty0 j hj] at h1
    exact Option.some.inj h1
  have h9 := k' H1 locs ls (hM.alloc hn hk z1 o1 hat) (jS_ext hS z1 o1) hl'
  rw [List.map_cons, show jv G (.ref k) = .ref (jr G k) from rfl, hr, ← hsz] at h9
  exact h9
theorem Q_newi (C : jX0 p l R s m args meth c G cc nL own ret) {k n N : Nat} (hd : decode cc pc = .ok (.newarray .int, 2)) (hw : Cond.arrayClass .int ∈ jB) (hN : N < 2 ^ 20) (hn : M.2 = some n) (hk : jin k) (hr : jr G k = G.1 + n) (hcs : kc + 1 ≤ R.cells) (hss : ks + N ≤ R.slots)
    (k' : Jq p l e R s m args below meth c G nL Q (pc + 2) lv (.ref k :: st) (jn M k (nA N (fun _ => 0)) n) (kc + 1) (ks + N)) : Jq p l e R s m args below meth c G nL Q pc lv (.int (nI N) :: st) M kc ks := by
  intro H locs ls hM hS hl'
  have hsz := hM.2 n hn
  have hK := C.k.2 0 _ rfl
  refine va_newaK C.1 C.2.1 (atype := .int) (C.w hw) rfl hd rfl (nI_pos (by omega)) (nI_clamp (by omega)) (by show N * 4 ≤ 536870912; omega) hcs hss rfl (fun H1 cA e1 z1 o1 hAr hNm => ?_)
  have hcA : cA = G.2.2.2 0 := Option.some.inj (hNm.symm.trans hK.2)
  subst hcA
  have hat : va_at G.2.2.1 vwCl (jr G k, je G (nA N (fun _ => 0))) H1 := by
    rw [hr, ← hsz]
    exact e1
  have h9 := k' H1 locs ls (hM.alloc hn hk z1 o1 hat) (jS_ext hS z1 o1) hl'
  rw [List.map_cons, show jv G (.ref k) = .ref (jr G k) from rfl, hr, ← hsz] at h9
  exact h9
theorem Q_newl (C : jX0 p l R s m args meth c G cc nL own ret) {k n N : Nat} (hd : decode cc pc = .ok (.newarray .long, 2)) (hw : Cond.arrayClass .long ∈ jB) (hN : N < 2 ^ 20) (hn : M.2 = some n) (hk : jin k) (hr : jr G k = G.1 + n) (hcs : kc + 1 ≤ R.cells) (hss : ks + N ≤ R.slots)
    (k' : Jq p l e R s m args below meth c G nL Q (pc + 2) lv (.ref k :: st) (jn M k (lA N (fun _ => 0)) n) (kc + 1) (ks + N)) : Jq p l e R s m args below meth c G nL Q pc lv (.int (nI N) :: st) M kc ks := by
  intro H locs ls hM hS hl'
  have hsz := hM.2 n hn
  have hK := C.k.2 1 _ rfl
  refine va_newaK C.1 C.2.1 (atype := .long) (C.w hw) rfl hd rfl (nI_pos (by omega)) (nI_clamp (by omega)) (by show N * 8 ≤ 536870912; omega) hcs hss rfl (fun H1 cA e1 z1 o1 hAr hNm => ?_)
  have hcA : cA = G.2.2.2 1 := Option.some.inj (hNm.symm.trans hK.2)
  subst hcA
  have hat : va_at G.2.2.1 vwCl (jr G k, je G (lA N (fun _ => 0))) H1 := by
    rw [hr, ← hsz]
    exact e1
  have h9 := k' H1 locs ls (hM.alloc hn hk z1 o1 hat) (jS_ext hS z1 o1) hl'
  rw [List.map_cons, show jv G (.ref k) = .ref (jr G k) from rfl, hr, ← hsz] at h9
  exact h9
theorem Q_anew (C : jX0 p l R s m args meth c G cc nL own ret) {idx k n N t : Nat} {cn : String} (f0 : Nat → Option Nat) (hf0 : ∀ j, j < N → f0 j = none) (hd : decode cc pc = .ok (.anewarray idx, 3)) (hl : Cond.classLink own idx cn ∈ jB) (ht : (jT G)[t]? = some (G.2.2.2 t, .object cn)) (hao : va_AO cn s) (hN : N < 2 ^ 20) (hn : M.2 = some n) (hk : jin k) (hr : jr G k = G.1 + n) (hcs : kc + 1 ≤ R.cells) (hss : ks + N ≤ R.slots)
    (k' : Jq p l e R s m args below meth c G nL Q (pc + 3) lv (.ref k :: st) (jn M k (qA t N f0) n) (kc + 1) (ks + N)) : Jq p l e R s m args below meth c G nL Q pc lv (.int (nI N) :: st) M kc ks := by
  intro H locs ls hM hS hl'
  have hsz := hM.2 n hn
  obtain ⟨kA', comp', k1, k2, k3, k4⟩ := (C.k.2 t _ ht).2
  have hcl : (nI N).toNatClampNeg = N := nI_clamp (by omega)
  refine W.anew C.1 C.2.1 C.2.2.2.1 (C.w hl) (va_AO.use hao) rfl hd rfl (nI_pos (by omega)) (by rw [hcl]; omega) hcs (by rw [hcl]; exact hss) (fun cA kA comp f1 f2 f3 f4 => ?_)
  have hcA : cA = G.2.2.2 t := Option.some.inj (f1.symm.trans k4)
  subst hcA
  rw [hcl]
  generalize hH1 : H.push ({ cls := G.2.2.2 t, slots := Array.replicate N .null, vm := .none } : Cell) = H1
  have z1 : H1.size = H.size + 1 := by rw [← hH1, Array.size_push]
  have e1 : H1[H.size]? = some (arrV (G.2.2.2 t) N (fun _ => .null)) := by rw [← hH1, Array.getElem?_push_size, ← arrV_new]
  have o1 : ∀ q : Nat, q < H.size → H1[q]? = H[q]? := fun q hq => by rw [← hH1, Array.getElem?_push, if_neg (Nat.ne_of_lt hq)]
  have hat : va_at G.2.2.1 vwCl (jr G k, je G (qA t N f0)) H1 := by
    rw [hr, ← hsz]
    show H1[H.size]? = some (arrV (G.2.2.2 t) N (fun j => va_rf ((f0 j).map (jr G))))
    rw [e1]
    unfold arrV
    congr 2
    refine congrArg Array.ofFn (funext fun j => ?_)
    show Value.null = va_rf ((f0 j.val).map (jr G))
    rw [hf0 j.val j.isLt]
    rfl
  have h9 := k' H1 locs ls (hM.alloc hn hk z1 o1 hat) (jS_ext hS z1 o1) hl'
  rw [List.map_cons, show jv G (.ref k) = .ref (jr G k) from rfl, hr, ← hsz] at h9
  exact h9
theorem Q_aast (C : jX0 p l R s m args meth c G cc nL own ret) {k n t v ci a : Nat} {q : vw_C} {f : Nat → Option Nat} {fs : List Value} {M2 : jMem} (hd : decode cc pc = .ok (.aastore, 1)) (ht : (jT G)[t]? = some (G.2.2.2 t, .object q.1)) (hM0 : M.1 k = some (qA t n f)) (hv : M.1 v = some (.inr (ci, fs))) (hc : vwCl[ci]? = some q) (ha : a < n) (hn : n < 2 ^ 31) (hu : ju M k (qA t n (va_up f a (some v))) = M2) (k' : Jq p l e R s m args below meth c G nL Q (pc + 1) lv st M2 kc ks) : Jq p l e R s m args below meth c G nL Q pc lv (.ref v :: .int (nI a) :: .ref k :: st) M kc ks := by
  subst hu
  intro H locs ls hM hS hl'
  have h1 : H[jr G k]? = some (vp_cell (G.2.2.2 t) (n, .inr (.inr (.inr (.inr (fun j => (f j).map (jr G))))))) := (hM.at hM0).2
  obtain ⟨r', hr', cellV, g1, g2, g3, -⟩ := (hM.at hv).2
  have hcls := (C.k.1 ci q hc).2
  obtain ⟨kA, comp, k1, k2, k3, -⟩ := (C.k.2 t _ ht).2
  have hcomp : comp = G.2.2.1.1 ci := Option.some.inj (k3.symm.trans hcls.1)
  subst hcomp
  obtain ⟨kC, hkC, -⟩ := hcls.2
  have hcl : (nI a).toNatClampNeg = a := nI_clamp (by omega)
  refine W.aast C.1 C.2.1 h1 (fun q h => by cases h) (fun h => by cases h) k1 k2 rfl hkC ⟨nI_pos (by omega), by show _ < (arrV _ _ _).slots.size; rw [arrV_size, hcl]; exact ha⟩ g1 (fun q h => by rw [g3] at h; cases h) (by rw [g2]; exact hkC) (by rw [g2]; exact va_assign hcls) rfl rfl hd fun H1 e1 z oq => ?_
  refine k' H1 _ ls (hM.set hM0 ?_ z oq) (hS.put z oq (hM.at hM0).1) hl'
  show H1[jr G k]? = some (vp_cell (G.2.2.2 t) (n, .inr (.inr (.inr (.inr (fun j => (va_up f a (some v) j).map (jr G)))))))
  rw [e1, vp_cell_q, vp_cell_q, arrV_store]
  congr 2
  funext q
  rw [hcl]
  by_cases hq : q = a
  · subst hq
    simp [updV, va_up, va_rf]
  · simp [updV, va_up, hq]
/-- Object.<init> -/
theorem Q_obj (C : jX0 p l R s m args meth c G cc nL own ret) {idx k : Nat} (hd : decode cc pc = .ok (.invokespecial idx, 3)) (hl : Cond.methodLink own idx Lib.objectInit ∈ jB) (hi : Cond.instanceMethod Lib.objectInit ∈ jB) (hcd : Cond.code Lib.objectInit ⟨#[0xb1]⟩ 1 none ∈ jB) (hf : 1 ≤ R.frames) (hlo : (st.map fun v => v.category).sum + 12 ≤ R.locals)
    (k' : Jq p l e R s m args below meth c G nL Q (pc + 3) lv st M kc ks) : Jq p l e R s m args below meth c G nL Q pc lv (.ref k :: st) M kc ks := by
  intro H locs ls hM hS hl'
  exact W.objInit C.1 C.2.1 C.2.2.2.1 (C.w hl) (C.w hi) (C.w hcd) rfl (hl'.1.trans C.2.2.1.symm) rfl hd hf (by show 0 + _ + 12 ≤ _; rw [jcat, Nat.zero_add]; exact hlo) (k' H locs ls hM hS hl')
theorem qrun_ret {H : Heap} {locs : List Loc} {ls : Array Slot} {c1 s1 : Nat} {v : Option Value} {M' : jMem} {a : Array Value} {st0 rest : List Value} (hr : vx_Run p l e R s m args below meth c H locs kc ks c1 s1 (F0 m pc ls st0) (rest.map (jv G)) (jQ G (.inl (v, M')) a) (jX G (.inl (v, M'))) (jA G)) (hS : va_S (jA G) s.heap H locs) (hl : jL G ls nL lv) (k : Jq p l e R s m args below meth c G nL Q (pc + 3) lv (v.toList ++ rest) M' (kc + c1) (ks + s1)) :
    W p l e R s m args below meth c H locs kc ks Q (F0 m pc ls st0) := by
  intro T hT X
  rcases hr T hT X with ⟨w, st₀, t, T', L, h0, X', hL, e1, e2, ⟨hw, hM', hF⟩, stp⟩ | ⟨q, st₀, t, T', L, E, ce, h0, X', hL, e1, e2, hx, -⟩
  · have hw : w = v.map (jv G) := Outcome.returned.inj hw
    obtain ⟨-, -, k3⟩ := vx_keep h0 e1 hS (fun _ _ h => h) (fun _ h => h) hL hF
    obtain ⟨t2, a1, b1⟩ := k T'.heap (locs ++ L) ls (by rw [e1]; exact hM') k3 hl T' rfl X'
    refine ⟨t2, stp t2 ?_, b1⟩
    subst hw
    cases v <;> exact a1
  · exact hx.elim
/-- a constructor -/
theorem Q_callI {y : MethodName} {bytes : ByteArray} {maxL n idx fr lo c1 s1 k : Nat} {As stk : List Value} {M' : jMem} (C : jX0 p l R s m args meth c G cc nL own ret) (hd : decode cc pc = .ok (.invokespecial idx, 3)) (hm : jMi own idx y bytes maxL n) (K : jC l G y bytes maxL none fr lo c1 s1 (.ref k :: As) M (.inl (none, M'))) (hR : fr + 1 ≤ R.frames ∧ 8 + (maxL + 11) + lo ≤ R.locals) (hn : As.length = n) (hst : stk = As.reverse ++ .ref k :: st) (h8 : (st.map fun v => v.category).sum ≤ 8) (hf : kc + c1 ≤ R.cells ∧ ks + s1 ≤ R.slots)
    (k' : Jq p l e R s m args below meth c G nL Q (pc + 3) lv st M' (kc + c1) (ks + s1)) : Jq p l e R s m args below meth c G nL Q pc lv stk M kc ks := by
  intro H locs ls hM hS hl
  have hp := jpre (As := .ref k :: As) C hM hS
  refine qrun_ret (v := none) (rest := st) (a := (Value.ref (jr G k) :: As.map (jv G)).toArray) (jrun_of (va_runI (As := As.map (jv G)) (b := jr G k) (rest := st.map (jv G)) (n := n) (Ts := jB) (own := own) (nL := nL) (cc := cc) (maxL := maxL) (bytes := bytes) (index := idx) ⟨C.1, C.2.1, C.2.2.1, C.2.2.2.1, C.2.2.2.2.1⟩ K.met ⟨jcB C hm.1 hm.2.1 hR, hm.2.2.2, C.w hm.2.2.1⟩ hp rfl (by rw [List.length_map]; exact hn) hl.1 ?_ ?_ hd hf)) hS hl k'
  · rw [hst]; exact jstk
  · exact lv_room (by rw [jcat]; exact h8)
/-- a private constructor of a nest mate -/
theorem Q_callIN {y : MethodName} {bytes : ByteArray} {maxL n idx fr lo c1 s1 k : Nat} {host : String} {As stk : List Value} {M' : jMem} (C : jX0 p l R s m args meth c G cc nL own ret) (hd : decode cc pc = .ok (.invokespecial idx, 3)) (hm : jMc y bytes maxL none n) (hl9 : Cond.methodLinkNest own idx y host ∈ jN) (hi9 : Cond.instanceMethod y ∈ jB) (hy9 : y.name = "<init>") (K : jC l G y bytes maxL none fr lo c1 s1 (.ref k :: As) M (.inl (none, M'))) (hR : fr + 1 ≤ R.frames ∧ 8 + (maxL + 11) + lo ≤ R.locals) (hn : As.length = n) (hst : stk = As.reverse ++ .ref k :: st) (h8 : (st.map fun v => v.category).sum ≤ 8) (hf : kc + c1 ≤ R.cells ∧ ks + s1 ≤ R.slots)
    (k' : Jq p l e R s m args below meth c G nL Q (pc + 3) lv st M' (kc + c1) (ks + s1)) : Jq p l e R s m args below meth c G nL Q pc lv stk M kc ks := by
  intro H locs ls hM hS hl
  have hp := jpre (As := .ref k :: As) C hM hS
  refine qrun_ret (v := none) (rest := st) (a := (Value.ref (jr G k) :: As.map (jv G)).toArray) (jrun_of (va_runIN (As := As.map (jv G)) (b := jr G k) (rest := st.map (jv G)) (n := n) (Ts := jB) (own := own) (nL := nL) (cc := cc) (maxL := maxL) (bytes := bytes) (index := idx) (host := host) ⟨C.1, C.2.1, C.2.2.1, C.2.2.2.1, C.2.2.2.2.1⟩ K.met ⟨va_cnB n C.2.2.2.2.1 (jB_GoodIn (fun w hw => ?_)) rfl rfl rfl (C.S.2.2.1 _ hl9) (C.w hm.2.1) hm.2.2 hR, hy9, C.w hi9⟩ hp rfl (by rw [List.length_map]; exact hn) hl.1 ?_ ?_ hd hf)) hS hl k'
  · rcases List.mem_cons.mp hw with h | h
    · rw [h]; exact hm.1
    · exact h
  · rw [hst]; exact jstk
  · exact lv_room (by rw [jcat]; exact h8)
end JQ
