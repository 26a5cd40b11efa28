/-! rows on memory, calls, ends -/
theorem jB_lay0 : ∀ w ∈ u_ws RX0 TX0 9, w ∈ jB := by
  have h : ∀ w ∈ u_ws RX0 TX0 9, w ∈ lw_tbl ∧ goodWord w = true := by decide +kernel
  exact fun w hw => jB_in (h w hw).1 (h w hw).2
theorem jB_lay1 : ∀ w ∈ u_ws RX1 TX1 3, w ∈ jB := by
  have h : ∀ w ∈ u_ws RX1 TX1 3, w ∈ lw_tbl ∧ goodWord w = true := by decide +kernel
  exact fun w hw => jB_in (h w hw).1 (h w hw).2
theorem jB_lay2 : ∀ w ∈ u_ws RX2 TX2 6, w ∈ jB := by
  have h : ∀ w ∈ u_ws RX2 TX2 6, w ∈ lw_tbl ∧ goodWord w = true := by decide +kernel
  exact fun w hw => jB_in (h w hw).1 (h w hw).2
theorem jB_lay3 : ∀ w ∈ u_ws RX3 TX3 2, w ∈ jB := by
  have h : ∀ w ∈ u_ws RX3 TX3 2, w ∈ lw_tbl ∧ goodWord w = true := by decide +kernel
  exact fun w hw => jB_in (h w hw).1 (h w hw).2
theorem jB_lay4 : ∀ w ∈ u_ws RX4 TX4 3, w ∈ jB := by
  have h : ∀ w ∈ u_ws RX4 TX4 3, w ∈ lw_tbl ∧ goodWord w = true := by decide +kernel
  exact fun w hw => jB_in (h w hw).1 (h w hw).2
theorem jB_lay5 : ∀ w ∈ u_ws RX5 TX5 5, w ∈ jB := by
  have h : ∀ w ∈ u_ws RX5 TX5 5, w ∈ lw_tbl ∧ goodWord w = true := by decide +kernel
  exact fun w hw => jB_in (h w hw).1 (h w hw).2
theorem jB_lay6 : ∀ w ∈ u_ws RX6 TX6 4, w ∈ jB := by
  have h : ∀ w ∈ u_ws RX6 TX6 4, w ∈ lw_tbl ∧ goodWord w = true := by decide +kernel
  exact fun w hw => jB_in (h w hw).1 (h w hw).2
theorem jB_lay7 : ∀ w ∈ u_ws RX7 TX7 5, w ∈ jB := by
  have h : ∀ w ∈ u_ws RX7 TX7 5, w ∈ lw_tbl ∧ goodWord w = true := by decide +kernel
  exact fun w hw => jB_in (h w hw).1 (h w hw).2
theorem jB_lay8 : ∀ w ∈ u_ws RX8 TX8 6, w ∈ jB := by
  have h : ∀ w ∈ u_ws RX8 TX8 6, w ∈ lw_tbl ∧ goodWord w = true := by decide +kernel
  exact fun w hw => jB_in (h w hw).1 (h w hw).2
theorem jB_lay9 : ∀ w ∈ u_ws RX9 TX9 7, w ∈ jB := by
  have h : ∀ w ∈ u_ws RX9 TX9 7, w ∈ lw_tbl ∧ goodWord w = true := by decide +kernel
  exact fun w hw => jB_in (h w hw).1 (h w hw).2
theorem jB_lay10 : ∀ w ∈ u_ws RX10 TX10 9, w ∈ jB := by
  have h : ∀ w ∈ u_ws RX10 TX10 9, w ∈ lw_tbl ∧ goodWord w = true := by decide +kernel
  exact fun w hw => jB_in (h w hw).1 (h w hw).2
theorem jB_lay11 : ∀ w ∈ u_ws RX11 TX11 35, w ∈ jB := by
  have h : ∀ w ∈ u_ws RX11 TX11 35, w ∈ lw_tbl ∧ goodWord w = true := by decide +kernel
  exact fun w hw => jB_in (h w hw).1 (h w hw).2
/-- of every class: its layout's words, its field types, its field names apart -/
theorem jB_cls : ∀ (ci : Nat) (q : vw_C), vwCl[ci]? = some q → (∀ w ∈ u_ws q.1 q.2.1 q.2.2, w ∈ jB) ∧ (∃ ty : Nat → FieldType, ∀ k, k < q.2.2 → parseFieldDescriptor (q.2.1 k).2.2.1 = some (ty k)) ∧ ∀ a, a < q.2.2 → ∀ b, b < q.2.2 → a ≠ b → (q.2.1 a).2.1 ≠ (q.2.1 b).2.1 := by
  intro ci q h
  match ci, h with
  | 0, h => cases h; exact ⟨jB_lay0, ⟨tyX0, tyX0_ok⟩, nmX0⟩
  | 1, h => cases h; exact ⟨jB_lay1, ⟨tyX1, tyX1_ok⟩, nmX1⟩
  | 2, h => cases h; exact ⟨jB_lay2, ⟨tyX2, tyX2_ok⟩, nmX2⟩
  | 3, h => cases h; exact ⟨jB_lay3, ⟨tyX3, tyX3_ok⟩, nmX3⟩
  | 4, h => cases h; exact ⟨jB_lay4, ⟨tyX4, tyX4_ok⟩, nmX4⟩
  | 5, h => cases h; exact ⟨jB_lay5, ⟨tyX5, tyX5_ok⟩, nmX5⟩
  | 6, h => cases h; exact ⟨jB_lay6, ⟨tyX6, tyX6_ok⟩, nmX6⟩
  | 7, h => cases h; exact ⟨jB_lay7, ⟨tyX7, tyX7_ok⟩, nmX7⟩
  | 8, h => cases h; exact ⟨jB_lay8, ⟨tyX8, tyX8_ok⟩, nmX8⟩
  | 9, h => cases h; exact ⟨jB_lay9, ⟨tyX9, tyX9_ok⟩, nmX9⟩
  | 10, h => cases h; exact ⟨jB_lay10, ⟨tyX10, tyX10_ok⟩, nmX10⟩
  | 11, h => cases h; exact ⟨jB_lay11, ⟨tyX11, tyX11_ok⟩, nmX11⟩
  | n + 12, h => simp [vwCl] at h
section JM
variable {p : Program} {l : Launch} {e : Env} {R : Room} {s : State} {m : MethodId} {args : Array Value} {below : List Frame} {meth : Method} {c : Code} {G : jG} {cc : ByteArray} {nL : Nat} {own : String} {ret : Option FieldType}
variable {mc ms pc kc ks : Nat} {out : jO} {lv : List (Option Value)} {st : List Value} {M : jMem}
theorem jP1 {H : Heap} {k : Nat} {x : va_E} (hM : jW G M H) (hk : M.1 k = some x) : va_P G.2.2.1 vwCl [(jr G k, je G x)] H := by
  intro i q hq
  match i, hq with
  | 0, hq => cases hq; exact (hM.at hk).2
  | n + 1, hq => simp at hq
theorem J_get (C : jX0 p l R s m args meth c G cc nL own ret) {idx ci j k : Nat} {fs : List Value} {v : Value} (hd : decode cc pc = .ok (.getfield idx, 3)) (hf : jF own idx ci j) (hM0 : M.1 k = some (.inr (ci, fs))) (hv : fs[j]? = some v) (k' : J p l e R s m args below meth c G nL mc ms out (pc + 3) lv (v :: st) M kc ks) : J p l e R s m args below meth c G nL mc ms out pc lv (.ref k :: st) M kc ks := by
  intro H locs ls hM hS hl
  obtain ⟨⟨cn, T, N⟩, hc, hj, hw⟩ := hf
  refine va_get (ws := [(jr G k, je G (.inr (ci, fs)))]) C.1 C.2.1 C.2.2.2.2.1 (jB_cls _ _ hc).1 C.2.2.2.1 C.2.2.2.2.2.2.2.1 (jP1 hM hM0) 0 (fs := fs.map (jv G)) rfl hc j hj (C.2.2.2.2.1 _ hw) (fun _ h => h) (v := jv G v) ?_ hd (k' H locs ls hM hS hl)
  rw [List.getElem?_map, hv]; rfl
theorem J_put (C : jX0 p l R s m args meth c G cc nL own ret) {idx ci j k : Nat} {fs : List Value} {v : Value} {ty : FieldType} (hd : decode cc pc = .ok (.putfield idx, 3)) (hf : jFp false own idx ci j ty) (hM0 : M.1 k = some (.inr (ci, fs))) (hj' : j < fs.length) (hn : narrow ty (jv G v) = jv G v) (hfit : fits ty (jv G v) = true) (k' : J p l e R s m args below meth c G nL mc ms out (pc + 3) lv st (ju M k (.inr (ci, fs.set j v))) kc ks) : J p l e R s m args below meth c G nL mc ms out pc lv (v :: .ref k :: st) M kc ks := by
  intro H locs ls hM hS hl
  obtain ⟨⟨cn, T, N⟩, hc, hj, hfin, hty, -, hw⟩ := hf
  obtain ⟨hin, ⟨ty0, hty0⟩, hnm⟩ := jB_cls _ _ hc
  have hts := C.2.2.2.2.1
  have hK : jK G s := C.2.2.2.2.2.2.2.1
  have hap := va_apart (own := own) hts hin ty0 hty0 hnm hK hc
  obtain ⟨r, h1, cell, q1, q2, q3, q4⟩ := (hM.at hM0).2
  have hr : r = (cn, T, N) := Option.some.inj (h1.symm.trans hc)
  subst hr
  obtain ⟨hSl, hfc, kC, hkC, hkind⟩ := hK.1 ci _ hc
  obtain ⟨cf, kf, fi, f, hi, hsl⟩ := hSl j hj
  have hlay := hts _ (hin _ (u_in_lay hj))
  unfold u_lay at hlay
  rw [if_neg (by rw [hfin]; decide)] at hlay
  have hst := (u_facts hfc hkC (u_lays hts hin hj) hi).1
  have h6 := u_store hfc hkC hkind hlay hi hty hn hfit
  refine W.putK C.1 C.2.1 (f := f) ⟨C.2.2.2.1, hts _ hw, ⟨_, _, _, hi⟩, hst⟩ (by rw [q2]; exact h6) q1 q3 (by rw [hsl]; exact k2_hasslot (q4 j hj)) rfl rfl hd fun H' e1 e2 e3 => ?_
  rw [hsl] at e1 ⊢
  have hb : jA G (jr G k) := (hM.at hM0).1
  refine k' H' _ ls (hM.set hM0 ⟨_, hc, ?_⟩ e2 e3) (hS.put e2 e3 hb) hl
  have hl2 : j < (fs.map (jv G)).length := by rw [List.length_map]; exact hj'
  have e9 : (fs.set j v).map (jv G) = (fs.map (jv G)).set j (jv G v) := by rw [List.map_set]
  show t_OB _ _ _ _ _ (vp_V ((fs.set j v).map (jv G)))
  rw [e9]
  exact t_OB.to (V := updV (vp_V (fs.map (jv G))) j (jv G v)) ⟨_, e1, q2, q3, t_set q4 hap hj _⟩ (fun i _ => vp_updV_set hl2 _ i)
theorem J_putF (C : jX0 p l R s m args meth c G cc nL own ret) (hin2 : meth.name = "<init>") {idx ci j k : Nat} {fs : List Value} {v : Value} {ty : FieldType} (hd : decode cc pc = .ok (.putfield idx, 3)) (hf : jFp true own idx ci j ty) (hM0 : M.1 k = some (.inr (ci, fs))) (hj' : j < fs.length) (hn : narrow ty (jv G v) = jv G v) (hfit : fits ty (jv G v) = true) (k' : J p l e R s m args below meth c G nL mc ms out (pc + 3) lv st (ju M k (.inr (ci, fs.set j v))) kc ks) : J p l e R s m args below meth c G nL mc ms out pc lv (v :: .ref k :: st) M kc ks := by
  intro H locs ls hM hS hl
  obtain ⟨⟨cn, T, N⟩, hc, hj, hfin, hty, hdecl, hw⟩ := hf
  obtain ⟨hin, ⟨ty0, hty0⟩, hnm⟩ := jB_cls _ _ hc
  have hts := C.2.2.2.2.1
  have hK : jK G s := C.2.2.2.2.2.2.2.1
  have hown := C.2.2.2.1
  have hdecl : (T j).1 = own := hdecl
  have hap := va_apart (own := own) hts hin ty0 hty0 hnm hK hc
  obtain ⟨r, h1, cell, q1, q2, q3, q4⟩ := (hM.at hM0).2
  have hr : r = (cn, T, N) := Option.some.inj (h1.symm.trans hc)
  subst hr
  obtain ⟨hSl, hfc, kC, hkC, hkind⟩ := hK.1 ci _ hc
  obtain ⟨cf, kf, fi, f, hi, hsl⟩ := hSl j hj
  have hlay := hts _ (hin _ (u_in_lay hj))
  unfold u_lay at hlay
  rw [if_pos hfin] at hlay
  have hst := (u_facts hfc hkC (u_lays hts hin hj) hi).1
  have hcf : m.cls = cf := by
    obtain ⟨_, _, c', _, _, _, -, -, hf', -, -, -, hown2, -⟩ := Cond.laysFinal_spec hlay
    have e1 : c' = cf := by have := hi.symm.trans hf'; simp at this; exact this.1.symm
    rw [show ((cn, T, N) : vw_C).2.1 j = T j from rfl, hdecl] at hown2
    rw [← e1]; exact Option.some.inj (hown.symm.trans hown2)
  have h6 := u_fits hfc hkC hkind (Or.inr hlay) hi hty hn hfit
  refine W.putFinK C.1 C.2.1 hown (hts _ hw) hi hst hcf hin2 (by rw [q2]; exact h6) q1 q3 (by rw [hsl]; exact k2_hasslot (q4 j hj)) rfl rfl hd fun H' e1 e2 e3 => ?_
  rw [hsl] at e1 ⊢
  have hb : jA G (jr G k) := (hM.at hM0).1
  refine k' H' _ ls (hM.set hM0 ⟨_, hc, ?_⟩ e2 e3) (hS.put e2 e3 hb) hl
  have hl2 : j < (fs.map (jv G)).length := by rw [List.length_map]; exact hj'
  have e9 : (fs.set j v).map (jv G) = (fs.map (jv G)).set j (jv G v) := by rw [List.map_set]
  show t_OB _ _ _ _ _ (vp_V ((fs.set j v).map (jv G)))
  rw [e9]
  exact t_OB.to (V := updV (vp_V (fs.map (jv G))) j (jv G v)) ⟨_, e1, q2, q3, t_set q4 hap hj _⟩ (fun i _ => vp_updV_set hl2 _ i)
theorem J_iald (C : jX0 p l R s m args meth c G cc nL own ret) {k n : Nat} {f : Nat → Int32} {i : Int32} (hd : decode cc pc = .ok (.iaload, 1)) (hM0 : M.1 k = some (.inl (0, n, .inl f))) (hin : vp_in i n) (k' : J p l e R s m args below meth c G nL mc ms out (pc + 1) lv (.int (f i.toNatClampNeg) :: st) M kc ks) : J p l e R s m args below meth c G nL mc ms out pc lv (.int i :: .ref k :: st) M kc ks := by
  intro H locs ls hM hS hl
  exact va_iald (cA := G.2.2.2 0) C.1 C.2.1 C.2.2.2.2.2.2.2.1 (jP1 hM hM0) 0 0 rfl rfl hin hd (k' H locs ls hM hS hl)
theorem J_lald (C : jX0 p l R s m args meth c G cc nL own ret) {k n : Nat} {f : Nat → Int64} {i : Int32} (hd : decode cc pc = .ok (.laload, 1)) (hM0 : M.1 k = some (.inl (1, n, .inr (.inl f)))) (hin : vp_in i n) (k' : J p l e R s m args below meth c G nL mc ms out (pc + 1) lv (.long (f i.toNatClampNeg) :: st) M kc ks) : J p l e R s m args below meth c G nL mc ms out pc lv (.int i :: .ref k :: st) M kc ks := by
  intro H locs ls hM hS hl
  exact va_lald (cA := G.2.2.2 1) C.1 C.2.1 C.2.2.2.2.2.2.2.1 (jP1 hM hM0) 0 1 rfl rfl hin hd (k' H locs ls hM hS hl)
theorem J_aald (C : jX0 p l R s m args meth c G cc nL own ret) {k n t b : Nat} {f : Nat → Option Nat} {i : Int32} (hd : decode cc pc = .ok (.aaload, 1)) (hM0 : M.1 k = some (.inl (t, n, .inr (.inr (.inr (.inr f)))))) (ht : t = 2 ∨ t = 3) (hin : vp_in i n) (hb : f i.toNatClampNeg = some b) (k' : J p l e R s m args below meth c G nL mc ms out (pc + 1) lv (.ref b :: st) M kc ks) : J p l e R s m args below meth c G nL mc ms out pc lv (.int i :: .ref k :: st) M kc ks := by
  intro H locs ls hM hS hl
  have kk := k' H locs ls hM hS hl
  have e9 : va_rf ((fun j => (f j).map (jr G)) i.toNatClampNeg) = jv G (.ref b) := by
    show va_rf ((f i.toNatClampNeg).map (jr G)) = _
    rw [hb]; rfl
  rcases ht with rfl | rfl
  · exact va_aldq (cA := G.2.2.2 2) (C := RX5) C.1 C.2.1 C.2.2.2.2.2.2.2.1 (jP1 hM hM0) 0 2 rfl rfl hin hd (by rw [e9]; exact kk)
  · exact va_aldq (cA := G.2.2.2 3) (C := RX6) C.1 C.2.1 C.2.2.2.2.2.2.2.1 (jP1 hM hM0) 0 3 rfl rfl hin hd (by rw [e9]; exact kk)
theorem J_alen (C : jX0 p l R s m args meth c G cc nL own ret) {k t : Nat} {x : vp_A} (hd : decode cc pc = .ok (.arraylength, 1)) (hM0 : M.1 k = some (.inl (t, x))) (ht : t < 4) (k' : J p l e R s m args below meth c G nL mc ms out (pc + 1) lv (.int (nI x.1) :: st) M kc ks) : J p l e R s m args below meth c G nL mc ms out pc lv (.ref k :: st) M kc ks := by
  intro H locs ls hM hS hl
  have hP := jP1 hM hM0
  have kk := k' H locs ls hM hS hl
  have hT : ∃ ty, (jT G)[t]? = some (G.2.2.2 t, ty) := by
    match t, ht with
    | 0, _ => exact ⟨_, rfl⟩
    | 1, _ => exact ⟨_, rfl⟩
    | 2, _ => exact ⟨_, rfl⟩
    | 3, _ => exact ⟨_, rfl⟩
  obtain ⟨ty, hty⟩ := hT
  obtain ⟨n, f | f | f | f | f⟩ := x
  · exact va_alen (cA := G.2.2.2 t) C.1 C.2.1 C.2.2.2.2.2.2.2.1 hP 0 t rfl hty rfl hd kk
  · exact va_alen (cA := G.2.2.2 t) C.1 C.2.1 C.2.2.2.2.2.2.2.1 hP 0 t rfl hty rfl hd kk
  · exact va_alen (cA := G.2.2.2 t) C.1 C.2.1 C.2.2.2.2.2.2.2.1 hP 0 t rfl hty rfl hd kk
  · exact va_alen (cA := G.2.2.2 t) C.1 C.2.1 C.2.2.2.2.2.2.2.1 hP 0 t rfl hty rfl hd kk
  · exact va_alen (cA := G.2.2.2 t) C.1 C.2.1 C.2.2.2.2.2.2.2.1 hP 0 t rfl hty rfl hd kk
theorem J_iast (C : jX0 p l R s m args meth c G cc nL own ret) {k n : Nat} {f : Nat → Int32} {i x : Int32} (hd : decode cc pc = .ok (.iastore, 1)) (hM0 : M.1 k = some (.inl (0, n, .inl f))) (hin : vp_in i n) (k' : J p l e R s m args below meth c G nL mc ms out (pc + 1) lv st (ju M k (.inl (0, n, .inl (upd f i.toNatClampNeg x)))) kc ks) : J p l e R s m args below meth c G nL mc ms out pc lv (.int x :: .int i :: .ref k :: st) M kc ks := by
  intro H locs ls hM hS hl
  have h1 : H[jr G k]? = some (vp_cell (G.2.2.2 0) (n, .inl f)) := (hM.at hM0).2
  have hK : jK G s := C.2.2.2.2.2.2.2.1
  have hb : jA G (jr G k) := (hM.at hM0).1
  refine W.iast C.1 C.2.1 h1 ((hK.2 0 _ rfl).1 n (fun j => .int (f j))) (fun q => by cases q) (by show ¬ (i < 0 ∨ (arrV _ _ _).slots.size ≤ _); rw [arrV_size]; exact hin) rfl rfl hd fun H1 e1 z oq => ?_
  refine k' H1 _ ls (hM.set hM0 ?_ z oq) (hS.put z oq hb) hl
  show H1[jr G k]? = some (vp_cell (G.2.2.2 0) (n, .inl (upd f i.toNatClampNeg x)))
  rw [e1, vp_cell_i, vp_cell_i, arrV_store]
  congr 2
  funext q
  by_cases hq : q = i.toNatClampNeg
  · subst hq
    simp [updV, upd]
  · simp [updV, upd, hq]
theorem J_last (C : jX0 p l R s m args meth c G cc nL own ret) {k n : Nat} {f : Nat → Int64} {i : Int32} {x : Int64} (hd : decode cc pc = .ok (.lastore, 1)) (hM0 : M.1 k = some (.inl (1, n, .inr (.inl f)))) (hin : vp_in i n) (k' : J p l e R s m args below meth c G nL mc ms out (pc + 1) lv st (ju M k (.inl (1, n, .inr (.inl (vp_updL f i.toNatClampNeg x))))) kc ks) : J p l e R s m args below meth c G nL mc ms out pc lv (.long x :: .int i :: .ref k :: st) M kc ks := by
  intro H locs ls hM hS hl
  have h1 : H[jr G k]? = some (vp_cell (G.2.2.2 1) (n, .inr (.inl f))) := (hM.at hM0).2
  have hK : jK G s := C.2.2.2.2.2.2.2.1
  have hb : jA G (jr G k) := (hM.at hM0).1
  refine W.last C.1 C.2.1 h1 ((hK.2 1 _ rfl).1 n (fun j => .long (f j))) (fun q => by cases q) (by show ¬ (i < 0 ∨ (arrV _ _ _).slots.size ≤ _); rw [arrV_size]; exact hin) rfl rfl hd fun H1 e1 z oq => ?_
  refine k' H1 _ ls (hM.set hM0 ?_ z oq) (hS.put z oq hb) hl
  show H1[jr G k]? = some (vp_cell (G.2.2.2 1) (n, .inr (.inl (vp_updL f i.toNatClampNeg x))))
  rw [e1, vp_cell_l, vp_cell_l, arrV_store]
  congr 2
  funext q
  by_cases hq : q = i.toNatClampNeg
  · subst hq
    simp [updV, vp_updL]
  · simp [updV, vp_updL, hq]
end JM
