/-! Jp: the same judgement, its end a property of outcomes -/
def jQp (G : jG) (Φ : jO → Prop) : Array Value → State → Outcome → State → Prop := fun _ st o t => ∃ (v : Option Value) (M' : jMem), Φ (.inl (v, M')) ∧ o = .returned (v.map (jv G)) ∧ jW G M' t.heap ∧ va_F (jA G) st t
def jXp (G : jG) (Φ : jO → Prop) : String → State → State → Prop := fun E st t => ∃ M' : jMem, Φ (.inr (E, M')) ∧ jW G M' t.heap ∧ va_F (jA G) st t
/-- a contract with a property of its outcomes -/
def jCp (l : Launch) (G : jG) (y : MethodName) (cc : ByteArray) (maxL : Nat) (ret : Option FieldType) (fr lo mc ms : Nat) (As : List Value) (M : jMem) (Φ : jO → Prop) : Prop :=
  vx_Met l y (jws y cc maxL ret) (jR fr lo mc ms) (va_Pc (As.map (jv G)) (fun U => jH G M U)) (jQp G Φ) (jXp G Φ) mc ms (jA G)
/-- how many cells there are is no longer known -/
def jno (M : jMem) : jMem := (M.1, none)
theorem jW.no {G : jG} {M : jMem} {H : Heap} (h : jW G M H) : jW G (jno M) H := ⟨h.1, fun n hn => nomatch hn⟩
section JE1
variable {p : Program} {l : Launch} {e : Env} {R : Room} {s : State} {m : MethodId} {args : Array Value} {below : List Frame} {meth : Method} {c : Code} {G : jG} {cc : ByteArray} {nL : Nat} {own : String} {ret : Option FieldType}
variable {mc ms pc kc ks : Nat} {Φ : jO → Prop} {lv : List (Option Value)} {st : List Value} {M M2 : jMem}
def Jp (p : Program) (l : Launch) (e : Env) (R : Room) (s : State) (m : MethodId) (args : Array Value) (below : List Frame) (meth : Method) (c : Code) (G : jG) (nL mc ms : Nat) (Φ : jO → Prop) (pc : Nat) (lv : List (Option Value)) (st : List Value) (M : jMem) (kc ks : Nat) : Prop :=
  ∀ (H : Heap) (locs : List Loc) (ls : Array Slot), jW G M H → va_S (jA G) s.heap H locs → jL G ls nL lv →
    W p l e R s m args below meth c H locs kc ks (vx_MQ below (jQp G Φ) (jXp G Φ) args s mc ms (jA G)) (F0 m pc ls (st.map (jv G)))
theorem Jp.to {M' : jMem} (h : M = M') (k : Jp p l e R s m args below meth c G nL mc ms Φ pc lv st M' kc ks) : Jp p l e R s m args below meth c G nL mc ms Φ pc lv st M kc ks := h ▸ k
theorem Jp.few {lv' : List (Option Value)} (h : jfew lv' lv) (k : Jp p l e R s m args below meth c G nL mc ms Φ pc lv' st M kc ks) : Jp p l e R s m args below meth c G nL mc ms Φ pc lv st M kc ks := by
  intro H locs ls hM hS hl
  refine k H locs ls hM hS ⟨hl.1, hl.2.1, fun q hq => ?_⟩
  obtain ⟨i, w⟩ := q
  obtain ⟨v, -, h2, rfl⟩ := jasc_mem.mp hq
  exact jL.get hl (jfew_get h (by simpa using h2))
end JE1
section JE2
variable {p : Program} {l : Launch} {e : Env} {R : Room} {s : State} {m : MethodId} {args : Array Value} {below : List Frame} {meth : Method} {c : Code} {G : jG} {cc : ByteArray} {nL : Nat} {own : String} {ret : Option FieldType}
variable {mc ms pc kc ks : Nat} {Φ : jO → Prop} {lv : List (Option Value)} {st : List Value} {M M2 : jMem}
theorem E_iadd (C : jX0 p l R s m args meth c G cc nL own ret) (hd : decode cc pc = .ok (.iadd, 1)) {x y : Int32} (k : Jp p l e R s m args below meth c G nL mc ms Φ (pc + 1) lv (.int (x + y) :: st) M kc ks) : Jp p l e R s m args below meth c G nL mc ms Φ (pc) lv (.int y :: .int x :: st) M kc ks := fun H locs ls hM hS hl => lv_iadd C.1 C.2.1 hd (k H locs ls hM hS hl)
theorem E_isub (C : jX0 p l R s m args meth c G cc nL own ret) (hd : decode cc pc = .ok (.isub, 1)) {x y : Int32} (k : Jp p l e R s m args below meth c G nL mc ms Φ (pc + 1) lv (.int (x - y) :: st) M kc ks) : Jp p l e R s m args below meth c G nL mc ms Φ (pc) lv (.int y :: .int x :: st) M kc ks := fun H locs ls hM hS hl => lv_isub C.1 C.2.1 hd (k H locs ls hM hS hl)
theorem E_imul (C : jX0 p l R s m args meth c G cc nL own ret) (hd : decode cc pc = .ok (.imul, 1)) {x y : Int32} (k : Jp p l e R s m args below meth c G nL mc ms Φ (pc + 1) lv (.int (x * y) :: st) M kc ks) : Jp p l e R s m args below meth c G nL mc ms Φ (pc) lv (.int y :: .int x :: st) M kc ks := fun H locs ls hM hS hl => lv_imul C.1 C.2.1 hd (k H locs ls hM hS hl)
theorem E_iand (C : jX0 p l R s m args meth c G cc nL own ret) (hd : decode cc pc = .ok (.iand, 1)) {x y : Int32} (k : Jp p l e R s m args below meth c G nL mc ms Φ (pc + 1) lv (.int (x &&& y) :: st) M kc ks) : Jp p l e R s m args below meth c G nL mc ms Φ (pc) lv (.int y :: .int x :: st) M kc ks := fun H locs ls hM hS hl => lv_iand C.1 C.2.1 hd (k H locs ls hM hS hl)
theorem E_ior (C : jX0 p l R s m args meth c G cc nL own ret) (hd : decode cc pc = .ok (.ior, 1)) {x y : Int32} (k : Jp p l e R s m args below meth c G nL mc ms Φ (pc + 1) lv (.int (x ||| y) :: st) M kc ks) : Jp p l e R s m args below meth c G nL mc ms Φ (pc) lv (.int y :: .int x :: st) M kc ks := fun H locs ls hM hS hl => lv_ior C.1 C.2.1 hd (k H locs ls hM hS hl)
theorem E_ixor (C : jX0 p l R s m args meth c G cc nL own ret) (hd : decode cc pc = .ok (.ixor, 1)) {x y : Int32} (k : Jp p l e R s m args below meth c G nL mc ms Φ (pc + 1) lv (.int (x ^^^ y) :: st) M kc ks) : Jp p l e R s m args below meth c G nL mc ms Φ (pc) lv (.int y :: .int x :: st) M kc ks := fun H locs ls hM hS hl => lv_ixor C.1 C.2.1 hd (k H locs ls hM hS hl)
theorem E_ishl (C : jX0 p l R s m args meth c G cc nL own ret) (hd : decode cc pc = .ok (.ishl, 1)) {x y : Int32} (k : Jp p l e R s m args below meth c G nL mc ms Φ (pc + 1) lv (.int (x <<< (y &&& 31)) :: st) M kc ks) : Jp p l e R s m args below meth c G nL mc ms Φ (pc) lv (.int y :: .int x :: st) M kc ks := fun H locs ls hM hS hl => lv_ishl C.1 C.2.1 hd (k H locs ls hM hS hl)
theorem E_ishr (C : jX0 p l R s m args meth c G cc nL own ret) (hd : decode cc pc = .ok (.ishr, 1)) {x y : Int32} (k : Jp p l e R s m args below meth c G nL mc ms Φ (pc + 1) lv (.int (x >>> (y &&& 31)) :: st) M kc ks) : Jp p l e R s m args below meth c G nL mc ms Φ (pc) lv (.int y :: .int x :: st) M kc ks := fun H locs ls hM hS hl => lv_ishr C.1 C.2.1 hd (k H locs ls hM hS hl)
theorem E_iushr (C : jX0 p l R s m args meth c G cc nL own ret) (hd : decode cc pc = .ok (.iushr, 1)) {x y v : Int32} (hv : (x.toUInt32 >>> (y.toUInt32 &&& Int32.toUInt32 31)).toInt32 = v) (k : Jp p l e R s m args below meth c G nL mc ms Φ (pc + 1) lv (.int v :: st) M kc ks) : Jp p l e R s m args below meth c G nL mc ms Φ (pc) lv (.int y :: .int x :: st) M kc ks := fun H locs ls hM hS hl => lv_iushr C.1 C.2.1 hd hv (k H locs ls hM hS hl)
theorem E_idiv (C : jX0 p l R s m args meth c G cc nL own ret) (hd : decode cc pc = .ok (.idiv, 1)) {x y : Int32} (hne : ¬ y = 0) (k : Jp p l e R s m args below meth c G nL mc ms Φ (pc + 1) lv (.int (x / y) :: st) M kc ks) : Jp p l e R s m args below meth c G nL mc ms Φ (pc) lv (.int y :: .int x :: st) M kc ks := fun H locs ls hM hS hl => lv_idiv C.1 C.2.1 hd hne (k H locs ls hM hS hl)
theorem E_irem (C : jX0 p l R s m args meth c G cc nL own ret) (hd : decode cc pc = .ok (.irem, 1)) {x y : Int32} (hne : ¬ y = 0) (k : Jp p l e R s m args below meth c G nL mc ms Φ (pc + 1) lv (.int (x - x / y * y) :: st) M kc ks) : Jp p l e R s m args below meth c G nL mc ms Φ (pc) lv (.int y :: .int x :: st) M kc ks := fun H locs ls hM hS hl => lv_irem C.1 C.2.1 hd hne (k H locs ls hM hS hl)
theorem E_ladd (C : jX0 p l R s m args meth c G cc nL own ret) (hd : decode cc pc = .ok (.ladd, 1)) {x y : Int64} (k : Jp p l e R s m args below meth c G nL mc ms Φ (pc + 1) lv (.long (x + y) :: st) M kc ks) : Jp p l e R s m args below meth c G nL mc ms Φ (pc) lv (.long y :: .long x :: st) M kc ks := fun H locs ls hM hS hl => lv_ladd C.1 C.2.1 hd (k H locs ls hM hS hl)
theorem E_lsub (C : jX0 p l R s m args meth c G cc nL own ret) (hd : decode cc pc = .ok (.lsub, 1)) {x y : Int64} (k : Jp p l e R s m args below meth c G nL mc ms Φ (pc + 1) lv (.long (x - y) :: st) M kc ks) : Jp p l e R s m args below meth c G nL mc ms Φ (pc) lv (.long y :: .long x :: st) M kc ks := fun H locs ls hM hS hl => lv_lsub C.1 C.2.1 hd (k H locs ls hM hS hl)
theorem E_lmul (C : jX0 p l R s m args meth c G cc nL own ret) (hd : decode cc pc = .ok (.lmul, 1)) {x y : Int64} (k : Jp p l e R s m args below meth c G nL mc ms Φ (pc + 1) lv (.long (x * y) :: st) M kc ks) : Jp p l e R s m args below meth c G nL mc ms Φ (pc) lv (.long y :: .long x :: st) M kc ks := fun H locs ls hM hS hl => lv_lmul C.1 C.2.1 hd (k H locs ls hM hS hl)
theorem E_land (C : jX0 p l R s m args meth c G cc nL own ret) (hd : decode cc pc = .ok (.land, 1)) {x y : Int64} (k : Jp p l e R s m args below meth c G nL mc ms Φ (pc + 1) lv (.long (x &&& y) :: st) M kc ks) : Jp p l e R s m args below meth c G nL mc ms Φ (pc) lv (.long y :: .long x :: st) M kc ks := fun H locs ls hM hS hl => lv_land C.1 C.2.1 hd (k H locs ls hM hS hl)
theorem E_lor (C : jX0 p l R s m args meth c G cc nL own ret) (hd : decode cc pc = .ok (.lor, 1)) {x y : Int64} (k : Jp p l e R s m args below meth c G nL mc ms Φ (pc + 1) lv (.long (x ||| y) :: st) M kc ks) : Jp p l e R s m args below meth c G nL mc ms Φ (pc) lv (.long y :: .long x :: st) M kc ks := fun H locs ls hM hS hl => lv_lor C.1 C.2.1 hd (k H locs ls hM hS hl)
theorem E_ldiv (C : jX0 p l R s m args meth c G cc nL own ret) (hd : decode cc pc = .ok (.ldiv, 1)) {x y : Int64} (hne : ¬ y = 0) (k : Jp p l e R s m args below meth c G nL mc ms Φ (pc + 1) lv (.long (x / y) :: st) M kc ks) : Jp p l e R s m args below meth c G nL mc ms Φ (pc) lv (.long y :: .long x :: st) M kc ks := fun H locs ls hM hS hl => lv_ldiv C.1 C.2.1 hd hne (k H locs ls hM hS hl)
theorem E_lrem (C : jX0 p l R s m args meth c G cc nL own ret) (hd : decode cc pc = .ok (.lrem, 1)) {x y : Int64} (hne : ¬ y = 0) (k : Jp p l e R s m args below meth c G nL mc ms Φ (pc + 1) lv (.long (x - x / y * y) :: st) M kc ks) : Jp p l e R s m args below meth c G nL mc ms Φ (pc) lv (.long y :: .long x :: st) M kc ks := fun H locs ls hM hS hl => lv_lrem C.1 C.2.1 hd hne (k H locs ls hM hS hl)
theorem E_lneg (C : jX0 p l R s m args meth c G cc nL own ret) (hd : decode cc pc = .ok (.lneg, 1)) {x : Int64} (k : Jp p l e R s m args below meth c G nL mc ms Φ (pc + 1) lv (.long (-x) :: st) M kc ks) : Jp p l e R s m args below meth c G nL mc ms Φ (pc) lv (.long x :: st) M kc ks := fun H locs ls hM hS hl => lv_lneg C.1 C.2.1 hd (k H locs ls hM hS hl)
theorem E_lshl (C : jX0 p l R s m args meth c G cc nL own ret) (hd : decode cc pc = .ok (.lshl, 1)) {x v : Int64} {y : Int32} (hv : x <<< (y.toInt64 &&& 63) = v) (k : Jp p l e R s m args below meth c G nL mc ms Φ (pc + 1) lv (.long v :: st) M kc ks) : Jp p l e R s m args below meth c G nL mc ms Φ (pc) lv (.int y :: .long x :: st) M kc ks := fun H locs ls hM hS hl => lv_lshl C.1 C.2.1 hd hv (k H locs ls hM hS hl)
theorem E_lshr (C : jX0 p l R s m args meth c G cc nL own ret) (hd : decode cc pc = .ok (.lshr, 1)) {x v : Int64} {y : Int32} (hv : x >>> (y.toInt64 &&& 63) = v) (k : Jp p l e R s m args below meth c G nL mc ms Φ (pc + 1) lv (.long v :: st) M kc ks) : Jp p l e R s m args below meth c G nL mc ms Φ (pc) lv (.int y :: .long x :: st) M kc ks := fun H locs ls hM hS hl => lv_lshr C.1 C.2.1 hd hv (k H locs ls hM hS hl)
theorem E_lushr (C : jX0 p l R s m args meth c G cc nL own ret) (hd : decode cc pc = .ok (.lushr, 1)) {x v : Int64} {y : Int32} (hv : (x.toUInt64 >>> (y.toInt64.toUInt64 &&& Int64.toUInt64 63)).toInt64 = v) (k : Jp p l e R s m args below meth c G nL mc ms Φ (pc + 1) lv (.long v :: st) M kc ks) : Jp p l e R s m args below meth c G nL mc ms Φ (pc) lv (.int y :: .long x :: st) M kc ks := fun H locs ls hM hS hl => lv_lushr C.1 C.2.1 hd hv (k H locs ls hM hS hl)
theorem E_i2l (C : jX0 p l R s m args meth c G cc nL own ret) (hd : decode cc pc = .ok (.i2l, 1)) {x : Int32} {v : Int64} (hv : x.toInt64 = v) (k : Jp p l e R s m args below meth c G nL mc ms Φ (pc + 1) lv (.long v :: st) M kc ks) : Jp p l e R s m args below meth c G nL mc ms Φ (pc) lv (.int x :: st) M kc ks := fun H locs ls hM hS hl => lv_i2l C.1 C.2.1 hd hv (k H locs ls hM hS hl)
theorem E_l2i (C : jX0 p l R s m args meth c G cc nL own ret) (hd : decode cc pc = .ok (.l2i, 1)) {x : Int64} {v : Int32} (hv : x.toInt32 = v) (k : Jp p l e R s m args below meth c G nL mc ms Φ (pc + 1) lv (.int v :: st) M kc ks) : Jp p l e R s m args below meth c G nL mc ms Φ (pc) lv (.long x :: st) M kc ks := fun H locs ls hM hS hl => lv_l2i C.1 C.2.1 hd hv (k H locs ls hM hS hl)
theorem E_i2c (C : jX0 p l R s m args meth c G cc nL own ret) (hd : decode cc pc = .ok (.i2c, 1)) {x : Int32} {v : Int32} (hv : (x.toUInt32 % 65536).toInt32 = v) (k : Jp p l e R s m args below meth c G nL mc ms Φ (pc + 1) lv (.int v :: st) M kc ks) : Jp p l e R s m args below meth c G nL mc ms Φ (pc) lv (.int x :: st) M kc ks := fun H locs ls hM hS hl => lv_i2c C.1 C.2.1 hd hv (k H locs ls hM hS hl)
theorem E_lcmp (C : jX0 p l R s m args meth c G cc nL own ret) (hd : decode cc pc = .ok (.lcmp, 1)) {x y : Int64} (k : Jp p l e R s m args below meth c G nL mc ms Φ (pc + 1) lv (.int (lg_cmp x y) :: st) M kc ks) : Jp p l e R s m args below meth c G nL mc ms Φ (pc) lv (.long y :: .long x :: st) M kc ks := fun H locs ls hM hS hl => W.lcmp C.1 C.2.1 hd (k H locs ls hM hS hl)
theorem E_iconst (C : jX0 p l R s m args meth c G cc nL own ret) {n : Int} {v : Int32} (hd : decode cc pc = .ok (.iconst n, 1)) (hv : Int32.ofInt n = v) (k : Jp p l e R s m args below meth c G nL mc ms Φ (pc + 1) lv (.int v :: st) M kc ks) : Jp p l e R s m args below meth c G nL mc ms Φ (pc) lv (st) M kc ks := fun H locs ls hM hS hl => lv_iconst C.1 C.2.1 hd hv (k H locs ls hM hS hl)
theorem E_bipush (C : jX0 p l R s m args meth c G cc nL own ret) {n : Int} {v : Int32} (hd : decode cc pc = .ok (.bipush n, 2)) (hv : (Int8.ofInt n).toInt32 = v) (k : Jp p l e R s m args below meth c G nL mc ms Φ (pc + 2) lv (.int v :: st) M kc ks) : Jp p l e R s m args below meth c G nL mc ms Φ (pc) lv (st) M kc ks := fun H locs ls hM hS hl => lv_bipush C.1 C.2.1 hd hv (k H locs ls hM hS hl)
theorem E_sipush (C : jX0 p l R s m args meth c G cc nL own ret) {n : Int} {v : Int32} (hd : decode cc pc = .ok (.sipush n, 3)) (hv : (Int16.ofInt n).toInt32 = v) (k : Jp p l e R s m args below meth c G nL mc ms Φ (pc + 3) lv (.int v :: st) M kc ks) : Jp p l e R s m args below meth c G nL mc ms Φ (pc) lv (st) M kc ks := fun H locs ls hM hS hl => lv_sipush C.1 C.2.1 hd hv (k H locs ls hM hS hl)
theorem E_lconst (C : jX0 p l R s m args meth c G cc nL own ret) {n : Fin 2} {v : Int64} (hd : decode cc pc = .ok (.lconst n, 1)) (hv : Int64.ofNat (n : Nat) = v) (k : Jp p l e R s m args below meth c G nL mc ms Φ (pc + 1) lv (.long v :: st) M kc ks) : Jp p l e R s m args below meth c G nL mc ms Φ (pc) lv (st) M kc ks := fun H locs ls hM hS hl => lv_lconst C.1 C.2.1 hd hv (k H locs ls hM hS hl)
theorem E_ldc2 (C : jX0 p l R s m args meth c G cc nL own ret) {i : Nat} {v : Int64} (hd : decode cc pc = .ok (.ldc2_w i, 3)) (hw : Cond.constantLong own i v ∈ jB) (k : Jp p l e R s m args below meth c G nL mc ms Φ (pc + 3) lv (.long v :: st) M kc ks) : Jp p l e R s m args below meth c G nL mc ms Φ (pc) lv (st) M kc ks := fun H locs ls hM hS hl => lv_ldc2 C.1 C.2.1 C.2.2.2.1 (C.2.2.2.2.1 _ hw) hd (k H locs ls hM hS hl)
theorem E_iload_n (C : jX0 p l R s m args meth c G cc nL own ret) {n : Fin 4} {i : Nat} {x : Int32} (hd : decode cc pc = .ok (.iload_n n, 1)) (hi : (n : Nat) = i) (hx : lv[i]? = some (some (.int x))) (k : Jp p l e R s m args below meth c G nL mc ms Φ (pc + 1) lv (.int x :: st) M kc ks) : Jp p l e R s m args below meth c G nL mc ms Φ (pc) lv (st) M kc ks := fun H locs ls hM hS hl => lv_iload_n C.1 C.2.1 hd hi (jL.get hl hx) (k H locs ls hM hS hl)
theorem E_iload (C : jX0 p l R s m args meth c G cc nL own ret) {i : Nat} {x : Int32} (hd : decode cc pc = .ok (.iload i, 2)) (hx : lv[i]? = some (some (.int x))) (k : Jp p l e R s m args below meth c G nL mc ms Φ (pc + 2) lv (.int x :: st) M kc ks) : Jp p l e R s m args below meth c G nL mc ms Φ (pc) lv (st) M kc ks := fun H locs ls hM hS hl => lv_iload C.1 C.2.1 hd (jL.get hl hx) (k H locs ls hM hS hl)
theorem E_lload_n (C : jX0 p l R s m args meth c G cc nL own ret) {n : Fin 4} {i : Nat} {x : Int64} (hd : decode cc pc = .ok (.lload_n n, 1)) (hi : (n : Nat) = i) (hx : lv[i]? = some (some (.long x))) (k : Jp p l e R s m args below meth c G nL mc ms Φ (pc + 1) lv (.long x :: st) M kc ks) : Jp p l e R s m args below meth c G nL mc ms Φ (pc) lv (st) M kc ks := fun H locs ls hM hS hl => lv_lload_n C.1 C.2.1 hd hi (jL.get hl hx) (k H locs ls hM hS hl)
theorem E_lload (C : jX0 p l R s m args meth c G cc nL own ret) {i : Nat} {x : Int64} (hd : decode cc pc = .ok (.lload i, 2)) (hx : lv[i]? = some (some (.long x))) (k : Jp p l e R s m args below meth c G nL mc ms Φ (pc + 2) lv (.long x :: st) M kc ks) : Jp p l e R s m args below meth c G nL mc ms Φ (pc) lv (st) M kc ks := fun H locs ls hM hS hl => lv_lload C.1 C.2.1 hd (jL.get hl hx) (k H locs ls hM hS hl)
theorem E_aload_n (C : jX0 p l R s m args meth c G cc nL own ret) {n : Fin 4} {i : Nat} {x : Nat} (hd : decode cc pc = .ok (.aload_n n, 1)) (hi : (n : Nat) = i) (hx : lv[i]? = some (some (.ref x))) (k : Jp p l e R s m args below meth c G nL mc ms Φ (pc + 1) lv (.ref x :: st) M kc ks) : Jp p l e R s m args below meth c G nL mc ms Φ (pc) lv (st) M kc ks := fun H locs ls hM hS hl => lv_aload_n C.1 C.2.1 hd hi (jL.get hl hx) (k H locs ls hM hS hl)
theorem E_aload (C : jX0 p l R s m args meth c G cc nL own ret) {i : Nat} {x : Nat} (hd : decode cc pc = .ok (.aload i, 2)) (hx : lv[i]? = some (some (.ref x))) (k : Jp p l e R s m args below meth c G nL mc ms Φ (pc + 2) lv (.ref x :: st) M kc ks) : Jp p l e R s m args below meth c G nL mc ms Φ (pc) lv (st) M kc ks := fun H locs ls hM hS hl => lv_aload C.1 C.2.1 hd (jL.get hl hx) (k H locs ls hM hS hl)
theorem E_istore_n (C : jX0 p l R s m args meth c G cc nL own ret) {n : Fin 4} {i : Nat} {x : Int32} (hd : decode cc pc = .ok (.istore_n n, 1)) (hi : (n : Nat) = i) (hn : i < nL) (hok : jok lv i = true) (k : Jp p l e R s m args below meth c G nL mc ms Φ (pc + 1) (lv.set i (some (.int x))) (st) M kc ks) : Jp p l e R s m args below meth c G nL mc ms Φ (pc) lv (.int x :: st) M kc ks := fun H locs ls hM hS hl => lv_istore_n C.1 C.2.1 hd hi hl hn rfl (fun ls2 h2 => k H locs ls2 hM hS (jL.set1 (v := .int x) (ls := ls) h2 hok))
theorem E_istore (C : jX0 p l R s m args meth c G cc nL own ret) {i : Nat} {x : Int32} (hd : decode cc pc = .ok (.istore i, 2)) (hn : i < nL) (hok : jok lv i = true) (k : Jp p l e R s m args below meth c G nL mc ms Φ (pc + 2) (lv.set i (some (.int x))) (st) M kc ks) : Jp p l e R s m args below meth c G nL mc ms Φ (pc) lv (.int x :: st) M kc ks := fun H locs ls hM hS hl => lv_istore C.1 C.2.1 hd hl hn rfl (fun ls2 h2 => k H locs ls2 hM hS (jL.set1 (v := .int x) (ls := ls) h2 hok))
theorem E_astore_n (C : jX0 p l R s m args meth c G cc nL own ret) {n : Fin 4} {i : Nat} {x : Nat} (hd : decode cc pc = .ok (.astore_n n, 1)) (hi : (n : Nat) = i) (hn : i < nL) (hok : jok lv i = true) (k : Jp p l e R s m args below meth c G nL mc ms Φ (pc + 1) (lv.set i (some (.ref x))) (st) M kc ks) : Jp p l e R s m args below meth c G nL mc ms Φ (pc) lv (.ref x :: st) M kc ks := fun H locs ls hM hS hl => lv_astore_n C.1 C.2.1 hd hi hl hn rfl (fun ls2 h2 => k H locs ls2 hM hS (jL.set1 (v := .ref x) (ls := ls) h2 hok))
theorem E_astore (C : jX0 p l R s m args meth c G cc nL own ret) {i : Nat} {x : Nat} (hd : decode cc pc = .ok (.astore i, 2)) (hn : i < nL) (hok : jok lv i = true) (k : Jp p l e R s m args below meth c G nL mc ms Φ (pc + 2) (lv.set i (some (.ref x))) (st) M kc ks) : Jp p l e R s m args below meth c G nL mc ms Φ (pc) lv (.ref x :: st) M kc ks := fun H locs ls hM hS hl => lv_astore C.1 C.2.1 hd hl hn rfl (fun ls2 h2 => k H locs ls2 hM hS (jL.set1 (v := .ref x) (ls := ls) h2 hok))
theorem E_lstore_n (C : jX0 p l R s m args meth c G cc nL own ret) {n : Fin 4} {i : Nat} {x : Int64} (hd : decode cc pc = .ok (.lstore_n n, 1)) (hi : (n : Nat) = i) (hn : i + 1 < nL) (hok : jok lv i = true) (k : Jp p l e R s m args below meth c G nL mc ms Φ (pc + 1) ((lv.set i (some (.long x))).set (i + 1) none) (st) M kc ks) : Jp p l e R s m args below meth c G nL mc ms Φ (pc) lv (.long x :: st) M kc ks := fun H locs ls hM hS hl => lv_lstore_n C.1 C.2.1 hd hi hl hn rfl (fun ls2 h2 => k H locs ls2 hM hS (jL.set2 (v := .long x) (ls := ls) h2 hok))
theorem E_lstore (C : jX0 p l R s m args meth c G cc nL own ret) {i : Nat} {x : Int64} (hd : decode cc pc = .ok (.lstore i, 2)) (hn : i + 1 < nL) (hok : jok lv i = true) (k : Jp p l e R s m args below meth c G nL mc ms Φ (pc + 2) ((lv.set i (some (.long x))).set (i + 1) none) (st) M kc ks) : Jp p l e R s m args below meth c G nL mc ms Φ (pc) lv (.long x :: st) M kc ks := fun H locs ls hM hS hl => lv_lstore C.1 C.2.1 hd hl hn rfl (fun ls2 h2 => k H locs ls2 hM hS (jL.set2 (v := .long x) (ls := ls) h2 hok))
theorem E_iinc (C : jX0 p l R s m args meth c G cc nL own ret) {i : Nat} {n : Int} {x v : Int32} (hd : decode cc pc = .ok (.iinc i n, 3)) (hx : lv[i]? = some (some (.int x))) (hv : x + Int32.ofInt n = v) (hn : i < nL) (hok : jok lv i = true) (k : Jp p l e R s m args below meth c G nL mc ms Φ (pc + 3) (lv.set i (some (.int v))) (st) M kc ks) : Jp p l e R s m args below meth c G nL mc ms Φ (pc) lv (st) M kc ks := fun H locs ls hM hS hl => by
  obtain ⟨j, hj⟩ := List.getElem?_of_mem (jasc_mem (G := G) (n := 0).mpr ⟨.int x, Nat.zero_le _, by simpa using hx, rfl⟩)
  exact lv_iinc (v := v) C.1 C.2.1 hd hl hj hv hn rfl (fun ls2 h2 => k H locs ls2 hM hS (jL.set1 (v := .int v) (ls := ls) h2 hok))
theorem E_dup (C : jX0 p l R s m args meth c G cc nL own ret) {v : Value} (hd : decode cc pc = .ok (.dup, 1)) (hv : v.category = 1) (k : Jp p l e R s m args below meth c G nL mc ms Φ (pc + 1) lv (v :: v :: st) M kc ks) : Jp p l e R s m args below meth c G nL mc ms Φ (pc) lv (v :: st) M kc ks := fun H locs ls hM hS hl => lv_dup C.1 C.2.1 hd (by rw [jv_cat]; exact hv) (k H locs ls hM hS hl)
theorem E_pop (C : jX0 p l R s m args meth c G cc nL own ret) {v : Value} (hd : decode cc pc = .ok (.pop, 1)) (hv : v.category = 1) (k : Jp p l e R s m args below meth c G nL mc ms Φ (pc + 1) lv (st) M kc ks) : Jp p l e R s m args below meth c G nL mc ms Φ (pc) lv (v :: st) M kc ks := fun H locs ls hM hS hl => lv_pop C.1 C.2.1 hd (by rw [jv_cat]; exact hv) (k H locs ls hM hS hl)
theorem E_dup_x1 (C : jX0 p l R s m args meth c G cc nL own ret) {v w : Value} (hd : decode cc pc = .ok (.dup_x1, 1)) (hv : v.category = 1) (hw : w.category = 1) (k : Jp p l e R s m args below meth c G nL mc ms Φ (pc + 1) lv (v :: w :: v :: st) M kc ks) : Jp p l e R s m args below meth c G nL mc ms Φ (pc) lv (v :: w :: st) M kc ks := fun H locs ls hM hS hl => lv_dup_x1 C.1 C.2.1 hd (by rw [jv_cat]; exact hv) (by rw [jv_cat]; exact hw) (k H locs ls hM hS hl)
theorem E_dup2_11 (C : jX0 p l R s m args meth c G cc nL own ret) {v w : Value} (hd : decode cc pc = .ok (.dup2, 1)) (hv : v.category = 1) (hw : w.category = 1) (k : Jp p l e R s m args below meth c G nL mc ms Φ (pc + 1) lv (v :: w :: v :: w :: st) M kc ks) : Jp p l e R s m args below meth c G nL mc ms Φ (pc) lv (v :: w :: st) M kc ks := fun H locs ls hM hS hl => lv_dup2_11 C.1 C.2.1 hd (by rw [jv_cat]; exact hv) (by rw [jv_cat]; exact hw) (k H locs ls hM hS hl)
theorem E_dup2_2 (C : jX0 p l R s m args meth c G cc nL own ret) {v : Value} (hd : decode cc pc = .ok (.dup2, 1)) (hv : v.category = 2) (k : Jp p l e R s m args below meth c G nL mc ms Φ (pc + 1) lv (v :: v :: st) M kc ks) : Jp p l e R s m args below meth c G nL mc ms Φ (pc) lv (v :: st) M kc ks := fun H locs ls hM hS hl => lv_dup2_2 C.1 C.2.1 hd (by rw [jv_cat]; exact hv) (k H locs ls hM hS hl)
theorem E_if_eq (C : jX0 p l R s m args meth c G cc nL own ret) {x : Int32} {off : Int} {tgt : Nat} (hd : decode cc pc = .ok (.ifCond .eq off, 3)) (ht : (pc : Int) + off = (tgt : Int)) (kt : x = 0 → Jp p l e R s m args below meth c G nL mc ms Φ (tgt) lv (st) M kc ks) (kf : ¬ x = 0 → Jp p l e R s m args below meth c G nL mc ms Φ (pc + 3) lv (st) M kc ks) : Jp p l e R s m args below meth c G nL mc ms Φ (pc) lv (.int x :: st) M kc ks := fun H locs ls hM hS hl => lv_if_eq C.1 C.2.1 hd ht (fun h => kt h H locs ls hM hS hl) (fun h => kf h H locs ls hM hS hl)
theorem E_if_ne (C : jX0 p l R s m args meth c G cc nL own ret) {x : Int32} {off : Int} {tgt : Nat} (hd : decode cc pc = .ok (.ifCond .ne off, 3)) (ht : (pc : Int) + off = (tgt : Int)) (kt : ¬ x = 0 → Jp p l e R s m args below meth c G nL mc ms Φ (tgt) lv (st) M kc ks) (kf : x = 0 → Jp p l e R s m args below meth c G nL mc ms Φ (pc + 3) lv (st) M kc ks) : Jp p l e R s m args below meth c G nL mc ms Φ (pc) lv (.int x :: st) M kc ks := fun H locs ls hM hS hl => lv_if_ne C.1 C.2.1 hd ht (fun h => kt h H locs ls hM hS hl) (fun h => kf h H locs ls hM hS hl)
theorem E_if_lt (C : jX0 p l R s m args meth c G cc nL own ret) {x : Int32} {off : Int} {tgt : Nat} (hd : decode cc pc = .ok (.ifCond .lt off, 3)) (ht : (pc : Int) + off = (tgt : Int)) (kt : x < 0 → Jp p l e R s m args below meth c G nL mc ms Φ (tgt) lv (st) M kc ks) (kf : ¬ x < 0 → Jp p l e R s m args below meth c G nL mc ms Φ (pc + 3) lv (st) M kc ks) : Jp p l e R s m args below meth c G nL mc ms Φ (pc) lv (.int x :: st) M kc ks := fun H locs ls hM hS hl => lv_if_lt C.1 C.2.1 hd ht (fun h => kt h H locs ls hM hS hl) (fun h => kf h H locs ls hM hS hl)
theorem E_if_ge (C : jX0 p l R s m args meth c G cc nL own ret) {x : Int32} {off : Int} {tgt : Nat} (hd : decode cc pc = .ok (.ifCond .ge off, 3)) (ht : (pc : Int) + off = (tgt : Int)) (kt : 0 ≤ x → Jp p l e R s m args below meth c G nL mc ms Φ (tgt) lv (st) M kc ks) (kf : ¬ 0 ≤ x → Jp p l e R s m args below meth c G nL mc ms Φ (pc + 3) lv (st) M kc ks) : Jp p l e R s m args below meth c G nL mc ms Φ (pc) lv (.int x :: st) M kc ks := fun H locs ls hM hS hl => lv_if_ge C.1 C.2.1 hd ht (fun h => kt h H locs ls hM hS hl) (fun h => kf h H locs ls hM hS hl)
theorem E_if_gt (C : jX0 p l R s m args meth c G cc nL own ret) {x : Int32} {off : Int} {tgt : Nat} (hd : decode cc pc = .ok (.ifCond .gt off, 3)) (ht : (pc : Int) + off = (tgt : Int)) (kt : 0 < x → Jp p l e R s m args below meth c G nL mc ms Φ (tgt) lv (st) M kc ks) (kf : ¬ 0 < x → Jp p l e R s m args below meth c G nL mc ms Φ (pc + 3) lv (st) M kc ks) : Jp p l e R s m args below meth c G nL mc ms Φ (pc) lv (.int x :: st) M kc ks := fun H locs ls hM hS hl => lv_if_gt C.1 C.2.1 hd ht (fun h => kt h H locs ls hM hS hl) (fun h => kf h H locs ls hM hS hl)
theorem E_if_le (C : jX0 p l R s m args meth c G cc nL own ret) {x : Int32} {off : Int} {tgt : Nat} (hd : decode cc pc = .ok (.ifCond .le off, 3)) (ht : (pc : Int) + off = (tgt : Int)) (kt : x ≤ 0 → Jp p l e R s m args below meth c G nL mc ms Φ (tgt) lv (st) M kc ks) (kf : ¬ x ≤ 0 → Jp p l e R s m args below meth c G nL mc ms Φ (pc + 3) lv (st) M kc ks) : Jp p l e R s m args below meth c G nL mc ms Φ (pc) lv (.int x :: st) M kc ks := fun H locs ls hM hS hl => lv_if_le C.1 C.2.1 hd ht (fun h => kt h H locs ls hM hS hl) (fun h => kf h H locs ls hM hS hl)
theorem E_icmp_eq (C : jX0 p l R s m args meth c G cc nL own ret) {x y : Int32} {off : Int} {tgt : Nat} (hd : decode cc pc = .ok (.if_icmp .eq off, 3)) (ht : (pc : Int) + off = (tgt : Int)) (kt : x = y → Jp p l e R s m args below meth c G nL mc ms Φ (tgt) lv (st) M kc ks) (kf : ¬ x = y → Jp p l e R s m args below meth c G nL mc ms Φ (pc + 3) lv (st) M kc ks) : Jp p l e R s m args below meth c G nL mc ms Φ (pc) lv (.int y :: .int x :: st) M kc ks := fun H locs ls hM hS hl => lv_icmp_eq C.1 C.2.1 hd ht (fun h => kt h H locs ls hM hS hl) (fun h => kf h H locs ls hM hS hl)
theorem E_icmp_ne (C : jX0 p l R s m args meth c G cc nL own ret) {x y : Int32} {off : Int} {tgt : Nat} (hd : decode cc pc = .ok (.if_icmp .ne off, 3)) (ht : (pc : Int) + off = (tgt : Int)) (kt : ¬ x = y → Jp p l e R s m args below meth c G nL mc ms Φ (tgt) lv (st) M kc ks) (kf : x = y → Jp p l e R s m args below meth c G nL mc ms Φ (pc + 3) lv (st) M kc ks) : Jp p l e R s m args below meth c G nL mc ms Φ (pc) lv (.int y :: .int x :: st) M kc ks := fun H locs ls hM hS hl => lv_icmp_ne C.1 C.2.1 hd ht (fun h => kt h H locs ls hM hS hl) (fun h => kf h H locs ls hM hS hl)
theorem E_icmp_lt (C : jX0 p l R s m args meth c G cc nL own ret) {x y : Int32} {off : Int} {tgt : Nat} (hd : decode cc pc = .ok (.if_icmp .lt off, 3)) (ht : (pc : Int) + off = (tgt : Int)) (kt : x < y → Jp p l e R s m args below meth c G nL mc ms Φ (tgt) lv (st) M kc ks) (kf : ¬ x < y → Jp p l e R s m args below meth c G nL mc ms Φ (pc + 3) lv (st) M kc ks) : Jp p l e R s m args below meth c G nL mc ms Φ (pc) lv (.int y :: .int x :: st) M kc ks := fun H locs ls hM hS hl => lv_icmp_lt C.1 C.2.1 hd ht (fun h => kt h H locs ls hM hS hl) (fun h => kf h H locs ls hM hS hl)
theorem E_icmp_ge (C : jX0 p l R s m args meth c G cc nL own ret) {x y : Int32} {off : Int} {tgt : Nat} (hd : decode cc pc = .ok (.if_icmp .ge off, 3)) (ht : (pc : Int) + off = (tgt : Int)) (kt : y ≤ x → Jp p l e R s m args below meth c G nL mc ms Φ (tgt) lv (st) M kc ks) (kf : ¬ y ≤ x → Jp p l e R s m args below meth c G nL mc ms Φ (pc + 3) lv (st) M kc ks) : Jp p l e R s m args below meth c G nL mc ms Φ (pc) lv (.int y :: .int x :: st) M kc ks := fun H locs ls hM hS hl => lv_icmp_ge C.1 C.2.1 hd ht (fun h => kt h H locs ls hM hS hl) (fun h => kf h H locs ls hM hS hl)
theorem E_icmp_gt (C : jX0 p l R s m args meth c G cc nL own ret) {x y : Int32} {off : Int} {tgt : Nat} (hd : decode cc pc = .ok (.if_icmp .gt off, 3)) (ht : (pc : Int) + off = (tgt : Int)) (kt : y < x → Jp p l e R s m args below meth c G nL mc ms Φ (tgt) lv (st) M kc ks) (kf : ¬ y < x → Jp p l e R s m args below meth c G nL mc ms Φ (pc + 3) lv (st) M kc ks) : Jp p l e R s m args below meth c G nL mc ms Φ (pc) lv (.int y :: .int x :: st) M kc ks := fun H locs ls hM hS hl => lv_icmp_gt C.1 C.2.1 hd ht (fun h => kt h H locs ls hM hS hl) (fun h => kf h H locs ls hM hS hl)
theorem E_icmp_le (C : jX0 p l R s m args meth c G cc nL own ret) {x y : Int32} {off : Int} {tgt : Nat} (hd : decode cc pc = .ok (.if_icmp .le off, 3)) (ht : (pc : Int) + off = (tgt : Int)) (kt : x ≤ y → Jp p l e R s m args below meth c G nL mc ms Φ (tgt) lv (st) M kc ks) (kf : ¬ x ≤ y → Jp p l e R s m args below meth c G nL mc ms Φ (pc + 3) lv (st) M kc ks) : Jp p l e R s m args below meth c G nL mc ms Φ (pc) lv (.int y :: .int x :: st) M kc ks := fun H locs ls hM hS hl => lv_icmp_le C.1 C.2.1 hd ht (fun h => kt h H locs ls hM hS hl) (fun h => kf h H locs ls hM hS hl)
theorem E_goto (C : jX0 p l R s m args meth c G cc nL own ret) {off : Int} {tgt : Nat} (hd : decode cc pc = .ok (.goto off, 3)) (ht : (pc : Int) + off = (tgt : Int)) (k : Jp p l e R s m args below meth c G nL mc ms Φ (tgt) lv (st) M kc ks) : Jp p l e R s m args below meth c G nL mc ms Φ (pc) lv (st) M kc ks := fun H locs ls hM hS hl => lv_goto C.1 C.2.1 hd ht (k H locs ls hM hS hl)
theorem E_tableIn (C : jX0 p l R s m args meth c G cc nL own ret) {dflt lo hi : Int} {offs : Array Int} {len : Nat} {x : Int32} {off : Int} {tgt : Nat} (hd : decode cc pc = .ok (.tableswitch dflt lo hi offs, len)) (h1 : ¬ x.toInt < lo) (h2 : ¬ hi < x.toInt) (ho : offs[(x.toInt - lo).toNat]? = some off) (ht : (pc : Int) + off = (tgt : Int)) (k : Jp p l e R s m args below meth c G nL mc ms Φ (tgt) lv (st) M kc ks) : Jp p l e R s m args below meth c G nL mc ms Φ (pc) lv (.int x :: st) M kc ks := fun H locs ls hM hS hl => lv_tableIn C.1 C.2.1 hd h1 h2 ho ht (k H locs ls hM hS hl)
theorem E_tableOut (C : jX0 p l R s m args meth c G cc nL own ret) {dflt lo hi : Int} {offs : Array Int} {len : Nat} {x : Int32} {tgt : Nat} (hd : decode cc pc = .ok (.tableswitch dflt lo hi offs, len)) (h : x.toInt < lo ∨ hi < x.toInt) (ht : (pc : Int) + dflt = (tgt : Int)) (k : Jp p l e R s m args below meth c G nL mc ms Φ (tgt) lv (st) M kc ks) : Jp p l e R s m args below meth c G nL mc ms Φ (pc) lv (.int x :: st) M kc ks := fun H locs ls hM hS hl => lv_tableOut C.1 C.2.1 hd h ht (k H locs ls hM hS hl)
theorem E_iaddN (C : jX0 p l R s m args meth c G cc nL own ret) (hd : decode cc pc = .ok (.iadd, 1)) {a b : Nat} (k : Jp p l e R s m args below meth c G nL mc ms Φ (pc + 1) lv (.int (nI (a + b)) :: st) M kc ks) : Jp p l e R s m args below meth c G nL mc ms Φ (pc) lv (.int (nI b) :: .int (nI a) :: st) M kc ks := E_iadd C hd (by rw [nI_add]; exact k)
theorem E_isubN (C : jX0 p l R s m args meth c G cc nL own ret) (hd : decode cc pc = .ok (.isub, 1)) {a b : Nat} (h : b ≤ a) (k : Jp p l e R s m args below meth c G nL mc ms Φ (pc + 1) lv (.int (nI (a - b)) :: st) M kc ks) : Jp p l e R s m args below meth c G nL mc ms Φ (pc) lv (.int (nI b) :: .int (nI a) :: st) M kc ks := E_isub C hd (by rw [pk_sub h]; exact k)
theorem E_imulN (C : jX0 p l R s m args meth c G cc nL own ret) (hd : decode cc pc = .ok (.imul, 1)) {a b : Nat} (k : Jp p l e R s m args below meth c G nL mc ms Φ (pc + 1) lv (.int (nI (a * b)) :: st) M kc ks) : Jp p l e R s m args below meth c G nL mc ms Φ (pc) lv (.int (nI b) :: .int (nI a) :: st) M kc ks := E_imul C hd (by rw [pk_mul]; exact k)
theorem E_idivN (C : jX0 p l R s m args meth c G cc nL own ret) (hd : decode cc pc = .ok (.idiv, 1)) {a b : Nat} (h0 : 0 < b) (ha : a < 2 ^ 31) (hb : b < 2 ^ 31) (k : Jp p l e R s m args below meth c G nL mc ms Φ (pc + 1) lv (.int (nI (a / b)) :: st) M kc ks) : Jp p l e R s m args below meth c G nL mc ms Φ (pc) lv (.int (nI b) :: .int (nI a) :: st) M kc ks := E_idiv C hd (nI_ne0 h0 hb) (by rw [pk_div ha h0 hb]; exact k)
theorem E_iremN (C : jX0 p l R s m args meth c G cc nL own ret) (hd : decode cc pc = .ok (.irem, 1)) {a b : Nat} (h0 : 0 < b) (ha : a < 2 ^ 31) (hb : b < 2 ^ 31) (k : Jp p l e R s m args below meth c G nL mc ms Φ (pc + 1) lv (.int (nI (a % b)) :: st) M kc ks) : Jp p l e R s m args below meth c G nL mc ms Φ (pc) lv (.int (nI b) :: .int (nI a) :: st) M kc ks := E_irem C hd (nI_ne0 h0 hb) (by rw [pk_rem ha h0 hb]; exact k)
theorem E_iincN (C : jX0 p l R s m args meth c G cc nL own ret) {i a : Nat} (hd : decode cc pc = .ok (.iinc i 1, 3)) (hx : lv[i]? = some (some (.int (nI a)))) (hn : i < nL) (hok : jok lv i = true) (k : Jp p l e R s m args below meth c G nL mc ms Φ (pc + 3) (lv.set i (some (.int (nI (a + 1))))) (st) M kc ks) : Jp p l e R s m args below meth c G nL mc ms Φ (pc) lv (st) M kc ks := E_iinc (v := nI (a + 1)) C hd hx (nI_1 a) hn hok k
theorem E_icmp_eqN (C : jX0 p l R s m args meth c G cc nL own ret) {a b : Nat} {off : Int} {tgt : Nat} (hd : decode cc pc = .ok (.if_icmp .eq off, 3)) (ht : (pc : Int) + off = (tgt : Int)) (ha : a < 2 ^ 31) (hb : b < 2 ^ 31) (kt : a = b → Jp p l e R s m args below meth c G nL mc ms Φ (tgt) lv (st) M kc ks) (kf : a ≠ b → Jp p l e R s m args below meth c G nL mc ms Φ (pc + 3) lv (st) M kc ks) : Jp p l e R s m args below meth c G nL mc ms Φ (pc) lv (.int (nI b) :: .int (nI a) :: st) M kc ks := E_icmp_eq C hd ht (fun h => kt ((nI_eq ha hb).mp h)) (fun h => kf (fun z => h ((nI_eq ha hb).mpr z)))
theorem E_icmp_neN (C : jX0 p l R s m args meth c G cc nL own ret) {a b : Nat} {off : Int} {tgt : Nat} (hd : decode cc pc = .ok (.if_icmp .ne off, 3)) (ht : (pc : Int) + off = (tgt : Int)) (ha : a < 2 ^ 31) (hb : b < 2 ^ 31) (kt : a ≠ b → Jp p l e R s m args below meth c G nL mc ms Φ (tgt) lv (st) M kc ks) (kf : a = b → Jp p l e R s m args below meth c G nL mc ms Φ (pc + 3) lv (st) M kc ks) : Jp p l e R s m args below meth c G nL mc ms Φ (pc) lv (.int (nI b) :: .int (nI a) :: st) M kc ks := E_icmp_ne C hd ht (fun h => kt (fun z => h ((nI_eq ha hb).mpr z))) (fun h => kf ((nI_eq ha hb).mp h))
theorem E_icmp_ltN (C : jX0 p l R s m args meth c G cc nL own ret) {a b : Nat} {off : Int} {tgt : Nat} (hd : decode cc pc = .ok (.if_icmp .lt off, 3)) (ht : (pc : Int) + off = (tgt : Int)) (ha : a < 2 ^ 31) (hb : b < 2 ^ 31) (kt : a < b → Jp p l e R s m args below meth c G nL mc ms Φ (tgt) lv (st) M kc ks) (kf : b ≤ a → Jp p l e R s m args below meth c G nL mc ms Φ (pc + 3) lv (st) M kc ks) : Jp p l e R s m args below meth c G nL mc ms Φ (pc) lv (.int (nI b) :: .int (nI a) :: st) M kc ks := E_icmp_lt C hd ht (fun h => kt ((nI_ltI ha hb).mp h)) (fun h => kf (by have := mt (nI_ltI ha hb).mpr h; omega))
theorem E_icmp_geN (C : jX0 p l R s m args meth c G cc nL own ret) {a b : Nat} {off : Int} {tgt : Nat} (hd : decode cc pc = .ok (.if_icmp .ge off, 3)) (ht : (pc : Int) + off = (tgt : Int)) (ha : a < 2 ^ 31) (hb : b < 2 ^ 31) (kt : b ≤ a → Jp p l e R s m args below meth c G nL mc ms Φ (tgt) lv (st) M kc ks) (kf : a < b → Jp p l e R s m args below meth c G nL mc ms Φ (pc + 3) lv (st) M kc ks) : Jp p l e R s m args below meth c G nL mc ms Φ (pc) lv (.int (nI b) :: .int (nI a) :: st) M kc ks := E_icmp_ge C hd ht (fun h => kt ((nI_leI hb ha).mp h)) (fun h => kf (by have := mt (nI_leI hb ha).mpr h; omega))
theorem E_icmp_gtN (C : jX0 p l R s m args meth c G cc nL own ret) {a b : Nat} {off : Int} {tgt : Nat} (hd : decode cc pc = .ok (.if_icmp .gt off, 3)) (ht : (pc : Int) + off = (tgt : Int)) (ha : a < 2 ^ 31) (hb : b < 2 ^ 31) (kt : b < a → Jp p l e R s m args below meth c G nL mc ms Φ (tgt) lv (st) M kc ks) (kf : a ≤ b → Jp p l e R s m args below meth c G nL mc ms Φ (pc + 3) lv (st) M kc ks) : Jp p l e R s m args below meth c G nL mc ms Φ (pc) lv (.int (nI b) :: .int (nI a) :: st) M kc ks := E_icmp_gt C hd ht (fun h => kt ((nI_ltI hb ha).mp h)) (fun h => kf (by have := mt (nI_ltI hb ha).mpr h; omega))
theorem E_icmp_leN (C : jX0 p l R s m args meth c G cc nL own ret) {a b : Nat} {off : Int} {tgt : Nat} (hd : decode cc pc = .ok (.if_icmp .le off, 3)) (ht : (pc : Int) + off = (tgt : Int)) (ha : a < 2 ^ 31) (hb : b < 2 ^ 31) (kt : a ≤ b → Jp p l e R s m args below meth c G nL mc ms Φ (tgt) lv (st) M kc ks) (kf : b < a → Jp p l e R s m args below meth c G nL mc ms Φ (pc + 3) lv (st) M kc ks) : Jp p l e R s m args below meth c G nL mc ms Φ (pc) lv (.int (nI b) :: .int (nI a) :: st) M kc ks := E_icmp_le C hd ht (fun h => kt ((nI_leI ha hb).mp h)) (fun h => kf (by have := mt (nI_leI ha hb).mpr h; omega))
theorem E_if_eqN (C : jX0 p l R s m args meth c G cc nL own ret) {a : Nat} {off : Int} {tgt : Nat} (hd : decode cc pc = .ok (.ifCond .eq off, 3)) (ht : (pc : Int) + off = (tgt : Int)) (ha : a < 2 ^ 31) (kt : a = 0 → Jp p l e R s m args below meth c G nL mc ms Φ (tgt) lv (st) M kc ks) (kf : a ≠ 0 → Jp p l e R s m args below meth c G nL mc ms Φ (pc + 3) lv (st) M kc ks) : Jp p l e R s m args below meth c G nL mc ms Φ (pc) lv (.int (nI a) :: st) M kc ks := E_if_eq C hd ht (fun h => kt ((nI_eq (b := 0) ha (by omega)).mp (h.trans nI_0.symm))) (fun h => kf (fun z => h (((nI_eq (b := 0) ha (by omega)).mpr z).trans nI_0)))
theorem E_if_neN (C : jX0 p l R s m args meth c G cc nL own ret) {a : Nat} {off : Int} {tgt : Nat} (hd : decode cc pc = .ok (.ifCond .ne off, 3)) (ht : (pc : Int) + off = (tgt : Int)) (ha : a < 2 ^ 31) (kt : a ≠ 0 → Jp p l e R s m args below meth c G nL mc ms Φ (tgt) lv (st) M kc ks) (kf : a = 0 → Jp p l e R s m args below meth c G nL mc ms Φ (pc + 3) lv (st) M kc ks) : Jp p l e R s m args below meth c G nL mc ms Φ (pc) lv (.int (nI a) :: st) M kc ks := E_if_ne C hd ht (fun h => kt (fun z => h (((nI_eq (b := 0) ha (by omega)).mpr z).trans nI_0))) (fun h => kf ((nI_eq (b := 0) ha (by omega)).mp (h.trans nI_0.symm)))
theorem E_if_gtN (C : jX0 p l R s m args meth c G cc nL own ret) {a : Nat} {off : Int} {tgt : Nat} (hd : decode cc pc = .ok (.ifCond .gt off, 3)) (ht : (pc : Int) + off = (tgt : Int)) (ha : a < 2 ^ 31) (kt : 0 < a → Jp p l e R s m args below meth c G nL mc ms Φ (tgt) lv (st) M kc ks) (kf : a = 0 → Jp p l e R s m args below meth c G nL mc ms Φ (pc + 3) lv (st) M kc ks) : Jp p l e R s m args below meth c G nL mc ms Φ (pc) lv (.int (nI a) :: st) M kc ks := E_if_gt C hd ht (fun h => kt ((nI_ltI (a := 0) (by omega) ha).mp (nI_0 ▸ h))) (fun h => kf (by have := mt (nI_ltI (a := 0) (by omega) ha).mpr (nI_0 ▸ h); omega))
theorem E_if_leN (C : jX0 p l R s m args meth c G cc nL own ret) {a : Nat} {off : Int} {tgt : Nat} (hd : decode cc pc = .ok (.ifCond .le off, 3)) (ht : (pc : Int) + off = (tgt : Int)) (ha : a < 2 ^ 31) (kt : a = 0 → Jp p l e R s m args below meth c G nL mc ms Φ (tgt) lv (st) M kc ks) (kf : 0 < a → Jp p l e R s m args below meth c G nL mc ms Φ (pc + 3) lv (st) M kc ks) : Jp p l e R s m args below meth c G nL mc ms Φ (pc) lv (.int (nI a) :: st) M kc ks := E_if_le C hd ht (fun h => kt (by have := (nI_leI (b := 0) ha (by omega)).mp (nI_0 ▸ h); omega)) (fun h => kf (by have := mt (nI_leI (b := 0) ha (by omega)).mpr (nI_0 ▸ h); omega))
theorem E_if_ltN (C : jX0 p l R s m args meth c G cc nL own ret) {a : Nat} {off : Int} {tgt : Nat} (hd : decode cc pc = .ok (.ifCond .lt off, 3)) (ht : (pc : Int) + off = (tgt : Int)) (ha : a < 2 ^ 31) (kf : Jp p l e R s m args below meth c G nL mc ms Φ (pc + 3) lv (st) M kc ks) : Jp p l e R s m args below meth c G nL mc ms Φ (pc) lv (.int (nI a) :: st) M kc ks := E_if_lt C hd ht (fun h => absurd h (nI_pos ha)) (fun _ => kf)
theorem E_if_geN (C : jX0 p l R s m args meth c G cc nL own ret) {a : Nat} {off : Int} {tgt : Nat} (hd : decode cc pc = .ok (.ifCond .ge off, 3)) (ht : (pc : Int) + off = (tgt : Int)) (ha : a < 2 ^ 31) (kt : Jp p l e R s m args below meth c G nL mc ms Φ (tgt) lv (st) M kc ks) : Jp p l e R s m args below meth c G nL mc ms Φ (pc) lv (.int (nI a) :: st) M kc ks := E_if_ge C hd ht (fun _ => kt) (fun h => absurd (nI_pos' ha) h)
theorem E_get (C : jX0 p l R s m args meth c G cc nL own ret) {idx ci j k : Nat} {fs : List Value} {v : Value} (hd : decode cc pc = .ok (.getfield idx, 3)) (hf : jF own idx ci j) (hM0 : M.1 k = some (.inr (ci, fs))) (hv : fs[j]? = some v) (k' : Jp p l e R s m args below meth c G nL mc ms Φ (pc + 3) lv (v :: st) M kc ks) : Jp p l e R s m args below meth c G nL mc ms Φ pc lv (.ref k :: st) M kc ks := by
  intro H locs ls hM hS hl
  obtain ⟨⟨cn, T, N⟩, hc, hj, hw⟩ := hf
  refine va_get (ws := [(jr G k, je G (.inr (ci, fs)))]) C.1 C.2.1 C.2.2.2.2.1 (jB_cls _ _ hc).1 C.2.2.2.1 C.2.2.2.2.2.2.2.1 (jP1 hM hM0) 0 (fs := fs.map (jv G)) rfl hc j hj (C.2.2.2.2.1 _ hw) (fun _ h => h) (v := jv G v) ?_ hd (k' H locs ls hM hS hl)
  rw [List.getElem?_map, hv]; rfl
theorem E_put (C : jX0 p l R s m args meth c G cc nL own ret) {idx ci j k : Nat} {fs : List Value} {v : Value} {ty : FieldType} (hd : decode cc pc = .ok (.putfield idx, 3)) (hf : jFp false own idx ci j ty) (hM0 : M.1 k = some (.inr (ci, fs))) (hj' : j < fs.length) (hn : narrow ty (jv G v) = jv G v) (hfit : fits ty (jv G v) = true) (k' : Jp p l e R s m args below meth c G nL mc ms Φ (pc + 3) lv st (ju M k (.inr (ci, fs.set j v))) kc ks) : Jp p l e R s m args below meth c G nL mc ms Φ pc lv (v :: .ref k :: st) M kc ks := by
  intro H locs ls hM hS hl
  obtain ⟨⟨cn, T, N⟩, hc, hj, hfin, hty, -, hw⟩ := hf
  obtain ⟨hin, ⟨ty0, hty0⟩, hnm⟩ := jB_cls _ _ hc
  have hts := C.2.2.2.2.1
  have hK : jK G s := C.2.2.2.2.2.2.2.1
  have hap := va_apart (own := own) hts hin ty0 hty0 hnm hK hc
  obtain ⟨r, h1, cell, q1, q2, q3, q4⟩ := (hM.at hM0).2
  have hr : r = (cn, T, N) := Option.some.inj (h1.symm.trans hc)
  subst hr
  obtain ⟨hSl, hfc, kC, hkC, hkind⟩ := hK.1 ci _ hc
  obtain ⟨cf, kf, fi, f, hi, hsl⟩ := hSl j hj
  have hlay := hts _ (hin _ (u_in_lay hj))
  unfold u_lay at hlay
  rw [if_neg (by rw [hfin]; decide)] at hlay
  have hst := (u_facts hfc hkC (u_lays hts hin hj) hi).1
  have h6 := u_store hfc hkC hkind hlay hi hty hn hfit
  refine W.putK C.1 C.2.1 (f := f) ⟨C.2.2.2.1, hts _ hw, ⟨_, _, _, hi⟩, hst⟩ (by rw [q2]; exact h6) q1 q3 (by rw [hsl]; exact k2_hasslot (q4 j hj)) rfl rfl hd fun H' e1 e2 e3 => ?_
  rw [hsl] at e1 ⊢
  have hb : jA G (jr G k) := (hM.at hM0).1
  refine k' H' _ ls (hM.set hM0 ⟨_, hc, ?_⟩ e2 e3) (hS.put e2 e3 hb) hl
  have hl2 : j < (fs.map (jv G)).length := by rw [List.length_map]; exact hj'
  have e9 : (fs.set j v).map (jv G) = (fs.map (jv G)).set j (jv G v) := by rw [List.map_set]
  show t_OB _ _ _ _ _ (vp_V ((fs.set j v).map (jv G)))
  rw [e9]
  exact t_OB.to (V := updV (vp_V (fs.map (jv G))) j (jv G v)) ⟨_, e1, q2, q3, t_set q4 hap hj _⟩ (fun i _ => vp_updV_set hl2 _ i)
theorem E_iald (C : jX0 p l R s m args meth c G cc nL own ret) {k n : Nat} {f : Nat → Int32} {i : Int32} (hd : decode cc pc = .ok (.iaload, 1)) (hM0 : M.1 k = some (.inl (0, n, .inl f))) (hin : vp_in i n) (k' : Jp p l e R s m args below meth c G nL mc ms Φ (pc + 1) lv (.int (f i.toNatClampNeg) :: st) M kc ks) : Jp p l e R s m args below meth c G nL mc ms Φ pc lv (.int i :: .ref k :: st) M kc ks := by
  intro H locs ls hM hS hl
  exact va_iald (cA := G.2.2.2 0) C.1 C.2.1 C.2.2.2.2.2.2.2.1 (jP1 hM hM0) 0 0 rfl rfl hin hd (k' H locs ls hM hS hl)
theorem E_lald (C : jX0 p l R s m args meth c G cc nL own ret) {k n : Nat} {f : Nat → Int64} {i : Int32} (hd : decode cc pc = .ok (.laload, 1)) (hM0 : M.1 k = some (.inl (1, n, .inr (.inl f)))) (hin : vp_in i n) (k' : Jp p l e R s m args below meth c G nL mc ms Φ (pc + 1) lv (.long (f i.toNatClampNeg) :: st) M kc ks) : Jp p l e R s m args below meth c G nL mc ms Φ pc lv (.int i :: .ref k :: st) M kc ks := by
  intro H locs ls hM hS hl
  exact va_lald (cA := G.2.2.2 1) C.1 C.2.1 C.2.2.2.2.2.2.2.1 (jP1 hM hM0) 0 1 rfl rfl hin hd (k' H locs ls hM hS hl)
theorem E_aald (C : jX0 p l R s m args meth c G cc nL own ret) {k n t b : Nat} {f : Nat → Option Nat} {i : Int32} (hd : decode cc pc = .ok (.aaload, 1)) (hM0 : M.1 k = some (.inl (t, n, .inr (.inr (.inr (.inr f)))))) (ht : t = 2 ∨ t = 3) (hin : vp_in i n) (hb : f i.toNatClampNeg = some b) (k' : Jp p l e R s m args below meth c G nL mc ms Φ (pc + 1) lv (.ref b :: st) M kc ks) : Jp p l e R s m args below meth c G nL mc ms Φ pc lv (.int i :: .ref k :: st) M kc ks := by
  intro H locs ls hM hS hl
  have kk := k' H locs ls hM hS hl
  have e9 : va_rf ((fun j => (f j).map (jr G)) i.toNatClampNeg) = jv G (.ref b) := by
    show va_rf ((f i.toNatClampNeg).map (jr G)) = _
    rw [hb]; rfl
  rcases ht with rfl | rfl
  · exact va_aldq (cA := G.2.2.2 2) (C := RX5) C.1 C.2.1 C.2.2.2.2.2.2.2.1 (jP1 hM hM0) 0 2 rfl rfl hin hd (by rw [e9]; exact kk)
  · exact va_aldq (cA := G.2.2.2 3) (C := RX6) C.1 C.2.1 C.2.2.2.2.2.2.2.1 (jP1 hM hM0) 0 3 rfl rfl hin hd (by rw [e9]; exact kk)
theorem E_alen (C : jX0 p l R s m args meth c G cc nL own ret) {k t : Nat} {x : vp_A} (hd : decode cc pc = .ok (.arraylength, 1)) (hM0 : M.1 k = some (.inl (t, x))) (ht : t < 4) (k' : Jp p l e R s m args below meth c G nL mc ms Φ (pc + 1) lv (.int (nI x.1) :: st) M kc ks) : Jp p l e R s m args below meth c G nL mc ms Φ pc lv (.ref k :: st) M kc ks := by
  intro H locs ls hM hS hl
  have hP := jP1 hM hM0
  have kk := k' H locs ls hM hS hl
  have hT : ∃ ty, (jT G)[t]? = some (G.2.2.2 t, ty) := by
    match t, ht with
    | 0, _ => exact ⟨_, rfl⟩
    | 1, _ => exact ⟨_, rfl⟩
    | 2, _ => exact ⟨_, rfl⟩
    | 3, _ => exact ⟨_, rfl⟩
  obtain ⟨ty, hty⟩ := hT
  obtain ⟨n, f | f | f | f | f⟩ := x
  · exact va_alen (cA := G.2.2.2 t) C.1 C.2.1 C.2.2.2.2.2.2.2.1 hP 0 t rfl hty rfl hd kk
  · exact va_alen (cA := G.2.2.2 t) C.1 C.2.1 C.2.2.2.2.2.2.2.1 hP 0 t rfl hty rfl hd kk
  · exact va_alen (cA := G.2.2.2 t) C.1 C.2.1 C.2.2.2.2.2.2.2.1 hP 0 t rfl hty rfl hd kk
  · exact va_alen (cA := G.2.2.2 t) C.1 C.2.1 C.2.2.2.2.2.2.2.1 hP 0 t rfl hty rfl hd kk
  · exact va_alen (cA := G.2.2.2 t) C.1 C.2.1 C.2.2.2.2.2.2.2.1 hP 0 t rfl hty rfl hd kk
theorem E_iast (C : jX0 p l R s m args meth c G cc nL own ret) {k n : Nat} {f : Nat → Int32} {i x : Int32} (hd : decode cc pc = .ok (.iastore, 1)) (hM0 : M.1 k = some (.inl (0, n, .inl f))) (hin : vp_in i n) (k' : Jp p l e R s m args below meth c G nL mc ms Φ (pc + 1) lv st (ju M k (.inl (0, n, .inl (upd f i.toNatClampNeg x)))) kc ks) : Jp p l e R s m args below meth c G nL mc ms Φ pc lv (.int x :: .int i :: .ref k :: st) M kc ks := by
  intro H locs ls hM hS hl
  have h1 : H[jr G k]? = some (vp_cell (G.2.2.2 0) (n, .inl f)) := (hM.at hM0).2
  have hK : jK G s := C.2.2.2.2.2.2.2.1
  have hb : jA G (jr G k) := (hM.at hM0).1
  refine W.iast C.1 C.2.1 h1 ((hK.2 0 _ rfl).1 n (fun j => .int (f j))) (fun q => by cases q) (by show ¬ (i < 0 ∨ (arrV _ _ _).slots.size ≤ _); rw [arrV_size]; exact hin) rfl rfl hd fun H1 e1 z oq => ?_
  refine k' H1 _ ls (hM.set hM0 ?_ z oq) (hS.put z oq hb) hl
  show H1[jr G k]? = some (vp_cell (G.2.2.2 0) (n, .inl (upd f i.toNatClampNeg x)))
  rw [e1, vp_cell_i, vp_cell_i, arrV_store]
  congr 2
  funext q
  by_cases hq : q = i.toNatClampNeg
  · subst hq
    simp [updV, upd]
  · simp [updV, upd, hq]
theorem E_last (C : jX0 p l R s m args meth c G cc nL own ret) {k n : Nat} {f : Nat → Int64} {i : Int32} {x : Int64} (hd : decode cc pc = .ok (.lastore, 1)) (hM0 : M.1 k = some (.inl (1, n, .inr (.inl f)))) (hin : vp_in i n) (k' : Jp p l e R s m args below meth c G nL mc ms Φ (pc + 1) lv st (ju M k (.inl (1, n, .inr (.inl (vp_updL f i.toNatClampNeg x))))) kc ks) : Jp p l e R s m args below meth c G nL mc ms Φ pc lv (.long x :: .int i :: .ref k :: st) M kc ks := by
  intro H locs ls hM hS hl
  have h1 : H[jr G k]? = some (vp_cell (G.2.2.2 1) (n, .inr (.inl f))) := (hM.at hM0).2
  have hK : jK G s := C.2.2.2.2.2.2.2.1
  have hb : jA G (jr G k) := (hM.at hM0).1
  refine W.last C.1 C.2.1 h1 ((hK.2 1 _ rfl).1 n (fun j => .long (f j))) (fun q => by cases q) (by show ¬ (i < 0 ∨ (arrV _ _ _).slots.size ≤ _); rw [arrV_size]; exact hin) rfl rfl hd fun H1 e1 z oq => ?_
  refine k' H1 _ ls (hM.set hM0 ?_ z oq) (hS.put z oq hb) hl
  show H1[jr G k]? = some (vp_cell (G.2.2.2 1) (n, .inr (.inl (vp_updL f i.toNatClampNeg x))))
  rw [e1, vp_cell_l, vp_cell_l, arrV_store]
  congr 2
  funext q
  by_cases hq : q = i.toNatClampNeg
  · subst hq
    simp [updV, vp_updL]
  · simp [updV, vp_updL, hq]
theorem E_iret (C : jX0 p l R s m args meth c G cc nL own ret) {v : Int32} (hd : decode cc pc = .ok (.ireturn, 1)) (hr : ret = some .int) (ho : Φ (.inl (some (.int v), M))) (hc : kc ≤ mc) (hs : ks ≤ ms) : Jp p l e R s m args below meth c G nL mc ms Φ pc lv [.int v] M kc ks := by
  intro H locs ls hM hS hl
  refine W.widen hc hs (vx_ret ?_)
  refine W.iret C.1 C.2.1 (C.ret'.trans hr) (fun t ht hW => ?_) hS.2.2 hd C.locks
  exact ⟨_, _, ho, rfl, by rw [ht]; exact hM, hS.F ht⟩
theorem E_zret (C : jX0 p l R s m args meth c G cc nL own ret) {v : Int32} {ty : FieldType} (hd : decode cc pc = .ok (.ireturn, 1)) (hr : ret = some ty) (hn : narrow ty (.int v) = .int v) (ho : Φ (.inl (some (.int v), M))) (hc : kc ≤ mc) (hs : ks ≤ ms) : Jp p l e R s m args below meth c G nL mc ms Φ pc lv [.int v] M kc ks := by
  intro H locs ls hM hS hl
  refine W.widen hc hs (vx_ret ?_)
  refine W.zret C.1 C.2.1 (C.ret'.trans hr) hn (fun t ht hW => ?_) hS.2.2 hd C.locks
  exact ⟨_, _, ho, rfl, by rw [ht]; exact hM, hS.F ht⟩
theorem E_lret (C : jX0 p l R s m args meth c G cc nL own ret) {v : Int64} (hd : decode cc pc = .ok (.lreturn, 1)) (hr : ret = some .long) (ho : Φ (.inl (some (.long v), M))) (hc : kc ≤ mc) (hs : ks ≤ ms) : Jp p l e R s m args below meth c G nL mc ms Φ pc lv [.long v] M kc ks := by
  intro H locs ls hM hS hl
  refine W.widen hc hs (vx_ret ?_)
  refine W.lret C.1 C.2.1 (C.ret'.trans hr) (fun t ht hW => ?_) hS.2.2 hd C.locks
  exact ⟨_, _, ho, rfl, by rw [ht]; exact hM, hS.F ht⟩
theorem E_vret (C : jX0 p l R s m args meth c G cc nL own ret) (hd : decode cc pc = .ok (.return_, 1)) (hr : ret = none) (ho : Φ (.inl (none, M))) (hc : kc ≤ mc) (hs : ks ≤ ms) : Jp p l e R s m args below meth c G nL mc ms Φ pc lv [] M kc ks := by
  intro H locs ls hM hS hl
  refine W.widen hc hs (vx_ret ?_)
  refine W.vret C.1 C.2.1 (C.ret'.trans hr) (fun t ht hW => ?_) hS.2.2 hd C.locks
  exact ⟨_, _, ho, rfl, by rw [ht]; exact hM, hS.F ht⟩
theorem erun_ret {H : Heap} {locs : List Loc} {ls : Array Slot} {c1 s1 : Nat} {v : Option Value} {M' : jMem} {a : Array Value} {st0 rest : List Value} (hr : vx_Run p l e R s m args below meth c H locs kc ks c1 s1 (F0 m pc ls st0) (rest.map (jv G)) (jQ G (.inl (v, M')) a) (jX G (.inl (v, M'))) (jA G)) (hS : va_S (jA G) s.heap H locs) (hl : jL G ls nL lv) (k : Jp p l e R s m args below meth c G nL mc ms Φ (pc + 3) lv (v.toList ++ rest) M' (kc + c1) (ks + s1)) :
    W p l e R s m args below meth c H locs kc ks (vx_MQ below (jQp G Φ) (jXp G Φ) args s mc ms (jA G)) (F0 m pc ls st0) := by
  intro T hT X
  rcases hr T hT X with ⟨w, st₀, t, T', L, h0, X', hL, e1, e2, ⟨hw, hM', hF⟩, stp⟩ | ⟨q, st₀, t, T', L, E, ce, h0, X', hL, e1, e2, hx, -⟩
  · have hw : w = v.map (jv G) := Outcome.returned.inj hw
    obtain ⟨-, -, k3⟩ := vx_keep h0 e1 hS (fun _ _ h => h) (fun _ h => h) hL hF
    obtain ⟨t2, a1, b1⟩ := k T'.heap (locs ++ L) ls (by rw [e1]; exact hM') k3 hl T' rfl X'
    refine ⟨t2, stp t2 ?_, b1⟩
    subst hw
    cases v <;> exact a1
  · exact hx.elim
theorem E_callV {y : MethodName} {bytes : ByteArray} {maxL n idx fr lo c1 s1 k ci : Nat} {ret' : Option FieldType} {As fs stk : List Value} {v : Option Value} {M' : jMem} {q : vw_C} (C : jX0 p l R s m args meth c G cc nL own ret) (hd : decode cc pc = .ok (.invokevirtual idx, 3)) (hm : jMv own idx y bytes maxL ret' n) (K : jC l G y bytes maxL ret' fr lo c1 s1 (.ref k :: As) M (.inl (v, M'))) (hR : fr + 1 ≤ R.frames ∧ 8 + (maxL + 11) + lo ≤ R.locals) (hk : M.1 k = some (.inr (ci, fs))) (hci : vwCl[ci]? = some q) (hq : q.1 = y.cls) (hn : As.length = n) (hst : stk = As.reverse ++ .ref k :: st) (h8 : (st.map fun v => v.category).sum ≤ 8) (hf : kc + c1 ≤ R.cells ∧ ks + s1 ≤ R.slots)
    (k' : Jp p l e R s m args below meth c G nL mc ms Φ (pc + 3) lv (v.toList ++ st) M' (kc + c1) (ks + s1)) : Jp p l e R s m args below meth c G nL mc ms Φ pc lv stk M kc ks := fun H locs ls hM hS hl =>
  erun_ret (jrunV C hd hm K hR hk hci hq hn hst h8 hf hM hS hl) hS hl k'
theorem E_callS {y : MethodName} {bytes : ByteArray} {maxL n idx fr lo c1 s1 : Nat} {ret' : Option FieldType} {As stk : List Value} {v : Option Value} {M' : jMem} (C : jX0 p l R s m args meth c G cc nL own ret) (hd : decode cc pc = .ok (.invokestatic idx, 3)) (hm : jMs own idx y bytes maxL ret' n) (K : jC l G y bytes maxL ret' fr lo c1 s1 As M (.inl (v, M'))) (hR : fr + 1 ≤ R.frames ∧ 8 + (maxL + 11) + lo ≤ R.locals) (hn : As.length = n) (hst : stk = As.reverse ++ st) (h8 : (st.map fun v => v.category).sum ≤ 8) (hf : kc + c1 ≤ R.cells ∧ ks + s1 ≤ R.slots)
    (k' : Jp p l e R s m args below meth c G nL mc ms Φ (pc + 3) lv (v.toList ++ st) M' (kc + c1) (ks + s1)) : Jp p l e R s m args below meth c G nL mc ms Φ pc lv stk M kc ks := by
  intro H locs ls hM hS hl
  have hp := jpre (As := As) C hM hS
  refine erun_ret (rest := st) (a := (As.map (jv G)).toArray) (vx_runS (As := As.map (jv G)) (rest := st.map (jv G)) (n := n) (Ts := jB) (own := own) (nL := nL) (cc := cc) (ret := ret') (maxL := maxL) (bytes := bytes) (index := idx) ⟨C.1, C.2.1, C.2.2.1, C.2.2.2.1, C.2.2.2.2.1⟩ K ⟨jcB C hm.1 hm.2.1 hR, C.w hm.2.2⟩ hp rfl (by rw [List.length_map]; exact hn) hl.1 ?_ ?_ hd hf) hS hl k'
  · rw [hst]; show (As.reverse ++ st).map (jv G) = _; rw [List.map_append, List.map_reverse]
  · exact lv_room (by rw [jcat]; exact h8)
theorem E_callSN {y : MethodName} {bytes : ByteArray} {maxL n idx fr lo : Nat} {host : String} {ret' : Option FieldType} {As stk : List Value} {v : Option Value} {M' : jMem} (C : jX0 p l R s m args meth c G cc nL own ret) (hd : decode cc pc = .ok (.invokestatic idx, 3)) (hm : jMc y bytes maxL ret' n) (hl9 : Cond.methodLinkNest own idx y host ∈ jN) (hs9 : Cond.static y ∈ jB) (K : jC l G y bytes maxL ret' fr lo 0 0 As M (.inl (v, M'))) (hR : fr + 1 ≤ R.frames ∧ 8 + (maxL + 11) + lo ≤ R.locals) (hn : As.length = n) (hst : stk = As.reverse ++ st) (h8 : (st.map fun v => v.category).sum ≤ 8) (hf : kc ≤ R.cells ∧ ks ≤ R.slots)
    (k' : Jp p l e R s m args below meth c G nL mc ms Φ (pc + 3) lv (v.toList ++ st) M' kc ks) : Jp p l e R s m args below meth c G nL mc ms Φ pc lv stk M kc ks := by
  intro H locs ls hM hS hl
  have hp := jpre (As := As) C hM hS
  refine erun_ret (c1 := 0) (s1 := 0) (rest := st) (a := (As.map (jv G)).toArray) (jrun_of (va_runSN (As := As.map (jv G)) (rest := st.map (jv G)) (n := n) (Ts := jB) (own := own) (nL := nL) (cc := cc) (ret := ret') (maxL := maxL) (bytes := bytes) (index := idx) (host := host) ⟨C.1, C.2.1, C.2.2.1, C.2.2.2.1, C.2.2.2.2.1⟩ K.met ⟨va_cnB n C.2.2.2.2.1 (jB_GoodIn (fun w hw => ?_)) rfl rfl rfl (C.S.2.2.1 _ hl9) (C.w hm.2.1) hm.2.2 hR, C.w hs9, trivial⟩ hp rfl (by rw [List.length_map]; exact hn) hl.1 ?_ ?_ hd hf)) hS hl k'
  · rcases List.mem_cons.mp hw with h | h
    · rw [h]; exact hm.1
    · exact h
  · rw [hst]; show (As.reverse ++ st).map (jv G) = _; rw [List.map_append, List.map_reverse]
  · exact lv_room (by rw [jcat]; exact h8)
theorem E_ialdN (C : jX0 p l R s m args meth c G cc nL own ret) {k n a : Nat} {f : Nat → Nat} (hd : decode cc pc = .ok (.iaload, 1)) (hM0 : M.1 k = some (nA n f)) (ha : a < n) (hn : n < 2 ^ 31) (k' : Jp p l e R s m args below meth c G nL mc ms Φ (pc + 1) lv (.int (nI (f a)) :: st) M kc ks) : Jp p l e R s m args below meth c G nL mc ms Φ pc lv (.int (nI a) :: .ref k :: st) M kc ks :=
  E_iald C hd hM0 (vp_in_nI ha hn) (by rw [nI_clamp (by omega)]; exact k')
theorem E_ialdR (C : jX0 p l R s m args meth c G cc nL own ret) {k n a : Nat} {f : Nat → Int32} (hd : decode cc pc = .ok (.iaload, 1)) (hM0 : M.1 k = some (rA n f)) (ha : a < n) (hn : n < 2 ^ 31) (k' : Jp p l e R s m args below meth c G nL mc ms Φ (pc + 1) lv (.int (f a) :: st) M kc ks) : Jp p l e R s m args below meth c G nL mc ms Φ pc lv (.int (nI a) :: .ref k :: st) M kc ks :=
  E_iald C hd hM0 (vp_in_nI ha hn) (by rw [nI_clamp (by omega)]; exact k')
theorem E_laldN (C : jX0 p l R s m args meth c G cc nL own ret) {k n a : Nat} {f : Nat → Int64} (hd : decode cc pc = .ok (.laload, 1)) (hM0 : M.1 k = some (lA n f)) (ha : a < n) (hn : n < 2 ^ 31) (k' : Jp p l e R s m args below meth c G nL mc ms Φ (pc + 1) lv (.long (f a) :: st) M kc ks) : Jp p l e R s m args below meth c G nL mc ms Φ pc lv (.int (nI a) :: .ref k :: st) M kc ks :=
  E_lald C hd hM0 (vp_in_nI ha hn) (by rw [nI_clamp (by omega)]; exact k')
theorem E_aaldN (C : jX0 p l R s m args meth c G cc nL own ret) {k n a t b : Nat} {f : Nat → Option Nat} (hd : decode cc pc = .ok (.aaload, 1)) (hM0 : M.1 k = some (qA t n f)) (ht : t = 2 ∨ t = 3) (ha : a < n) (hn : n < 2 ^ 31) (hb : f a = some b) (k' : Jp p l e R s m args below meth c G nL mc ms Φ (pc + 1) lv (.ref b :: st) M kc ks) : Jp p l e R s m args below meth c G nL mc ms Φ pc lv (.int (nI a) :: .ref k :: st) M kc ks :=
  E_aald C hd hM0 ht (vp_in_nI ha hn) (by rw [nI_clamp (by omega)]; exact hb) k'
theorem E_iastN (C : jX0 p l R s m args meth c G cc nL own ret) {k n a x : Nat} {f : Nat → Nat} (hd : decode cc pc = .ok (.iastore, 1)) (hM0 : M.1 k = some (nA n f)) (ha : a < n) (hn : n < 2 ^ 31) (hu : ju M k (nA n (va_up f a x)) = M2) (k' : Jp p l e R s m args below meth c G nL mc ms Φ (pc + 1) lv st M2 kc ks) : Jp p l e R s m args below meth c G nL mc ms Φ pc lv (.int (nI x) :: .int (nI a) :: .ref k :: st) M kc ks :=
  E_iast C hd hM0 (vp_in_nI ha hn) (by rw [nI_clamp (by omega), nA_up]; exact Jp.to hu k')
theorem E_iastR (C : jX0 p l R s m args meth c G cc nL own ret) {k n a : Nat} {x : Int32} {f : Nat → Int32} (hd : decode cc pc = .ok (.iastore, 1)) (hM0 : M.1 k = some (rA n f)) (ha : a < n) (hn : n < 2 ^ 31) (hu : ju M k (rA n (va_up f a x)) = M2) (k' : Jp p l e R s m args below meth c G nL mc ms Φ (pc + 1) lv st M2 kc ks) : Jp p l e R s m args below meth c G nL mc ms Φ pc lv (.int x :: .int (nI a) :: .ref k :: st) M kc ks :=
  E_iast C hd hM0 (vp_in_nI ha hn) (by rw [nI_clamp (by omega), rA_up]; exact Jp.to hu k')
theorem E_lastN (C : jX0 p l R s m args meth c G cc nL own ret) {k n a : Nat} {x : Int64} {f : Nat → Int64} (hd : decode cc pc = .ok (.lastore, 1)) (hM0 : M.1 k = some (lA n f)) (ha : a < n) (hn : n < 2 ^ 31) (hu : ju M k (lA n (va_up f a x)) = M2) (k' : Jp p l e R s m args below meth c G nL mc ms Φ (pc + 1) lv st M2 kc ks) : Jp p l e R s m args below meth c G nL mc ms Φ pc lv (.long x :: .int (nI a) :: .ref k :: st) M kc ks :=
  E_last C hd hM0 (vp_in_nI ha hn) (by rw [nI_clamp (by omega), lA_up]; exact Jp.to hu k')
theorem E_putU (C : jX0 p l R s m args meth c G cc nL own ret) {idx ci j k : Nat} {fs : List Value} {v : Value} {ty : FieldType} (hd : decode cc pc = .ok (.putfield idx, 3)) (hf : jFp false own idx ci j ty) (hM0 : M.1 k = some (.inr (ci, fs))) (hj' : j < fs.length) (hn : narrow ty (jv G v) = jv G v) (hfit : fits ty (jv G v) = true) (hu : ju M k (.inr (ci, fs.set j v)) = M2) (k' : Jp p l e R s m args below meth c G nL mc ms Φ (pc + 3) lv st M2 kc ks) : Jp p l e R s m args below meth c G nL mc ms Φ pc lv (v :: .ref k :: st) M kc ks :=
  E_put C hd hf hM0 hj' hn hfit (Jp.to hu k')
theorem E_callV1 {y : MethodName} {bytes : ByteArray} {maxL n idx fr lo k ci : Nat} {ret' : Option FieldType} {As fs stk : List Value} {v : Value} {M' : jMem} {q : vw_C} (C : jX0 p l R s m args meth c G cc nL own ret) (hd : decode cc pc = .ok (.invokevirtual idx, 3)) (hm : jMv own idx y bytes maxL ret' n) (K : jC l G y bytes maxL ret' fr lo 0 0 (.ref k :: As) M (.inl (some v, M'))) (hR : fr + 1 ≤ R.frames ∧ 8 + (maxL + 11) + lo ≤ R.locals) (hk : M.1 k = some (.inr (ci, fs))) (hci : vwCl[ci]? = some q) (hq : q.1 = y.cls) (hn : As.length = n) (hst : stk = As.reverse ++ .ref k :: st) (h8 : (st.map fun v => v.category).sum ≤ 8) (hf : kc ≤ R.cells ∧ ks ≤ R.slots)
    (k' : Jp p l e R s m args below meth c G nL mc ms Φ (pc + 3) lv (v :: st) M' kc ks) : Jp p l e R s m args below meth c G nL mc ms Φ pc lv stk M kc ks := E_callV C hd hm K hR hk hci hq hn hst h8 hf k'
theorem E_callV0 {y : MethodName} {bytes : ByteArray} {maxL n idx fr lo k ci : Nat} {ret' : Option FieldType} {As fs stk : List Value} {M' : jMem} {q : vw_C} (C : jX0 p l R s m args meth c G cc nL own ret) (hd : decode cc pc = .ok (.invokevirtual idx, 3)) (hm : jMv own idx y bytes maxL ret' n) (K : jC l G y bytes maxL ret' fr lo 0 0 (.ref k :: As) M (.inl (none, M'))) (hR : fr + 1 ≤ R.frames ∧ 8 + (maxL + 11) + lo ≤ R.locals) (hk : M.1 k = some (.inr (ci, fs))) (hci : vwCl[ci]? = some q) (hq : q.1 = y.cls) (hn : As.length = n) (hst : stk = As.reverse ++ .ref k :: st) (h8 : (st.map fun v => v.category).sum ≤ 8) (hf : kc ≤ R.cells ∧ ks ≤ R.slots)
    (k' : Jp p l e R s m args below meth c G nL mc ms Φ (pc + 3) lv st M' kc ks) : Jp p l e R s m args below meth c G nL mc ms Φ pc lv stk M kc ks := E_callV C hd hm K hR hk hci hq hn hst h8 hf k'
theorem E_callS1 {y : MethodName} {bytes : ByteArray} {maxL n idx fr lo : Nat} {ret' : Option FieldType} {As stk : List Value} {v : Value} {M' : jMem} (C : jX0 p l R s m args meth c G cc nL own ret) (hd : decode cc pc = .ok (.invokestatic idx, 3)) (hm : jMs own idx y bytes maxL ret' n) (K : jC l G y bytes maxL ret' fr lo 0 0 As M (.inl (some v, M'))) (hR : fr + 1 ≤ R.frames ∧ 8 + (maxL + 11) + lo ≤ R.locals) (hn : As.length = n) (hst : stk = As.reverse ++ st) (h8 : (st.map fun v => v.category).sum ≤ 8) (hf : kc ≤ R.cells ∧ ks ≤ R.slots)
    (k' : Jp p l e R s m args below meth c G nL mc ms Φ (pc + 3) lv (v :: st) M' kc ks) : Jp p l e R s m args below meth c G nL mc ms Φ pc lv stk M kc ks := E_callS C hd hm K hR hn hst h8 hf k'
theorem E_ldcS (C : jX0 p l R s m args meth c G cc nL own ret) {i idx : Nat} {tx : String} {by9 : List Nat} (hd : decode cc pc = .ok (.ldc idx, 2)) (hs : jStr[i]? = some (own, idx, tx, by9)) (k' : Jp p l e R s m args below meth c G nL mc ms Φ (pc + 2) lv (.ref (2000 + i) :: st) M kc ks) : Jp p l e R s m args below meth c G nL mc ms Φ pc lv st M kc ks := by
  intro H locs ls hM hS hl
  have k2 : W p l e R s m args below meth c H locs kc ks (vx_MQ below (jQp G Φ) (jXp G Φ) args s mc ms (jA G)) (F0 m (pc + 2) ls (.ref (jr G (2000 + i)) :: st.map (jv G))) := k' H locs ls hM hS hl
  rw [jr_s] at k2
  exact va_ldcS C.1 C.2.1 C.2.2.2.1 (C.S.2.2.2.2.2.2.2 i _ hs).1 hd k2
theorem E_callVS {y : MethodName} {bytes : ByteArray} {maxL n idx fr lo i : Nat} {ret' : Option FieldType} {As stk : List Value} {v : Value} {M' : jMem} {q : String × Nat × String × List Nat} (C : jX0 p l R s m args meth c G cc nL own ret) (hd : decode cc pc = .ok (.invokevirtual idx, 3)) (hm : jMv own idx y bytes maxL ret' n) (hq : y.cls = "java/lang/String") (hs : jStr[i]? = some q) (K : jC l G y bytes maxL ret' fr lo 0 0 (.ref (2000 + i) :: As) M (.inl (some v, M'))) (hR : fr + 1 ≤ R.frames ∧ 8 + (maxL + 11) + lo ≤ R.locals) (hn : As.length = n) (hst : stk = As.reverse ++ .ref (2000 + i) :: st) (h8 : (st.map fun v => v.category).sum ≤ 8) (hf : kc ≤ R.cells ∧ ks ≤ R.slots)
    (k' : Jp p l e R s m args below meth c G nL mc ms Φ (pc + 3) lv (v :: st) M' kc ks) : Jp p l e R s m args below meth c G nL mc ms Φ pc lv stk M kc ks := by
  intro H locs ls hM hS hl
  have hp := jpre (As := .ref (2000 + i) :: As) C hM hS
  have hrec : ∃ cellB : Cell, H[jr G (2000 + i)]? = some cellB ∧ cellB.vm.isStatics = false ∧ s.vm.findClass y.cls = some cellB.cls := by
    obtain ⟨cell, h1, h2, h3, -⟩ := (C.S.2.2.2.2.2.2.2 i _ hs).2.1.kept hS.2.1
    rw [jr_s, hq]
    exact ⟨cell, h1, h2, h3⟩
  refine erun_ret (c1 := 0) (s1 := 0) (rest := st) (a := (Value.ref (jr G (2000 + i)) :: As.map (jv G)).toArray) (vx_runV (As := As.map (jv G)) (rest := st.map (jv G)) (C := y.cls) (n := n) (Ts := jB) (own := own) (nL := nL) (cc := cc) (ret := ret') (maxL := maxL) (bytes := bytes) (index := idx) ⟨C.1, C.2.1, C.2.2.1, C.2.2.2.1, C.2.2.2.2.1⟩ K ⟨jcB C hm.1 hm.2.1 hR, C.w hm.2.2.1, C.w hm.2.2.2⟩ ⟨hp.1, hrec, hp.2⟩ rfl (by rw [List.length_map]; exact hn) hl.1 ?_ ?_ hd hf) hS hl k'
  · rw [hst]; exact jstk
  · exact lv_room (by rw [jcat]; exact h8)
theorem E_callS0 {y : MethodName} {bytes : ByteArray} {maxL n idx fr lo : Nat} {ret' : Option FieldType} {As stk : List Value} {M' : jMem} (C : jX0 p l R s m args meth c G cc nL own ret) (hd : decode cc pc = .ok (.invokestatic idx, 3)) (hm : jMs own idx y bytes maxL ret' n) (K : jC l G y bytes maxL ret' fr lo 0 0 As M (.inl (none, M'))) (hR : fr + 1 ≤ R.frames ∧ 8 + (maxL + 11) + lo ≤ R.locals) (hn : As.length = n) (hst : stk = As.reverse ++ st) (h8 : (st.map fun v => v.category).sum ≤ 8) (hf : kc ≤ R.cells ∧ ks ≤ R.slots)
    (k' : Jp p l e R s m args below meth c G nL mc ms Φ (pc + 3) lv st M' kc ks) : Jp p l e R s m args below meth c G nL mc ms Φ pc lv stk M kc ks := E_callS C hd hm K hR hn hst h8 hf k'
theorem E_tabIn (C : jX0 p l R s m args meth c G cc nL own ret) {dflt lo hi : Int} {offs : Array Int} {len : Nat} {x : Int32} {off : Int} {tgt : Nat} (hd : decode cc pc = .ok (.tableswitch dflt lo hi offs, len)) (h1 : ¬ x.toInt < lo) (h2 : ¬ hi < x.toInt) (ho : offs[(x.toInt - lo).toNat]? = some off) (ht : (pc : Int) + off = (tgt : Int)) (k : Jp p l e R s m args below meth c G nL mc ms Φ tgt lv st M kc ks) : Jp p l e R s m args below meth c G nL mc ms Φ pc lv (.int x :: st) M kc ks := fun H locs ls hM hS hl => lv_tableIn C.1 C.2.1 hd h1 h2 ho ht (k H locs ls hM hS hl)
theorem E_tabOut (C : jX0 p l R s m args meth c G cc nL own ret) {dflt lo hi : Int} {offs : Array Int} {len : Nat} {x : Int32} {tgt : Nat} (hd : decode cc pc = .ok (.tableswitch dflt lo hi offs, len)) (h : x.toInt < lo ∨ hi < x.toInt) (ht : (pc : Int) + dflt = (tgt : Int)) (k : Jp p l e R s m args below meth c G nL mc ms Φ tgt lv st M kc ks) : Jp p l e R s m args below meth c G nL mc ms Φ pc lv (.int x :: st) M kc ks := fun H locs ls hM hS hl => lv_tableOut C.1 C.2.1 hd h ht (k H locs ls hM hS hl)
/-- behind a call with a property of its outcomes -/
theorem erun_p {H : Heap} {locs : List Loc} {ls : Array Slot} {c1 s1 : Nat} {Ψ : jO → Prop} {a : Array Value} {st0 rest : List Value} (hr : vx_Run p l e R s m args below meth c H locs kc ks c1 s1 (F0 m pc ls st0) (rest.map (jv G)) (jQp G Ψ a) (jXp G Ψ) (jA G)) (hS : va_S (jA G) s.heap H locs) (hl : jL G ls nL lv) (hT : ∀ x ∈ c.exceptionTable.toList, False) (hlk : meth.locks = false) (hc : kc + c1 ≤ mc) (hs : ks + s1 ≤ ms) (kx : ∀ E M', Ψ (.inr (E, M')) → Φ (.inr (E, M'))) (kr : ∀ v M', Ψ (.inl (v, M')) → Jp p l e R s m args below meth c G nL mc ms Φ (pc + 3) lv (v.toList ++ rest) M' (kc + c1) (ks + s1)) :
    W p l e R s m args below meth c H locs kc ks (vx_MQ below (jQp G Φ) (jXp G Φ) args s mc ms (jA G)) (F0 m pc ls st0) := by
  intro T hT' X
  rcases hr T hT' X with ⟨w, st₀, t, T', L, h0, X', hL, e1, e2, ⟨v, M', hΨ, hw, hM', hF⟩, stp⟩ | ⟨q, st₀, t, T', L, E, ce, h0, X', hL, e1, e2, ⟨M', hΨ, hM', hF⟩, hce, hcv, hcl, stp⟩
  · have hw : w = v.map (jv G) := Outcome.returned.inj hw
    obtain ⟨-, -, k3⟩ := vx_keep h0 e1 hS (fun _ _ h => h) (fun _ h => h) hL hF
    obtain ⟨t2, a1, b1⟩ := kr v M' hΨ T'.heap (locs ++ L) ls (by rw [e1]; exact hM') k3 hl T' rfl X'
    refine ⟨t2, stp t2 ?_, b1⟩
    subst hw
    cases v <;> exact a1
  · obtain ⟨-, -, k3⟩ := vx_keep h0 e1 hS (fun _ _ h => h) (fun _ h => h) hL hF
    obtain ⟨t2, a1, b1⟩ := vx_out (pc := pc) (ls := ls) (rest := rest.map (jv G)) (E := E) (ce := ce) (q := q) (Qc := jQp G Φ) (XC := jXp G Φ) (free := jA G) (mc := mc) (ms := ms) (below := below) (args := args) (locs := locs ++ L) (cells := kc + c1) (slots := ks + s1) (p := p) (l := l) (e := e) (R := R) (s := s) (H := T'.heap) (fun x hx => (hT x hx).elim) hlk (by rw [e1]; exact hce) hcv hcl (fun t9 ht9 _ => ⟨M', kx E M' hΨ, by rw [ht9, e1]; exact hM', k3.F ht9⟩) k3.2.2 hc hs T' rfl X'
    exact ⟨t2, stp.trans a1, b1⟩
/-- nothing was made since the method began -/
theorem E_low {n : Nat} (hz : s.heap.size = G.1 + n) (hn : M.2 = some n) (k : Jp p l e R s m args below meth c G nL mc ms Φ pc lv st M 0 0) : Jp p l e R s m args below meth c G nL mc ms Φ pc lv st M kc ks := by
  intro H locs ls hM hS hl T hT X
  refine k H locs ls hM hS hl T hT ?_
  have hsz : T.heap.size = s.heap.size := by rw [hT, hz]; exact hM.2 n hn
  have hd : (T.heap.toList.drop s.heap.size) = [] := by
    apply List.drop_eq_nil_of_le
    rw [Array.length_toList]
    omega
  obtain ⟨a1, a2, a3, a4, a5, a6⟩ := X.same
  have a4' : T.slotsUsed = s.slotsUsed + ((T.heap.toList.drop s.heap.size).map (·.slots.size)).sum := a4
  exact { X with same := ⟨a1, a2, by show T.heap.size ≤ s.heap.size + 0; omega, a4, by show ((T.heap.toList.drop s.heap.size).map (·.slots.size)).sum ≤ 0; rw [hd]; exact Nat.le_refl _, a6⟩ }
theorem E_callVp {y : MethodName} {bytes : ByteArray} {maxL n idx fr lo c1 s1 k ci : Nat} {ret' : Option FieldType} {As fs stk : List Value} {Ψ : jO → Prop} {q : vw_C} (C : jX0 p l R s m args meth c G cc nL own ret) (hT : ∀ x ∈ c.exceptionTable.toList, False) (hd : decode cc pc = .ok (.invokevirtual idx, 3)) (hm : jMv own idx y bytes maxL ret' n) (K : jCp l G y bytes maxL ret' fr lo c1 s1 (.ref k :: As) M Ψ) (hR : fr + 1 ≤ R.frames ∧ 8 + (maxL + 11) + lo ≤ R.locals) (hk : M.1 k = some (.inr (ci, fs))) (hci : vwCl[ci]? = some q) (hq : q.1 = y.cls) (hn : As.length = n) (hst : stk = As.reverse ++ .ref k :: st) (h8 : (st.map fun v => v.category).sum ≤ 8) (hf : kc + c1 ≤ R.cells ∧ ks + s1 ≤ R.slots) (hc : kc + c1 ≤ mc) (hs : ks + s1 ≤ ms) (kx : ∀ E M', Ψ (.inr (E, M')) → Φ (.inr (E, M')))
    (kr : ∀ v M', Ψ (.inl (v, M')) → Jp p l e R s m args below meth c G nL mc ms Φ (pc + 3) lv (v.toList ++ st) M' (kc + c1) (ks + s1)) : Jp p l e R s m args below meth c G nL mc ms Φ pc lv stk M kc ks := by
  intro H locs ls hM hS hl
  have hp := jpre (As := .ref k :: As) C hM hS
  have hrec : ∃ cellB : Cell, H[jr G k]? = some cellB ∧ cellB.vm.isStatics = false ∧ s.vm.findClass y.cls = some cellB.cls := by
    obtain ⟨cell, h1, h2, h3⟩ := va_recv C.k (jP1 hM hk) hci (q0 := 0) (a := jr G k) (fs := fs.map (jv G)) rfl
    exact ⟨cell, h1, h2, by rw [← hq]; exact h3⟩
  refine erun_p (rest := st) (a := (Value.ref (jr G k) :: As.map (jv G)).toArray) (vx_runV (As := As.map (jv G)) (rest := st.map (jv G)) (C := y.cls) (n := n) (Ts := jB) (own := own) (nL := nL) (cc := cc) (ret := ret') (maxL := maxL) (bytes := bytes) (index := idx) ⟨C.1, C.2.1, C.2.2.1, C.2.2.2.1, C.2.2.2.2.1⟩ K ⟨jcB C hm.1 hm.2.1 hR, C.w hm.2.2.1, C.w hm.2.2.2⟩ ⟨hp.1, hrec, hp.2⟩ rfl (by rw [List.length_map]; exact hn) hl.1 ?_ ?_ hd hf) hS hl hT C.locks hc hs kx kr
  · rw [hst]; exact jstk
  · exact lv_room (by rw [jcat]; exact h8)
/-- throw new E("text") -/
theorem E_throw {ik is ic : Nat} {cls text : String} {names : List String} {i : Nat} {tx : List Nat} (C : jX0 p l R s m args meth c G cc nL own ret) (hst : l.stackTraces = false) (hT : ∀ x ∈ c.exceptionTable.toList, False) (hcls : Bundle.fit cls = true) (hnames : ∀ n ∈ names, Bundle.fit n = true) (hk : Cond.classLink own ik cls ∈ jB) (hini : Cond.initialized cls ∈ jB) (hstr : jStr[i]? = some (own, is, text, tx)) (hat : ∀ w ∈ vx_atS own ic cls names, w ∈ lw_tbl ∧ (goodWord w || jNk w) = true) (hgood : ∀ w ∈ Cond.classLink own ik cls :: Cond.initialized cls :: vx_atS own ic cls names, vx_ot w = true)
    (d0 : decode cc pc = .ok (.new ik, 3)) (d3 : decode cc (pc + 3) = .ok (.dup, 1)) (d4 : decode cc (pc + 4) = .ok (.ldc is, 2)) (d6 : decode cc (pc + 6) = .ok (.invokespecial ic, 3)) (d9 : decode cc (pc + 9) = .ok (.athrow, 1))
    (hR : names.length + 3 < R.frames ∧ (st.map fun v => v.category).sum + (13 * (names.length + 1) + 43) ≤ R.locals ∧ kc + 1 ≤ R.cells ∧ ks + 6 ≤ R.slots) (ho : Φ (.inr (cls, jno M))) (hc : kc + 1 ≤ mc) (hs : ks + 6 ≤ ms) : Jp p l e R s m args below meth c G nL mc ms Φ pc lv st M kc ks := by
  intro H locs ls hM hS hl
  have hS1 := (C.S.2.2.2.2.2.2.2 i _ hstr).1
  have hw0 : ∀ w ∈ vx_atS own ic cls names, w.before args s = true := by
    intro w hw
    obtain ⟨h1, h2⟩ := hat w hw
    rw [Bool.or_eq_true] at h2
    rcases h2 with h2 | h2
    · exact C.w (jB_in h1 h2)
    · exact va_Nw.use (jN_tab h2) (C.S.2.2.1 w (List.mem_filter.mpr ⟨h1, h2⟩))
  refine vx_throwS C.1 C.2.1 hst C.2.2.2.1 hcls hnames (C.w hk) (C.w hini) hS1 hw0 hgood C.S.1 C.S.2.1 hS (hl.1.trans C.2.2.1.symm) d0 d3 d4 d6 d9 (fun x hx => (hT x hx).elim) hR.1 (by rw [jcat]; exact hR.2.1) hR.2.2.1 hR.2.2.2 C.locks (fun t _ hz hq => ?_) hS.2.2 hc hs
  exact ⟨jno M, ho, hM.no.keep rfl hq, Nat.le_trans hS.1 hz, fun q h1 h2 => (hq q (Nat.lt_of_lt_of_le h1 hS.1)).trans (hS.2.1 q h1 h2)⟩
/-- A CONTRACT OUT OF A BODY -/
theorem jCp.of {y : MethodName} {maxL fr lo : Nat} {As : List Value} (hy : plainName y.cls = true) (k9 : Nat) (hk : (lg_sl (As.map (jv G))).length + k9 = maxL) (lv0 : List (Option Value)) (hlv : lv0 = jargs As ++ List.replicate k9 none)
    (body : ∀ (p : Program) (e : Env) (s : State) (m : MethodId) (args : Array Value) (below : List Frame) (meth : Method) (c : Code), jX0 p l (jR fr lo mc ms) s m args meth c G cc maxL y.cls ret → (∀ x ∈ c.exceptionTable.toList, False) → (∀ n, M.2 = some n → s.heap.size = G.1 + n) → Jp p l e (jR fr lo mc ms) s m args below meth c G maxL mc ms Φ 0 lv0 [] M 0 0) :
    jCp l G y cc maxL ret fr lo mc ms As M Φ := by
  refine vx_ofW (cc := cc) (maxL := maxL) (ret := ret) hy rfl ?_
  intro p e s m args below meth c s₁ B hml hT hP
  obtain ⟨hargs, hW, hK, hS, hb⟩ := hP
  have hts : ∀ w ∈ jws y cc maxL ret, w.before args s = true := atoms_spec (ws := jws y cc maxL ret) B.pre
  have hown : s.vm.findClass y.cls = some m.cls := findClass_of_methodNamed B.named
  subst hargs
  rw [lg_entry_eq]
  have hl := lv_entry (As.map (jv G)) (n := maxL) (by omega)
  refine body p e s m _ below meth c ⟨B.exec, B.bytes, hml, hown, fun w hw => hts w (List.mem_cons_of_mem _ hw), B.returns, B.notSynchronized, hK, hS, hb⟩ hT hW.2 s.heap [] _ hW va_S.rf ?_
  rw [hlv]
  show lv_has _ _ (jasc G 0 (jargs As ++ List.replicate k9 none))
  rw [jasc_args]
  exact hl
end JE2
/-- a weaker property -/
theorem jCp.mono {l : Launch} {G : jG} {y : MethodName} {cc : ByteArray} {maxL : Nat} {ret : Option FieldType} {fr lo mc ms : Nat} {As : List Value} {M : jMem} {Φ Ψ : jO → Prop} (h : jCp l G y cc maxL ret fr lo mc ms As M Φ) (hi : ∀ o, Φ o → Ψ o) : jCp l G y cc maxL ret fr lo mc ms As M Ψ := by
  intro p' e' ha hc hk s' m' args' below' hf happ hP hK
  obtain ⟨k, o, h1, h2, h3, h4⟩ := h p' e' ha hc hk s' m' args' below' hf happ hP hK
  refine ⟨k, o, h1, h2, h3, ?_⟩
  rcases h4 with ⟨⟨v, M', a1, a2⟩, a3⟩ | ⟨q, hq, E, ce, L, ⟨M', a1, a2⟩, a3⟩
  · exact Or.inl ⟨⟨v, M', hi _ a1, a2⟩, a3⟩
  · exact Or.inr ⟨q, hq, E, ce, L, ⟨M', hi _ a1, a2⟩, a3⟩
/-- a contract with one outcome, as one with a property -/
theorem jC.p {l : Launch} {G : jG} {y : MethodName} {cc : ByteArray} {maxL : Nat} {ret : Option FieldType} {fr lo mc ms : Nat} {As : List Value} {M : jMem} {out : jO} (h : jC l G y cc maxL ret fr lo mc ms As M out) : jCp l G y cc maxL ret fr lo mc ms As M (fun o => o = out) := by
  intro p' e' ha hc hk s' m' args' below' hf happ hP hK
  obtain ⟨k, o, h1, h2, h3, h4⟩ := h p' e' ha hc hk s' m' args' below' hf happ hP hK
  refine ⟨k, o, h1, h2, h3, ?_⟩
  match out with
  | .inl (v, M') =>
    rcases h4 with ⟨a2, a3⟩ | ⟨q, hq, E, ce, L, a2, a3⟩
    · exact Or.inl ⟨⟨v, M', rfl, a2⟩, a3⟩
    · exact a2.elim
  | .inr (E', M') =>
    rcases h4 with ⟨a2, a3⟩ | ⟨q, hq, E, ce, L, ⟨b1, b2⟩, a3⟩
    · exact a2.elim
    · exact Or.inr ⟨q, hq, E, ce, L, ⟨M', by rw [b1], b2⟩, a3⟩
