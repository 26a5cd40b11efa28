def jB : List Cond := lw_tbl.filter goodWord
theorem jB_in {w : Cond} (h : w ∈ lw_tbl) (g : goodWord w = true) : w ∈ jB := List.mem_filter.mpr ⟨h, g⟩
theorem jB_good {w : Cond} (h : w ∈ jB) : goodWord w = true := (List.mem_filter.mp h).2
theorem jB_GoodIn {ws : List Cond} (h : ∀ w ∈ ws, w ∈ jB) : GoodIn jB ws := fun w hw => ⟨h w hw, good_of_word (jB_good (h w hw))⟩
/-- words of the tables that are not steady: links across the nest -/
def jNk (w : Cond) : Bool := match w with | .methodLinkNest _ _ _ _ => true | .fieldLinkNest _ _ _ _ _ _ => true | .declares _ => true | .castable _ _ => true | _ => false
def jN : List Cond := lw_tbl.filter jNk
theorem jN_tab {w : Cond} (h : jNk w = true) : w.onTables = true := by cases w <;> first | rfl | (simp [jNk] at h; done)
/-- a field that an instruction names: its class's number, its slot -/
def jF (own : String) (idx ci j : Nat) : Prop := ∃ q : vw_C, vwCl[ci]? = some q ∧ j < q.2.2 ∧ Cond.fieldLink own idx (q.2.1 j).1 (q.2.1 j).2.1 (q.2.1 j).2.2.1 ∈ jB
/-- .. one that may be written, of type ty; fin: a final one, in its own class's constructor -/
def jFp (fin : Bool) (own : String) (idx ci j : Nat) (ty : FieldType) : Prop := ∃ q : vw_C, vwCl[ci]? = some q ∧ j < q.2.2 ∧ (q.2.1 j).2.2.2 = fin ∧ parseFieldDescriptor (q.2.1 j).2.2.1 = some ty ∧ (q.2.1 j).1 = (if fin then own else (q.2.1 j).1) ∧ Cond.fieldLink own idx (q.2.1 j).1 (q.2.1 j).2.1 (q.2.1 j).2.2.1 ∈ jB
/-- a method of ours that an instruction calls: the words -/
def jMc (y : MethodName) (cc : ByteArray) (maxL : Nat) (ret : Option FieldType) (n : Nat) : Prop := Cond.code y cc maxL ret ∈ jB ∧ Cond.initialized y.cls ∈ jB ∧ y.cls ≠ "java/lang/invoke/MethodHandle" ∧ y.cls ≠ "java/lang/invoke/VarHandle" ∧ (parseMethodDescriptor y.desc).map (fun d => d.parameters.length) = some n
def jMv (own : String) (idx : Nat) (y : MethodName) (cc : ByteArray) (maxL : Nat) (ret : Option FieldType) (n : Nat) : Prop := jMc y cc maxL ret n ∧ Cond.methodLink own idx y ∈ jB ∧ Cond.instanceMethod y ∈ jB ∧ Cond.selects y.cls y y ∈ jB
def jMs (own : String) (idx : Nat) (y : MethodName) (cc : ByteArray) (maxL : Nat) (ret : Option FieldType) (n : Nat) : Prop := jMc y cc maxL ret n ∧ Cond.methodLink own idx y ∈ jB ∧ Cond.static y ∈ jB
def jMi (own : String) (idx : Nat) (y : MethodName) (cc : ByteArray) (maxL : Nat) (n : Nat) : Prop := jMc y cc maxL none n ∧ Cond.methodLink own idx y ∈ jB ∧ Cond.instanceMethod y ∈ jB ∧ y.name = "<init>"
