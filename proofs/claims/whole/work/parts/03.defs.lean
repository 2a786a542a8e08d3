/-! Words that stay; instructions by their places -/
/-- the words that stay; links to a nest mate's members beside them -/
def lw_gd : List Cond := lw_tbl.filter goodWord
theorem lw_gd_in {w : Cond} (h : w ∈ lw_tbl) (hg : goodWord w = true) : w ∈ lw_gd := List.mem_filter.mpr ⟨h, hg⟩
/-- the instruction at pc, and where the next one stands -/
def Dc (cc : ByteArray) (pc : Nat) (i : Instr) (n pc' : Nat) : Prop := decode cc pc = .ok (i, n) ∧ pc + n = pc'
/-- a jump: its target too -/
def Dj (cc : ByteArray) (pc : Nat) (i : Instr) (off : Int) (tgt pc' : Nat) : Prop := decode cc pc = .ok (i, 3) ∧ (pc : Int) + off = (tgt : Int) ∧ pc + 3 = pc'
/-- a method's own words: its code, its class, its descriptor -/
def Mw (y : MethodName) (bytes : ByteArray) (nL : Nat) (rt : Option FieldType) (n : Nat) : Prop :=
  Cond.code y bytes nL rt ∈ lw_gd ∧ Cond.initialized y.cls ∈ lw_gd ∧ (y.cls ≠ "java/lang/invoke/MethodHandle" ∧ y.cls ≠ "java/lang/invoke/VarHandle") ∧ (parseMethodDescriptor y.desc).map (fun d => d.parameters.length) = some n ∧ nL ≤ 45
def Mi (Cn : String) (y : MethodName) : Prop := Cond.instanceMethod y ∈ lw_gd ∧ Cond.selects Cn y y ∈ lw_gd
