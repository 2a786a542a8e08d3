/-! The world of both classes as one picture: rows of ints V, rows of references R, and what lies where (G) -/
abbrev V2 : Type := Nat → Nat → Int32
abbrev R2 : Type := Nat → Nat → Option Nat
/-- the addresses that are held, the kind of each, the length of each, the size of the heap -/
abbrev G2 : Type := List Nat × (Nat → Nat) × (Nat → Nat) × Nat
/-- class numbers, their slots, array classes, the first address that may change, addresses of the constants -/
abbrev Dx : Type := (Nat → ClassId) × (Nat → Nat → Nat) × (Nat → ClassId) × Nat × (Nat → Nat)
def up2 {α : Type} (V : Nat → Nat → α) (x k : Nat) (v : α) : Nat → Nat → α := va_up V x (va_up (V x) k v)
def own (G : G2) (x t : Nat) : Prop := x ∈ G.1 ∧ G.2.1 x = t
def nfs (ci : Nat) : Nat := match ci with
  | 0 => 6
  | 1 => 10
  | 2 => 7
  | 3 => 10
  | 4 => 3
  | 5 => 10
  | 6 => 10
  | 7 => 2
  | 8 => 12
  | _ => 40
/-- by class and field: 0 of a number, else how far behind the object its part lies -/
def offT (ci k : Nat) : Nat := match ci with
  | 0 => [1].getD k 0
  | 1 => [1, 0, 0, 0, 6, 7, 8, 9, 0, 10].getD k 0
  | 2 => [0, 0, 0, 1, 2, 3, 4].getD k 0
  | 3 => [0, 1, 2, 3, 4].getD k 0
  | 4 => [0, 0, 1].getD k 0
  | 5 => [1, 0, 0, 0, 0, 0, 2, 0, 3].getD k 0
  | 6 => [1, 2, 0, 3].getD k 0
  | 7 => [0, 1].getD k 0
  | 8 => [1, 16, 0, 31, 36, 65, 69, 0, 70, 71, 72, 73].getD k 0
  | _ => [1, 2, 0, 3, 4, 0, 0, 0, 0, 0, 0, 0, 5, 6, 7, 0, 0, 0, 0, 0, 0, 0, 8, 9, 0, 0, 10, 0, 11, 12, 13, 14, 15, 16, 17].getD k 0
def fvv (ci : Nat) (V : V2) (a k : Nat) : Value := if offT ci k = 0 then .int (V a k) else .ref (a + offT ci k)
def fvr (ci : Nat) (V : V2) (R : R2) (a k : Nat) : Value := if offT ci k = 0 then .int (V a k) else va_rf (R a k)
def cellE (D : Dx) (G : G2) (V : V2) (R : R2) (a : Nat) : va_E :=
  if G.2.1 a = 1 then .inl (D.2.2.1 1, G.2.2.1 a, .inl (V a))
  else if G.2.1 a < 10 then .inl (D.2.2.1 (G.2.1 a), G.2.2.1 a, .inr (.inr (.inr (.inr (R a)))))
  else if G.2.1 a < 30 then .inr (G.2.1 a - 10, (List.range (nfs (G.2.1 a - 10))).map (fvv (G.2.1 a - 10) V a))
  else .inr (G.2.1 a - 30, (List.range (nfs (G.2.1 a - 30))).map (fvr (G.2.1 a - 30) V R a))
abbrev wsW (D : Dx) (G : G2) (V : V2) (R : R2) : va_W := va_pl G.1 (cellE D G V R)
def Wd (D : Dx) (G : G2) (V : V2) (R : R2) (H : Heap) : Prop := va_P (D.1, D.2.1) vwCl (wsW D G V R) H ∧ va_D (fun q => D.2.2.2.1 ≤ q) (wsW D G V R) ∧ H.size = G.2.2.2 ∧ D.2.2.2.1 ≤ G.2.2.2
def tysW (D : Dx) : List (ClassId × FieldType) := [(D.2.2.1 1, .int), (D.2.2.1 2, .object "IronedFlat$Rule"), (D.2.2.1 3, .object "IronedFlat$SheetRow"), (D.2.2.1 4, .object "IronedFlat$Load")]
/-- what a call may change: what is held at its start, and what it makes -/
def AX (G : G2) : Nat → Prop := fun q => q ∈ G.1 ∨ G.2.2.2 ≤ q
/-- G has grown out of G0 -/
def GE (G0 G : G2) : Prop := G0.2.2.2 ≤ G.2.2.2 ∧ ∀ x, x ∈ G.1 → x ∈ G0.1 ∨ G0.2.2.2 ≤ x
theorem GE.rf (G : G2) : GE G G := ⟨Nat.le_refl _, fun _ h => Or.inl h⟩
theorem GE.tr {A B C : G2} (h : GE A B) (h2 : GE B C) : GE A C := ⟨Nat.le_trans h.1 h2.1, fun x hx => (h2.2 x hx).elim (h.2 x) (fun q => Or.inr (Nat.le_trans h.1 q))⟩
theorem GE.ax {A B : G2} (h : GE A B) : ∀ q, AX B q → AX A q := fun q hq => hq.elim (h.2 q) (fun z => Or.inr (Nat.le_trans h.1 z))
/-- the constants: static rows, the text of the words -/
def abvT : List Int32 := [-1, 0, 0, 2, 0, 4]
def bodT : List Int32 := [10, 11, 12, 13, 20, 11, 12, 13, 10, 30, 12, 13, 50, 30, 12, 51, 10, 11, 40, 13, 10, 60, 61, 13]
/-- the words' text -/
def wrdT : List Int32 := [116, 104, 105, 110, 103, 32, 99, 111, 112, 112, 101, 114, 32, 99, 111, 97, 116, 32, 104, 97, 116, 32, 108, 105, 110, 101, 110, 32, 102, 105, 101, 108, 100, 32, 112, 114, 101, 115, 115, 32, 108, 101, 97, 118, 101, 32, 102, 111, 108, 100, 32, 119, 97, 115, 104, 32, 98, 117, 108, 107, 32, 99, 114, 101, 97, 115, 101, 32, 115, 116, 101, 97, 109, 32, 110, 117, 109, 98, 101, 114, 32, 105, 102, 32, 111, 114, 32, 97, 110, 100, 32, 110, 111, 116]
def Sta (D : Dx) (U : State) (H : Heap) : Prop :=
  va_Z "IronedFlat" "ABOVE" "[I" (.ref (D.2.2.2.2 0)) (fun q => D.2.2.2.1 ≤ q) U H ∧ va_T .int (D.2.2.2.2 0) 6 (fun j => .int (abvT.getD j 0)) (fun q => D.2.2.2.1 ≤ q) U H ∧
  va_Z "IronedFlat$Actor" "BODY" "[I" (.ref (D.2.2.2.2 1)) (fun q => D.2.2.2.1 ≤ q) U H ∧ va_T .int (D.2.2.2.2 1) 24 (fun j => .int (bodT.getD j 0)) (fun q => D.2.2.2.1 ≤ q) U H ∧
  va_Z "java/lang/String" "COMPACT_STRINGS" "Z" (.int 1) (fun q => D.2.2.2.1 ≤ q) U H ∧ va_Zq "jdk/internal/util/Preconditions" "SIOOBE_FORMATTER" "Ljava/util/function/BiFunction;" (fun q => D.2.2.2.1 ≤ q) U H ∧
  va_O "java/lang/String" (D.2.2.2.2 2) (fun q => D.2.2.2.1 ≤ q) U H ∧ va_OF "java/lang/String" "coder" "B" (.int 0) (D.2.2.2.2 2) (fun q => D.2.2.2.1 ≤ q) U H ∧ va_OF "java/lang/String" "value" "[B" (.ref (D.2.2.2.2 3)) (D.2.2.2.2 2) (fun q => D.2.2.2.1 ≤ q) U H ∧ va_T .byte (D.2.2.2.2 3) 94 (fun j => .int (wrdT.getD j 0)) (fun q => D.2.2.2.1 ≤ q) U H
theorem Sta.moved {D : Dx} {u U : State} {H : Heap} (hvm : u.vm.Alike U.vm) (h : Sta D u H) : Sta D U H := by
  obtain ⟨h0, h1, h2, h3, h4, h5, h6, h7, h8, h9⟩ := h
  exact ⟨va_Z.moved hvm h0, va_T.moved hvm h1, va_Z.moved hvm h2, va_T.moved hvm h3, va_Z.moved hvm h4, va_Zq.moved hvm h5, va_O.moved hvm h6, va_OF.moved hvm h7, va_OF.moved hvm h8, va_T.moved hvm h9⟩
theorem Sta.kept {D : Dx} {U : State} {H H1 : Heap} (h : Sta D U H) (hq : ∀ a : Nat, a < H.size → ¬ D.2.2.2.1 ≤ a → H1[a]? = H[a]?) : Sta D U H1 := by
  obtain ⟨h0, h1, h2, h3, h4, h5, h6, h7, h8, h9⟩ := h
  exact ⟨va_Z.kept h0 hq, va_T.kept h1 hq, va_Z.kept h2 hq, va_T.kept h3 hq, va_Z.kept h4 hq, va_Zq.kept h5 hq, va_O.kept h6 hq, va_OF.kept h7 hq, va_OF.kept h8 hq, va_T.kept h9 hq⟩
def wrdS : String := "thing copper coat hat linen field press leave fold wash bulk crease steam number if or and not"
def Nst (U : State) : Prop := ∀ (a : String) (i : Nat) (x : MethodName) (h : String), Cond.methodLinkNest a i x h ∈ lw_tbl → va_Nw (.methodLinkNest a i x h) U
def AOs (U : State) : Prop := ∀ c : String, Cond.arrayOver (.object c) ∈ lw_tbl → va_AO c U
def Kx (D : Dx) (U : State) : Prop := va_K (D.1, D.2.1) vwCl (tysW D) U ∧ Sta D U U.heap ∧ Nst U ∧ vk_R "IronedFlat$RuleReader" 59 wrdS (D.2.2.2.2 2) U ∧ AOs U
theorem Kx.warm {D : Dx} {s U : State} (h : Kx D s) (hW : s.WarmedH U.vm) (hq : ∀ a : Nat, a < s.heap.size → ¬ D.2.2.2.1 ≤ a → U.heap[a]? = s.heap[a]?) : Kx D U := ⟨va_K.moved hW.alike h.1, (h.2.1.kept hq).moved hW.alike, fun a i x b hm => va_Nw.warmM hW (h.2.2.1 a i x b hm), h.2.2.2.1.warm hW, fun c hc => va_AO.moved hW.alike (h.2.2.2.2 c hc)⟩
theorem Kx.blind {D : Dx} {U : State} (g : JFrame) (mk : MethodId) (a : Array Value) (h : Kx D U) : Kx D (U.calling g mk a) := ⟨va_K.moved (u := U) (U := U.calling g mk a) (Vm.Alike.refl U.vm) h.1, Sta.moved (u := U) (U := U.calling g mk a) (Vm.Alike.refl U.vm) h.2.1, fun b i x c hm => va_Nw.same (w := .methodLinkNest b i x c) rfl (u := U) (U := U.calling g mk a) rfl (h.2.2.1 b i x c hm), vk_R.same (u := U) (U := U.calling g mk a) rfl h.2.2.2.1, fun c hc => va_AO.moved (u := U) (U := U.calling g mk a) (Vm.Alike.refl U.vm) (h.2.2.2.2 c hc)⟩
/-- program, launch, env, room, state, method, args, below, meth, code -/
abbrev Bs : Type := Program × Launch × Env × Room × State × MethodId × Array Value × List Frame × Method × Code
/-- the end that is wanted: answer, V, R, G; cells, slots -/
abbrev Tg : Type := Option Value × V2 × R2 × G2 × Nat × Nat
/-- base; end; G at the start; classes; locals -/
abbrev Cx : Type := Bs × Tg × G2 × Dx × Nat
def QT (D : Dx) (A : Nat → Prop) (T : Tg) : Array Value → State → Outcome → State → Prop := fun _ st o t => o = .returned T.1 ∧ Wd D T.2.2.2.1 T.2.1 T.2.2.1 t.heap ∧ va_F A st t
def Qof (C : Cx) : State → Prop := MQ C.1.2.2.2.2.2.2.2.1 (QT C.2.2.2.1 (AX C.2.2.1) C.2.1) C.1.2.2.2.2.2.2.1 C.1.2.2.2.2.1 C.2.1.2.2.2.2.1 C.2.1.2.2.2.2.2 (AX C.2.2.1)
def Wat (C : Cx) (H : Heap) (locs : List Loc) (kc ks : Nat) (g : JFrame) : Prop := W C.1.1 C.1.2.1 C.1.2.2.1 C.1.2.2.2.1 C.1.2.2.2.2.1 C.1.2.2.2.2.2.1 C.1.2.2.2.2.2.2.1 C.1.2.2.2.2.2.2.2.1 C.1.2.2.2.2.2.2.2.2.1 C.1.2.2.2.2.2.2.2.2.2 H locs kc ks (Qof C) g
/-- from here the method comes to its end -/
def Go (C : Cx) (pc : Nat) (lv : List (Nat × Value)) (st : List Value) (V : V2) (R : R2) (G : G2) (kc ks : Nat) : Prop :=
  ∀ (H : Heap) (locs : List Loc) (ls : Array Slot), GE C.2.2.1 G → Wd C.2.2.2.1 G V R H → va_S (AX C.2.2.1) C.1.2.2.2.2.1.heap H locs → lv_has ls C.2.2.2.2 lv → Wat C H locs kc ks (F0 C.1.2.2.2.2.2.1 pc ls st)
/-- what holds in the method: code, own class, the words, the classes -/
def CxOK (C : Cx) (cc : ByteArray) (ow : String) (ret : Option FieldType) : Prop :=
  C.1.1.tables.exec = Jvm.exec ∧ C.1.2.2.2.2.2.2.2.2.2.code = cc ∧ C.1.2.2.2.2.2.2.2.2.2.maxLocals = C.2.2.2.2 ∧ C.1.2.2.2.2.1.vm.findClass ow = some C.1.2.2.2.2.2.1.cls ∧ (∀ w ∈ lw_gd, w.before C.1.2.2.2.2.2.2.1 C.1.2.2.2.2.1 = true) ∧ Kx C.2.2.2.1 C.1.2.2.2.2.1 ∧ C.1.2.2.2.2.2.2.2.2.1.sig.returnType = ret ∧ C.1.2.2.2.2.2.2.2.2.1.locks = false ∧ (∀ q, AX C.2.2.1 q → C.2.2.2.1.2.2.2.1 ≤ q)
/-- a method's contract -/
def Con (l : Launch) (y : MethodName) (cc : ByteArray) (nL : Nat) (ret : Option FieldType) (rm : Room) (D : Dx) (G : G2) (V : V2) (R : R2) (av : List Value) (T : Tg) : Prop :=
  Met l y (.code y cc nL ret :: lw_gd) rm (va_Pc av (fun U => Wd D G V R U.heap ∧ Kx D U)) (QT D (AX G) T) T.2.2.2.2.1 T.2.2.2.2.2 (AX G)
theorem AX.ge {D : Dx} {G : G2} {V : V2} {R : R2} {H : Heap} (h : Wd D G V R H) : ∀ q, AX G q → D.2.2.2.1 ≤ q := by
  intro q hq
  rcases hq with hq | hq
  · obtain ⟨k, hk⟩ := va_pl_get (X := []) (f := cellE D G V R) hq
    exact h.2.1.2 k _ hk
  · exact Nat.le_trans h.2.2.2 hq
set_option maxHeartbeats 4000000 in
theorem Con.mk {l : Launch} {y : MethodName} {cc : ByteArray} {nL : Nat} {ret : Option FieldType} {rm : Room} {D : Dx} {G : G2} {V : V2} {R : R2} {av : List Value} {T : Tg} (ow : String) (hy : plainName y.cls = true) (hyo : y.cls = ow) (hn : (lg_sl av).length ≤ nL)
    (body : ∀ C : Cx, C.1.2.1 = l → C.1.2.2.2.1 = rm → C.2.1 = T → C.2.2.1 = G → C.2.2.2.1 = D → C.2.2.2.2 = nL → CxOK C cc ow ret → C.1.2.2.2.2.2.2.2.2.1.name = y.name → Go C 0 (lv_args 0 av) [] V R G 0 0) : Con l y cc nL ret rm D G V R av T := by
  refine Met.ofW (cc := cc) (maxL := nL) (ret := ret) hy rfl ?_
  intro p e s m args below meth c s₁ B hml hv
  obtain ⟨rfl, hW, hK⟩ := hv
  have hts := atoms_spec (ws := .code y cc nL ret :: lw_gd) B.pre
  have hl := lv_entry av (n := nL) hn
  rw [lg_entry_eq]
  have hown : s.vm.findClass ow = some m.cls := by rw [← hyo]; exact findClass_of_methodNamed B.named
  have := body ((p, l, e, rm, s, m, av.toArray, below, meth, c), T, G, D, nL) rfl rfl rfl rfl rfl rfl ⟨B.exec, B.bytes, hml, hown, fun w hw => hts w (List.mem_cons_of_mem _ hw), hK, B.returns, B.notSynchronized, AX.ge hW⟩ (name_of_methodNamed B.named B.method).1 s.heap [] _ (GE.rf G) hW va_S.rf hl
  exact this
