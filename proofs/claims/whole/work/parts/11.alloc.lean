/-! What makes cells -/
def nwG (G : G2) (t m : Nat) : G2 := (G.1 ++ [G.2.2.2], va_up G.2.1 G.2.2.2 t, va_up G.2.2.1 G.2.2.2 m, G.2.2.2 + 1)
def finG (G : G2) (a t : Nat) : G2 := (G.1, va_up G.2.1 a t, G.2.2.1, G.2.2.2)
def zV (V : V2) (a : Nat) : V2 := va_up V a (fun _ => 0)
def zR (R : R2) (a : Nat) : R2 := va_up R a (fun _ => none)
theorem cellE_congrG {D : Dx} {G G' : G2} {V V' : V2} {R R' : R2} {a : Nat} (h1 : G'.2.1 a = G.2.1 a) (h2 : G'.2.2.1 a = G.2.2.1 a) (hV : V' a = V a) (hR : R' a = R a) : cellE D G' V' R' a = cellE D G V R a := by
  have e1 : ∀ ci, fvv ci V' a = fvv ci V a := fun ci => by funext k; simp [fvv, hV]
  have e2 : ∀ ci, fvr ci V' R' a = fvr ci V R a := fun ci => by funext k; simp [fvr, hV, hR]
  simp only [cellE, h1, h2, hV, hR, e1, e2]
theorem wd_lt {D : Dx} {G : G2} {V : V2} {R : R2} {H : Heap} (h : Wd D G V R H) {x : Nat} (hx : x ∈ G.1) : x < G.2.2.2 := by
  obtain ⟨k, hk⟩ := va_pl_get (X := []) (f := cellE D G V R) hx
  rw [← h.2.2.1]
  exact (h.1 k _ hk).lt
/-- a cell is made -/
theorem wd_push {D : Dx} {G : G2} {V V' : V2} {R R' : R2} {H H1 : Heap} {t m : Nat} (h : Wd D G V R H) (hV : ∀ b, b ≠ G.2.2.2 → V' b = V b) (hR : ∀ b, b ≠ G.2.2.2 → R' b = R b) (hat : va_at (D.1, D.2.1) vwCl (G.2.2.2, cellE D (nwG G t m) V' R' G.2.2.2) H1) (hz : H1.size = H.size + 1) (oq : ∀ q : Nat, q < H.size → H1[q]? = H[q]?) : Wd D (nwG G t m) V' R' H1 := by
  have hn : G.2.2.2 ∉ G.1 := fun z => Nat.lt_irrefl _ (wd_lt h z)
  have hlt := fun x hx => wd_lt h (x := x) hx
  have hsz := h.2.2.1
  obtain ⟨hP, hD, h3, h4⟩ := h
  have key : ∀ x, x ∈ G.1 → cellE D (nwG G t m) V' R' x = cellE D G V R x := fun x hx => by
    have hne : x ≠ G.2.2.2 := fun e => hn (e ▸ hx)
    exact cellE_congrG (va_up_ne _ _ hne) (va_up_ne _ _ hne) (hV x hne) (hR x hne)
  refine ⟨?_, ?_, ?_, ?_⟩
  · intro k q hk
    obtain ⟨x, hx, rfl⟩ := List.mem_map.mp (List.mem_of_getElem? hk)
    rcases List.mem_append.mp hx with hx | hx
    · rw [key x hx]
      obtain ⟨k2, hk2⟩ := va_pl_get (X := []) (f := cellE D G V R) hx
      exact (hP k2 _ hk2).kept (oq x (by rw [hsz]; exact hlt x hx))
    · rw [List.mem_singleton.mp hx]
      exact hat
  · have h5 : va_D (fun q => D.2.2.2.1 ≤ q) (va_pl G.1 (cellE D G V R) ++ [(G.2.2.2, cellE D G V R G.2.2.2)]) := hD.push hP hsz.symm h4
    rw [va_pl_push hn] at h5
    exact wd_Dc h5
  · rw [hz, h3]; rfl
  · exact Nat.le_succ_of_le h4
/-- an object is done: its parts lie where they must -/
theorem wd_fin {D : Dx} {G : G2} {V : V2} {R : R2} {H : Heap} {a ci : Nat} (h : Wd D G V R H) (ho : own G a (ci + 30)) (hcn : ci < 20) (hR : ∀ k, k < nfs ci → ¬ offT ci k = 0 → R a k = some (a + offT ci k)) : Wd D (finG G a (ci + 10)) V R H := by
  obtain ⟨hP, hD, h3, h4⟩ := h
  have e : wsW D (finG G a (ci + 10)) V R = wsW D G V R := by
    show va_pl G.1 _ = va_pl G.1 _
    refine va_pl_congr fun b => ?_
    by_cases hb : b = a
    · subst hb
      rw [cellE_raw ho.2, cellE_obj (ci := ci) (va_up_self _ _ _) hcn]
      congr 2
      apply List.map_congr_left
      intro k hk
      have hk2 := List.mem_range.mp hk
      by_cases ho : offT ci k = 0
      · simp [fvv, fvr, ho]
      · simp [fvv, fvr, ho, hR k hk2 ho, va_rf]
    · exact cellE_congrG (va_up_ne _ _ hb) rfl rfl rfl
  refine ⟨by rw [e]; exact hP, by rw [e]; exact hD, h3, h4⟩
/-- held, of a kind, of a length -/
def ownL (G : G2) (x t m : Nat) : Prop := own G x t ∧ G.2.2.1 x = m
theorem ol_new {G : G2} {t m a : Nat} (ha : G.2.2.2 = a) : ownL (nwG G t m) a t m := by
  subst ha
  exact ⟨⟨List.mem_append_right _ (List.mem_singleton.mpr rfl), va_up_self _ _ _⟩, va_up_self _ _ _⟩
theorem ol_old {G : G2} {t m x t' m' a : Nat} (ha : G.2.2.2 = a) (hx : x < a) (h : ownL G x t' m') : ownL (nwG G t m) x t' m' := by
  subst ha
  exact ⟨⟨List.mem_append_left _ h.1.1, by show va_up _ _ _ _ = _; rw [va_up_ne _ _ (Nat.ne_of_lt hx)]; exact h.1.2⟩, by show va_up _ _ _ _ = _; rw [va_up_ne _ _ (Nat.ne_of_lt hx)]; exact h.2⟩
theorem ol_fin {G : G2} {a t x t' m' : Nat} (hx : x ≠ a) (h : ownL G x t' m') : ownL (finG G a t) x t' m' := ⟨⟨h.1.1, by show va_up _ _ _ _ = _; rw [va_up_ne _ _ hx]; exact h.1.2⟩, h.2⟩
theorem ol_done {G : G2} {a t t' m' : Nat} (h : ownL G a t' m') : ownL (finG G a t) a t m' := ⟨⟨h.1.1, va_up_self _ _ _⟩, h.2⟩
theorem own_new (G : G2) (t m : Nat) : own (nwG G t m) G.2.2.2 t := ⟨List.mem_append_right _ (List.mem_singleton.mpr rfl), va_up_self _ _ _⟩
theorem own_old {G : G2} {t m x t' : Nat} (hx : x < G.2.2.2) (h : own G x t') : own (nwG G t m) x t' := ⟨List.mem_append_left _ h.1, by show va_up _ _ _ _ = _; rw [va_up_ne _ _ (Nat.ne_of_lt hx)]; exact h.2⟩
theorem own_fin {G : G2} {a t : Nat} {t' : Nat} (h : own G a t') : own (finG G a t) a t := ⟨h.1, va_up_self _ _ _⟩
theorem own_finO {G : G2} {a t x t' : Nat} (hx : x ≠ a) (h : own G x t') : own (finG G a t) x t' := ⟨h.1, by show va_up _ _ _ _ = _; rw [va_up_ne _ _ hx]; exact h.2⟩
/-- what is known of a class whose objects are made -/
def Fn (ci : Nat) (Cn : String) (T : u_T) (N : Nat) : Prop := (∀ w ∈ u_ws Cn T N, w ∈ lw_gd) ∧ vwCl[ci]? = some (Cn, T, N) ∧ nfs ci = N ∧ Cond.instantiable Cn N ∈ lw_gd ∧ Cond.initialized Cn ∈ lw_gd ∧ ∃ ty : Nat → FieldType, (∀ k, k < N → parseFieldDescriptor (T k).2.2.1 = some (ty k)) ∧ ∀ k, k < N → defaultValue (ty k) = if offT ci k = 0 then .int 0 else .null
section GA
variable {C : Cx} {cc : ByteArray} {ow : String} {ret : Option FieldType} {pc pc' : Nat} {lv : List (Nat × Value)} {st : List Value} {V : V2} {R : R2} {G : G2} {kc ks M c0 s0 : Nat} {P : Prop}
theorem ge_nw {G0 : G2} {t m : Nat} (h : GE G0 G) : GE G0 (nwG G t m) := ⟨Nat.le_succ_of_le h.1, fun x hx => by
  rcases List.mem_append.mp hx with q | q
  · exact h.2 x q
  · rw [List.mem_singleton.mp q]; exact Or.inr h.1⟩
theorem va_S.grow {A : Nat → Prop} {H0 H H1 : Heap} {locs : List Loc} (h : va_S A H0 H locs) (hz : H1.size = H.size + 1) (oq : ∀ q : Nat, q < H.size → H1[q]? = H[q]?) : va_S A H0 H1 locs := ⟨Nat.le_trans h.1 (by omega), fun q g1 g2 => (oq q (Nat.lt_of_lt_of_le g1 h.1)).trans (h.2.1 q g1 g2), h.2.2⟩
theorem g_new {Cn : String} {T : u_T} {N ci index : Nat} (h : CxOK C cc ow ret) (hR : C.1.2.2.2.1 = rmN M c0 s0) (hf : Fn ci Cn T N) (hk : kc + 1 ≤ c0) (hs : ks + N ≤ s0) (hd : Dc cc pc (.new index) 3 pc') (hw : Cond.classLink ow index Cn ∈ lw_gd) {a0 : Nat} (ha0 : G.2.2.2 = a0) (kk : P → Go C pc' lv (.ref a0 :: st) (zV V a0) (zR R a0) (nwG G (ci + 30) 0) (kc + 1) (ks + N)) : P → Go C pc lv st V R G kc ks := by
  subst ha0
  obtain ⟨hin, hc, hN, hiq, hini, ty, hty, hdv⟩ := hf
  obtain ⟨hd, rfl⟩ := hd
  intro hP H locs ls h1 h2 h3 h4
  have hKn := h.2.2.2.2.2.1.1.1 ci _ hc
  refine W.newcK h.1 h.2.1 h.2.2.2.1 (h.2.2.2.2.1 _ hw) (h.2.2.2.2.1 _ hiq) (h.2.2.2.2.1 _ hini) rfl hd (by rw [hR]; exact hk) (by rw [hR]; exact hs) hKn.2.1 h2.2.2.1 fun H1 kC hkC e1 z1 o1 => ?_
  have z2 : H1.size = H.size + 1 := by rw [z1, h2.2.2.1]
  have o2 : ∀ q : Nat, q < H.size → H1[q]? = H[q]? := fun q hq => o1 q (by rw [← h2.2.2.1]; exact hq)
  refine kk hP H1 locs ls (ge_nw h1) (wd_push h2 (fun b hb => va_up_ne _ _ hb) (fun b hb => va_up_ne _ _ hb) ?_ z2 o2) (h3.grow z2 o2) h4
  rw [cellE_raw (ci := ci) (va_up_self _ _ _)]
  refine ⟨_, hc, (u_born ty h.2.2.2.2.1 hin hKn hkC e1 hty).to fun j hj => ?_⟩
  rw [hdv j hj, vp_V, List.getD_eq_getElem?_getD, List.getElem?_map, List.getElem?_range (by rw [hN]; exact hj)]
  simp only [Option.map_some, Option.getD_some, fvr, zV, zR, va_up_self, va_rf]
theorem g_newI {m : Int32} {m0 : Nat} (h : CxOK C cc ow ret) (hR : C.1.2.2.2.1 = rmN M c0 s0) (hm : ¬ m < 0) (hm0 : m.toNatClampNeg = m0) (hb : m0 * 4 ≤ 536870912) (hk : kc + 1 ≤ c0) (hs : ks + m0 ≤ s0) (hd : Dc cc pc (.newarray .int) 2 pc') (hw : Cond.arrayClass .int ∈ lw_gd) {a0 : Nat} (ha0 : G.2.2.2 = a0) (kk : P → Go C pc' lv (.ref a0 :: st) (zV V a0) R (nwG G 1 m0) (kc + 1) (ks + m0)) : P → Go C pc lv (.int m :: st) V R G kc ks := by
  subst ha0
  obtain ⟨hd, rfl⟩ := hd
  intro hP H locs ls h1 h2 h3 h4
  refine va_newaK (atype := .int) h.1 h.2.1 (h.2.2.2.2.1 _ hw) rfl hd rfl hm hm0 hb (by rw [hR]; exact hk) (by rw [hR]; exact hs) h2.2.2.1 fun H1 cA e1 z1 o1 hAr hNm => ?_
  have hcA : cA = C.2.2.2.1.2.2.1 1 := Option.some.inj (hNm.symm.trans (h.2.2.2.2.2.1.1.2 0 _ rfl).2)
  subst hcA
  have z2 : H1.size = H.size + 1 := by rw [z1, h2.2.2.1]
  have o2 : ∀ q : Nat, q < H.size → H1[q]? = H[q]? := fun q hq => o1 q (by rw [← h2.2.2.1]; exact hq)
  refine kk hP H1 locs ls (ge_nw h1) (wd_push h2 (fun b hb => va_up_ne _ _ hb) (fun _ _ => rfl) ?_ z2 o2) (h3.grow z2 o2) h4
  rw [cellE_int (va_up_self _ _ _)]
  show H1[G.2.2.2]? = some (vp_cell _ _)
  rw [e1]
  rw [vp_cell_i, show (nwG G 1 m0).2.2.1 G.2.2.2 = m0 from va_up_self _ _ _, show zV V G.2.2.2 G.2.2.2 = fun _ => 0 from va_up_self _ _ _]
  rfl
theorem g_newR {m : Int32} {m0 t index : Nat} {Cn : String} (h : CxOK C cc ow ret) (hR : C.1.2.2.2.1 = rmN M c0 s0) (ht : 1 < t ∧ t < 10) (hty : (tysW C.2.2.2.1)[t - 1]? = some (C.2.2.2.1.2.2.1 t, .object Cn)) (hm : ¬ m < 0) (hm0 : m.toNatClampNeg = m0) (hb : m0 * 4 ≤ 536870912) (hk : kc + 1 ≤ c0) (hs : ks + m0 ≤ s0) (hd : Dc cc pc (.anewarray index) 3 pc') (hw : Cond.classLink ow index Cn ∈ lw_gd) (ho : Cond.arrayOver (.object Cn) ∈ lw_tbl) {a0 : Nat} (ha0 : G.2.2.2 = a0) (kk : P → Go C pc' lv (.ref a0 :: st) V (zR R a0) (nwG G t m0) (kc + 1) (ks + m0)) : P → Go C pc lv (.int m :: st) V R G kc ks := by
  subst ha0
  obtain ⟨hd, rfl⟩ := hd
  subst hm0
  intro hP H locs ls h1 h2 h3 h4
  refine W.anew h.1 h.2.1 h.2.2.2.1 (h.2.2.2.2.1 _ hw) (va_AO.use (h.2.2.2.2.2.1.2.2.2.2 _ ho)) rfl hd rfl hm hb (by rw [hR]; exact hk) (by rw [hR]; exact hs) fun cA kA comp f1 f2 f3 f4 => ?_
  obtain ⟨kA', comp', g1, g2, g3, g4⟩ := (h.2.2.2.2.2.1.1.2 (t - 1) _ hty).2
  have hcA : cA = C.2.2.2.1.2.2.1 t := Option.some.inj (f1.symm.trans g4)
  subst hcA
  generalize hH1 : H.push ({ cls := C.2.2.2.1.2.2.1 t, slots := Array.replicate m.toNatClampNeg .null, vm := .none } : Cell) = H1
  have z2 : H1.size = H.size + 1 := by rw [← hH1, Array.size_push]
  have e1 : H1[H.size]? = some (arrV (C.2.2.2.1.2.2.1 t) m.toNatClampNeg (fun _ => .null)) := by rw [← hH1, Array.getElem?_push_size, ← arrV_new]
  have o2 : ∀ q : Nat, q < H.size → H1[q]? = H[q]? := fun q hq => by rw [← hH1, Array.getElem?_push, if_neg (Nat.ne_of_lt hq)]
  rw [h2.2.2.1] at e1 ⊢
  refine kk hP H1 locs ls (ge_nw h1) (wd_push h2 (fun _ _ => rfl) (fun b hb => va_up_ne _ _ hb) ?_ z2 o2) (h3.grow z2 o2) h4
  rw [cellE_ref (t := t) (va_up_self _ _ _) ht.1 ht.2]
  show H1[G.2.2.2]? = some (vp_cell _ _)
  rw [e1]
  rw [vp_cell_q, show (nwG G t m.toNatClampNeg).2.2.1 G.2.2.2 = m.toNatClampNeg from va_up_self _ _ _, show zR R G.2.2.2 G.2.2.2 = fun _ => none from va_up_self _ _ _]
  rfl
theorem g_objI {a index : Nat} (h : CxOK C cc ow ret) (hR : C.1.2.2.2.1 = rmN M c0 s0) (hM : 1 ≤ M) (hd : Dc cc pc (.invokespecial index) 3 pc') (hl : Cond.methodLink ow index objectInit ∈ lw_gd) (hw : (st.map fun v => v.category).sum ≤ 8) (kk : P → Go C pc' lv st V R G kc ks) : P → Go C pc lv (.ref a :: st) V R G kc ks := by
  obtain ⟨hd, rfl⟩ := hd
  intro hP H locs ls h1 h2 h3 h4
  have hco : Cond.code objectInit ⟨#[0xb1]⟩ 1 none ∈ lw_gd := lw_gd_in (tb1 (List.mem_of_getElem? (i := 26) rfl)) rfl
  exact W.objInit h.1 h.2.1 h.2.2.2.1 (h.2.2.2.2.1 _ hl) (h.2.2.2.2.1 _ mi_objectInit) (h.2.2.2.2.1 _ hco) rfl (by rw [h.2.2.1]; exact h4.1) rfl hd (by rw [hR]; exact hM) (by rw [hR]; show 2 * 0 + _ + 12 ≤ 64 * M; omega) (kk hP H locs ls h1 h2 h3 h4)
theorem wd_raw {D : Dx} {V' : V2} {R' : R2} {H H1 : Heap} {a ci k q0 : Nat} {Cn : String} {T : u_T} {N : Nat} {v : Value} {cell : Cell} (h2 : Wd D G V R H) (ho : own G a (ci + 30)) (hN : nfs ci = N) (hq0 : (wsW D G V R)[q0]? = some (a, cellE D G V R a)) (hc : vwCl[ci]? = some (Cn, T, N)) (hk : k < N) (hap : ∀ x y, x < N → y < N → x ≠ y → D.2.1 ci x ≠ D.2.1 ci y)
    (q2 : cell.cls = D.1 ci) (q3 : cell.vm = .none) (q4 : ∀ j, j < N → cell.slots[D.2.1 ci j]? = some (vp_V ((List.range (nfs ci)).map (fvr ci V R a)) j)) (e1 : H1[a]? = some (cell.setSlot (D.2.1 ci k) v)) (e2 : H1.size = H.size) (e3 : ∀ q : Nat, q ≠ a → H1[q]? = H[q]?) (hV : ∀ b, b ≠ a → V' b = V b) (hR : ∀ b, b ≠ a → R' b = R b) (hnew : ∀ j, j < N → fvr ci V' R' a j = if j = k then v else fvr ci V R a j) : Wd D G V' R' H1 := by
  refine wd_set h2 ho hq0 hV hR ?_ e2 e3
  rw [cellE_raw ho.2]
  refine ⟨_, hc, t_OB.to (V := updV (vp_V ((List.range (nfs ci)).map (fvr ci V R a))) k v) ⟨_, e1, q2, q3, t_set q4 hap hk v⟩ (fun j hj => ?_)⟩
  have e5 : ∀ (W : V2) (S : R2), vp_V ((List.range (nfs ci)).map (fvr ci W S a)) j = fvr ci W S a j := fun W S => by
    rw [vp_V, List.getD_eq_getElem?_getD, List.getElem?_map, List.getElem?_range (by rw [hN]; exact hj)]; rfl
  rw [e5, hnew j hj]
  simp only [updV, e5]
/-- a field of an object that is being made -/
theorem g_praw {Cn nm ds : String} {T : u_T} {N a index ci k : Nat} {ty : FieldType} {v : Value} {V' : V2} {R' : R2} (h : CxOK C cc ow ret) (hin2 : C.1.2.2.2.2.2.2.2.2.1.name = "<init>") (hin : ∀ w ∈ u_ws Cn T N, w ∈ lw_gd) (ty0 : Nat → FieldType) (hty : ∀ k, k < N → parseFieldDescriptor (T k).2.2.1 = some (ty0 k)) (hnm : ∀ a, a < N → ∀ b, b < N → a ≠ b → (T a).2.1 ≠ (T b).2.1) (hc : vwCl[ci]? = some (Cn, T, N)) (hk : k < N) (hN : nfs ci = N) (hT : T k = (Cn, nm, ds, (T k).2.2.2)) (hds : parseFieldDescriptor ds = some ty) (hcn : Cn = ow) (hn : narrow ty v = v) (hfit : fits ty v = true)
    (ho : own G a (ci + 30)) (hd : Dc cc pc (.putfield index) 3 pc') (hw : Cond.fieldLink ow index Cn nm ds ∈ lw_gd) (hV : ∀ b, b ≠ a → V' b = V b) (hRn : ∀ b, b ≠ a → R' b = R b) (hnew : ∀ j, j < N → fvr ci V' R' a j = if j = k then v else fvr ci V R a j) (kk : P → Go C pc' lv st V' R' G kc ks) : P → Go C pc lv (v :: .ref a :: st) V R G kc ks := by
  obtain ⟨hd, rfl⟩ := hd
  intro hP H locs ls h1 h2 h3 h4
  obtain ⟨q0, hq0⟩ := wd_get (D := C.2.2.2.1) (V := V) (R := R) ho
  have hq1 := hq0
  rw [cellE_raw ho.2] at hq1
  have hap := va_apart (own := ow) h.2.2.2.2.1 hin ty0 hty hnm h.2.2.2.2.2.1.1 hc
  obtain ⟨r, g1, cell, q1, q2, q3, q4⟩ := h2.1 q0 _ hq1
  have hr : r = (Cn, T, N) := Option.some.inj (g1.symm.trans hc)
  subst hr
  obtain ⟨hS, hfc, kC, hkC, hkind⟩ := h.2.2.2.2.2.1.1.1 ci _ hc
  obtain ⟨cf, kf, fi, f, hi, hsl⟩ := hS k hk
  have hlay := h.2.2.2.2.1 _ (hin _ (u_in_lay hk))
  unfold u_lay at hlay
  have hst := (u_facts hfc hkC (u_lays h.2.2.2.2.1 hin hk) hi).1
  have hlnk : (Cond.fieldLink ow index (T k).1 (T k).2.1 (T k).2.2.1).before C.1.2.2.2.2.2.2.1 C.1.2.2.2.2.1 = true := by rw [hT]; exact h.2.2.2.2.1 _ hw
  have hA : AX C.2.2.1 a := h1.ax a (Or.inl ho.1)
  by_cases hfin : (T k).2.2.2 = true
  · rw [if_pos hfin] at hlay
    have hcf : C.1.2.2.2.2.2.1.cls = cf := by
      obtain ⟨_, _, c', _, _, _, -, -, hf', -, -, -, hown2, -⟩ := Cond.laysFinal_spec hlay
      have e1 : c' = cf := by have := hi.symm.trans hf'; simp at this; exact this.1.symm
      rw [hT] at hown2
      simp only at hown2
      rw [hcn] at hown2
      rw [← e1]; exact Option.some.inj (h.2.2.2.1.symm.trans hown2)
    have h6 := u_fits (v := v) hfc hkC hkind (Or.inr hlay) hi (by rw [hT]; exact hds) hn hfit
    refine W.putFinK h.1 h.2.1 h.2.2.2.1 hlnk hi hst hcf hin2 (by rw [q2]; exact h6) q1 q3 (by rw [hsl]; exact k2_hasslot (q4 k hk)) rfl rfl hd fun H' e1 e2 e3 => ?_
    rw [hsl] at e1 ⊢
    exact kk hP H' _ ls h1 (wd_raw h2 ho hN hq0 hc hk hap q2 q3 q4 e1 e2 e3 hV hRn hnew) (h3.put e2 e3 hA) h4
  · rw [if_neg hfin] at hlay
    have h6 := u_store (v := v) hfc hkC hkind hlay hi (by rw [hT]; exact hds) hn hfit
    refine W.putK h.1 h.2.1 (f := f) ⟨h.2.2.2.1, hlnk, ⟨_, _, _, hi⟩, hst⟩ (by rw [q2]; exact h6) q1 q3 (by rw [hsl]; exact k2_hasslot (q4 k hk)) rfl rfl hd fun H' e1 e2 e3 => ?_
    rw [hsl] at e1 ⊢
    exact kk hP H' _ ls h1 (wd_raw h2 ho hN hq0 hc hk hap q2 q3 q4 e1 e2 e3 hV hRn hnew) (h3.put e2 e3 hA) h4
/-- what is known of a field that is set as its object is made -/
def Fw (ci k : Nat) (Cn : String) (T : u_T) (N : Nat) (nm ds : String) (ty : FieldType) : Prop := (∀ w ∈ u_ws Cn T N, w ∈ lw_gd) ∧ (∃ ty0 : Nat → FieldType, ∀ k, k < N → parseFieldDescriptor (T k).2.2.1 = some (ty0 k)) ∧ (∀ a, a < N → ∀ b, b < N → a ≠ b → (T a).2.1 ≠ (T b).2.1) ∧ vwCl[ci]? = some (Cn, T, N) ∧ k < N ∧ nfs ci = N ∧ T k = (Cn, nm, ds, (T k).2.2.2) ∧ parseFieldDescriptor ds = some ty
theorem g_prI {Cn nm ds : String} {T : u_T} {N a index ci k : Nat} {ty : FieldType} {x : Int32} (h : CxOK C cc ow ret) (hin2 : C.1.2.2.2.2.2.2.2.2.1.name = "<init>") (hf : Fw ci k Cn T N nm ds ty) (hof : offT ci k = 0) (hcn : Cn = ow) (hn : narrow ty (.int x) = .int x) (hfit : fits ty (.int x) = true) (ho : own G a (ci + 30)) (hd : Dc cc pc (.putfield index) 3 pc') (hw : Cond.fieldLink ow index Cn nm ds ∈ lw_gd) (kk : P → Go C pc' lv st (up2 V a k x) R G kc ks) : P → Go C pc lv (.int x :: .ref a :: st) V R G kc ks := by
  obtain ⟨hin, ⟨ty0, hty⟩, hnm, hc, hk, hN, hT, hds⟩ := hf
  refine g_praw h hin2 hin ty0 hty hnm hc hk hN hT hds hcn hn hfit ho hd hw up2_ne (fun _ _ => rfl) (fun j hj => ?_) kk
  by_cases hjk : j = k
  · subst hjk; simp [fvr, hof, up2_self, va_up]
  · simp [fvr, hjk, up2_self, va_up]
theorem g_prR {Cn nm ds : String} {T : u_T} {N a b index ci k : Nat} {ty : FieldType} (h : CxOK C cc ow ret) (hin2 : C.1.2.2.2.2.2.2.2.2.1.name = "<init>") (hf : Fw ci k Cn T N nm ds ty) (hof : ¬ offT ci k = 0) (hcn : Cn = ow) (hn : narrow ty (.ref b) = .ref b) (hfit : fits ty (.ref b) = true) (ho : own G a (ci + 30)) (hd : Dc cc pc (.putfield index) 3 pc') (hw : Cond.fieldLink ow index Cn nm ds ∈ lw_gd) (kk : P → Go C pc' lv st V (up2 R a k (some b)) G kc ks) : P → Go C pc lv (.ref b :: .ref a :: st) V R G kc ks := by
  obtain ⟨hin, ⟨ty0, hty⟩, hnm, hc, hk, hN, hT, hds⟩ := hf
  refine g_praw h hin2 hin ty0 hty hnm hc hk hN hT hds hcn hn hfit ho hd hw (fun _ _ => rfl) up2_ne (fun j hj => ?_) kk
  by_cases hjk : j = k
  · subst hjk; simp [fvr, hof, up2_self, va_up, va_rf]
  · simp [fvr, hjk, up2_self, va_up]
theorem g_getW {Cn nm ds : String} {T : u_T} {N a b index ci k f : Nat} (h : CxOK C cc ow ret) (hf : Fi ci k Cn T N nm ds (f + 1)) (ho : own G a (ci + 30)) (hb : R a k = some b) (hd : Dc cc pc (.getfield index) 3 pc') (hw : Cond.fieldLink ow index Cn nm ds ∈ lw_gd) (kk : P → Go C pc' lv (.ref b :: st) V R G kc ks) : P → Go C pc lv (.ref a :: st) V R G kc ks := by
  obtain ⟨hin, hc, hcn, hk, hN, hof, hT⟩ := hf
  obtain ⟨hd, rfl⟩ := hd
  intro hP H locs ls h1 h2 h3 h4
  obtain ⟨q0, hq0⟩ := wd_get (D := C.2.2.2.1) (V := V) (R := R) ho
  rw [cellE_raw ho.2] at hq0
  refine va_get (ref := Cn) (C := Cn) (T := T) (N := N) (v := .ref b) h.1 h.2.1 h.2.2.2.2.1 hin h.2.2.2.1 h.2.2.2.2.2.1.1 h2.1 q0 hq0 hc k hk (by rw [hT]; exact h.2.2.2.2.1 _ hw) (fun x hx => by rw [hT] at hx ⊢; exact hx) ?_ hd (kk hP H locs ls h1 h2 h3 h4)
  rw [List.getElem?_map, List.getElem?_range (by rw [hN]; exact hk)]
  simp [fvr, hof, hb, va_rf]
theorem g_fin {a ci : Nat} (ho : own G a (ci + 30)) (hcn : ci < 20) (hR : ∀ k, k < nfs ci → ¬ offT ci k = 0 → R a k = some (a + offT ci k)) (kk : P → Go C pc lv st V R (finG G a (ci + 10)) kc ks) : P → Go C pc lv st V R G kc ks :=
  fun hP H locs ls h1 h2 h3 h4 => kk hP H locs ls ⟨h1.1, h1.2⟩ (wd_fin h2 ho hcn hR) h3 h4
theorem g_vretA {mc ms : Nat} (h : CxOK C cc ow none) (hT : C.2.1 = (none, V, R, G, mc, ms)) (hkc : kc ≤ mc) (hks : ks ≤ ms) (hd : Dc cc pc (.return_) 1 pc') : P → Go C pc lv [] V R G kc ks := fun _ => g_vret h (by rw [hT]) (by rw [hT]; exact hkc) (by rw [hT]; exact hks) hd
theorem g_iretA {x : Int32} {mc ms : Nat} (h : CxOK C cc ow (some .int)) (hT : C.2.1 = (some (.int x), V, R, G, mc, ms)) (hkc : kc ≤ mc) (hks : ks ≤ ms) (hd : Dc cc pc (.ireturn) 1 pc') : P → Go C pc lv [.int x] V R G kc ks := fun _ => g_iret h (by rw [hT]) (by rw [hT]; exact hkc) (by rw [hT]; exact hks) hd
theorem g_wid {kc' ks' : Nat} (h1 : kc ≤ kc') (h2 : ks ≤ ks') (kk : P → Go C pc lv st V R G kc' ks') : P → Go C pc lv st V R G kc ks := fun hP H locs ls g1 g2 g3 g4 => W.widen h1 h2 (kk hP H locs ls g1 g2 g3 g4)
variable {y : MethodName} {bytes : ByteArray} {nL n N n' index mc ms b : Nat} {av : List Value} {T : Tg} {st0 : List Value}
theorem g_runI (h : CxOK C cc ow ret) (hR : C.1.2.2.2.1 = rmN N c0 s0) (hcs : kc + mc ≤ c0 ∧ ks + ms ≤ s0) (mw : Mw y bytes nL none n) (hy : y.name = "<init>") (hs : Cond.instanceMethod y ∈ lw_gd) (hl : Cond.methodLink ow index y ∈ lw_gd) (hM : Con C.1.2.1 y bytes nL none (rmN n' mc ms) C.2.2.2.1 G V R (.ref b :: av) T) (hn : n' + 1 ≤ N) (ha : av.length = n) (hst : st0 = av.reverse ++ .ref b :: st) (hw : (st.map fun v => v.category).sum ≤ 8) (hmc : T.2.2.2.2 = (mc, ms)) (hT1 : T.1 = none) (hge : GE G T.2.2.2.1) (hd : Dc cc pc (.invokespecial index) 3 pc')
    (kk : P → Go C pc' lv st T.2.1 T.2.2.1 T.2.2.2.1 (kc + mc) (ks + ms)) : P → Go C pc lv st0 V R G kc ks := by
  obtain ⟨hd, rfl⟩ := hd
  intro hP H locs ls h1 h2 h3 h4
  have e1 : T.2.2.2.2.1 = mc := by rw [hmc]
  have e2 : T.2.2.2.2.2 = ms := by rw [hmc]
  unfold Con at hM
  rw [e1, e2] at hM
  exact g_after h1 h3 h4 (va_runI (rest := st) ⟨h.1, h.2.1, h.2.2.1, h.2.2.2.1, h.2.2.2.2.1⟩ hM ⟨g_cb h mw hR hn (h.2.2.2.2.1 _ hl), hy, h.2.2.2.2.1 _ hs⟩ ⟨g_blind, g_pre h h2 h3 (.ref b :: av)⟩ rfl ha h4.1 hst (lv_room hw) hd (by rw [hR]; exact hcs)) hge (by rw [hT1]; exact kk hP)
theorem g_runIN {host : String} (h : CxOK C cc ow ret) (hR : C.1.2.2.2.1 = rmN N c0 s0) (hcs : kc + mc ≤ c0 ∧ ks + ms ≤ s0) (mw : Mw y bytes nL none n) (hy : y.name = "<init>") (hs : Cond.instanceMethod y ∈ lw_gd) (hl : Cond.methodLinkNest ow index y host ∈ lw_tbl) (hM : Con C.1.2.1 y bytes nL none (rmN n' mc ms) C.2.2.2.1 G V R (.ref b :: av) T) (hn : n' + 1 ≤ N) (ha : av.length = n) (hst : st0 = av.reverse ++ .ref b :: st) (hw : (st.map fun v => v.category).sum ≤ 8) (hmc : T.2.2.2.2 = (mc, ms)) (hT1 : T.1 = none) (hge : GE G T.2.2.2.1) (hd : Dc cc pc (.invokespecial index) 3 pc')
    (kk : P → Go C pc' lv st T.2.1 T.2.2.1 T.2.2.2.1 (kc + mc) (ks + ms)) : P → Go C pc lv st0 V R G kc ks := by
  obtain ⟨hd, rfl⟩ := hd
  intro hP H locs ls h1 h2 h3 h4
  have e1 : T.2.2.2.2.1 = mc := by rw [hmc]
  have e2 : T.2.2.2.2.2 = ms := by rw [hmc]
  unfold Con at hM
  rw [e1, e2] at hM
  exact g_after h1 h3 h4 (va_runIN (rest := st) ⟨h.1, h.2.1, h.2.2.1, h.2.2.2.1, h.2.2.2.2.1⟩ hM ⟨g_cn h mw hR hn hl, hy, h.2.2.2.2.1 _ hs⟩ ⟨g_blind, g_pre h h2 h3 (.ref b :: av)⟩ rfl ha h4.1 hst (lv_room hw) hd (by rw [hR]; exact hcs)) hge (by rw [hT1]; exact kk hP)
end GA
