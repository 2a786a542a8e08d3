/-! One row an instruction, over the picture: 'P → Go next' gives 'P → Go here' -/
def letv {α β : Type} (a : α) (f : α → β) : β := f a
def inb (i : Int32) (n : Nat) : Bool := decide (¬ (i < 0 ∨ n ≤ i.toNatClampNeg))
theorem inb_iff {i : Int32} {n : Nat} : inb i n = true ↔ vp_in i n := by simp only [inb, vp_in, decide_eq_true_eq]
/-- reading, writing an int in a row of n -/
def ldI (n : Nat) (f : Nat → Int32) (i : Int32) : Option Int32 := if inb i n then some (f i.toNatClampNeg) else none
def stI (n : Nat) (V : V2) (x : Nat) (i v : Int32) : Option V2 := if inb i n then some (up2 V x i.toNatClampNeg v) else none
def ldR (n : Nat) (f : Nat → Option Nat) (i : Int32) : Option (Option Nat) := if inb i n then some (f i.toNatClampNeg) else none
def stR (n : Nat) (R : R2) (x : Nat) (i : Int32) (v : Option Nat) : Option R2 := if inb i n then some (up2 R x i.toNatClampNeg v) else none
def jrem (x y : Int32) : Int32 := x - x / y * y
def jreml (x y : Int64) : Int64 := x - x / y * y
def jushr (x y : Int32) : Int32 := (x.toUInt32 >>> (y.toUInt32 &&& Int32.toUInt32 31)).toInt32
def jlushr (x : Int64) (y : Int32) : Int64 := (x.toUInt64 >>> (y.toInt64.toUInt64 &&& Int64.toUInt64 63)).toInt64
def dvI (x y : Int32) : Option Int32 := if y = 0 then none else some (x / y)
def rmI (x y : Int32) : Option Int32 := if y = 0 then none else some (jrem x y)
def jmin (x y : Int32) : Int32 := if y < x then y else x
def jmax (x y : Int32) : Int32 := if x < y then y else x
def ocase {β : Type} (o : Option Nat) (a : β) (f : Nat → β) : β := match o with
  | none => a
  | some y => f y
/-- a 0 or 1, as a field of booleans wants it -/
def isb (v : Int32) : Bool := v == 0 || v == 1
theorem isb_or {v : Int32} (h : isb v = true) : v = 0 ∨ v = 1 := by simpa [isb] using h
theorem cellE_int {D : Dx} {G : G2} {V : V2} {R : R2} {a : Nat} (h : G.2.1 a = 1) : cellE D G V R a = .inl (D.2.2.1 1, G.2.2.1 a, .inl (V a)) := by simp [cellE, h]
theorem cellE_ref {D : Dx} {G : G2} {V : V2} {R : R2} {a t : Nat} (h : G.2.1 a = t) (h1 : 1 < t) (h2 : t < 10) : cellE D G V R a = .inl (D.2.2.1 t, G.2.2.1 a, .inr (.inr (.inr (.inr (R a))))) := by
  have : ¬ t = 1 := by omega
  simp [cellE, h, h2, this]
theorem cellE_obj {D : Dx} {G : G2} {V : V2} {R : R2} {a ci : Nat} (h : G.2.1 a = ci + 10) (h2 : ci < 20) : cellE D G V R a = .inr (ci, (List.range (nfs ci)).map (fvv ci V a)) := by
  have h3 : ¬ ci + 10 = 1 := by omega
  have h4 : ¬ ci + 10 < 10 := by omega
  have h5 : ci + 10 < 30 := by omega
  simp only [cellE, h, if_neg h3, if_neg h4, if_pos h5, Nat.add_sub_cancel]
theorem cellE_raw {D : Dx} {G : G2} {V : V2} {R : R2} {a ci : Nat} (h : G.2.1 a = ci + 30) : cellE D G V R a = .inr (ci, (List.range (nfs ci)).map (fvr ci V R a)) := by
  have h3 : ¬ ci + 30 = 1 := by omega
  have h4 : ¬ ci + 30 < 10 := by omega
  have h5 : ¬ ci + 30 < 30 := by omega
  simp only [cellE, h, if_neg h3, if_neg h4, if_neg h5, Nat.add_sub_cancel]
theorem cellE_congr {D : Dx} {G : G2} {V V' : V2} {R R' : R2} {a : Nat} (hV : V' a = V a) (hR : R' a = R a) : cellE D G V' R' a = cellE D G V R a := by
  have e1 : ∀ ci, fvv ci V' a = fvv ci V a := fun ci => by funext k; simp [fvv, hV]
  have e2 : ∀ ci, fvr ci V' R' a = fvr ci V R a := fun ci => by funext k; simp [fvr, hV, hR]
  simp only [cellE, hV, hR, e1, e2]
theorem wd_get {D : Dx} {G : G2} {V : V2} {R : R2} {a t : Nat} (ho : own G a t) : ∃ k : Nat, (wsW D G V R)[k]? = some (a, cellE D G V R a) := va_pl_get (X := []) ho.1
theorem wd_Dc {A : Nat → Prop} {L : List Nat} {f g : Nat → va_E} (h : va_D A (va_pl L f)) : va_D A (va_pl L g) := by
  have key : ∀ (k : Nat) (q : Nat × va_E), (va_pl L g)[k]? = some q → (va_pl L f)[k]? = some (q.1, f q.1) := by
    intro k q hk
    simp only [va_pl, List.getElem?_map] at hk ⊢
    cases hb : L[k]? with
    | none => rw [hb] at hk; cases hk
    | some b => rw [hb] at hk; cases hk; rfl
  exact ⟨fun i j p q hi hj e => h.1 i j _ _ (key i p hi) (key j q hj) e, fun k q hk => h.2 k (q.1, f q.1) (key k q hk)⟩
/-- a cell is written: the picture behind it -/
theorem wd_set {D : Dx} {G : G2} {V V' : V2} {R R' : R2} {H H1 : Heap} {a t k : Nat} (h : Wd D G V R H) (ho : own G a t) (hk : (wsW D G V R)[k]? = some (a, cellE D G V R a)) (hV : ∀ b, b ≠ a → V' b = V b) (hR : ∀ b, b ≠ a → R' b = R b)
    (hat : va_at (D.1, D.2.1) vwCl (a, cellE D G V' R' a) H1) (hz : H1.size = H.size) (oq : ∀ q : Nat, q ≠ a → H1[q]? = H[q]?) : Wd D G V' R' H1 := by
  obtain ⟨hP, hD, h3, h4⟩ := h
  have e : (wsW D G V R).set k (a, cellE D G V' R' a) = wsW D G V' R' := by
    have := va_pl_set (X := []) (e := cellE D G V' R' a) hD ho.1 hk
    refine this.trans (va_pl_congr fun b => ?_)
    by_cases hb : b = a
    · subst hb; simp [va_up]
    · rw [va_up_ne _ _ hb, cellE_congr (hV b hb) (hR b hb)]
  refine ⟨?_, wd_Dc hD, by rw [hz, h3], h4⟩
  rw [← e]
  exact hP.set hD hk hat oq
theorem up2_ne {α : Type} {V : Nat → Nat → α} {x k : Nat} {v : α} : ∀ b, b ≠ x → up2 V x k v b = V b := fun b hb => va_up_ne _ _ hb
theorem up2_self {α : Type} {V : Nat → Nat → α} {x k : Nat} {v : α} : up2 V x k v x = va_up (V x) k v := va_up_self _ _ _
theorem va_S.wk {A B : Nat → Prop} {H0 H : Heap} {locs : List Loc} (h : va_S A H0 H locs) (hAB : ∀ q, A q → B q) : va_S B H0 H locs := ⟨h.1, fun q h1 h2 => h.2.1 q h1 (fun z => h2 (hAB q z)), fun q hq => hAB _ (h.2.2 q hq)⟩
/-- what is known of a field: its class, its place, how far behind the object its part lies (0: a number) -/
def Fi (ci k : Nat) (Cn : String) (T : u_T) (N : Nat) (nm ds : String) (f : Nat) : Prop := (∀ w ∈ u_ws Cn T N, w ∈ lw_gd) ∧ vwCl[ci]? = some (Cn, T, N) ∧ ci < 20 ∧ k < N ∧ nfs ci = N ∧ offT ci k = f ∧ T k = (Cn, nm, ds, (T k).2.2.2)
/-- and of one that may be written -/
def Fp (ci k : Nat) (Cn : String) (T : u_T) (N : Nat) (nm ds : String) (ty : FieldType) : Prop := Fi ci k Cn T N nm ds 0 ∧ (∃ ty0 : Nat → FieldType, ∀ k, k < N → parseFieldDescriptor (T k).2.2.1 = some (ty0 k)) ∧ (∀ a, a < N → ∀ b, b < N → a ≠ b → (T a).2.1 ≠ (T b).2.1) ∧ T k = (Cn, nm, ds, false) ∧ parseFieldDescriptor ds = some ty
section GR
variable {C : Cx} {cc : ByteArray} {ow : String} {ret : Option FieldType} {pc pc' tgt n0 : Nat} {lv : List (Nat × Value)} {st : List Value} {V : V2} {R : R2} {G : G2} {kc ks : Nat} {P : Prop}
theorem g_iconst (h : CxOK C cc ow ret) {n : Int} {v : Int32}  (hd : Dc cc pc (.iconst n) 1 pc') (hv : Int32.ofInt n = v) (kk : P → Go C pc' lv (.int v :: st) V R G kc ks) : P → Go C pc lv st V R G kc ks := by
  obtain ⟨hd, rfl⟩ := hd
  exact fun hP H locs ls h1 h2 h3 h4 => lv_iconst h.1 h.2.1 hd hv (kk hP H locs ls h1 h2 h3 h4)
theorem g_bipush (h : CxOK C cc ow ret) {n : Int} {v : Int32}  (hd : Dc cc pc (.bipush n) 2 pc') (hv : (Int8.ofInt n).toInt32 = v) (kk : P → Go C pc' lv (.int v :: st) V R G kc ks) : P → Go C pc lv st V R G kc ks := by
  obtain ⟨hd, rfl⟩ := hd
  exact fun hP H locs ls h1 h2 h3 h4 => lv_bipush h.1 h.2.1 hd hv (kk hP H locs ls h1 h2 h3 h4)
theorem g_sipush (h : CxOK C cc ow ret) {n : Int} {v : Int32}  (hd : Dc cc pc (.sipush n) 3 pc') (hv : (Int16.ofInt n).toInt32 = v) (kk : P → Go C pc' lv (.int v :: st) V R G kc ks) : P → Go C pc lv st V R G kc ks := by
  obtain ⟨hd, rfl⟩ := hd
  exact fun hP H locs ls h1 h2 h3 h4 => lv_sipush h.1 h.2.1 hd hv (kk hP H locs ls h1 h2 h3 h4)
theorem g_lconst (h : CxOK C cc ow ret) {n : Fin 2} {v : Int64}  (hd : Dc cc pc (.lconst n) 1 pc') (hv : Int64.ofNat (n : Nat) = v) (kk : P → Go C pc' lv (.long v :: st) V R G kc ks) : P → Go C pc lv st V R G kc ks := by
  obtain ⟨hd, rfl⟩ := hd
  exact fun hP H locs ls h1 h2 h3 h4 => lv_lconst h.1 h.2.1 hd hv (kk hP H locs ls h1 h2 h3 h4)
theorem g_iload_n (h : CxOK C cc ow ret) {k : Fin 4} {i j : Nat} {x : Int32}  (hd : Dc cc pc (.iload_n k) 1 pc') (hi : (k : Nat) = i) (hk : lv[j]? = some (i, .int x)) (kk : P → Go C pc' lv (.int x :: st) V R G kc ks) : P → Go C pc lv st V R G kc ks := by
  obtain ⟨hd, rfl⟩ := hd
  exact fun hP H locs ls h1 h2 h3 h4 => lv_iload_n h.1 h.2.1 hd hi (lv_at h4 j hk) (kk hP H locs ls h1 h2 h3 h4)
theorem g_iload (h : CxOK C cc ow ret) {i j : Nat} {x : Int32}  (hd : Dc cc pc (.iload i) 2 pc') (hk : lv[j]? = some (i, .int x)) (kk : P → Go C pc' lv (.int x :: st) V R G kc ks) : P → Go C pc lv st V R G kc ks := by
  obtain ⟨hd, rfl⟩ := hd
  exact fun hP H locs ls h1 h2 h3 h4 => lv_iload h.1 h.2.1 hd (lv_at h4 j hk) (kk hP H locs ls h1 h2 h3 h4)
theorem g_lload_n (h : CxOK C cc ow ret) {k : Fin 4} {i j : Nat} {x : Int64}  (hd : Dc cc pc (.lload_n k) 1 pc') (hi : (k : Nat) = i) (hk : lv[j]? = some (i, .long x)) (kk : P → Go C pc' lv (.long x :: st) V R G kc ks) : P → Go C pc lv st V R G kc ks := by
  obtain ⟨hd, rfl⟩ := hd
  exact fun hP H locs ls h1 h2 h3 h4 => lv_lload_n h.1 h.2.1 hd hi (lv_at h4 j hk) (kk hP H locs ls h1 h2 h3 h4)
theorem g_lload (h : CxOK C cc ow ret) {i j : Nat} {x : Int64}  (hd : Dc cc pc (.lload i) 2 pc') (hk : lv[j]? = some (i, .long x)) (kk : P → Go C pc' lv (.long x :: st) V R G kc ks) : P → Go C pc lv st V R G kc ks := by
  obtain ⟨hd, rfl⟩ := hd
  exact fun hP H locs ls h1 h2 h3 h4 => lv_lload h.1 h.2.1 hd (lv_at h4 j hk) (kk hP H locs ls h1 h2 h3 h4)
theorem g_aload_n (h : CxOK C cc ow ret) {k : Fin 4} {i j : Nat} {x : Nat}  (hd : Dc cc pc (.aload_n k) 1 pc') (hi : (k : Nat) = i) (hk : lv[j]? = some (i, .ref x)) (kk : P → Go C pc' lv (.ref x :: st) V R G kc ks) : P → Go C pc lv st V R G kc ks := by
  obtain ⟨hd, rfl⟩ := hd
  exact fun hP H locs ls h1 h2 h3 h4 => lv_aload_n h.1 h.2.1 hd hi (lv_at h4 j hk) (kk hP H locs ls h1 h2 h3 h4)
theorem g_aload (h : CxOK C cc ow ret) {i j : Nat} {x : Nat}  (hd : Dc cc pc (.aload i) 2 pc') (hk : lv[j]? = some (i, .ref x)) (kk : P → Go C pc' lv (.ref x :: st) V R G kc ks) : P → Go C pc lv st V R G kc ks := by
  obtain ⟨hd, rfl⟩ := hd
  exact fun hP H locs ls h1 h2 h3 h4 => lv_aload h.1 h.2.1 hd (lv_at h4 j hk) (kk hP H locs ls h1 h2 h3 h4)
theorem g_aload_nq (h : CxOK C cc ow ret) {k : Fin 4} {i j : Nat} {x : Option Nat}  (hd : Dc cc pc (.aload_n k) 1 pc') (hi : (k : Nat) = i) (hk : lv[j]? = some (i, va_rf x)) (kk : P → Go C pc' lv (va_rf x :: st) V R G kc ks) : P → Go C pc lv st V R G kc ks := by
  obtain ⟨hd, rfl⟩ := hd
  intro hP H locs ls h1 h2 h3 h4
  cases x with
  | none => exact lv_aload_nN h.1 h.2.1 hd hi (lv_at h4 j hk) (kk hP H locs ls h1 h2 h3 h4)
  | some y => exact lv_aload_n h.1 h.2.1 hd hi (lv_at h4 j hk) (kk hP H locs ls h1 h2 h3 h4)
theorem g_aloadq (h : CxOK C cc ow ret) {i j : Nat} {x : Option Nat}  (hd : Dc cc pc (.aload i) 2 pc') (hk : lv[j]? = some (i, va_rf x)) (kk : P → Go C pc' lv (va_rf x :: st) V R G kc ks) : P → Go C pc lv st V R G kc ks := by
  obtain ⟨hd, rfl⟩ := hd
  intro hP H locs ls h1 h2 h3 h4
  cases x with
  | none => exact lv_aloadN h.1 h.2.1 hd (lv_at h4 j hk) (kk hP H locs ls h1 h2 h3 h4)
  | some y => exact lv_aload h.1 h.2.1 hd (lv_at h4 j hk) (kk hP H locs ls h1 h2 h3 h4)
theorem g_istore_n (h : CxOK C cc ow ret) {k : Fin 4} {i : Nat} {x : Int32} {lv' : List (Nat × Value)}  (hd : Dc cc pc (.istore_n k) 1 pc') (hi : (k : Nat) = i) (hn : i < n0) (hC : C.2.2.2.2 = n0) (hl : (i, Value.int x) :: lv.filter (fun q => !(q.1 == i) && !(q.1 + 1 == i && q.2.category == 2)) = lv') (kk : P → Go C pc' lv' st V R G kc ks) : P → Go C pc lv (.int x :: st) V R G kc ks := by
  obtain ⟨hd, rfl⟩ := hd
  exact fun hP H locs ls h1 h2 h3 h4 => lv_istore_n h.1 h.2.1 hd hi h4 (by rw [hC]; exact hn) hl (fun ls h4 => kk hP H locs ls h1 h2 h3 h4)
theorem g_istore (h : CxOK C cc ow ret) {i : Nat} {x : Int32} {lv' : List (Nat × Value)}  (hd : Dc cc pc (.istore i) 2 pc') (hn : i < n0) (hC : C.2.2.2.2 = n0) (hl : (i, Value.int x) :: lv.filter (fun q => !(q.1 == i) && !(q.1 + 1 == i && q.2.category == 2)) = lv') (kk : P → Go C pc' lv' st V R G kc ks) : P → Go C pc lv (.int x :: st) V R G kc ks := by
  obtain ⟨hd, rfl⟩ := hd
  exact fun hP H locs ls h1 h2 h3 h4 => lv_istore h.1 h.2.1 hd h4 (by rw [hC]; exact hn) hl (fun ls h4 => kk hP H locs ls h1 h2 h3 h4)
theorem g_lstore_n (h : CxOK C cc ow ret) {k : Fin 4} {i : Nat} {x : Int64} {lv' : List (Nat × Value)}  (hd : Dc cc pc (.lstore_n k) 1 pc') (hi : (k : Nat) = i) (hn : i + 1 < n0) (hC : C.2.2.2.2 = n0) (hl : (i, Value.long x) :: lv.filter (fun q => !(q.1 == i) && (!(q.1 == i + 1) && !(q.1 + 1 == i && q.2.category == 2))) = lv') (kk : P → Go C pc' lv' st V R G kc ks) : P → Go C pc lv (.long x :: st) V R G kc ks := by
  obtain ⟨hd, rfl⟩ := hd
  exact fun hP H locs ls h1 h2 h3 h4 => lv_lstore_n h.1 h.2.1 hd hi h4 (by rw [hC]; exact hn) hl (fun ls h4 => kk hP H locs ls h1 h2 h3 h4)
theorem g_lstore (h : CxOK C cc ow ret) {i : Nat} {x : Int64} {lv' : List (Nat × Value)}  (hd : Dc cc pc (.lstore i) 2 pc') (hn : i + 1 < n0) (hC : C.2.2.2.2 = n0) (hl : (i, Value.long x) :: lv.filter (fun q => !(q.1 == i) && (!(q.1 == i + 1) && !(q.1 + 1 == i && q.2.category == 2))) = lv') (kk : P → Go C pc' lv' st V R G kc ks) : P → Go C pc lv (.long x :: st) V R G kc ks := by
  obtain ⟨hd, rfl⟩ := hd
  exact fun hP H locs ls h1 h2 h3 h4 => lv_lstore h.1 h.2.1 hd h4 (by rw [hC]; exact hn) hl (fun ls h4 => kk hP H locs ls h1 h2 h3 h4)
theorem g_astore_n (h : CxOK C cc ow ret) {k : Fin 4} {i : Nat} {x : Nat} {lv' : List (Nat × Value)}  (hd : Dc cc pc (.astore_n k) 1 pc') (hi : (k : Nat) = i) (hn : i < n0) (hC : C.2.2.2.2 = n0) (hl : (i, Value.ref x) :: lv.filter (fun q => !(q.1 == i) && !(q.1 + 1 == i && q.2.category == 2)) = lv') (kk : P → Go C pc' lv' st V R G kc ks) : P → Go C pc lv (.ref x :: st) V R G kc ks := by
  obtain ⟨hd, rfl⟩ := hd
  exact fun hP H locs ls h1 h2 h3 h4 => lv_astore_n h.1 h.2.1 hd hi h4 (by rw [hC]; exact hn) hl (fun ls h4 => kk hP H locs ls h1 h2 h3 h4)
theorem g_astore (h : CxOK C cc ow ret) {i : Nat} {x : Nat} {lv' : List (Nat × Value)}  (hd : Dc cc pc (.astore i) 2 pc') (hn : i < n0) (hC : C.2.2.2.2 = n0) (hl : (i, Value.ref x) :: lv.filter (fun q => !(q.1 == i) && !(q.1 + 1 == i && q.2.category == 2)) = lv') (kk : P → Go C pc' lv' st V R G kc ks) : P → Go C pc lv (.ref x :: st) V R G kc ks := by
  obtain ⟨hd, rfl⟩ := hd
  exact fun hP H locs ls h1 h2 h3 h4 => lv_astore h.1 h.2.1 hd h4 (by rw [hC]; exact hn) hl (fun ls h4 => kk hP H locs ls h1 h2 h3 h4)
theorem g_astore_nq (h : CxOK C cc ow ret) {k : Fin 4} {i : Nat} {x : Option Nat} {lv' : List (Nat × Value)}  (hd : Dc cc pc (.astore_n k) 1 pc') (hi : (k : Nat) = i) (hn : i < n0) (hC : C.2.2.2.2 = n0) (hl : (i, va_rf x) :: lv.filter (fun q => !(q.1 == i) && !(q.1 + 1 == i && q.2.category == 2)) = lv') (kk : P → Go C pc' lv' st V R G kc ks) : P → Go C pc lv (va_rf x :: st) V R G kc ks := by
  obtain ⟨hd, rfl⟩ := hd
  intro hP H locs ls h1 h2 h3 h4
  cases x with
  | none => exact lv_astore_nN h.1 h.2.1 hd hi h4 (by rw [hC]; exact hn) hl (fun ls h4 => kk hP H locs ls h1 h2 h3 h4)
  | some y => exact lv_astore_n h.1 h.2.1 hd hi h4 (by rw [hC]; exact hn) hl (fun ls h4 => kk hP H locs ls h1 h2 h3 h4)
theorem g_astoreq (h : CxOK C cc ow ret) {i : Nat} {x : Option Nat} {lv' : List (Nat × Value)}  (hd : Dc cc pc (.astore i) 2 pc') (hn : i < n0) (hC : C.2.2.2.2 = n0) (hl : (i, va_rf x) :: lv.filter (fun q => !(q.1 == i) && !(q.1 + 1 == i && q.2.category == 2)) = lv') (kk : P → Go C pc' lv' st V R G kc ks) : P → Go C pc lv (va_rf x :: st) V R G kc ks := by
  obtain ⟨hd, rfl⟩ := hd
  intro hP H locs ls h1 h2 h3 h4
  cases x with
  | none => exact lv_astoreN h.1 h.2.1 hd h4 (by rw [hC]; exact hn) hl (fun ls h4 => kk hP H locs ls h1 h2 h3 h4)
  | some y => exact lv_astore h.1 h.2.1 hd h4 (by rw [hC]; exact hn) hl (fun ls h4 => kk hP H locs ls h1 h2 h3 h4)
theorem g_istore_nL {γ : Type} {K : Int32 → γ} {o : γ} (h : CxOK C cc ow ret) {k : Fin 4} {i : Nat} {x : Int32} {lv' : Int32 → List (Nat × Value)} (hd : Dc cc pc (.istore_n k) 1 pc') (hi : (k : Nat) = i) (hn : i < n0) (hC : C.2.2.2.2 = n0) (hl : ∀ v, (i, Value.int v) :: lv.filter (fun q => !(q.1 == i) && !(q.1 + 1 == i && q.2.category == 2)) = lv' v) (kk : ∀ v, K v = o → Go C pc' (lv' v) st V R G kc ks) : letv x K = o → Go C pc lv (.int x :: st) V R G kc ks := g_istore_n h hd hi hn hC (hl x) (kk x)
theorem g_istoreL {γ : Type} {K : Int32 → γ} {o : γ} (h : CxOK C cc ow ret)  {i : Nat} {x : Int32} {lv' : Int32 → List (Nat × Value)} (hd : Dc cc pc (.istore i) 2 pc') (hn : i < n0) (hC : C.2.2.2.2 = n0) (hl : ∀ v, (i, Value.int v) :: lv.filter (fun q => !(q.1 == i) && !(q.1 + 1 == i && q.2.category == 2)) = lv' v) (kk : ∀ v, K v = o → Go C pc' (lv' v) st V R G kc ks) : letv x K = o → Go C pc lv (.int x :: st) V R G kc ks := g_istore h hd hn hC (hl x) (kk x)
theorem g_lstore_nL {γ : Type} {K : Int64 → γ} {o : γ} (h : CxOK C cc ow ret) {k : Fin 4} {i : Nat} {x : Int64} {lv' : Int64 → List (Nat × Value)} (hd : Dc cc pc (.lstore_n k) 1 pc') (hi : (k : Nat) = i) (hn : i + 1 < n0) (hC : C.2.2.2.2 = n0) (hl : ∀ v, (i, Value.long v) :: lv.filter (fun q => !(q.1 == i) && (!(q.1 == i + 1) && !(q.1 + 1 == i && q.2.category == 2))) = lv' v) (kk : ∀ v, K v = o → Go C pc' (lv' v) st V R G kc ks) : letv x K = o → Go C pc lv (.long x :: st) V R G kc ks := g_lstore_n h hd hi hn hC (hl x) (kk x)
theorem g_lstoreL {γ : Type} {K : Int64 → γ} {o : γ} (h : CxOK C cc ow ret)  {i : Nat} {x : Int64} {lv' : Int64 → List (Nat × Value)} (hd : Dc cc pc (.lstore i) 2 pc') (hn : i + 1 < n0) (hC : C.2.2.2.2 = n0) (hl : ∀ v, (i, Value.long v) :: lv.filter (fun q => !(q.1 == i) && (!(q.1 == i + 1) && !(q.1 + 1 == i && q.2.category == 2))) = lv' v) (kk : ∀ v, K v = o → Go C pc' (lv' v) st V R G kc ks) : letv x K = o → Go C pc lv (.long x :: st) V R G kc ks := g_lstore h hd hn hC (hl x) (kk x)
theorem g_iinc (h : CxOK C cc ow ret) {i j : Nat} {n : Int} {x v : Int32} {lv' : List (Nat × Value)} (hd : Dc cc pc (.iinc i n) 3 pc') (hk : lv[j]? = some (i, .int x)) (hv : x + Int32.ofInt n = v) (hn : i < n0) (hC : C.2.2.2.2 = n0) (hl : (i, Value.int v) :: lv.filter (fun q => !(q.1 == i) && !(q.1 + 1 == i && q.2.category == 2)) = lv') (kk : P → Go C pc' lv' st V R G kc ks) : P → Go C pc lv st V R G kc ks := by
  obtain ⟨hd, rfl⟩ := hd
  exact fun hP H locs ls h1 h2 h3 h4 => lv_iinc h.1 h.2.1 hd h4 hk hv (by rw [hC]; exact hn) hl (fun ls h4 => kk hP H locs ls h1 h2 h3 h4)
theorem g_iincL {γ : Type} {K : Int32 → γ} {o : γ} (h : CxOK C cc ow ret) {i j : Nat} {n : Int} {x c0 : Int32} {lv' : Int32 → List (Nat × Value)} (hd : Dc cc pc (.iinc i n) 3 pc') (hk : lv[j]? = some (i, .int x)) (hv : Int32.ofInt n = c0) (hn : i < n0) (hC : C.2.2.2.2 = n0) (hl : ∀ v, (i, Value.int v) :: lv.filter (fun q => !(q.1 == i) && !(q.1 + 1 == i && q.2.category == 2)) = lv' v) (kk : ∀ v, K v = o → Go C pc' (lv' v) st V R G kc ks) : letv (x + c0) K = o → Go C pc lv st V R G kc ks := g_iinc h hd hk (by rw [hv]) hn hC (hl _) (kk _)
theorem g_iadd (h : CxOK C cc ow ret) {x y : Int32}  (hd : Dc cc pc (.iadd) 1 pc')  (kk : P → Go C pc' lv (.int (x + y) :: st) V R G kc ks) : P → Go C pc lv (.int y :: .int x :: st) V R G kc ks := by
  obtain ⟨hd, rfl⟩ := hd
  exact fun hP H locs ls h1 h2 h3 h4 => lv_iadd h.1 h.2.1 hd (kk hP H locs ls h1 h2 h3 h4)
theorem g_isub (h : CxOK C cc ow ret) {x y : Int32}  (hd : Dc cc pc (.isub) 1 pc')  (kk : P → Go C pc' lv (.int (x - y) :: st) V R G kc ks) : P → Go C pc lv (.int y :: .int x :: st) V R G kc ks := by
  obtain ⟨hd, rfl⟩ := hd
  exact fun hP H locs ls h1 h2 h3 h4 => lv_isub h.1 h.2.1 hd (kk hP H locs ls h1 h2 h3 h4)
theorem g_imul (h : CxOK C cc ow ret) {x y : Int32}  (hd : Dc cc pc (.imul) 1 pc')  (kk : P → Go C pc' lv (.int (x * y) :: st) V R G kc ks) : P → Go C pc lv (.int y :: .int x :: st) V R G kc ks := by
  obtain ⟨hd, rfl⟩ := hd
  exact fun hP H locs ls h1 h2 h3 h4 => lv_imul h.1 h.2.1 hd (kk hP H locs ls h1 h2 h3 h4)
theorem g_iand (h : CxOK C cc ow ret) {x y : Int32}  (hd : Dc cc pc (.iand) 1 pc')  (kk : P → Go C pc' lv (.int (x &&& y) :: st) V R G kc ks) : P → Go C pc lv (.int y :: .int x :: st) V R G kc ks := by
  obtain ⟨hd, rfl⟩ := hd
  exact fun hP H locs ls h1 h2 h3 h4 => lv_iand h.1 h.2.1 hd (kk hP H locs ls h1 h2 h3 h4)
theorem g_ior (h : CxOK C cc ow ret) {x y : Int32}  (hd : Dc cc pc (.ior) 1 pc')  (kk : P → Go C pc' lv (.int (x ||| y) :: st) V R G kc ks) : P → Go C pc lv (.int y :: .int x :: st) V R G kc ks := by
  obtain ⟨hd, rfl⟩ := hd
  exact fun hP H locs ls h1 h2 h3 h4 => lv_ior h.1 h.2.1 hd (kk hP H locs ls h1 h2 h3 h4)
theorem g_ixor (h : CxOK C cc ow ret) {x y : Int32}  (hd : Dc cc pc (.ixor) 1 pc')  (kk : P → Go C pc' lv (.int (x ^^^ y) :: st) V R G kc ks) : P → Go C pc lv (.int y :: .int x :: st) V R G kc ks := by
  obtain ⟨hd, rfl⟩ := hd
  exact fun hP H locs ls h1 h2 h3 h4 => lv_ixor h.1 h.2.1 hd (kk hP H locs ls h1 h2 h3 h4)
theorem g_ishl (h : CxOK C cc ow ret) {x y : Int32}  (hd : Dc cc pc (.ishl) 1 pc')  (kk : P → Go C pc' lv (.int (x <<< (y &&& 31)) :: st) V R G kc ks) : P → Go C pc lv (.int y :: .int x :: st) V R G kc ks := by
  obtain ⟨hd, rfl⟩ := hd
  exact fun hP H locs ls h1 h2 h3 h4 => lv_ishl h.1 h.2.1 hd (kk hP H locs ls h1 h2 h3 h4)
theorem g_ishr (h : CxOK C cc ow ret) {x y : Int32}  (hd : Dc cc pc (.ishr) 1 pc')  (kk : P → Go C pc' lv (.int (x >>> (y &&& 31)) :: st) V R G kc ks) : P → Go C pc lv (.int y :: .int x :: st) V R G kc ks := by
  obtain ⟨hd, rfl⟩ := hd
  exact fun hP H locs ls h1 h2 h3 h4 => lv_ishr h.1 h.2.1 hd (kk hP H locs ls h1 h2 h3 h4)
theorem g_ladd (h : CxOK C cc ow ret) {x y : Int64}  (hd : Dc cc pc (.ladd) 1 pc')  (kk : P → Go C pc' lv (.long (x + y) :: st) V R G kc ks) : P → Go C pc lv (.long y :: .long x :: st) V R G kc ks := by
  obtain ⟨hd, rfl⟩ := hd
  exact fun hP H locs ls h1 h2 h3 h4 => lv_ladd h.1 h.2.1 hd (kk hP H locs ls h1 h2 h3 h4)
theorem g_lsub (h : CxOK C cc ow ret) {x y : Int64}  (hd : Dc cc pc (.lsub) 1 pc')  (kk : P → Go C pc' lv (.long (x - y) :: st) V R G kc ks) : P → Go C pc lv (.long y :: .long x :: st) V R G kc ks := by
  obtain ⟨hd, rfl⟩ := hd
  exact fun hP H locs ls h1 h2 h3 h4 => lv_lsub h.1 h.2.1 hd (kk hP H locs ls h1 h2 h3 h4)
theorem g_lmul (h : CxOK C cc ow ret) {x y : Int64}  (hd : Dc cc pc (.lmul) 1 pc')  (kk : P → Go C pc' lv (.long (x * y) :: st) V R G kc ks) : P → Go C pc lv (.long y :: .long x :: st) V R G kc ks := by
  obtain ⟨hd, rfl⟩ := hd
  exact fun hP H locs ls h1 h2 h3 h4 => lv_lmul h.1 h.2.1 hd (kk hP H locs ls h1 h2 h3 h4)
theorem g_land (h : CxOK C cc ow ret) {x y : Int64}  (hd : Dc cc pc (.land) 1 pc')  (kk : P → Go C pc' lv (.long (x &&& y) :: st) V R G kc ks) : P → Go C pc lv (.long y :: .long x :: st) V R G kc ks := by
  obtain ⟨hd, rfl⟩ := hd
  exact fun hP H locs ls h1 h2 h3 h4 => lv_land h.1 h.2.1 hd (kk hP H locs ls h1 h2 h3 h4)
theorem g_lor (h : CxOK C cc ow ret) {x y : Int64}  (hd : Dc cc pc (.lor) 1 pc')  (kk : P → Go C pc' lv (.long (x ||| y) :: st) V R G kc ks) : P → Go C pc lv (.long y :: .long x :: st) V R G kc ks := by
  obtain ⟨hd, rfl⟩ := hd
  exact fun hP H locs ls h1 h2 h3 h4 => lv_lor h.1 h.2.1 hd (kk hP H locs ls h1 h2 h3 h4)
theorem g_lxor (h : CxOK C cc ow ret) {x y : Int64}  (hd : Dc cc pc (.lxor) 1 pc')  (kk : P → Go C pc' lv (.long (x ^^^ y) :: st) V R G kc ks) : P → Go C pc lv (.long y :: .long x :: st) V R G kc ks := by
  obtain ⟨hd, rfl⟩ := hd
  exact fun hP H locs ls h1 h2 h3 h4 => lv_lxor h.1 h.2.1 hd (kk hP H locs ls h1 h2 h3 h4)
theorem g_idivC (h : CxOK C cc ow ret) {x y : Int32}  (hd : Dc cc pc (.idiv) 1 pc') (hne : ¬ y = 0) (kk : P → Go C pc' lv (.int (x / y) :: st) V R G kc ks) : P → Go C pc lv (.int y :: .int x :: st) V R G kc ks := by
  obtain ⟨hd, rfl⟩ := hd
  exact fun hP H locs ls h1 h2 h3 h4 => lv_idiv h.1 h.2.1 hd hne (kk hP H locs ls h1 h2 h3 h4)
theorem g_iremC (h : CxOK C cc ow ret) {x y : Int32}  (hd : Dc cc pc (.irem) 1 pc') (hne : ¬ y = 0) (kk : P → Go C pc' lv (.int (jrem x y) :: st) V R G kc ks) : P → Go C pc lv (.int y :: .int x :: st) V R G kc ks := by
  obtain ⟨hd, rfl⟩ := hd
  exact fun hP H locs ls h1 h2 h3 h4 => lv_irem h.1 h.2.1 hd hne (kk hP H locs ls h1 h2 h3 h4)
theorem g_ldivC (h : CxOK C cc ow ret) {x y : Int64}  (hd : Dc cc pc (.ldiv) 1 pc') (hne : ¬ y = 0) (kk : P → Go C pc' lv (.long (x / y) :: st) V R G kc ks) : P → Go C pc lv (.long y :: .long x :: st) V R G kc ks := by
  obtain ⟨hd, rfl⟩ := hd
  exact fun hP H locs ls h1 h2 h3 h4 => lv_ldiv h.1 h.2.1 hd hne (kk hP H locs ls h1 h2 h3 h4)
theorem g_lremC (h : CxOK C cc ow ret) {x y : Int64}  (hd : Dc cc pc (.lrem) 1 pc') (hne : ¬ y = 0) (kk : P → Go C pc' lv (.long (jreml x y) :: st) V R G kc ks) : P → Go C pc lv (.long y :: .long x :: st) V R G kc ks := by
  obtain ⟨hd, rfl⟩ := hd
  exact fun hP H locs ls h1 h2 h3 h4 => lv_lrem h.1 h.2.1 hd hne (kk hP H locs ls h1 h2 h3 h4)
theorem g_iushr (h : CxOK C cc ow ret) {x y : Int32}  (hd : Dc cc pc (.iushr) 1 pc')  (kk : P → Go C pc' lv (.int (jushr x y) :: st) V R G kc ks) : P → Go C pc lv (.int y :: .int x :: st) V R G kc ks := by
  obtain ⟨hd, rfl⟩ := hd
  exact fun hP H locs ls h1 h2 h3 h4 => lv_iushr h.1 h.2.1 hd rfl (kk hP H locs ls h1 h2 h3 h4)
theorem g_lushr (h : CxOK C cc ow ret) {x : Int64} {y : Int32}  (hd : Dc cc pc (.lushr) 1 pc')  (kk : P → Go C pc' lv (.long (jlushr x y) :: st) V R G kc ks) : P → Go C pc lv (.int y :: .long x :: st) V R G kc ks := by
  obtain ⟨hd, rfl⟩ := hd
  exact fun hP H locs ls h1 h2 h3 h4 => lv_lushr h.1 h.2.1 hd rfl (kk hP H locs ls h1 h2 h3 h4)
theorem g_lshl (h : CxOK C cc ow ret) {x : Int64} {y : Int32}  (hd : Dc cc pc (.lshl) 1 pc')  (kk : P → Go C pc' lv (.long (x <<< (y.toInt64 &&& 63)) :: st) V R G kc ks) : P → Go C pc lv (.int y :: .long x :: st) V R G kc ks := by
  obtain ⟨hd, rfl⟩ := hd
  exact fun hP H locs ls h1 h2 h3 h4 => lv_lshl h.1 h.2.1 hd rfl (kk hP H locs ls h1 h2 h3 h4)
theorem g_lshr (h : CxOK C cc ow ret) {x : Int64} {y : Int32}  (hd : Dc cc pc (.lshr) 1 pc')  (kk : P → Go C pc' lv (.long (x >>> (y.toInt64 &&& 63)) :: st) V R G kc ks) : P → Go C pc lv (.int y :: .long x :: st) V R G kc ks := by
  obtain ⟨hd, rfl⟩ := hd
  exact fun hP H locs ls h1 h2 h3 h4 => lv_lshr h.1 h.2.1 hd rfl (kk hP H locs ls h1 h2 h3 h4)
theorem g_i2l (h : CxOK C cc ow ret) {x : Int32}  (hd : Dc cc pc (.i2l) 1 pc')  (kk : P → Go C pc' lv (.long x.toInt64 :: st) V R G kc ks) : P → Go C pc lv (.int x :: st) V R G kc ks := by
  obtain ⟨hd, rfl⟩ := hd
  exact fun hP H locs ls h1 h2 h3 h4 => lv_i2l h.1 h.2.1 hd rfl (kk hP H locs ls h1 h2 h3 h4)
theorem g_l2i (h : CxOK C cc ow ret) {x : Int64}  (hd : Dc cc pc (.l2i) 1 pc')  (kk : P → Go C pc' lv (.int x.toInt32 :: st) V R G kc ks) : P → Go C pc lv (.long x :: st) V R G kc ks := by
  obtain ⟨hd, rfl⟩ := hd
  exact fun hP H locs ls h1 h2 h3 h4 => lv_l2i h.1 h.2.1 hd rfl (kk hP H locs ls h1 h2 h3 h4)
theorem g_i2b (h : CxOK C cc ow ret) {x : Int32}  (hd : Dc cc pc (.i2b) 1 pc')  (kk : P → Go C pc' lv (.int x.toInt8.toInt32 :: st) V R G kc ks) : P → Go C pc lv (.int x :: st) V R G kc ks := by
  obtain ⟨hd, rfl⟩ := hd
  exact fun hP H locs ls h1 h2 h3 h4 => lv_i2b h.1 h.2.1 hd rfl (kk hP H locs ls h1 h2 h3 h4)
theorem g_i2s (h : CxOK C cc ow ret) {x : Int32}  (hd : Dc cc pc (.i2s) 1 pc')  (kk : P → Go C pc' lv (.int x.toInt16.toInt32 :: st) V R G kc ks) : P → Go C pc lv (.int x :: st) V R G kc ks := by
  obtain ⟨hd, rfl⟩ := hd
  exact fun hP H locs ls h1 h2 h3 h4 => lv_i2s h.1 h.2.1 hd rfl (kk hP H locs ls h1 h2 h3 h4)
theorem g_lcmp (h : CxOK C cc ow ret) {x y : Int64}  (hd : Dc cc pc (.lcmp) 1 pc')  (kk : P → Go C pc' lv (.int (lg_cmp x y) :: st) V R G kc ks) : P → Go C pc lv (.long y :: .long x :: st) V R G kc ks := by
  obtain ⟨hd, rfl⟩ := hd
  exact fun hP H locs ls h1 h2 h3 h4 => W.lcmp h.1 h.2.1 hd (kk hP H locs ls h1 h2 h3 h4)
theorem g_dup (h : CxOK C cc ow ret) {va : Value}  (hd : Dc cc pc (.dup) 1 pc') (hva : va.category = 1) (kk : P → Go C pc' lv (va :: va :: st) V R G kc ks) : P → Go C pc lv (va :: st) V R G kc ks := by
  obtain ⟨hd, rfl⟩ := hd
  exact fun hP H locs ls h1 h2 h3 h4 => lv_dup h.1 h.2.1 hd hva (kk hP H locs ls h1 h2 h3 h4)
theorem g_pop (h : CxOK C cc ow ret) {va : Value}  (hd : Dc cc pc (.pop) 1 pc') (hva : va.category = 1) (kk : P → Go C pc' lv st V R G kc ks) : P → Go C pc lv (va :: st) V R G kc ks := by
  obtain ⟨hd, rfl⟩ := hd
  exact fun hP H locs ls h1 h2 h3 h4 => lv_pop h.1 h.2.1 hd hva (kk hP H locs ls h1 h2 h3 h4)
theorem g_dup2 (h : CxOK C cc ow ret) {va vb : Value}  (hd : Dc cc pc (.dup2) 1 pc') (hva : va.category = 1) (hvb : vb.category = 1) (kk : P → Go C pc' lv (va :: vb :: va :: vb :: st) V R G kc ks) : P → Go C pc lv (va :: vb :: st) V R G kc ks := by
  obtain ⟨hd, rfl⟩ := hd
  exact fun hP H locs ls h1 h2 h3 h4 => lv_dup2_11 h.1 h.2.1 hd hva hvb (kk hP H locs ls h1 h2 h3 h4)
theorem g_dup_x1 (h : CxOK C cc ow ret) {va vb : Value}  (hd : Dc cc pc (.dup_x1) 1 pc') (hva : va.category = 1) (hvb : vb.category = 1) (kk : P → Go C pc' lv (va :: vb :: va :: st) V R G kc ks) : P → Go C pc lv (va :: vb :: st) V R G kc ks := by
  obtain ⟨hd, rfl⟩ := hd
  exact fun hP H locs ls h1 h2 h3 h4 => lv_dup_x1 h.1 h.2.1 hd hva hvb (kk hP H locs ls h1 h2 h3 h4)
theorem g_null (h : CxOK C cc ow ret)  (hd : Dc cc pc (.aconst_null) 1 pc')  (kk : P → Go C pc' lv (va_rf none :: st) V R G kc ks) : P → Go C pc lv st V R G kc ks := by
  obtain ⟨hd, rfl⟩ := hd
  exact fun hP H locs ls h1 h2 h3 h4 => lv_null h.1 h.2.1 hd (kk hP H locs ls h1 h2 h3 h4)
theorem g_ldc (h : CxOK C cc ow ret) {index : Nat} {v : Int32}  (hd : Dc cc pc (.ldc index) 2 pc') (hw : Cond.constant ow index v ∈ lw_gd) (kk : P → Go C pc' lv (.int v :: st) V R G kc ks) : P → Go C pc lv st V R G kc ks := by
  obtain ⟨hd, rfl⟩ := hd
  exact fun hP H locs ls h1 h2 h3 h4 => lv_ldc h.1 h.2.1 h.2.2.2.1 (h.2.2.2.2.1 _ hw) hd (kk hP H locs ls h1 h2 h3 h4)
theorem g_ldcw (h : CxOK C cc ow ret) {index : Nat} {v : Int32}  (hd : Dc cc pc (.ldc_w index) 3 pc') (hw : Cond.constant ow index v ∈ lw_gd) (kk : P → Go C pc' lv (.int v :: st) V R G kc ks) : P → Go C pc lv st V R G kc ks := by
  obtain ⟨hd, rfl⟩ := hd
  exact fun hP H locs ls h1 h2 h3 h4 => lv_ldcw h.1 h.2.1 h.2.2.2.1 (h.2.2.2.2.1 _ hw) hd (kk hP H locs ls h1 h2 h3 h4)
theorem g_ldc2 (h : CxOK C cc ow ret) {index : Nat} {v : Int64}  (hd : Dc cc pc (.ldc2_w index) 3 pc') (hw : Cond.constantLong ow index v ∈ lw_gd) (kk : P → Go C pc' lv (.long v :: st) V R G kc ks) : P → Go C pc lv st V R G kc ks := by
  obtain ⟨hd, rfl⟩ := hd
  exact fun hP H locs ls h1 h2 h3 h4 => lv_ldc2 h.1 h.2.1 h.2.2.2.1 (h.2.2.2.2.1 _ hw) hd (kk hP H locs ls h1 h2 h3 h4)
theorem g_goto (h : CxOK C cc ow ret) {off : Int} (hd : Dj cc pc (.goto off) off tgt pc') (kk : P → Go C tgt lv st V R G kc ks) : P → Go C pc lv st V R G kc ks := fun hP H locs ls h1 h2 h3 h4 => lv_goto h.1 h.2.1 hd.1 hd.2.1 (kk hP H locs ls h1 h2 h3 h4)
theorem g_if_eq {β : Type} {A B o : β} (h : CxOK C cc ow ret) {x : Int32} {off : Int} (hd : Dj cc pc (.ifCond .eq off) off tgt pc') (k1 : A = o → Go C tgt lv st V R G kc ks) (k2 : B = o → Go C pc' lv st V R G kc ks) : (if x = 0 then A else B) = o → Go C pc lv (.int x :: st) V R G kc ks := by
  obtain ⟨hd, ht, rfl⟩ := hd
  exact fun hP H locs ls h1 h2 h3 h4 => lv_if_eq h.1 h.2.1 hd ht (fun q => k1 (by rw [← hP, if_pos q]) H locs ls h1 h2 h3 h4) (fun q => k2 (by rw [← hP, if_neg q]) H locs ls h1 h2 h3 h4)
theorem g_if_ne {β : Type} {A B o : β} (h : CxOK C cc ow ret) {x : Int32} {off : Int} (hd : Dj cc pc (.ifCond .ne off) off tgt pc') (k1 : A = o → Go C pc' lv st V R G kc ks) (k2 : B = o → Go C tgt lv st V R G kc ks) : (if x = 0 then A else B) = o → Go C pc lv (.int x :: st) V R G kc ks := by
  obtain ⟨hd, ht, rfl⟩ := hd
  exact fun hP H locs ls h1 h2 h3 h4 => lv_if_ne h.1 h.2.1 hd ht (fun q => k2 (by rw [← hP, if_neg q]) H locs ls h1 h2 h3 h4) (fun q => k1 (by rw [← hP, if_pos q]) H locs ls h1 h2 h3 h4)
theorem g_if_lt {β : Type} {A B o : β} (h : CxOK C cc ow ret) {x : Int32} {off : Int} (hd : Dj cc pc (.ifCond .lt off) off tgt pc') (k1 : A = o → Go C tgt lv st V R G kc ks) (k2 : B = o → Go C pc' lv st V R G kc ks) : (if x < 0 then A else B) = o → Go C pc lv (.int x :: st) V R G kc ks := by
  obtain ⟨hd, ht, rfl⟩ := hd
  exact fun hP H locs ls h1 h2 h3 h4 => lv_if_lt h.1 h.2.1 hd ht (fun q => k1 (by rw [← hP, if_pos q]) H locs ls h1 h2 h3 h4) (fun q => k2 (by rw [← hP, if_neg q]) H locs ls h1 h2 h3 h4)
theorem g_if_ge {β : Type} {A B o : β} (h : CxOK C cc ow ret) {x : Int32} {off : Int} (hd : Dj cc pc (.ifCond .ge off) off tgt pc') (k1 : A = o → Go C tgt lv st V R G kc ks) (k2 : B = o → Go C pc' lv st V R G kc ks) : (if 0 ≤ x then A else B) = o → Go C pc lv (.int x :: st) V R G kc ks := by
  obtain ⟨hd, ht, rfl⟩ := hd
  exact fun hP H locs ls h1 h2 h3 h4 => lv_if_ge h.1 h.2.1 hd ht (fun q => k1 (by rw [← hP, if_pos q]) H locs ls h1 h2 h3 h4) (fun q => k2 (by rw [← hP, if_neg q]) H locs ls h1 h2 h3 h4)
theorem g_if_gt {β : Type} {A B o : β} (h : CxOK C cc ow ret) {x : Int32} {off : Int} (hd : Dj cc pc (.ifCond .gt off) off tgt pc') (k1 : A = o → Go C tgt lv st V R G kc ks) (k2 : B = o → Go C pc' lv st V R G kc ks) : (if 0 < x then A else B) = o → Go C pc lv (.int x :: st) V R G kc ks := by
  obtain ⟨hd, ht, rfl⟩ := hd
  exact fun hP H locs ls h1 h2 h3 h4 => lv_if_gt h.1 h.2.1 hd ht (fun q => k1 (by rw [← hP, if_pos q]) H locs ls h1 h2 h3 h4) (fun q => k2 (by rw [← hP, if_neg q]) H locs ls h1 h2 h3 h4)
theorem g_if_le {β : Type} {A B o : β} (h : CxOK C cc ow ret) {x : Int32} {off : Int} (hd : Dj cc pc (.ifCond .le off) off tgt pc') (k1 : A = o → Go C tgt lv st V R G kc ks) (k2 : B = o → Go C pc' lv st V R G kc ks) : (if x ≤ 0 then A else B) = o → Go C pc lv (.int x :: st) V R G kc ks := by
  obtain ⟨hd, ht, rfl⟩ := hd
  exact fun hP H locs ls h1 h2 h3 h4 => lv_if_le h.1 h.2.1 hd ht (fun q => k1 (by rw [← hP, if_pos q]) H locs ls h1 h2 h3 h4) (fun q => k2 (by rw [← hP, if_neg q]) H locs ls h1 h2 h3 h4)
theorem g_icmp_eq {β : Type} {A B o : β} (h : CxOK C cc ow ret) {x y : Int32} {off : Int} (hd : Dj cc pc (.if_icmp .eq off) off tgt pc') (k1 : A = o → Go C tgt lv st V R G kc ks) (k2 : B = o → Go C pc' lv st V R G kc ks) : (if x = y then A else B) = o → Go C pc lv (.int y :: .int x :: st) V R G kc ks := by
  obtain ⟨hd, ht, rfl⟩ := hd
  exact fun hP H locs ls h1 h2 h3 h4 => lv_icmp_eq h.1 h.2.1 hd ht (fun q => k1 (by rw [← hP, if_pos q]) H locs ls h1 h2 h3 h4) (fun q => k2 (by rw [← hP, if_neg q]) H locs ls h1 h2 h3 h4)
theorem g_icmp_ne {β : Type} {A B o : β} (h : CxOK C cc ow ret) {x y : Int32} {off : Int} (hd : Dj cc pc (.if_icmp .ne off) off tgt pc') (k1 : A = o → Go C pc' lv st V R G kc ks) (k2 : B = o → Go C tgt lv st V R G kc ks) : (if x = y then A else B) = o → Go C pc lv (.int y :: .int x :: st) V R G kc ks := by
  obtain ⟨hd, ht, rfl⟩ := hd
  exact fun hP H locs ls h1 h2 h3 h4 => lv_icmp_ne h.1 h.2.1 hd ht (fun q => k2 (by rw [← hP, if_neg q]) H locs ls h1 h2 h3 h4) (fun q => k1 (by rw [← hP, if_pos q]) H locs ls h1 h2 h3 h4)
theorem g_icmp_lt {β : Type} {A B o : β} (h : CxOK C cc ow ret) {x y : Int32} {off : Int} (hd : Dj cc pc (.if_icmp .lt off) off tgt pc') (k1 : A = o → Go C tgt lv st V R G kc ks) (k2 : B = o → Go C pc' lv st V R G kc ks) : (if x < y then A else B) = o → Go C pc lv (.int y :: .int x :: st) V R G kc ks := by
  obtain ⟨hd, ht, rfl⟩ := hd
  exact fun hP H locs ls h1 h2 h3 h4 => lv_icmp_lt h.1 h.2.1 hd ht (fun q => k1 (by rw [← hP, if_pos q]) H locs ls h1 h2 h3 h4) (fun q => k2 (by rw [← hP, if_neg q]) H locs ls h1 h2 h3 h4)
theorem g_icmp_ge {β : Type} {A B o : β} (h : CxOK C cc ow ret) {x y : Int32} {off : Int} (hd : Dj cc pc (.if_icmp .ge off) off tgt pc') (k1 : A = o → Go C tgt lv st V R G kc ks) (k2 : B = o → Go C pc' lv st V R G kc ks) : (if y ≤ x then A else B) = o → Go C pc lv (.int y :: .int x :: st) V R G kc ks := by
  obtain ⟨hd, ht, rfl⟩ := hd
  exact fun hP H locs ls h1 h2 h3 h4 => lv_icmp_ge h.1 h.2.1 hd ht (fun q => k1 (by rw [← hP, if_pos q]) H locs ls h1 h2 h3 h4) (fun q => k2 (by rw [← hP, if_neg q]) H locs ls h1 h2 h3 h4)
theorem g_icmp_gt {β : Type} {A B o : β} (h : CxOK C cc ow ret) {x y : Int32} {off : Int} (hd : Dj cc pc (.if_icmp .gt off) off tgt pc') (k1 : A = o → Go C tgt lv st V R G kc ks) (k2 : B = o → Go C pc' lv st V R G kc ks) : (if y < x then A else B) = o → Go C pc lv (.int y :: .int x :: st) V R G kc ks := by
  obtain ⟨hd, ht, rfl⟩ := hd
  exact fun hP H locs ls h1 h2 h3 h4 => lv_icmp_gt h.1 h.2.1 hd ht (fun q => k1 (by rw [← hP, if_pos q]) H locs ls h1 h2 h3 h4) (fun q => k2 (by rw [← hP, if_neg q]) H locs ls h1 h2 h3 h4)
theorem g_icmp_le {β : Type} {A B o : β} (h : CxOK C cc ow ret) {x y : Int32} {off : Int} (hd : Dj cc pc (.if_icmp .le off) off tgt pc') (k1 : A = o → Go C tgt lv st V R G kc ks) (k2 : B = o → Go C pc' lv st V R G kc ks) : (if x ≤ y then A else B) = o → Go C pc lv (.int y :: .int x :: st) V R G kc ks := by
  obtain ⟨hd, ht, rfl⟩ := hd
  exact fun hP H locs ls h1 h2 h3 h4 => lv_icmp_le h.1 h.2.1 hd ht (fun q => k1 (by rw [← hP, if_pos q]) H locs ls h1 h2 h3 h4) (fun q => k2 (by rw [← hP, if_neg q]) H locs ls h1 h2 h3 h4)
theorem g_ifnull_no (h : CxOK C cc ow ret) {x : Nat} {off : Int} (hd : Dj cc pc (.ifnull off) off tgt pc') (kk : P → Go C pc' lv st V R G kc ks) : P → Go C pc lv (.ref x :: st) V R G kc ks := by
  obtain ⟨hd, ht, rfl⟩ := hd
  exact fun hP H locs ls h1 h2 h3 h4 => lv_ifnull h.1 h.2.1 hd (kk hP H locs ls h1 h2 h3 h4)
theorem g_ifnull_yes (h : CxOK C cc ow ret) {off : Int} (hd : Dj cc pc (.ifnull off) off tgt pc') (kk : P → Go C tgt lv st V R G kc ks) : P → Go C pc lv (.null :: st) V R G kc ks := by
  obtain ⟨hd, ht, rfl⟩ := hd
  exact fun hP H locs ls h1 h2 h3 h4 => lv_ifnullN h.1 h.2.1 hd ht (kk hP H locs ls h1 h2 h3 h4)
theorem g_ifnonnull_yes (h : CxOK C cc ow ret) {x : Nat} {off : Int} (hd : Dj cc pc (.ifnonnull off) off tgt pc') (kk : P → Go C tgt lv st V R G kc ks) : P → Go C pc lv (.ref x :: st) V R G kc ks := by
  obtain ⟨hd, ht, rfl⟩ := hd
  exact fun hP H locs ls h1 h2 h3 h4 => lv_ifnonnull h.1 h.2.1 hd ht (kk hP H locs ls h1 h2 h3 h4)
theorem g_ifnonnull_no (h : CxOK C cc ow ret) {off : Int} (hd : Dj cc pc (.ifnonnull off) off tgt pc') (kk : P → Go C pc' lv st V R G kc ks) : P → Go C pc lv (.null :: st) V R G kc ks := by
  obtain ⟨hd, ht, rfl⟩ := hd
  exact fun hP H locs ls h1 h2 h3 h4 => lv_ifnonnullN h.1 h.2.1 hd (kk hP H locs ls h1 h2 h3 h4)
def swT (lo hi dflt : Int) (offs : Array Int) (x : Int) : Option Int := if x < lo ∨ hi < x then some dflt else offs[(x - lo).toNat]?
theorem g_tsw {β : Type} {A B o : β} (h : CxOK C cc ow ret) {x : Int32} {dflt lo hi : Int} {offs : Array Int} {len : Nat} (c : Int32) (off : Int) (hd : decode cc pc = .ok (.tableswitch dflt lo hi offs, len)) (ho : swT lo hi dflt offs c.toInt = some off) (ht : (pc : Int) + off = (tgt : Int))
    (k1 : A = o → Go C tgt lv st V R G kc ks) (k2 : ¬ x = c → B = o → Go C pc lv (.int x :: st) V R G kc ks) : (if x = c then A else B) = o → Go C pc lv (.int x :: st) V R G kc ks := by
  intro hP
  by_cases q : x = c
  · subst q
    rw [if_pos rfl] at hP
    intro H locs ls h1 h2 h3 h4
    by_cases z : x.toInt < lo ∨ hi < x.toInt
    · simp only [swT, if_pos z, Option.some.injEq] at ho
      subst ho
      exact lv_tableOut h.1 h.2.1 hd z ht (k1 hP H locs ls h1 h2 h3 h4)
    · simp only [swT, if_neg z] at ho
      exact lv_tableIn h.1 h.2.1 hd (fun q => z (Or.inl q)) (fun q => z (Or.inr q)) ho ht (k1 hP H locs ls h1 h2 h3 h4)
  · rw [if_neg q] at hP
    exact k2 q hP
theorem g_tswd (h : CxOK C cc ow ret) {x : Int32} {dflt lo hi : Int} {offs : Array Int} {len : Nat} (hd : decode cc pc = .ok (.tableswitch dflt lo hi offs, len)) (hx : x.toInt < lo ∨ hi < x.toInt) (ht : (pc : Int) + dflt = (tgt : Int)) (kk : P → Go C tgt lv st V R G kc ks) : P → Go C pc lv (.int x :: st) V R G kc ks :=
  fun hP H locs ls h1 h2 h3 h4 => lv_tableOut h.1 h.2.1 hd hx ht (kk hP H locs ls h1 h2 h3 h4)
theorem g_lsw {β : Type} {A B o : β} (h : CxOK C cc ow ret) {x : Int32} {dflt : Int} {ps : Array (Int × Int)} {len : Nat} (c : Int32) (off : Int) (hd : decode cc pc = .ok (.lookupswitch dflt ps, len)) (hp : (ps.toList.zip (ps.toList.drop 1)).all (fun (a, next) => a.1 < next.1) = true) (ho : Op.lookupswitch.offset ps.toList dflt c.toInt = off) (ht : (pc : Int) + off = (tgt : Int))
    (k1 : A = o → Go C tgt lv st V R G kc ks) (k2 : ¬ x = c → B = o → Go C pc lv (.int x :: st) V R G kc ks) : (if x = c then A else B) = o → Go C pc lv (.int x :: st) V R G kc ks := by
  intro hP
  by_cases q : x = c
  · subst q
    rw [if_pos rfl] at hP
    exact fun H locs ls h1 h2 h3 h4 => lv_lookup h.1 h.2.1 hd hp ho ht (k1 hP H locs ls h1 h2 h3 h4)
  · rw [if_neg q] at hP
    exact k2 q hP
theorem g_lswd (h : CxOK C cc ow ret) {x : Int32} {dflt : Int} {ps : Array (Int × Int)} {len : Nat} (hd : decode cc pc = .ok (.lookupswitch dflt ps, len)) (hp : (ps.toList.zip (ps.toList.drop 1)).all (fun (a, next) => a.1 < next.1) = true) (ho : Op.lookupswitch.offset ps.toList dflt x.toInt = dflt) (ht : (pc : Int) + dflt = (tgt : Int)) (kk : P → Go C tgt lv st V R G kc ks) : P → Go C pc lv (.int x :: st) V R G kc ks :=
  fun hP H locs ls h1 h2 h3 h4 => lv_lookup h.1 h.2.1 hd hp ho ht (kk hP H locs ls h1 h2 h3 h4)
theorem g_bind {α β : Type} {A : Option α} {K : α → Option β} {o : β} {J : α → Prop} {X : Prop} (hr : ∀ x, J x → A = some x → X) (hj : ∀ x, K x = some o → J x) : A.bind K = some o → X := by
  intro hf
  cases hA : A with
  | none => rw [hA] at hf; cases hf
  | some x => rw [hA] at hf; exact hr x (hj x hf) hA
theorem g_letv {α γ : Type} {a : α} {K : α → γ} {o : γ} {X : α → Prop} (hj : ∀ x, K x = o → X x) : letv a K = o → X a := fun hf => hj a hf
theorem g_letJ {α γ : Type} {a : α} {K : α → γ} {o : γ} {J : α → Prop} {X : Prop} (hr : ∀ x, J x → a = x → X) (hj : ∀ x, K x = o → J x) : letv a K = o → X := fun hf => hr a (hj a hf) rfl
theorem g_jn {α γ : Type} {a : α} {K : α → γ} {o : γ} {J : α → Prop} {X : Prop} (hj : J a) (hr : ∀ j, J j → K j = o → X) : letv a K = o → X := fun hf => hr a hj hf
theorem g_onone {β : Type} {A o : β} {f : Nat → β} {X : Prop} (k : A = o → X) : ocase none A f = o → X := k
theorem g_osome {β : Type} {A o : β} {f : Nat → β} {y : Nat} {X : Prop} (k : f y = o → X) : ocase (some y) A f = o → X := k
theorem g_sub {lv' : List (Nat × Value)} (is : List Nat) (hl : lv_pick lv is = lv') (kk : P → Go C pc lv' st V R G kc ks) : P → Go C pc lv st V R G kc ks := fun hP H locs ls h1 h2 h3 h4 => kk hP H locs ls h1 h2 h3 (lv_sub h4 is hl)
def ownB (G : G2) (y t : Nat) : Bool := decide (y ∈ G.1) && G.2.1 y == t
theorem ownB_iff {y t : Nat} : ownB G y t = true ↔ own G y t := by simp [ownB, own]
theorem g_guard {γ : Type} {K : Option γ} {o : γ} {y t : Nat} {X : Prop} (kk : own G y t → K = some o → X) : (if ownB G y t then K else none) = some o → X := by
  intro hf
  by_cases q : ownB G y t = true
  · rw [if_pos q] at hf; exact kk (ownB_iff.mp q) hf
  · rw [if_neg q] at hf; cases hf
def okQ (G : G2) (q : Option Nat) (t : Nat) : Bool := match q with
  | none => true
  | some y => ownB G y t
theorem g_guardb {γ : Type} {K : Option γ} {o : γ} {c : Bool} {X : Prop} (kk : c = true → K = some o → X) : (if c then K else none) = some o → X := by
  intro hf
  by_cases q : c = true
  · rw [if_pos q] at hf; exact kk q hf
  · rw [if_neg q] at hf; cases hf
theorem g_dvI {β : Type} {K : Int32 → Option β} {o : β} (h : CxOK C cc ow ret) {x y : Int32} (hd : Dc cc pc (.idiv) 1 pc') (kk : ∀ v, K v = some o → Go C pc' lv (.int v :: st) V R G kc ks) : (dvI x y).bind K = some o → Go C pc lv (.int y :: .int x :: st) V R G kc ks := by
  obtain ⟨hd, rfl⟩ := hd
  intro hf
  by_cases q : y = 0
  · simp [dvI, q] at hf
  · simp only [dvI, if_neg q, Option.bind_some] at hf
    exact fun H locs ls h1 h2 h3 h4 => lv_idiv h.1 h.2.1 hd q (kk _ hf H locs ls h1 h2 h3 h4)
theorem g_rmI {β : Type} {K : Int32 → Option β} {o : β} (h : CxOK C cc ow ret) {x y : Int32} (hd : Dc cc pc (.irem) 1 pc') (kk : ∀ v, K v = some o → Go C pc' lv (.int v :: st) V R G kc ks) : (rmI x y).bind K = some o → Go C pc lv (.int y :: .int x :: st) V R G kc ks := by
  obtain ⟨hd, rfl⟩ := hd
  intro hf
  by_cases q : y = 0
  · simp [rmI, q] at hf
  · simp only [rmI, if_neg q, Option.bind_some] at hf
    exact fun H locs ls h1 h2 h3 h4 => lv_irem h.1 h.2.1 hd q (kk _ hf H locs ls h1 h2 h3 h4)
theorem g_getI (h : CxOK C cc ow ret) {Cn nm ds : String} {T : u_T} {N a index ci k : Nat} (hf : Fi ci k Cn T N nm ds 0) (ho : own G a (ci + 10)) (hd : Dc cc pc (.getfield index) 3 pc') (hw : Cond.fieldLink ow index Cn nm ds ∈ lw_gd) (kk : P → Go C pc' lv (.int (V a k) :: st) V R G kc ks) : P → Go C pc lv (.ref a :: st) V R G kc ks := by
  obtain ⟨hin, hc, hcn, hk, hN, hof, hT⟩ := hf
  obtain ⟨hd, rfl⟩ := hd
  intro hP H locs ls h1 h2 h3 h4
  obtain ⟨q0, hq0⟩ := wd_get (D := C.2.2.2.1) (V := V) (R := R) ho
  rw [cellE_obj ho.2 hcn] at hq0
  refine va_get (ref := Cn) (C := Cn) (T := T) (N := N) (v := .int (V a k)) h.1 h.2.1 h.2.2.2.2.1 hin h.2.2.2.1 h.2.2.2.2.2.1.1 h2.1 q0 hq0 hc k hk (by rw [hT]; exact h.2.2.2.2.1 _ hw) (fun x hx => by rw [hT] at hx ⊢; exact hx) ?_ hd (kk hP H locs ls h1 h2 h3 h4)
  rw [List.getElem?_map, List.getElem?_range (by rw [hN]; exact hk)]
  simp [fvv, hof]
theorem g_getR (h : CxOK C cc ow ret) {Cn nm ds : String} {T : u_T} {N a b index ci k f : Nat} (hf : Fi ci k Cn T N nm ds (f + 1)) (ho : own G a (ci + 10)) (hb : a + (f + 1) = b) (hd : Dc cc pc (.getfield index) 3 pc') (hw : Cond.fieldLink ow index Cn nm ds ∈ lw_gd) (kk : P → Go C pc' lv (.ref b :: st) V R G kc ks) : P → Go C pc lv (.ref a :: st) V R G kc ks := by
  obtain ⟨hin, hc, hcn, hk, hN, hof, hT⟩ := hf
  obtain ⟨hd, rfl⟩ := hd
  subst hb
  intro hP H locs ls h1 h2 h3 h4
  obtain ⟨q0, hq0⟩ := wd_get (D := C.2.2.2.1) (V := V) (R := R) ho
  rw [cellE_obj ho.2 hcn] at hq0
  refine va_get (ref := Cn) (C := Cn) (T := T) (N := N) (v := .ref (a + (f + 1))) h.1 h.2.1 h.2.2.2.2.1 hin h.2.2.2.1 h.2.2.2.2.2.1.1 h2.1 q0 hq0 hc k hk (by rw [hT]; exact h.2.2.2.2.1 _ hw) (fun x hx => by rw [hT] at hx ⊢; exact hx) ?_ hd (kk hP H locs ls h1 h2 h3 h4)
  rw [List.getElem?_map, List.getElem?_range (by rw [hN]; exact hk)]
  simp [fvv, hof]
theorem g_put0 (h : CxOK C cc ow ret) {Cn nm ds : String} {T : u_T} {N a index : Nat} {ty : FieldType} {v : Int32} (ci k : Nat) (hin : ∀ w ∈ u_ws Cn T N, w ∈ lw_gd) (ty0 : Nat → FieldType) (hty : ∀ k, k < N → parseFieldDescriptor (T k).2.2.1 = some (ty0 k)) (hnm : ∀ a, a < N → ∀ b, b < N → a ≠ b → (T a).2.1 ≠ (T b).2.1) (hc : vwCl[ci]? = some (Cn, T, N)) (ho : own G a (ci + 10)) (hcn : ci < 20) (hk : k < N) (hN : nfs ci = N) (hof : offT ci k = 0) (hT : T k = (Cn, nm, ds, false)) (hds : parseFieldDescriptor ds = some ty) (hn : narrow ty (.int v) = .int v) (hfit : fits ty (.int v) = true) (hw : Cond.fieldLink ow index Cn nm ds ∈ lw_gd) (hd : Dc cc pc (.putfield index) 3 pc') (kk : P → Go C pc' lv st (up2 V a k v) R G kc ks) : P → Go C pc lv (.int v :: .ref a :: st) V R G kc ks := by
  obtain ⟨hd, rfl⟩ := hd
  intro hP H locs ls h1 h2 h3 h4
  obtain ⟨q0, hq0⟩ := wd_get (D := C.2.2.2.1) (V := V) (R := R) ho
  have hq1 := hq0
  rw [cellE_obj ho.2 hcn] at hq1
  have hap := va_apart (own := ow) h.2.2.2.2.1 hin ty0 hty hnm h.2.2.2.2.2.1.1 hc
  obtain ⟨r, g1, cell, q1, q2, q3, q4⟩ := h2.1 q0 _ hq1
  have hr : r = (Cn, T, N) := Option.some.inj (g1.symm.trans hc)
  subst hr
  obtain ⟨hS, hfc, kC, hkC, hkind⟩ := h.2.2.2.2.2.1.1.1 ci _ hc
  obtain ⟨cf, kf, fi, f, hi, hsl⟩ := hS k hk
  have hlay := h.2.2.2.2.1 _ (hin _ (u_in_lay hk))
  unfold u_lay at hlay
  rw [if_neg (by rw [hT]; exact Bool.false_ne_true)] at hlay
  have hst := (u_facts hfc hkC (u_lays h.2.2.2.2.1 hin hk) hi).1
  have h6 := u_store (v := .int v) hfc hkC hkind hlay hi (by rw [hT]; exact hds) hn hfit
  have hlnk : (Cond.fieldLink ow index (T k).1 (T k).2.1 (T k).2.2.1).before C.1.2.2.2.2.2.2.1 C.1.2.2.2.2.1 = true := by rw [hT]; exact h.2.2.2.2.1 _ hw
  refine W.putK h.1 h.2.1 (f := f) ⟨h.2.2.2.1, hlnk, ⟨_, _, _, hi⟩, hst⟩ (by rw [q2]; exact h6) q1 q3 (by rw [hsl]; exact k2_hasslot (q4 k hk)) rfl rfl hd fun H' e1 e2 e3 => ?_
  rw [hsl] at e1 ⊢
  have hA : AX C.2.2.1 a := h1.ax a (Or.inl ho.1)
  refine kk hP H' _ ls h1 ?_ (h3.put e2 e3 hA) h4
  refine wd_set h2 ho hq0 up2_ne (fun _ _ => rfl) ?_ e2 e3
  rw [cellE_obj ho.2 hcn]
  refine ⟨_, hc, t_OB.to (V := updV (vp_V ((List.range (nfs ci)).map (fvv ci V a))) k (.int v)) ⟨_, e1, q2, q3, t_set q4 hap hk (.int v)⟩ (fun j hj => ?_)⟩
  have e5 : ∀ W : V2, vp_V ((List.range (nfs ci)).map (fvv ci W a)) j = fvv ci W a j := fun W => by
    rw [vp_V, List.getD_eq_getElem?_getD, List.getElem?_map, List.getElem?_range (by rw [hN]; exact hj)]; rfl
  rw [e5]
  simp only [updV, e5]
  by_cases hjk : j = k
  · subst hjk
    simp [fvv, hof, up2_self, va_up]
  · simp [fvv, hjk, up2_self, va_up]
theorem g_putIL {γ : Type} {K : V2 → γ} {o : γ} (h : CxOK C cc ow ret) {Cn nm ds : String} {T : u_T} {N a index ci k : Nat} {v : Int32} (hf : Fp ci k Cn T N nm ds .int) (ho : own G a (ci + 10)) (hd : Dc cc pc (.putfield index) 3 pc') (hw : Cond.fieldLink ow index Cn nm ds ∈ lw_gd) (kk : ∀ W, K W = o → Go C pc' lv st W R G kc ks) : letv (up2 V a k v) K = o → Go C pc lv (.int v :: .ref a :: st) V R G kc ks := by
  obtain ⟨⟨hin, hc, hcn, hk, hN, hof, -⟩, ⟨ty0, hty⟩, hnm, hT, hds⟩ := hf
  exact g_put0 h ci k hin ty0 hty hnm hc ho hcn hk hN hof hT hds (vp_nar_int v) rfl hw hd (kk _)
theorem g_putZL {γ : Type} {K : V2 → γ} {o : γ} (h : CxOK C cc ow ret) {Cn nm ds : String} {T : u_T} {N a index ci k : Nat} {v : Int32} (hf : Fp ci k Cn T N nm ds .boolean) (ho : own G a (ci + 10)) (hz : isb v = true) (hd : Dc cc pc (.putfield index) 3 pc') (hw : Cond.fieldLink ow index Cn nm ds ∈ lw_gd) (kk : ∀ W, K W = o → Go C pc' lv st W R G kc ks) : letv (up2 V a k v) K = o → Go C pc lv (.int v :: .ref a :: st) V R G kc ks := by
  obtain ⟨⟨hin, hc, hcn, hk, hN, hof, -⟩, ⟨ty0, hty⟩, hnm, hT, hds⟩ := hf
  exact g_put0 h ci k hin ty0 hty hnm hc ho hcn hk hN hof hT hds (by rcases isb_or hz with rfl | rfl <;> rfl) (by rcases isb_or hz with rfl | rfl <;> rfl) hw hd (kk _)
theorem g_ialdV {β : Type} {K : Int32 → Option β} {o : β} (h : CxOK C cc ow ret) {a n : Nat} {i : Int32} (ho : own G a 1) (hl : G.2.2.1 a = n) (hd : Dc cc pc (.iaload) 1 pc') (kk : ∀ v, K v = some o → Go C pc' lv (.int v :: st) V R G kc ks) : (ldI n (V a) i).bind K = some o → Go C pc lv (.int i :: .ref a :: st) V R G kc ks := by
  obtain ⟨hd, rfl⟩ := hd
  intro hf
  by_cases q : inb i n = true
  · simp only [ldI, if_pos q, Option.bind_some] at hf
    intro H locs ls h1 h2 h3 h4
    obtain ⟨q0, hq0⟩ := wd_get (D := C.2.2.2.1) (V := V) (R := R) ho
    rw [cellE_int ho.2] at hq0
    exact va_iald h.1 h.2.1 h.2.2.2.2.2.1.1 h2.1 q0 0 hq0 rfl (by rw [hl]; exact inb_iff.mp q) hd (kk _ hf H locs ls h1 h2 h3 h4)
  · simp [ldI, q] at hf
theorem g_iastV {β : Type} {K : V2 → Option β} {o : β} (h : CxOK C cc ow ret) {a n : Nat} {i x : Int32} (ho : own G a 1) (hl : G.2.2.1 a = n) (hd : Dc cc pc (.iastore) 1 pc') (kk : ∀ W, K W = some o → Go C pc' lv st W R G kc ks) : (stI n V a i x).bind K = some o → Go C pc lv (.int x :: .int i :: .ref a :: st) V R G kc ks := by
  obtain ⟨hd, rfl⟩ := hd
  intro hf
  by_cases q : inb i n = true
  · simp only [stI, if_pos q, Option.bind_some] at hf
    intro H locs ls h1 h2 h3 h4
    obtain ⟨q0, hq0⟩ := wd_get (D := C.2.2.2.1) (V := V) (R := R) ho
    have hq1 := hq0
    rw [cellE_int ho.2] at hq1
    have hin : vp_in i (G.2.2.1 a) := by rw [hl]; exact inb_iff.mp q
    refine W.iast h.1 h.2.1 (h2.1 q0 _ hq1) ((h.2.2.2.2.2.1.1.2 0 _ rfl).1 _ (fun j => .int (V a j))) (fun q => by cases q) (by show ¬ (i < 0 ∨ (arrV _ _ _).slots.size ≤ _); rw [arrV_size]; exact hin) rfl rfl hd fun H1 e z oq => ?_
    refine kk _ hf H1 _ ls h1 ?_ (h3.put z oq (h1.ax a (Or.inl ho.1))) h4
    refine wd_set h2 ho hq0 up2_ne (fun _ _ => rfl) ?_ z oq
    rw [cellE_int ho.2]
    show H1[a]? = some (vp_cell _ _)
    rw [e, vp_cell_i, vp_cell_i, arrV_store]
    congr 2
    funext j
    by_cases hj : j = i.toNatClampNeg
    · subst hj
      simp [updV, up2_self, va_up]
    · simp [updV, up2_self, va_up, hj]
  · simp [stI, q] at hf
theorem g_alenV (h : CxOK C cc ow ret) {a n : Nat} (ho : own G a 1) (hl : G.2.2.1 a = n) (hd : Dc cc pc (.arraylength) 1 pc') (kk : P → Go C pc' lv (.int (nI n) :: st) V R G kc ks) : P → Go C pc lv (.ref a :: st) V R G kc ks := by
  obtain ⟨hd, rfl⟩ := hd
  intro hP H locs ls h1 h2 h3 h4
  obtain ⟨q0, hq0⟩ := wd_get (D := C.2.2.2.1) (V := V) (R := R) ho
  rw [cellE_int ho.2, hl] at hq0
  exact va_alen h.1 h.2.1 h.2.2.2.2.2.1.1 h2.1 q0 0 hq0 rfl rfl hd (kk hP H locs ls h1 h2 h3 h4)
theorem g_aaldV {β : Type} {K : Option Nat → Option β} {o : β} (h : CxOK C cc ow ret) {a n t : Nat} {i : Int32} (ht : t = 2 ∨ t = 3 ∨ t = 4) (ho : own G a t) (hl : G.2.2.1 a = n) (hd : Dc cc pc (.aaload) 1 pc') (kk : ∀ v, K v = some o → Go C pc' lv (va_rf v :: st) V R G kc ks) : (ldR n (R a) i).bind K = some o → Go C pc lv (.int i :: .ref a :: st) V R G kc ks := by
  obtain ⟨hd, rfl⟩ := hd
  intro hf
  by_cases q : inb i n = true
  · simp only [ldR, if_pos q, Option.bind_some] at hf
    intro H locs ls h1 h2 h3 h4
    obtain ⟨q0, hq0⟩ := wd_get (D := C.2.2.2.1) (V := V) (R := R) ho
    rw [cellE_ref ho.2 (by omega) (by omega)] at hq0
    have hin : vp_in i (G.2.2.1 a) := by rw [hl]; exact inb_iff.mp q
    rcases ht with rfl | rfl | rfl
    · exact va_aldq h.1 h.2.1 h.2.2.2.2.2.1.1 h2.1 q0 1 hq0 rfl hin hd (kk _ hf H locs ls h1 h2 h3 h4)
    · exact va_aldq h.1 h.2.1 h.2.2.2.2.2.1.1 h2.1 q0 2 hq0 rfl hin hd (kk _ hf H locs ls h1 h2 h3 h4)
    · exact va_aldq h.1 h.2.1 h.2.2.2.2.2.1.1 h2.1 q0 3 hq0 rfl hin hd (kk _ hf H locs ls h1 h2 h3 h4)
  · simp [ldR, q] at hf
/-- a reference is put into a row: what is put is of the row's class, or null -/
theorem g_aastV {β : Type} {K : R2 → Option β} {o : β} (h : CxOK C cc ow ret) {a n t ci : Nat} {rq : vw_C} {i : Int32} {x : Option Nat} (ht : 1 < t ∧ t < 10) (hty : (tysW C.2.2.2.1)[t - 1]? = some (C.2.2.2.1.2.2.1 t, .object rq.1)) (hc : vwCl[ci]? = some rq) (hcn : ci < 20) (hx : okQ G x (ci + 10) = true) (ho : own G a t) (hl : G.2.2.1 a = n) (hd : Dc cc pc (.aastore) 1 pc') (kk : ∀ W, K W = some o → Go C pc' lv st V W G kc ks) : (stR n R a i x).bind K = some o → Go C pc lv (va_rf x :: .int i :: .ref a :: st) V R G kc ks := by
  obtain ⟨hd, rfl⟩ := hd
  intro hf
  by_cases q : inb i n = true
  · simp only [stR, if_pos q, Option.bind_some] at hf
    intro H locs ls h1 h2 h3 h4
    obtain ⟨q0, hq0⟩ := wd_get (D := C.2.2.2.1) (V := V) (R := R) ho
    have hq1 := hq0
    rw [cellE_ref ho.2 ht.1 ht.2] at hq1
    have hin : vp_in i (G.2.2.1 a) := by rw [hl]; exact inb_iff.mp q
    have key : ∀ (H1 : Heap), H1[a]? = some ((arrV (C.2.2.2.1.2.2.1 t) (G.2.2.1 a) (fun j => va_rf (R a j))).setSlot i.toNatClampNeg (va_rf x)) → H1.size = H.size → (∀ q : Nat, q ≠ a → H1[q]? = H[q]?) → Wd C.2.2.2.1 G V (up2 R a i.toNatClampNeg x) H1 := by
      intro H1 e z oq
      refine wd_set h2 ho hq0 (fun _ _ => rfl) up2_ne ?_ z oq
      rw [cellE_ref ho.2 ht.1 ht.2]
      show H1[a]? = some (vp_cell _ _)
      rw [e, vp_cell_q, arrV_store]
      congr 2
      funext j
      by_cases hj : j = i.toNatClampNeg
      · subst hj
        simp [updV, up2_self, va_up]
      · simp [updV, up2_self, va_up, hj]
    have hA := h1.ax a (Or.inl ho.1)
    cases x with
    | none =>
      refine va_WaastN (C := rq.1) h.1 h.2.1 (h2.1 q0 _ hq1) ((h.2.2.2.2.2.1.1.2 (t - 1) _ hty).1 _ (fun j => va_rf (R a j))) (fun h => by cases h) (by show ¬ (i < 0 ∨ (arrV _ _ _).slots.size ≤ _); rw [arrV_size]; exact hin) rfl rfl hd fun H1 e z oq => ?_
      exact kk _ hf H1 _ ls h1 (key H1 e z oq) (h3.put z oq hA) h4
    | some v =>
      have hlt : i.toNatClampNeg < G.2.2.1 a := Nat.not_le.mp fun q => hin (Or.inr q)
      have h0 : ¬ i < 0 := fun q => hin (Or.inl q)
      have hov : own G v (ci + 10) := ownB_iff.mp hx
      obtain ⟨qk, hqk⟩ := wd_get (D := C.2.2.2.1) (V := V) (R := R) hov
      rw [cellE_obj hov.2 hcn] at hqk
      obtain ⟨r', hr', cellV, g1, g2, g3, -⟩ := h2.1 qk _ hqk
      have hcls := (h.2.2.2.2.2.1.1.1 ci rq hc).2
      obtain ⟨kA, comp, k1, k2, k3, -⟩ := (h.2.2.2.2.2.1.1.2 (t - 1) _ hty).2
      have hcomp : comp = C.2.2.2.1.1 ci := Option.some.inj (k3.symm.trans hcls.1)
      subst hcomp
      obtain ⟨kC, hkC, -⟩ := hcls.2
      refine W.aast h.1 h.2.1 (h2.1 q0 _ hq1) (fun q h => by cases h) (fun h => by cases h) k1 k2 rfl hkC ⟨h0, by show _ < (arrV _ _ _).slots.size; rw [arrV_size]; exact hlt⟩ g1 (fun q h => by rw [g3] at h; cases h) (by rw [g2]; exact hkC) (by rw [g2]; exact va_assign hcls) rfl rfl hd fun H1 e z oq => ?_
      exact kk _ hf H1 _ ls h1 (key H1 e z oq) (h3.put z oq hA) h4
  · simp [stR, q] at hf
theorem g_getS0 (h : CxOK C cc ow ret) {index : Nat} (hd : Dc cc pc (.getstatic index) 3 pc') (hw : Cond.fieldLink ow index "IronedFlat" "ABOVE" "[I" ∈ lw_gd) (kk : P → Go C pc' lv (.ref (C.2.2.2.1.2.2.2.2 0) :: st) V R G kc ks) : P → Go C pc lv st V R G kc ks := by
  obtain ⟨hd, rfl⟩ := hd
  exact fun hP H locs ls h1 h2 h3 h4 => va_gets h.1 h.2.1 h.2.2.2.2.2.1.2.1.1 (h3.wk h.2.2.2.2.2.2.2.2) h.2.2.2.1 (h.2.2.2.2.1 _ hw) (fun _ q => q) hd (kk hP H locs ls h1 h2 h3 h4)
theorem g_getS1 (h : CxOK C cc ow ret) {index : Nat} (hd : Dc cc pc (.getstatic index) 3 pc') (hw : Cond.fieldLink ow index "IronedFlat$Actor" "BODY" "[I" ∈ lw_gd) (kk : P → Go C pc' lv (.ref (C.2.2.2.1.2.2.2.2 1) :: st) V R G kc ks) : P → Go C pc lv st V R G kc ks := by
  obtain ⟨hd, rfl⟩ := hd
  exact fun hP H locs ls h1 h2 h3 h4 => va_gets h.1 h.2.1 h.2.2.2.2.2.1.2.1.2.2.1 (h3.wk h.2.2.2.2.2.2.2.2) h.2.2.2.1 (h.2.2.2.2.1 _ hw) (fun _ q => q) hd (kk hP H locs ls h1 h2 h3 h4)
theorem g_ialdT {β : Type} {K : Int32 → Option β} {o : β} (h : CxOK C cc ow ret) {t n : Nat} {f : Nat → Int32} {i : Int32} (hT : va_T .int t n (fun j => .int (f j)) (fun q => C.2.2.2.1.2.2.2.1 ≤ q) C.1.2.2.2.2.1 C.1.2.2.2.2.1.heap) (hn : n < 2 ^ 31) (hd : Dc cc pc (.iaload) 1 pc') (kk : ∀ v, K v = some o → Go C pc' lv (.int v :: st) V R G kc ks) : (ldI n f i).bind K = some o → Go C pc lv (.int i :: .ref t :: st) V R G kc ks := by
  obtain ⟨hd, rfl⟩ := hd
  intro hf
  by_cases q : inb i n = true
  · simp only [ldI, if_pos q, Option.bind_some] at hf
    intro H locs ls h1 h2 h3 h4
    have hin : vp_in i n := inb_iff.mp q
    obtain ⟨cell, c1, c2, c3, c4, c5, c6, c7⟩ := hT.kept (h3.wk h.2.2.2.2.2.2.2.2).2.1
    have hlt : i.toNatClampNeg < n := Nat.not_le.mp fun q => hin (Or.inr q)
    exact W.iald (v := .int (f i.toNatClampNeg)) h.1 h.2.1 c1 c2 c3 (fun q => q.elim (fun z => hin (Or.inl z)) (fun z => by omega)) (c6 _ hlt) rfl rfl hd (kk _ hf H locs ls h1 h2 h3 h4)
  · simp [ldI, q] at hf
theorem g_alenT (h : CxOK C cc ow ret) {t n : Nat} {f : Nat → Value} (hT : va_T .int t n f (fun q => C.2.2.2.1.2.2.2.1 ≤ q) C.1.2.2.2.2.1 C.1.2.2.2.2.1.heap) (hd : Dc cc pc (.arraylength) 1 pc') (kk : P → Go C pc' lv (.int (nI n) :: st) V R G kc ks) : P → Go C pc lv (.ref t :: st) V R G kc ks := by
  obtain ⟨hd, rfl⟩ := hd
  intro hP H locs ls h1 h2 h3 h4
  obtain ⟨cell, c1, c2, c3, c4, c5, c6, c7⟩ := hT.kept (h3.wk h.2.2.2.2.2.2.2.2).2.1
  exact W.alen h.1 h.2.1 c1 c2 c5 rfl rfl hd (kk hP H locs ls h1 h2 h3 h4)
theorem g_iret {x : Int32} (h : CxOK C cc ow (some .int)) (hT : (some (Value.int x), V, R, G) = (C.2.1.1, C.2.1.2.1, C.2.1.2.2.1, C.2.1.2.2.2.1)) (hkc : kc ≤ C.2.1.2.2.2.2.1) (hks : ks ≤ C.2.1.2.2.2.2.2) (hd : Dc cc pc (.ireturn) 1 pc') : Go C pc lv [.int x] V R G kc ks := by
  obtain ⟨hd, -⟩ := hd
  intro H locs ls h1 h2 h3 h4
  simp only [Prod.mk.injEq] at hT
  obtain ⟨e1, e2, e3, e4⟩ := hT
  refine W.widen hkc hks ?_
  exact W.iret h.1 h.2.1 h.2.2.2.2.2.2.1 (fun t ht hW => ⟨by rw [e1], by rw [← e2, ← e3, ← e4, ht]; exact h2, h3.F ht⟩) h3.2.2 hd (hlocks := h.2.2.2.2.2.2.2.1)
theorem g_zret {x : Int32} (h : CxOK C cc ow (some .boolean)) (hx : isb x = true) (hT : (some (Value.int x), V, R, G) = (C.2.1.1, C.2.1.2.1, C.2.1.2.2.1, C.2.1.2.2.2.1)) (hkc : kc ≤ C.2.1.2.2.2.2.1) (hks : ks ≤ C.2.1.2.2.2.2.2) (hd : Dc cc pc (.ireturn) 1 pc') : Go C pc lv [.int x] V R G kc ks := by
  obtain ⟨hd, -⟩ := hd
  intro H locs ls h1 h2 h3 h4
  simp only [Prod.mk.injEq] at hT
  obtain ⟨e1, e2, e3, e4⟩ := hT
  refine W.widen hkc hks ?_
  exact W.zret h.1 h.2.1 h.2.2.2.2.2.2.1 (by rcases isb_or hx with rfl | rfl <;> rfl) (fun t ht hW => ⟨by rw [e1], by rw [← e2, ← e3, ← e4, ht]; exact h2, h3.F ht⟩) h3.2.2 hd (hlocks := h.2.2.2.2.2.2.2.1)
theorem g_vret (h : CxOK C cc ow none) (hT : (none, V, R, G) = (C.2.1.1, C.2.1.2.1, C.2.1.2.2.1, C.2.1.2.2.2.1)) (hkc : kc ≤ C.2.1.2.2.2.2.1) (hks : ks ≤ C.2.1.2.2.2.2.2) (hd : Dc cc pc (.return_) 1 pc') : Go C pc lv [] V R G kc ks := by
  obtain ⟨hd, -⟩ := hd
  intro H locs ls h1 h2 h3 h4
  simp only [Prod.mk.injEq] at hT
  obtain ⟨e1, e2, e3, e4⟩ := hT
  refine W.widen hkc hks ?_
  exact W.vret h.1 h.2.1 h.2.2.2.2.2.2.1 (fun t ht hW => ⟨by rw [e1], by rw [← e2, ← e3, ← e4, ht]; exact h2, h3.F ht⟩) h3.2.2 hd (hlocks := h.2.2.2.2.2.2.2.1)
theorem g_iret_i {x o : Int32} (h : CxOK C cc ow (some .int)) (hT : C.2.1 = (some (.int o), V, R, G, 0, 0)) (hd : Dc cc pc (.ireturn) 1 pc') : some x = some o → Go C pc lv [.int x] V R G 0 0 := by
  intro e; cases e
  exact g_iret h (by rw [hT]) (Nat.zero_le _) (Nat.zero_le _) hd
theorem g_iret_iV {x : Int32} {o : Int32 × V2} (h : CxOK C cc ow (some .int)) (hT : C.2.1 = (some (.int o.1), o.2, R, G, 0, 0)) (hd : Dc cc pc (.ireturn) 1 pc') : some (x, V) = some o → Go C pc lv [.int x] V R G 0 0 := by
  intro e; cases e
  exact g_iret h (by rw [hT]) (Nat.zero_le _) (Nat.zero_le _) hd
theorem g_iret_iR {x : Int32} {o : Int32 × V2 × R2} (h : CxOK C cc ow (some .int)) (hT : C.2.1 = (some (.int o.1), o.2.1, o.2.2, G, 0, 0)) (hd : Dc cc pc (.ireturn) 1 pc') : some (x, V, R) = some o → Go C pc lv [.int x] V R G 0 0 := by
  intro e; cases e
  exact g_iret h (by rw [hT]) (Nat.zero_le _) (Nat.zero_le _) hd
theorem g_zret_i {x o : Int32} (h : CxOK C cc ow (some .boolean)) (hx : isb x = true) (hT : C.2.1 = (some (.int o), V, R, G, 0, 0)) (hd : Dc cc pc (.ireturn) 1 pc') : some x = some o → Go C pc lv [.int x] V R G 0 0 := by
  intro e; cases e
  exact g_zret h hx (by rw [hT]) (Nat.zero_le _) (Nat.zero_le _) hd
theorem g_zret_iV {x : Int32} {o : Int32 × V2} (h : CxOK C cc ow (some .boolean)) (hx : isb x = true) (hT : C.2.1 = (some (.int o.1), o.2, R, G, 0, 0)) (hd : Dc cc pc (.ireturn) 1 pc') : some (x, V) = some o → Go C pc lv [.int x] V R G 0 0 := by
  intro e; cases e
  exact g_zret h hx (by rw [hT]) (Nat.zero_le _) (Nat.zero_le _) hd
theorem g_vret_vV {o : V2} (h : CxOK C cc ow none) (hT : C.2.1 = (none, o, R, G, 0, 0)) (hd : Dc cc pc (.return_) 1 pc') : some V = some o → Go C pc lv [] V R G 0 0 := by
  intro e; cases e
  exact g_vret h (by rw [hT]) (Nat.zero_le _) (Nat.zero_le _) hd
theorem g_vret_vR {o : V2 × R2} (h : CxOK C cc ow none) (hT : C.2.1 = (none, o.1, o.2, G, 0, 0)) (hd : Dc cc pc (.return_) 1 pc') : some (V, R) = some o → Go C pc lv [] V R G 0 0 := by
  intro e; cases e
  exact g_vret h (by rw [hT]) (Nat.zero_le _) (Nat.zero_le _) hd
end GR
