/-! The law's own walk: its heap is told by a row X -/
def WatL (C : Cx) (H : Heap) (locs : List Loc) (kc ks : Nat) (g : JFrame) : Prop := W C.1.1 C.1.2.1 C.1.2.2.1 C.1.2.2.2.1 C.1.2.2.2.2.1 C.1.2.2.2.2.2.1 C.1.2.2.2.2.2.2.1 C.1.2.2.2.2.2.2.2.1 C.1.2.2.2.2.2.2.2.2.1 C.1.2.2.2.2.2.2.2.2.2 H locs kc ks (lw_Z C.1.2.2.2.2.2.2.2.1 C.1.2.2.2.2.2.2.1 C.1.2.2.2.2.1) g
def GoL (C : Cx) (pc : Nat) (lv : List (Nat × Value)) (st : List Value) (X : Heap → Prop) (kc ks : Nat) : Prop :=
  ∀ (H : Heap) (locs : List Loc) (ls : Array Slot), True → X H → va_S (AX C.2.2.1) C.1.2.2.2.2.1.heap H locs → lv_has ls C.2.2.2.2 lv → WatL C H locs kc ks (F0 C.1.2.2.2.2.2.1 pc ls st)
section GL
variable {C : Cx} {cc : ByteArray} {ow : String} {ret : Option FieldType} {pc pc' tgt n0 : Nat} {lv : List (Nat × Value)} {st st0 : List Value} {X : Heap → Prop} {kc ks : Nat} {P : Prop}
theorem gl_iload_n (h : CxOK C cc ow ret) {k : Fin 4} {i j : Nat} {x : Int32}  (hd : Dc cc pc (.iload_n k) 1 pc') (hi : (k : Nat) = i) (hk : lv[j]? = some (i, .int x)) (kk : P → GoL C pc' lv (.int x :: st) X kc ks) : P → GoL C pc lv st X kc ks := by
  obtain ⟨hd, rfl⟩ := hd
  exact fun hP H locs ls h1 h2 h3 h4 => lv_iload_n h.1 h.2.1 hd hi (lv_at h4 j hk) (kk hP H locs ls h1 h2 h3 h4)
theorem gl_aload_n (h : CxOK C cc ow ret) {k : Fin 4} {i j : Nat} {x : Nat}  (hd : Dc cc pc (.aload_n k) 1 pc') (hi : (k : Nat) = i) (hk : lv[j]? = some (i, .ref x)) (kk : P → GoL C pc' lv (.ref x :: st) X kc ks) : P → GoL C pc lv st X kc ks := by
  obtain ⟨hd, rfl⟩ := hd
  exact fun hP H locs ls h1 h2 h3 h4 => lv_aload_n h.1 h.2.1 hd hi (lv_at h4 j hk) (kk hP H locs ls h1 h2 h3 h4)
theorem gl_iconst (h : CxOK C cc ow ret) {n : Int} {v : Int32}  (hd : Dc cc pc (.iconst n) 1 pc') (hv : Int32.ofInt n = v) (kk : P → GoL C pc' lv (.int v :: st) X kc ks) : P → GoL C pc lv st X kc ks := by
  obtain ⟨hd, rfl⟩ := hd
  exact fun hP H locs ls h1 h2 h3 h4 => lv_iconst h.1 h.2.1 hd hv (kk hP H locs ls h1 h2 h3 h4)
theorem gl_bipush (h : CxOK C cc ow ret) {n : Int} {v : Int32}  (hd : Dc cc pc (.bipush n) 2 pc') (hv : (Int8.ofInt n).toInt32 = v) (kk : P → GoL C pc' lv (.int v :: st) X kc ks) : P → GoL C pc lv st X kc ks := by
  obtain ⟨hd, rfl⟩ := hd
  exact fun hP H locs ls h1 h2 h3 h4 => lv_bipush h.1 h.2.1 hd hv (kk hP H locs ls h1 h2 h3 h4)
theorem gl_iadd (h : CxOK C cc ow ret) {x y : Int32}  (hd : Dc cc pc (.iadd) 1 pc')  (kk : P → GoL C pc' lv (.int (x + y) :: st) X kc ks) : P → GoL C pc lv (.int y :: .int x :: st) X kc ks := by
  obtain ⟨hd, rfl⟩ := hd
  exact fun hP H locs ls h1 h2 h3 h4 => lv_iadd h.1 h.2.1 hd (kk hP H locs ls h1 h2 h3 h4)
theorem gl_isub (h : CxOK C cc ow ret) {x y : Int32}  (hd : Dc cc pc (.isub) 1 pc')  (kk : P → GoL C pc' lv (.int (x - y) :: st) X kc ks) : P → GoL C pc lv (.int y :: .int x :: st) X kc ks := by
  obtain ⟨hd, rfl⟩ := hd
  exact fun hP H locs ls h1 h2 h3 h4 => lv_isub h.1 h.2.1 hd (kk hP H locs ls h1 h2 h3 h4)
theorem gl_iand (h : CxOK C cc ow ret) {x y : Int32}  (hd : Dc cc pc (.iand) 1 pc')  (kk : P → GoL C pc' lv (.int (x &&& y) :: st) X kc ks) : P → GoL C pc lv (.int y :: .int x :: st) X kc ks := by
  obtain ⟨hd, rfl⟩ := hd
  exact fun hP H locs ls h1 h2 h3 h4 => lv_iand h.1 h.2.1 hd (kk hP H locs ls h1 h2 h3 h4)
theorem gl_goto (h : CxOK C cc ow ret) {off : Int} (hd : Dj cc pc (.goto off) off tgt pc') (kk : P → GoL C tgt lv st X kc ks) : P → GoL C pc lv st X kc ks := fun hP H locs ls h1 h2 h3 h4 => lv_goto h.1 h.2.1 hd.1 hd.2.1 (kk hP H locs ls h1 h2 h3 h4)
theorem gl_iinc (h : CxOK C cc ow ret) {i j : Nat} {n : Int} {x v : Int32} {lv' : List (Nat × Value)} (hd : Dc cc pc (.iinc i n) 3 pc') (hk : lv[j]? = some (i, .int x)) (hv : x + Int32.ofInt n = v) (hn : i < n0) (hC : C.2.2.2.2 = n0) (hl : (i, Value.int v) :: lv.filter (fun q => !(q.1 == i) && !(q.1 + 1 == i && q.2.category == 2)) = lv') (kk : P → GoL C pc' lv' st X kc ks) : P → GoL C pc lv st X kc ks := by
  obtain ⟨hd, rfl⟩ := hd
  exact fun hP H locs ls h1 h2 h3 h4 => lv_iinc h.1 h.2.1 hd h4 hk hv (by rw [hC]; exact hn) hl (fun ls h4 => kk hP H locs ls h1 h2 h3 h4)
theorem gl_istore_n (h : CxOK C cc ow ret) {k : Fin 4} {i : Nat} {x : Int32} {lv' : List (Nat × Value)}  (hd : Dc cc pc (.istore_n k) 1 pc') (hi : (k : Nat) = i) (hn : i < n0) (hC : C.2.2.2.2 = n0) (hl : (i, Value.int x) :: lv.filter (fun q => !(q.1 == i) && !(q.1 + 1 == i && q.2.category == 2)) = lv') (kk : P → GoL C pc' lv' st X kc ks) : P → GoL C pc lv (.int x :: st) X kc ks := by
  obtain ⟨hd, rfl⟩ := hd
  exact fun hP H locs ls h1 h2 h3 h4 => lv_istore_n h.1 h.2.1 hd hi h4 (by rw [hC]; exact hn) hl (fun ls h4 => kk hP H locs ls h1 h2 h3 h4)
theorem gl_astore_n (h : CxOK C cc ow ret) {k : Fin 4} {i : Nat} {x : Nat} {lv' : List (Nat × Value)}  (hd : Dc cc pc (.astore_n k) 1 pc') (hi : (k : Nat) = i) (hn : i < n0) (hC : C.2.2.2.2 = n0) (hl : (i, Value.ref x) :: lv.filter (fun q => !(q.1 == i) && !(q.1 + 1 == i && q.2.category == 2)) = lv') (kk : P → GoL C pc' lv' st X kc ks) : P → GoL C pc lv (.ref x :: st) X kc ks := by
  obtain ⟨hd, rfl⟩ := hd
  exact fun hP H locs ls h1 h2 h3 h4 => lv_astore_n h.1 h.2.1 hd hi h4 (by rw [hC]; exact hn) hl (fun ls h4 => kk hP H locs ls h1 h2 h3 h4)
theorem gl_dup (h : CxOK C cc ow ret) {va : Value}  (hd : Dc cc pc (.dup) 1 pc') (hva : va.category = 1) (kk : P → GoL C pc' lv (va :: va :: st) X kc ks) : P → GoL C pc lv (va :: st) X kc ks := by
  obtain ⟨hd, rfl⟩ := hd
  exact fun hP H locs ls h1 h2 h3 h4 => lv_dup h.1 h.2.1 hd hva (kk hP H locs ls h1 h2 h3 h4)
theorem gl_i2l (h : CxOK C cc ow ret) {x : Int32}  (hd : Dc cc pc (.i2l) 1 pc')  (kk : P → GoL C pc' lv (.long x.toInt64 :: st) X kc ks) : P → GoL C pc lv (.int x :: st) X kc ks := by
  obtain ⟨hd, rfl⟩ := hd
  exact fun hP H locs ls h1 h2 h3 h4 => lv_i2l h.1 h.2.1 hd rfl (kk hP H locs ls h1 h2 h3 h4)
theorem gl_lshl (h : CxOK C cc ow ret) {x : Int64} {y : Int32}  (hd : Dc cc pc (.lshl) 1 pc')  (kk : P → GoL C pc' lv (.long (x <<< (y.toInt64 &&& 63)) :: st) X kc ks) : P → GoL C pc lv (.int y :: .long x :: st) X kc ks := by
  obtain ⟨hd, rfl⟩ := hd
  exact fun hP H locs ls h1 h2 h3 h4 => lv_lshl h.1 h.2.1 hd rfl (kk hP H locs ls h1 h2 h3 h4)
theorem gl_ldc2 (h : CxOK C cc ow ret) {index : Nat} {v : Int64}  (hd : Dc cc pc (.ldc2_w index) 3 pc') (hw : Cond.constantLong ow index v ∈ lw_gd) (kk : P → GoL C pc' lv (.long v :: st) X kc ks) : P → GoL C pc lv st X kc ks := by
  obtain ⟨hd, rfl⟩ := hd
  exact fun hP H locs ls h1 h2 h3 h4 => lv_ldc2 h.1 h.2.1 h.2.2.2.1 (h.2.2.2.2.1 _ hw) hd (kk hP H locs ls h1 h2 h3 h4)
theorem gl_land (h : CxOK C cc ow ret) {x y : Int64}  (hd : Dc cc pc (.land) 1 pc')  (kk : P → GoL C pc' lv (.long (x &&& y) :: st) X kc ks) : P → GoL C pc lv (.long y :: .long x :: st) X kc ks := by
  obtain ⟨hd, rfl⟩ := hd
  exact fun hP H locs ls h1 h2 h3 h4 => lv_land h.1 h.2.1 hd (kk hP H locs ls h1 h2 h3 h4)
theorem gl_lor (h : CxOK C cc ow ret) {x y : Int64}  (hd : Dc cc pc (.lor) 1 pc')  (kk : P → GoL C pc' lv (.long (x ||| y) :: st) X kc ks) : P → GoL C pc lv (.long y :: .long x :: st) X kc ks := by
  obtain ⟨hd, rfl⟩ := hd
  exact fun hP H locs ls h1 h2 h3 h4 => lv_lor h.1 h.2.1 hd (kk hP H locs ls h1 h2 h3 h4)
theorem gl_tsw {β : Type} {A B o : β} (h : CxOK C cc ow ret) {x : Int32} {dflt lo hi : Int} {offs : Array Int} {len : Nat} (c : Int32) (off : Int) (hd : decode cc pc = .ok (.tableswitch dflt lo hi offs, len)) (ho : swT lo hi dflt offs c.toInt = some off) (ht : (pc : Int) + off = (tgt : Int))
    (k1 : A = o → GoL C tgt lv st X kc ks) (k2 : ¬ x = c → B = o → GoL C pc lv (.int x :: st) X kc ks) : (if x = c then A else B) = o → GoL C pc lv (.int x :: st) X kc ks := by
  intro hP
  by_cases q : x = c
  · subst q
    rw [if_pos rfl] at hP
    intro H locs ls h1 h2 h3 h4
    by_cases z : x.toInt < lo ∨ hi < x.toInt
    · simp only [swT, if_pos z, Option.some.injEq] at ho
      subst ho
      exact lv_tableOut h.1 h.2.1 hd z ht (k1 hP H locs ls h1 h2 h3 h4)
    · simp only [swT, if_neg z] at ho
      exact lv_tableIn h.1 h.2.1 hd (fun q => z (Or.inl q)) (fun q => z (Or.inr q)) ho ht (k1 hP H locs ls h1 h2 h3 h4)
  · rw [if_neg q] at hP
    exact k2 q hP
theorem gl_tswd (h : CxOK C cc ow ret) {x : Int32} {dflt lo hi : Int} {offs : Array Int} {len : Nat} (hd : decode cc pc = .ok (.tableswitch dflt lo hi offs, len)) (hx : x.toInt < lo ∨ hi < x.toInt) (ht : (pc : Int) + dflt = (tgt : Int)) (kk : P → GoL C tgt lv st X kc ks) : P → GoL C pc lv (.int x :: st) X kc ks :=
  fun hP H locs ls h1 h2 h3 h4 => lv_tableOut h.1 h.2.1 hd hx ht (kk hP H locs ls h1 h2 h3 h4)
theorem gl_sub {lv' : List (Nat × Value)} (is : List Nat) (hl : lv_pick lv is = lv') (kk : P → GoL C pc lv' st X kc ks) : P → GoL C pc lv st X kc ks := fun hP H locs ls h1 h2 h3 h4 => kk hP H locs ls h1 h2 h3 (lv_sub h4 is hl)
theorem gl_gt (h : CxOK C cc ow ret) {x y : Int32} {off : Int} (hd : Dj cc pc (.if_icmp .gt off) off tgt pc') (k1 : y < x → P → GoL C tgt lv st X kc ks) (k2 : ¬ y < x → P → GoL C pc' lv st X kc ks) : P → GoL C pc lv (.int y :: .int x :: st) X kc ks := by
  obtain ⟨hd, ht, rfl⟩ := hd
  exact fun hP H locs ls h1 h2 h3 h4 => lv_icmp_gt h.1 h.2.1 hd ht (fun q => k1 q hP H locs ls h1 h2 h3 h4) (fun q => k2 q hP H locs ls h1 h2 h3 h4)
theorem gl_eqT (h : CxOK C cc ow ret) {x y : Int32} {off : Int} (hd : Dj cc pc (.if_icmp .eq off) off tgt pc') (hx : x = y) (kk : P → GoL C tgt lv st X kc ks) : P → GoL C pc lv (.int y :: .int x :: st) X kc ks := by
  obtain ⟨hd, ht, rfl⟩ := hd
  exact fun hP H locs ls h1 h2 h3 h4 => lv_icmp_eq h.1 h.2.1 hd ht (fun _ => kk hP H locs ls h1 h2 h3 h4) (fun q => absurd hx q)
theorem gl_widen {kc' ks' : Nat} (h1 : kc ≤ kc') (h2 : ks ≤ ks') (kk : P → GoL C pc lv st X kc' ks') : P → GoL C pc lv st X kc ks := fun hP H locs ls g1 g2 g3 g4 => W.widen h1 h2 (kk hP H locs ls g1 g2 g3 g4)
theorem gl_have {Y : Heap → Prop} (hXY : ∀ H, X H → Y H) (kk : P → GoL C pc lv st Y kc ks) : P → GoL C pc lv st X kc ks := fun hP H locs ls g1 g2 g3 g4 => kk hP H locs ls g1 (hXY H g2) g3 g4
theorem gl_fact {Q : Prop} (hXQ : ∀ H, X H → Q) (kk : Q → P → GoL C pc lv st X kc ks) : P → GoL C pc lv st X kc ks := fun hP H locs ls g1 g2 g3 g4 => kk (hXQ H g2) hP H locs ls g1 g2 g3 g4
/-- the script: L ints xs at the cell b, which no one writes -/
def Scr (C : Cx) (b L : Nat) (xs : Nat → Int32) : Prop := va_X b L xs C.1.2.2.2.2.1 C.1.2.2.2.2.1.heap ∧ b < C.1.2.2.2.2.1.heap.size ∧ ¬ AX C.2.2.1 b
theorem gl_sld {b L : Nat} {xs : Nat → Int32} (h : CxOK C cc ow ret) (hS : Scr C b L xs) {i : Int32} (hin : vp_in i L) (hd : Dc cc pc (.iaload) 1 pc') (kk : P → GoL C pc' lv (.int (xs i.toNatClampNeg) :: st) X kc ks) : P → GoL C pc lv (.int i :: .ref b :: st) X kc ks := by
  obtain ⟨hd, rfl⟩ := hd
  exact fun hP H locs ls h1 h2 h3 h4 => va_sld h.1 h.2.1 hS.1 hS.2.1 hS.2.2 h3 hin hd (kk hP H locs ls h1 h2 h3 h4)
theorem gl_slen {b L : Nat} {xs : Nat → Int32} (h : CxOK C cc ow ret) (hS : Scr C b L xs) (hd : Dc cc pc (.arraylength) 1 pc') (kk : P → GoL C pc' lv (.int (Int32.ofNat L) :: st) X kc ks) : P → GoL C pc lv (.ref b :: st) X kc ks := by
  obtain ⟨hd, rfl⟩ := hd
  exact fun hP H locs ls h1 h2 h3 h4 => va_slen h.1 h.2.1 hS.1 hS.2.1 hS.2.2 h3 hd (kk hP H locs ls h1 h2 h3 h4)
/-- a world stays where none of its cells is written -/
theorem wd_keep {D : Dx} {G : G2} {V : V2} {R : R2} {H H1 : Heap} {n1 : Nat} (h : Wd D G V R H) (hx : ∀ x, x ∈ G.1 → H1[x]? = H[x]?) (hz : H1.size = n1) (hn : G.2.2.2 ≤ n1) : Wd D (G.1, G.2.1, G.2.2.1, n1) V R H1 := by
  obtain ⟨hP, hD, h3, h4⟩ := h
  refine ⟨?_, hD, hz, Nat.le_trans h4 hn⟩
  intro k q hk
  have hk' : (wsW D G V R)[k]? = some q := hk
  obtain ⟨x, hx1, rfl⟩ := List.mem_map.mp (List.mem_of_getElem? hk')
  exact (hP k _ hk').kept (hx x hx1)
/-- a world parts in two -/
theorem wd_left {D : Dx} {A B : List Nat} {kd ln : Nat → Nat} {n : Nat} {V : V2} {R : R2} {H : Heap} (h : Wd D (A ++ B, kd, ln, n) V R H) : Wd D (A, kd, ln, n) V R H := by
  obtain ⟨hP, hD, h3, h4⟩ := h
  have key : ∀ (k : Nat) (q : Nat × va_E), (wsW D (A, kd, ln, n) V R)[k]? = some q → (wsW D (A ++ B, kd, ln, n) V R)[k]? = some q := by
    intro k q hk
    show (List.map _ (A ++ B))[k]? = some q
    rw [List.map_append]
    have hk' : (List.map (fun a => (a, cellE D (A ++ B, kd, ln, n) V R a)) A)[k]? = some q := hk
    obtain ⟨hlt, -⟩ := List.getElem?_eq_some_iff.mp hk'
    rw [List.getElem?_append_left hlt]
    exact hk'
  exact ⟨fun k q hk => hP k q (key k q hk), ⟨fun i j p q hi hj e => hD.1 i j p q (key i p hi) (key j q hj) e, fun k q hk => hD.2 k q (key k q hk)⟩, h3, h4⟩
theorem wd_right {D : Dx} {A B : List Nat} {kd ln : Nat → Nat} {n : Nat} {V : V2} {R : R2} {H : Heap} (h : Wd D (A ++ B, kd, ln, n) V R H) : Wd D (B, kd, ln, n) V R H := by
  obtain ⟨hP, hD, h3, h4⟩ := h
  have key : ∀ (k : Nat) (q : Nat × va_E), (wsW D (B, kd, ln, n) V R)[k]? = some q → (wsW D (A ++ B, kd, ln, n) V R)[A.length + k]? = some q := by
    intro k q hk
    show (List.map _ (A ++ B))[A.length + k]? = some q
    rw [List.map_append, List.getElem?_append_right (by rw [List.length_map]; omega), List.length_map, Nat.add_sub_cancel_left]
    exact hk
  exact ⟨fun k q hk => hP _ q (key k q hk), ⟨fun i j p q hi hj e => by have := hD.1 _ _ p q (key i p hi) (key j q hj) e; omega, fun k q hk => hD.2 _ q (key k q hk)⟩, h3, h4⟩
def mG (Gm : G2) (n : Nat) : G2 := (Gm.1, Gm.2.1, Gm.2.2.1, n)
/-- two worlds in one heap: the class's, the reference's -/
def XL (D : Dx) (Gm : G2) (Rm : R2) (G : G2) (V : V2) (R : R2) (U : V2) : Heap → Prop := fun H => Wd D G V R H ∧ Wd D (mG Gm G.2.2.2) U Rm H
theorem gl_after {H : Heap} {locs : List Loc} {ls : Array Slot} {D : Dx} {G : G2} {T : Tg} {a : Array Value} {mc ms : Nat} {Y : Heap → Prop} (hA : ∀ q, AX G q → AX C.2.2.1 q) (h3 : va_S (AX C.2.2.1) C.1.2.2.2.2.1.heap H locs) (h4 : lv_has ls C.2.2.2.2 lv)
    (hr : va_Run C.1.1 C.1.2.1 C.1.2.2.1 C.1.2.2.2.1 C.1.2.2.2.2.1 C.1.2.2.2.2.2.1 C.1.2.2.2.2.2.2.1 C.1.2.2.2.2.2.2.2.1 C.1.2.2.2.2.2.2.2.2.1 C.1.2.2.2.2.2.2.2.2.2 H locs kc ks mc ms (F0 C.1.2.2.2.2.2.1 pc ls st0) st (QT D (AX G) T a) (AX G))
    (hY : ∀ H1 : Heap, Wd D T.2.2.2.1 T.2.1 T.2.2.1 H1 → H.size ≤ H1.size → (∀ q : Nat, q < H.size → ¬ AX G q → H1[q]? = H[q]?) → Y H1)
    (kk : GoL C (pc + 3) lv (T.1.toList ++ st) Y (kc + mc) (ks + ms)) : WatL C H locs kc ks (F0 C.1.2.2.2.2.2.1 pc ls st0) := by
  intro T0 hT Z
  obtain ⟨v, st₀, t, T', L, h0, X', hL, e1, e2, ⟨hv, hw, hz, hk⟩, stp⟩ := hr T0 hT Z
  cases hv
  rw [h0] at hz hk
  have hS : va_S (AX C.2.2.1) C.1.2.2.2.2.1.heap T'.heap (locs ++ L) := ⟨Nat.le_trans h3.1 (by rw [e1]; exact hz), fun q g1 g2 => by
      rw [e1, hk q (Nat.lt_of_lt_of_le g1 h3.1) (fun z => g2 (hA q z))]; exact h3.2.1 q g1 g2, fun q hq => by
      rcases List.mem_append.mp hq with g | g
      · exact h3.2.2 q g
      · exact hA _ (hL q g)⟩
  obtain ⟨t2, a1, b1⟩ := kk T'.heap (locs ++ L) ls trivial (by rw [e1]; exact hY t.heap hw hz hk) hS h4 T' rfl X'
  exact ⟨t2, stp t2 a1, b1⟩
theorem gl_cb {y : MethodName} {bytes : ByteArray} {nL n n' mc ms index : Nat} {rt : Option FieldType} (h : CxOK C cc ow ret) (mw : Mw y bytes nL rt n) (hR : C.1.2.2.2.1 = room_1) (hn : n' ≤ 1000) (hl : (Cond.methodLink ow index y).before C.1.2.2.2.2.2.2.1 C.1.2.2.2.2.1 = true) :
    CallB C.1.2.2.2.1 C.1.2.2.2.2.1 C.1.2.2.2.2.2.2.1 ow index y bytes nL rt (Cond.code y bytes nL rt :: lw_gd) (rmN n' mc ms) mc ms n := by
  refine ⟨rfl, rfl, by rw [hR]; show n' + 1 ≤ 2048; omega, by rw [hR]; show 8 + (nL + 11) + 64 * n' ≤ 84000; have := mw.2.2.2.2; omega, ws_warm h.2.2.2.2.1 mw.1, List.mem_cons_self, h.2.2.2.2.1 _ mw.1, h.2.2.2.2.1 _ mw.2.1, mw.2.2.1, fun sig hs => ?_, hl⟩
  have h2 := mw.2.2.2.1
  rw [hs] at h2
  exact (Option.some.inj h2).symm
variable {y : MethodName} {bytes : ByteArray} {nL n n' index mc ms : Nat} {rt : Option FieldType} {av : List Value} {T : Tg} {G Gm : G2} {V U : V2} {R Rm : R2}
/-- a call of the class -/
theorem gl_runC {Cn : String} {Tn : u_T} {Nn b ci : Nat} (h : CxOK C cc ow ret) (hR : C.1.2.2.2.1 = room_1) (hA : ∀ q, C.2.2.2.1.2.2.2.1 ≤ q → AX C.2.2.1 q) (hcs : kc + mc ≤ 600000 ∧ ks + ms ≤ 7302250) (mw : Mw y bytes nL rt n) (hs : Mi Cn y) (hc : vwCl[ci]? = some (Cn, Tn, Nn)) (ho : own G b (ci + 10)) (hcn : ci < 20) (hl : Cond.methodLink ow index y ∈ lw_gd) (hM : Con C.1.2.1 y bytes nL rt (rmN n' mc ms) C.2.2.2.1 G V R (.ref b :: av) T) (hn : n' ≤ 1000) (ha : av.length = n) (hst : st0 = av.reverse ++ .ref b :: st) (hw : (st.map fun v => v.category).sum ≤ 8) (hmc : T.2.2.2.2 = (mc, ms)) (hge : GE G T.2.2.2.1) (hdj : ∀ x, x ∈ Gm.1 → x ∉ G.1) (hd : Dc cc pc (.invokevirtual index) 3 pc')
    (kk : P → GoL C pc' lv (T.1.toList ++ st) (XL C.2.2.2.1 Gm Rm T.2.2.2.1 T.2.1 T.2.2.1 U) (kc + mc) (ks + ms)) : P → GoL C pc lv st0 (XL C.2.2.2.1 Gm Rm G V R U) kc ks := by
  obtain ⟨hd, rfl⟩ := hd
  intro hP H locs ls h1 h2 h3 h4
  obtain ⟨h2, hm⟩ := h2
  have e1 : T.2.2.2.2.1 = mc := by rw [hmc]
  have e2 : T.2.2.2.2.2 = ms := by rw [hmc]
  unfold Con at hM
  rw [e1, e2] at hM
  obtain ⟨q0, hq0⟩ := wd_get (D := C.2.2.2.1) (V := V) (R := R) ho
  rw [cellE_obj ho.2 hcn] at hq0
  have hrec := va_recv h.2.2.2.2.2.1.1 h2.1 hc hq0
  refine gl_after (fun q hq => hA q (AX.ge h2 q hq)) h3 h4 (va_runV (rest := st) (C := Cn) ⟨h.1, h.2.1, h.2.2.1, h.2.2.2.1, h.2.2.2.2.1⟩ hM ⟨gl_cb h mw hR hn (h.2.2.2.2.1 _ hl), h.2.2.2.2.1 _ hs.1, h.2.2.2.2.1 _ hs.2⟩ ⟨g_blind, hrec, g_pre h h2 h3 (.ref b :: av)⟩ rfl ha h4.1 hst (lv_room hw) hd (by rw [hR]; exact hcs)) (fun H1 g1 g2 g3 => ⟨g1, wd_keep (G := mG Gm G.2.2.2) hm (fun x hx => g3 x (by rw [h2.2.2.1]; exact wd_lt hm hx) (fun q => q.elim (hdj x hx) (fun z => Nat.not_le.mpr (wd_lt hm hx) z))) g1.2.2.1 hge.1⟩) (kk hP)
/-- a call of the reference -/
theorem gl_runM {Cn : String} {Tn : u_T} {Nn b ci : Nat} {U' : V2} {a : Int32} (h : CxOK C cc ow ret) (hR : C.1.2.2.2.1 = room_1) (hA : ∀ q, C.2.2.2.1.2.2.2.1 ≤ q → AX C.2.2.1 q) (hcs : kc ≤ 600000 ∧ ks ≤ 7302250) (mw : Mw y bytes nL rt n) (hs : Mi Cn y) (hc : vwCl[ci]? = some (Cn, Tn, Nn)) (ho : own (mG Gm G.2.2.2) b (ci + 10)) (hcn : ci < 20) (hl : Cond.methodLink ow index y ∈ lw_gd) (hM : Con C.1.2.1 y bytes nL rt (rmN n' 0 0) C.2.2.2.1 (mG Gm G.2.2.2) U Rm (.ref b :: av) (some (.int a), U', Rm, mG Gm G.2.2.2, 0, 0)) (hn : n' ≤ 1000) (ha : av.length = n) (hst : st0 = av.reverse ++ .ref b :: st) (hw : (st.map fun v => v.category).sum ≤ 8) (hdj : ∀ x, x ∈ Gm.1 → x ∉ G.1) (hd : Dc cc pc (.invokevirtual index) 3 pc')
    (kk : P → GoL C pc' lv (.int a :: st) (XL C.2.2.2.1 Gm Rm G V R U') kc ks) : P → GoL C pc lv st0 (XL C.2.2.2.1 Gm Rm G V R U) kc ks := by
  obtain ⟨hd, rfl⟩ := hd
  intro hP H locs ls h1 h2 h3 h4
  obtain ⟨h2, hm⟩ := h2
  unfold Con at hM
  obtain ⟨q0, hq0⟩ := wd_get (D := C.2.2.2.1) (V := U) (R := Rm) ho
  rw [cellE_obj ho.2 hcn] at hq0
  have hrec := va_recv h.2.2.2.2.2.1.1 hm.1 hc hq0
  refine gl_after (T := (some (.int a), U', Rm, mG Gm G.2.2.2, 0, 0)) (fun q hq => hA q (AX.ge hm q hq)) h3 h4 (va_runV (rest := st) (C := Cn) ⟨h.1, h.2.1, h.2.2.1, h.2.2.2.1, h.2.2.2.2.1⟩ hM ⟨gl_cb h mw hR hn (h.2.2.2.2.1 _ hl), h.2.2.2.2.1 _ hs.1, h.2.2.2.2.1 _ hs.2⟩ ⟨g_blind, hrec, g_pre h hm h3 (.ref b :: av)⟩ rfl ha h4.1 hst (lv_room hw) hd (by rw [hR]; exact hcs)) (fun H1 g1 g2 g3 => ⟨wd_keep (G := G) h2 (fun x hx => g3 x (by rw [h2.2.2.1]; exact wd_lt h2 hx) (fun q => q.elim (fun z => hdj x z hx) (fun z => Nat.not_le.mpr (wd_lt h2 hx) z))) g1.2.2.1 (Nat.le_refl _), g1⟩) (kk hP)
/-- a thing is made, in one world -/
theorem gl_new {Cn : String} {T : u_T} {N ci index : Nat} (h : CxOK C cc ow ret) (hR : C.1.2.2.2.1 = room_1) (hf : Fn ci Cn T N) (hk : kc + 1 ≤ 600000) (hs : ks + N ≤ 7302250) (hd : Dc cc pc (.new index) 3 pc') (hw : Cond.classLink ow index Cn ∈ lw_gd) {a0 : Nat} (ha0 : G.2.2.2 = a0) (kk : P → GoL C pc' lv (.ref a0 :: st) (Wd C.2.2.2.1 (nwG G (ci + 30) 0) (zV V a0) (zR R a0)) (kc + 1) (ks + N)) : P → GoL C pc lv st (Wd C.2.2.2.1 G V R) kc ks := by
  subst ha0
  obtain ⟨hin, hc, hN, hiq, hini, ty, hty, hdv⟩ := hf
  obtain ⟨hd, rfl⟩ := hd
  intro hP H locs ls h1 h2 h3 h4
  have hKn := h.2.2.2.2.2.1.1.1 ci _ hc
  refine W.newcK h.1 h.2.1 h.2.2.2.1 (h.2.2.2.2.1 _ hw) (h.2.2.2.2.1 _ hiq) (h.2.2.2.2.1 _ hini) rfl hd (by rw [hR]; exact hk) (by rw [hR]; exact hs) hKn.2.1 h2.2.2.1 fun H1 kC hkC e1 z1 o1 => ?_
  have z2 : H1.size = H.size + 1 := by rw [z1, h2.2.2.1]
  have o2 : ∀ q : Nat, q < H.size → H1[q]? = H[q]? := fun q hq => o1 q (by rw [← h2.2.2.1]; exact hq)
  refine kk hP H1 locs ls h1 (wd_push h2 (fun b hb => va_up_ne _ _ hb) (fun b hb => va_up_ne _ _ hb) ?_ z2 o2) (h3.grow z2 o2) h4
  rw [cellE_raw (ci := ci) (va_up_self _ _ _)]
  refine ⟨_, hc, (u_born ty h.2.2.2.2.1 hin hKn hkC e1 hty).to fun j hj => ?_⟩
  rw [hdv j hj, vp_V, List.getD_eq_getElem?_getD, List.getElem?_map, List.getElem?_range (by rw [hN]; exact hj)]
  simp only [Option.map_some, Option.getD_some, fvr, zV, zR, va_up_self, va_rf]
theorem gl_runI {b : Nat} (h : CxOK C cc ow ret) (hR : C.1.2.2.2.1 = room_1) (hA : ∀ q, C.2.2.2.1.2.2.2.1 ≤ q → AX C.2.2.1 q) (hcs : kc + mc ≤ 600000 ∧ ks + ms ≤ 7302250) (mw : Mw y bytes nL none n) (hy : y.name = "<init>") (hs : Cond.instanceMethod y ∈ lw_gd) (hl : Cond.methodLink ow index y ∈ lw_gd) (hM : Con C.1.2.1 y bytes nL none (rmN n' mc ms) C.2.2.2.1 G V R (.ref b :: av) T) (hn : n' ≤ 1000) (ha : av.length = n) (hst : st0 = av.reverse ++ .ref b :: st) (hw : (st.map fun v => v.category).sum ≤ 8) (hmc : T.2.2.2.2 = (mc, ms)) (hT1 : T.1 = none) (hd : Dc cc pc (.invokespecial index) 3 pc')
    (kk : P → GoL C pc' lv st (Wd C.2.2.2.1 T.2.2.2.1 T.2.1 T.2.2.1) (kc + mc) (ks + ms)) : P → GoL C pc lv st0 (Wd C.2.2.2.1 G V R) kc ks := by
  obtain ⟨hd, rfl⟩ := hd
  intro hP H locs ls h1 h2 h3 h4
  have e1 : T.2.2.2.2.1 = mc := by rw [hmc]
  have e2 : T.2.2.2.2.2 = ms := by rw [hmc]
  unfold Con at hM
  rw [e1, e2] at hM
  exact gl_after (fun q hq => hA q (AX.ge h2 q hq)) h3 h4 (va_runI (rest := st) ⟨h.1, h.2.1, h.2.2.1, h.2.2.2.1, h.2.2.2.2.1⟩ hM ⟨gl_cb h mw hR hn (h.2.2.2.2.1 _ hl), hy, h.2.2.2.2.1 _ hs⟩ ⟨g_blind, g_pre h h2 h3 (.ref b :: av)⟩ rfl ha h4.1 hst (lv_room hw) hd (by rw [hR]; exact hcs)) (fun H1 g1 _ _ => g1) (by rw [hT1]; exact kk hP)
end GL
