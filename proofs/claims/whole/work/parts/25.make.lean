/-! Methods that make objects as they run: sheet, readRule, rules -/
theorem jmax0 (x : Int32) : ¬ jmax 0 x < 0 := by
  unfold jmax
  by_cases h : (0 : Int32) < x
  · rw [if_pos h]
    exact fun q => absurd (Int32.lt_iff_toInt_lt.mp h) (by have := Int32.lt_iff_toInt_lt.mp q; omega)
  · rw [if_neg h]; decide
section GM
variable {C : Cx} {cc : ByteArray} {ow : String} {ret : Option FieldType} {pc pc' tgt : Nat} {lv : List (Nat × Value)} {st : List Value} {V : V2} {R : R2} {G : G2} {kc ks : Nat} {P : Prop}
def WfG (G : G2) : Prop := ∀ x, x ∈ G.1 → x < G.2.2.2
theorem g_wf (kk : WfG G → P → Go C pc lv st V R G kc ks) : P → Go C pc lv st V R G kc ks := fun hP H locs ls h1 h2 h3 h4 => kk (fun _ hx => wd_lt h2 hx) hP H locs ls h1 h2 h3 h4
theorem g_iret_iG {x : Int32} {o : Int32 × V2 × R2 × G2} {mc ms : Nat} (h : CxOK C cc ow (some .int)) (hT : C.2.1 = (some (.int o.1), o.2.1, o.2.2.1, o.2.2.2, mc, ms)) (hkc : kc ≤ mc) (hks : ks ≤ ms) (hd : Dc cc pc (.ireturn) 1 pc') : some (x, V, R, G) = some o → Go C pc lv [.int x] V R G kc ks := by
  intro e; cases e
  exact g_iret h (by rw [hT]) (by rw [hT]; exact hkc) (by rw [hT]; exact hks) hd
theorem g_zret_iG {x : Int32} {o : Int32 × V2 × R2 × G2} {mc ms : Nat} (h : CxOK C cc ow (some .boolean)) (hx : isb x = true) (hT : C.2.1 = (some (.int o.1), o.2.1, o.2.2.1, o.2.2.2, mc, ms)) (hkc : kc ≤ mc) (hks : ks ≤ ms) (hd : Dc cc pc (.ireturn) 1 pc') : some (x, V, R, G) = some o → Go C pc lv [.int x] V R G kc ks := by
  intro e; cases e
  exact g_zret h hx (by rw [hT]) (by rw [hT]; exact hkc) (by rw [hT]; exact hks) hd
theorem g_aretA {x mc ms : Nat} {t : FieldType} (h : CxOK C cc ow (some (.array t))) (hT : C.2.1 = (some (.ref x), V, R, G, mc, ms)) (hkc : kc ≤ mc) (hks : ks ≤ ms) (hd : Dc cc pc (.areturn) 1 pc') : P → Go C pc lv [.ref x] V R G kc ks := by
  obtain ⟨hd, -⟩ := hd
  intro _ H locs ls h1 h2 h3 h4
  refine W.widen (k := C.2.1.2.2.2.2.1) (n := C.2.1.2.2.2.2.2) (by rw [hT]; exact hkc) (by rw [hT]; exact hks) ?_
  exact W.aret h.1 h.2.1 h.2.2.2.2.2.2.1 (Or.inr ⟨t, rfl⟩) (Or.inr ⟨x, rfl⟩) (fun t ht hW => ⟨by rw [hT], by rw [hT, ht]; exact h2, h3.F ht⟩) h3.2.2 hd (hlocks := h.2.2.2.2.2.2.2.1)
theorem g_cneT (h : CxOK C cc ow ret) {x y : Int32} {off : Int} (hd : Dj cc pc (.if_icmp .ne off) off tgt pc') (hx : ¬ x = y) (kk : P → Go C tgt lv st V R G kc ks) : P → Go C pc lv (.int y :: .int x :: st) V R G kc ks := by
  obtain ⟨hd, ht, rfl⟩ := hd
  exact fun hP H locs ls h1 h2 h3 h4 => lv_icmp_ne h.1 h.2.1 hd ht (fun _ => kk hP H locs ls h1 h2 h3 h4) (fun q => absurd q hx)
end GM
def shV (V : V2) (a : Nat) (s : Int32) : V2 := zV (up2 (zV V a) a 0 s) (a + 1)
def shR (R : R2) (a : Nat) : R2 := up2 (zR R a) a 1 (some (a + 1))
def shG (G : G2) (m : Nat) : G2 := finG (nwG (nwG G 37 0) 1 m) G.2.2.2 17
theorem nw2_old {G : G2} {t m x k a b : Nat} (hW : WfG G) (h : own G x k) : own (finG (nwG (nwG G t 0) 1 m) G.2.2.2 a) x k := by
  have hx := hW x h.1
  have h1 := own_old (t := t) (m := 0) hx h
  have h2 := own_old (t := 1) (m := m) (Nat.lt_succ_of_lt hx) h1
  exact own_finO (Nat.ne_of_lt hx) h2
theorem nw2_len {G : G2} {t m x k a : Nat} (hW : WfG G) (h : own G x k) : (finG (nwG (nwG G t 0) 1 m) G.2.2.2 a).2.2.1 x = G.2.2.1 x := by
  have hx := hW x h.1
  show va_up (va_up G.2.2.1 G.2.2.2 0) (G.2.2.2 + 1) m x = _
  rw [va_up_ne _ _ (by omega), va_up_ne _ _ (by omega)]
theorem nw2_new {G : G2} {t m a : Nat} : own (finG (nwG (nwG G t 0) 1 m) G.2.2.2 a) G.2.2.2 a := ⟨List.mem_append_left _ (List.mem_append_right _ (List.mem_singleton.mpr rfl)), va_up_self _ _ _⟩
theorem sh_old {G : G2} {m x k : Nat} (hW : WfG G) (h : own G x k) : own (shG G m) x k := nw2_old (b := 0) hW h
theorem sh_len {G : G2} {m x k : Nat} (hW : WfG G) (h : own G x k) : (shG G m).2.2.1 x = G.2.2.1 x := nw2_len hW h
theorem sh_new (G : G2) (m : Nat) : own (shG G m) G.2.2.2 17 := nw2_new
def cpV (V : V2) (a x : Nat) (m : Int32) : V2 := va_up (zV V a) a (va_cpy (zV V a x) (zV V a a) 0 0 m.toNatClampNeg)
def ruV (V : V2) (a x : Nat) (u k w : Int32) : V2 := up2 (up2 (cpV (zV V a) (a + 1) x u) a 0 k) a 1 w
def ruR (R : R2) (a : Nat) : R2 := up2 (zR R a) a 2 (some (a + 1))
def ruG (G : G2) (m : Nat) : G2 := finG (nwG (nwG G 34 0) 1 m) G.2.2.2 14
theorem ru_old {G : G2} {m x k : Nat} (hW : WfG G) (h : own G x k) : own (ruG G m) x k := nw2_old (b := 0) hW h
theorem ru_len {G : G2} {m x k : Nat} (hW : WfG G) (h : own G x k) : (ruG G m).2.2.1 x = G.2.2.1 x := nw2_len hW h
theorem ru_new (G : G2) (m : Nat) : own (ruG G m) G.2.2.2 14 := nw2_new
set_option maxHeartbeats 4000000 in
set_option maxRecDepth 100000 in
theorem kX7_init {l : Launch} {D : Dx} {L : List Nat} {kd ln : Nat → Nat} {V : V2} {R : R2} {b : Nat} {a1 a2 : Int32} (ho : own (L, kd, ln, b + 1) b 37) (hm : (jmax 0 a2).toNatClampNeg ≤ 40) : Con l yX7_init cX7_init 3 none (rmN 1 1 40) D (L, kd, ln, b + 1) V R [.ref b, .int a1, .int a2] (none, zV (up2 V b 0 a1) (b + 1), up2 R b 1 (some (b + 1)), finG (nwG (L, kd, ln, b + 1) 1 (jmax 0 a2).toNatClampNeg) b 17, 1, 40) := by
  refine Con.mk RX7 (by decide) rfl (Nat.le_of_ble_eq_true rfl) (fun C _ hR hT _ _ hL hC hin => ?_)
  have h0 : ownL (L, kd, ln, b + 1) b 37 (ln b) := ⟨ho, rfl⟩
  refine id (α := True → _) ?_ trivial
  refine g_aload_n hC dX7_init_0 (j := 0) rfl rfl ?_
  refine g_objI hC hR (Nat.le_of_ble_eq_true rfl) dX7_init_1 mlX7_3 (Nat.le_of_ble_eq_true rfl) ?_
  refine g_aload_n hC dX7_init_4 (j := 0) rfl rfl ?_
  refine g_iload_n hC dX7_init_5 (j := 1) rfl rfl ?_
  refine g_prI hC hin fw_7_0 rfl rfl (vp_nar_int _) rfl h0.1 dX7_init_6 flX7_9 ?_
  refine g_aload_n hC dX7_init_9 (j := 0) rfl rfl ?_
  refine g_iconst hC dX7_init_10 ic_0 ?_
  refine g_iload_n hC dX7_init_11 (j := 2) rfl rfl ?_
  refine g_mmax hC hR (Nat.le_of_ble_eq_true rfl) ⟨Nat.zero_le _, Nat.zero_le _⟩ dX7_init_12 mlX7_15 (st := [.ref b]) (Nat.le_of_ble_eq_true rfl) ?_
  refine g_newI hC hR (m0 := (jmax 0 a2).toNatClampNeg) (jmax0 a2) rfl (by omega) (Nat.le_of_ble_eq_true rfl) (by omega) dX7_init_15 ac_i (a0 := b + 1) rfl ?_
  have h1 := ol_old (t := 1) (m := (jmax 0 a2).toNatClampNeg) (a := b + 1) rfl (by omega) h0
  refine g_prR hC hin fw_7_1 (by decide) rfl rfl rfl h1.1 dX7_init_17 flX7_21 ?_
  refine g_fin (a := b) (ci := 7) h1.1 (by decide) (fun k hk hne => ?_) ?_
  · match k, hk, hne with
    | 0, _, hne => exact absurd rfl hne
    | 1, _, _ => simp [up2, va_up, offT]
    | k + 2, hk, _ => exact absurd hk (by simp [nfs])
  exact g_vretA hC hT (Nat.le_refl _) (by omega) dX7_init_20
set_option maxHeartbeats 4000000 in
set_option maxRecDepth 100000 in
theorem kX4_init {l : Launch} {D : Dx} {G : G2} {V : V2} {R : R2} {b : Nat} {a1 a2 : Int32} (ho : own G b 34) : Con l yX4_init cX4_init 4 none (rmN 1 0 0) D G V R [.ref b, .int a1, .int a2, .ref (b + 1)] (none, up2 (up2 V b 0 a1) b 1 a2, up2 R b 2 (some (b + 1)), finG G b 14, 0, 0) := by
  refine Con.mk RX4 (by decide) rfl (Nat.le_of_ble_eq_true rfl) (fun C _ hR hT _ _ hL hC hin => ?_)
  refine id (α := True → _) ?_ trivial
  refine g_aload_n hC dX4_init_0 (j := 0) rfl rfl ?_
  refine g_objI hC hR (Nat.le_of_ble_eq_true rfl) dX4_init_1 mlX4_1 (Nat.le_of_ble_eq_true rfl) ?_
  refine g_aload_n hC dX4_init_4 (j := 0) rfl rfl ?_
  refine g_iload_n hC dX4_init_5 (j := 1) rfl rfl ?_
  refine g_prI hC hin fw_4_0 rfl rfl (vp_nar_int _) rfl ho dX4_init_6 flX4_7 ?_
  refine g_aload_n hC dX4_init_9 (j := 0) rfl rfl ?_
  refine g_iload_n hC dX4_init_10 (j := 2) rfl rfl ?_
  refine g_prI hC hin fw_4_1 rfl rfl (vp_nar_int _) rfl ho dX4_init_11 flX4_13 ?_
  refine g_aload_n hC dX4_init_14 (j := 0) rfl rfl ?_
  refine g_aload_n hC dX4_init_15 (j := 3) rfl rfl ?_
  refine g_prR hC hin fw_4_2 (by decide) rfl rfl rfl ho dX4_init_16 flX4_16 ?_
  refine g_fin (a := b) (ci := 4) ho (by decide) (fun k hk hne => ?_) ?_
  · match k, hk, hne with
    | 0, _, hne => exact absurd rfl hne
    | 1, _, hne => exact absurd rfl hne
    | 2, _, _ => simp [up2, va_up, offT]
    | k + 3, hk, _ => exact absurd hk (by simp [nfs])
  exact g_vretA hC hT (Nat.le_refl _) (Nat.le_refl _) dX4_init_19
theorem nn_lt {m : Int32} {n : Nat} (hn : n < 2 ^ 31) (h0 : ¬ m < 0) (h : m.toNatClampNeg < n) : m < nI n := by
  rw [Int32.lt_iff_toInt_lt, nn_of h0, nI_toInt hn]
  omega
set_option maxHeartbeats 4000000 in
set_option maxRecDepth 100000 in
theorem kJ7_copyOf_59c91 {l : Launch} {D : Dx} {G : G2} {V : V2} {R : R2} {a1 : Nat} {m : Int32} (ho : own G a1 1) (hl : G.2.2.1 a1 = 300) (hx : a1 < G.2.2.2) (h0 : ¬ m < 0) (hm : m.toNatClampNeg < 300) : Con l yJ7_copyOf_59c91 cJ7_copyOf_59c91 3 (some (.array .int)) (rmN 1 1 300) D G V R [.ref a1, .int m] (some (.ref G.2.2.2), cpV V G.2.2.2 a1 m, R, nwG G 1 m.toNatClampNeg, 1, 300) := by
  refine Con.mk RJ7 (by decide) rfl (Nat.le_of_ble_eq_true rfl) (fun C _ hR hT _ _ hL hC hin => ?_)
  have hlt : m < nI 300 := nn_lt (by decide) h0 hm
  have hmin : jmin (nI 300) m = m := by unfold jmin; rw [if_pos hlt]
  refine id (α := True → _) ?_ trivial
  refine g_iload_n hC dJ7_copyOf_59c91_0 (j := 1) rfl rfl ?_
  refine g_aload_n hC dJ7_copyOf_59c91_1 (j := 0) rfl rfl ?_
  refine g_alenV hC ho hl dJ7_copyOf_59c91_2 ?_
  refine g_cneT hC dJ7_copyOf_59c91_3 (fun e => Int32.lt_irrefl (by rw [← e] at hlt; exact hlt)) ?_
  refine g_iload_n hC dJ7_copyOf_59c91_14 (j := 1) rfl rfl ?_
  refine g_newI hC hR (m0 := m.toNatClampNeg) h0 rfl (by omega) (Nat.le_of_ble_eq_true rfl) (by omega) dJ7_copyOf_59c91_15 ac_i (a0 := G.2.2.2) rfl ?_
  have ho1 := own_old (t := 1) (m := m.toNatClampNeg) hx ho
  have hl1 : (nwG G 1 m.toNatClampNeg).2.2.1 a1 = 300 := (va_up_ne _ _ (Nat.ne_of_lt hx)).trans hl
  refine g_astore_n hC (n0 := 3) (lv' := [(2, .ref G.2.2.2), (0, .ref a1), (1, .int m)]) dJ7_copyOf_59c91_17 rfl (Nat.le_of_ble_eq_true rfl) hL rfl ?_
  refine g_aload_n hC dJ7_copyOf_59c91_18 (j := 1) rfl rfl ?_
  refine g_iconst hC dJ7_copyOf_59c91_19 ic_0 ?_
  refine g_aload_n hC dJ7_copyOf_59c91_20 (j := 0) rfl rfl ?_
  refine g_iconst hC dJ7_copyOf_59c91_21 ic_0 ?_
  refine g_aload_n hC dJ7_copyOf_59c91_22 (j := 1) rfl rfl ?_
  refine g_alenV hC ho1 hl1 dJ7_copyOf_59c91_23 ?_
  refine g_iload_n hC dJ7_copyOf_59c91_24 (j := 2) rfl rfl ?_
  refine g_mmin hC hR (Nat.le_of_ble_eq_true rfl) ⟨Nat.le_of_ble_eq_true rfl, by omega⟩ dJ7_copyOf_59c91_25 mlJ7_304 (st := [.int 0, .ref G.2.2.2, .int 0, .ref a1]) (Nat.le_of_ble_eq_true rfl) ?_
  rw [hmin]
  refine fun _ => g_acpy (K := some) (o := cpV V G.2.2.2 a1 m) hC hR (Nat.le_of_ble_eq_true rfl) ho1 (own_new G 1 m.toNatClampNeg) hl1 (va_up_self _ _ _) dJ7_copyOf_59c91_28 mlJ7_150 (st := []) (Nat.le_of_ble_eq_true rfl) (fun W hW => ?_) ?_
  · cases hW
    refine id (α := True → _) ?_ trivial
    refine g_aload_n hC dJ7_copyOf_59c91_31 (j := 0) rfl rfl ?_
    exact g_aretA hC hT (Nat.le_refl _) (by omega) dJ7_copyOf_59c91_32
  · have : ¬ (0 : Int32) < 0 ∧ ¬ (0 : Int32) < 0 ∧ ¬ m < 0 ∧ (0 : Int32).toNatClampNeg + m.toNatClampNeg ≤ 300 ∧ (0 : Int32).toNatClampNeg + m.toNatClampNeg ≤ m.toNatClampNeg := ⟨by decide, by decide, h0, by rw [sb_cl0]; omega, by rw [sb_cl0]; omega⟩
    simp only [cpyV, if_pos this, Option.bind_some]
    rfl
set_option maxHeartbeats 4000000 in
set_option maxRecDepth 100000 in
theorem g_mkSh {C : Cx} {G : G2} {V : V2} {R : R2} {b : Nat} {a1 a2 a3 : Int32} {P : Prop} (hC : CxOK C cX8_sheet RX8 (some .int)) (hR : C.1.2.2.2.1 = rmN 2 2 42) (hL : C.2.2.2.2 = 4) (hm : (jmax 0 a3).toNatClampNeg ≤ 40) (kk : P → Go C 63 [(0, .ref b), (1, .int a1), (2, .int a2), (3, .int a3)] [.ref G.2.2.2, .int a1, .ref (b + 70)] (shV V G.2.2.2 a2) (shR R G.2.2.2) (shG G (jmax 0 a3).toNatClampNeg) 2 42) : P → Go C 54 [(0, .ref b), (1, .int a1), (2, .int a2), (3, .int a3)] [.int a1, .ref (b + 70)] V R G 0 0 := by
  refine g_new hC hR fn_7 (Nat.le_of_ble_eq_true rfl) (Nat.le_of_ble_eq_true rfl) dX8_sheet_54 klX8_52 (a0 := G.2.2.2) rfl ?_
  refine g_dup hC dX8_sheet_57 rfl ?_
  refine g_iload_n hC dX8_sheet_58 (j := 2) rfl rfl ?_
  refine g_iload_n hC dX8_sheet_59 (j := 3) rfl rfl ?_
  exact g_runI hC hR ⟨Nat.le_of_ble_eq_true rfl, Nat.le_of_ble_eq_true rfl⟩ mwX7_init rfl miX7_init mlX8_311 (kX7_init (b := G.2.2.2) (own_new G 37 0) hm) (Nat.le_of_ble_eq_true rfl) rfl (av := [.int a2, .int a3]) (st := [.ref G.2.2.2, .int a1, .ref (b + 70)]) rfl (Nat.le_of_ble_eq_true rfl) rfl rfl (ge_fin (ge_nw (GE.rf _))) dX8_sheet_60 kk
set_option maxHeartbeats 4000000 in
set_option maxRecDepth 100000 in
theorem g_mkRu {C : Cx} {G : G2} {V : V2} {R : R2} {b N : Nat} {lv : List (Nat × Value)} {st : List Value} {k w : Int32} {P : Prop} (hC : CxOK C cX5_readRule RX5 (some .boolean)) (hR : C.1.2.2.2.1 = rmN (N + 2) 2 303) (hL : C.2.2.2.2 = 3) (hG : GX G) (h_b : own G b 15) (hW : WfG G) (hl0 : ∃ j : Nat, lv[j]? = some (0, .ref b)) (hl1 : ∃ j : Nat, lv[j]? = some (1, .int k)) (hl2 : ∃ j : Nat, lv[j]? = some (2, .int w)) (hst : (st.map fun v => v.category).sum ≤ 2) (hu : ¬ V b 7 < 0 ∧ (V b 7).toNatClampNeg < 300) (kk : P → Go C 127 lv (.ref G.2.2.2 :: st) (ruV V G.2.2.2 (b + 2) (V b 7) k w) (ruR R G.2.2.2) (ruG G (V b 7).toNatClampNeg) 2 303) : P → Go C 107 lv st V R G 0 0 := by
  obtain ⟨j0, hl0⟩ := hl0
  obtain ⟨j1, hl1⟩ := hl1
  obtain ⟨j2, hl2⟩ := hl2
  have hbl := hW b h_b.1
  have hs := gx_5_6 hG h_b
  have hsl := gl_5_6 hG h_b
  have hslt := hW _ hs.1
  have hb1 := own_old (t := 34) (m := 0) hbl h_b
  have hs1 := own_old (t := 34) (m := 0) hslt hs
  have hsl1 : (nwG G 34 0).2.2.1 (b + 2) = 300 := (va_up_ne _ _ (Nat.ne_of_lt hslt)).trans hsl
  refine g_new hC hR fn_4 (Nat.le_of_ble_eq_true rfl) (Nat.le_of_ble_eq_true rfl) dX5_readRule_107 klX5_31 (a0 := G.2.2.2) rfl ?_
  have e7 : zV V G.2.2.2 b = V b := va_up_ne _ _ (Nat.ne_of_lt hbl)
  refine g_dup hC dX5_readRule_110 rfl ?_
  refine g_iload_n hC dX5_readRule_111 (j := j1) rfl hl1 ?_
  refine g_iload_n hC dX5_readRule_112 (j := j2) rfl hl2 ?_
  refine g_aload_n hC dX5_readRule_113 (j := j0) rfl hl0 ?_
  refine g_getR hC fr_5_6 hb1 (b := b + 2) rfl dX5_readRule_114 flX5_33 ?_
  refine g_aload_n hC dX5_readRule_117 (j := j0) rfl hl0 ?_
  refine g_getI hC fi_5_7 hb1 dX5_readRule_118 flX5_36 ?_
  rw [show zV V G.2.2.2 b 7 = V b 7 from congrFun e7 7]
  refine fun hP => g_runS hC hR ⟨Nat.le_of_ble_eq_true rfl, Nat.le_of_ble_eq_true rfl⟩ mwJ7_copyOf_59c91 ms_J7_copyOf_59c91 mlX5_82 (kJ7_copyOf_59c91 hs1 hsl1 (Nat.lt_succ_of_lt hslt) hu.1 hu.2) (by omega) rfl (st := .int w :: .int k :: .ref G.2.2.2 :: .ref G.2.2.2 :: st) rfl (by show 1 + (1 + (1 + (1 + (st.map fun v => v.category).sum))) ≤ 8; omega) rfl (ge_nw (GE.rf _)) dX5_readRule_121 ?_
  exact g_runI hC hR ⟨Nat.le_of_ble_eq_true rfl, Nat.le_of_ble_eq_true rfl⟩ mwX4_init rfl miX4_init mlX5_88 (kX4_init (b := G.2.2.2) (own_old (t := 1) (m := (V b 7).toNatClampNeg) (Nat.lt_succ_self _) (own_new G 34 0))) (by omega) rfl (av := [.int k, .int w, .ref (G.2.2.2 + 1)]) (st := .ref G.2.2.2 :: st) rfl (by show 1 + (st.map fun v => v.category).sum ≤ 8; omega) rfl rfl (ge_fin (GE.rf _)) dX5_readRule_124 kk hP
