/-! The words' text: String.length, charAt over the one constant -/
section GS
variable {C : Cx} {cc : ByteArray} {ow : String} {ret : Option FieldType} {pc pc' tgt : Nat} {lv : List (Nat × Value)} {st : List Value} {V : V2} {R : R2} {G : G2} {kc ks : Nat} {P : Prop}
theorem g_gsC (h : CxOK C cc ow ret) {index : Nat} (hd : Dc cc pc (.getstatic index) 3 pc') (hw : Cond.fieldLink ow index "java/lang/String" "COMPACT_STRINGS" "Z" ∈ lw_gd) (kk : P → Go C pc' lv (.int 1 :: st) V R G kc ks) : P → Go C pc lv st V R G kc ks := by
  obtain ⟨hd, rfl⟩ := hd
  exact fun hP H locs ls h1 h2 h3 h4 => va_gets h.1 h.2.1 h.2.2.2.2.2.1.2.1.2.2.2.2.1 (h3.wk h.2.2.2.2.2.2.2.2) h.2.2.2.1 (h.2.2.2.2.1 _ hw) (fun _ q => q) hd (kk hP H locs ls h1 h2 h3 h4)
theorem g_gsF (h : CxOK C cc ow ret) {index : Nat} (hd : Dc cc pc (.getstatic index) 3 pc') (hw : Cond.fieldLink ow index "jdk/internal/util/Preconditions" "SIOOBE_FORMATTER" "Ljava/util/function/BiFunction;" ∈ lw_gd) (kk : ∀ q : Option Nat, P → Go C pc' lv (va_rf q :: st) V R G kc ks) : P → Go C pc lv st V R G kc ks := by
  obtain ⟨hd, rfl⟩ := hd
  intro hP H locs ls h1 h2 h3 h4
  rcases h.2.2.2.2.2.1.2.1.2.2.2.2.2.1 with z | ⟨t, z⟩
  · exact va_gets h.1 h.2.1 z (h3.wk h.2.2.2.2.2.2.2.2) h.2.2.2.1 (h.2.2.2.2.1 _ hw) (fun _ q => q) hd (kk none hP H locs ls h1 h2 h3 h4)
  · exact va_gets h.1 h.2.1 z (h3.wk h.2.2.2.2.2.2.2.2) h.2.2.2.1 (h.2.2.2.2.1 _ hw) (fun _ q => q) hd (kk (some t) hP H locs ls h1 h2 h3 h4)
theorem g_strC (h : CxOK C cc ow ret) {index : Nat} (hd : Dc cc pc (.getfield index) 3 pc') (hw : Cond.fieldLink ow index "java/lang/String" "coder" "B" ∈ lw_gd) (kk : P → Go C pc' lv (.int 0 :: st) V R G kc ks) : P → Go C pc lv (.ref (C.2.2.2.1.2.2.2.2 2) :: st) V R G kc ks := by
  obtain ⟨hd, rfl⟩ := hd
  exact fun hP H locs ls h1 h2 h3 h4 => vk_getf h.1 h.2.1 h.2.2.2.2.2.1.2.1.2.2.2.2.2.2.2.1 (h3.wk h.2.2.2.2.2.2.2.2) h.2.2.2.1 (h.2.2.2.2.1 _ hw) (fun _ q => q) hd (kk hP H locs ls h1 h2 h3 h4)
theorem g_strV (h : CxOK C cc ow ret) {index : Nat} (hd : Dc cc pc (.getfield index) 3 pc') (hw : Cond.fieldLink ow index "java/lang/String" "value" "[B" ∈ lw_gd) (kk : P → Go C pc' lv (.ref (C.2.2.2.1.2.2.2.2 3) :: st) V R G kc ks) : P → Go C pc lv (.ref (C.2.2.2.1.2.2.2.2 2) :: st) V R G kc ks := by
  obtain ⟨hd, rfl⟩ := hd
  exact fun hP H locs ls h1 h2 h3 h4 => vk_getf h.1 h.2.1 h.2.2.2.2.2.1.2.1.2.2.2.2.2.2.2.2.1 (h3.wk h.2.2.2.2.2.2.2.2) h.2.2.2.1 (h.2.2.2.2.1 _ hw) (fun _ q => q) hd (kk hP H locs ls h1 h2 h3 h4)
theorem g_blen (h : CxOK C cc ow ret) (hd : Dc cc pc (.arraylength) 1 pc') (kk : P → Go C pc' lv (.int (nI 94) :: st) V R G kc ks) : P → Go C pc lv (.ref (C.2.2.2.1.2.2.2.2 3) :: st) V R G kc ks := by
  obtain ⟨hd, rfl⟩ := hd
  exact fun hP H locs ls h1 h2 h3 h4 => va_tlen h.1 h.2.1 h.2.2.2.2.2.1.2.1.2.2.2.2.2.2.2.2.2 (h3.wk h.2.2.2.2.2.2.2.2) rfl hd (kk hP H locs ls h1 h2 h3 h4)
theorem g_bald (h : CxOK C cc ow ret) {i : Int32} (hi : inb i 94 = true) (hd : Dc cc pc (.baload) 1 pc') (kk : P → Go C pc' lv (.int (wrdT.getD i.toNatClampNeg 0) :: st) V R G kc ks) : P → Go C pc lv (.int i :: .ref (C.2.2.2.1.2.2.2.2 3) :: st) V R G kc ks := by
  obtain ⟨hd, rfl⟩ := hd
  exact fun hP H locs ls h1 h2 h3 h4 => va_tb h.1 h.2.1 h.2.2.2.2.2.1.2.1.2.2.2.2.2.2.2.2.2 (h3.wk h.2.2.2.2.2.2.2.2) (inb_iff.mp hi) rfl hd (kk hP H locs ls h1 h2 h3 h4)
theorem g_i2c (h : CxOK C cc ow ret) {x v : Int32} (hv : (x.toUInt32 % 65536).toInt32 = v) (hd : Dc cc pc (.i2c) 1 pc') (kk : P → Go C pc' lv (.int v :: st) V R G kc ks) : P → Go C pc lv (.int x :: st) V R G kc ks := by
  obtain ⟨hd, rfl⟩ := hd
  exact fun hP H locs ls h1 h2 h3 h4 => lv_i2c h.1 h.2.1 hd hv (kk hP H locs ls h1 h2 h3 h4)
theorem g_ldS (h : CxOK C cc ow ret) (hd : Dc cc pc (.ldc 59) 2 pc') (ho : ow = "IronedFlat$RuleReader") (kk : P → Go C pc' lv (.ref (C.2.2.2.1.2.2.2.2 2) :: st) V R G kc ks) : P → Go C pc lv st V R G kc ks := by
  obtain ⟨hd, rfl⟩ := hd
  subst ho
  exact fun hP H locs ls h1 h2 h3 h4 => va_ldcS h.1 h.2.1 h.2.2.2.1 h.2.2.2.2.2.1.2.2.2.1 hd (kk hP H locs ls h1 h2 h3 h4)
theorem g_eqF (h : CxOK C cc ow ret) {x : Int32} {off : Int} (hd : Dj cc pc (.ifCond .eq off) off tgt pc') (hx : ¬ x = 0) (kk : P → Go C pc' lv st V R G kc ks) : P → Go C pc lv (.int x :: st) V R G kc ks := by
  obtain ⟨hd, ht, rfl⟩ := hd
  exact fun hP H locs ls h1 h2 h3 h4 => lv_if_eq h.1 h.2.1 hd ht (fun q => absurd q hx) (fun _ => kk hP H locs ls h1 h2 h3 h4)
theorem g_neF (h : CxOK C cc ow ret) {x : Int32} {off : Int} (hd : Dj cc pc (.ifCond .ne off) off tgt pc') (hx : x = 0) (kk : P → Go C pc' lv st V R G kc ks) : P → Go C pc lv (.int x :: st) V R G kc ks := by
  obtain ⟨hd, ht, rfl⟩ := hd
  exact fun hP H locs ls h1 h2 h3 h4 => lv_if_ne h.1 h.2.1 hd ht (fun q => absurd hx q) (fun _ => kk hP H locs ls h1 h2 h3 h4)
theorem g_ltF (h : CxOK C cc ow ret) {x : Int32} {off : Int} (hd : Dj cc pc (.ifCond .lt off) off tgt pc') (hx : ¬ x < 0) (kk : P → Go C pc' lv st V R G kc ks) : P → Go C pc lv (.int x :: st) V R G kc ks := by
  obtain ⟨hd, ht, rfl⟩ := hd
  exact fun hP H locs ls h1 h2 h3 h4 => lv_if_lt h.1 h.2.1 hd ht (fun q => absurd q hx) (fun _ => kk hP H locs ls h1 h2 h3 h4)
theorem g_cltT (h : CxOK C cc ow ret) {x y : Int32} {off : Int} (hd : Dj cc pc (.if_icmp .lt off) off tgt pc') (hx : x < y) (kk : P → Go C tgt lv st V R G kc ks) : P → Go C pc lv (.int y :: .int x :: st) V R G kc ks := by
  obtain ⟨hd, ht, rfl⟩ := hd
  exact fun hP H locs ls h1 h2 h3 h4 => lv_icmp_lt h.1 h.2.1 hd ht (fun _ => kk hP H locs ls h1 h2 h3 h4) (fun q => absurd hx q)
theorem g_nret {x : Int32} {ty : FieldType} (h : CxOK C cc ow (some ty)) (hx : narrow ty (.int x) = .int x) (hT : C.2.1 = (some (.int x), V, R, G, 0, 0)) (hd : Dc cc pc (.ireturn) 1 pc') : P → Go C pc lv [.int x] V R G 0 0 := by
  obtain ⟨hd, -⟩ := hd
  intro _ H locs ls h1 h2 h3 h4
  refine W.widen (k := C.2.1.2.2.2.2.1) (n := C.2.1.2.2.2.2.2) (Nat.zero_le _) (Nat.zero_le _) ?_
  exact W.zret h.1 h.2.1 h.2.2.2.2.2.2.1 hx (fun t ht hW => ⟨by rw [hT], by rw [hT, ht]; exact h2, h3.F ht⟩) h3.2.2 hd (hlocks := h.2.2.2.2.2.2.2.1)
theorem g_vretU (h : CxOK C cc ow none) (hT : C.2.1 = (none, V, R, G, 0, 0)) (hd : Dc cc pc (.return_) 1 pc') : P → Go C pc lv [] V R G 0 0 := by
  obtain ⟨hd, -⟩ := hd
  intro _ H locs ls h1 h2 h3 h4
  refine W.widen (k := C.2.1.2.2.2.2.1) (n := C.2.1.2.2.2.2.2) (Nat.zero_le _) (Nat.zero_le _) ?_
  exact W.vret h.1 h.2.1 h.2.2.2.2.2.2.1 (fun t ht hW => ⟨by rw [hT], by rw [hT, ht]; exact h2, h3.F ht⟩) h3.2.2 hd (hlocks := h.2.2.2.2.2.2.2.1)
variable {st0 : List Value} {y : MethodName} {bytes : ByteArray} {nL n N n' index c0 s0 : Nat} {rt : Option FieldType} {av : List Value} {T : Tg}
/-- a call on the constant text -/
theorem g_runStr (h : CxOK C cc ow ret) (hR : C.1.2.2.2.1 = rmN N c0 s0) (hcs : kc ≤ c0 ∧ ks ≤ s0) (mw : Mw y bytes nL rt n) (hs : Mi "java/lang/String" y) (hl : Cond.methodLink ow index y ∈ lw_gd) (hM : Con C.1.2.1 y bytes nL rt (rmN n' 0 0) C.2.2.2.1 G V R (.ref (C.2.2.2.1.2.2.2.2 2) :: av) T) (hn : n' + 1 ≤ N) (ha : av.length = n) (hst : st0 = av.reverse ++ .ref (C.2.2.2.1.2.2.2.2 2) :: st) (hw : (st.map fun v => v.category).sum ≤ 8) (hmc : T.2.2.2.2 = (0, 0)) (hge : GE G T.2.2.2.1) (hd : Dc cc pc (.invokevirtual index) 3 pc')
    (kk : P → Go C pc' lv (T.1.toList ++ st) T.2.1 T.2.2.1 T.2.2.2.1 kc ks) : P → Go C pc lv st0 V R G kc ks := by
  obtain ⟨hd, rfl⟩ := hd
  intro hP H locs ls h1 h2 h3 h4
  have e1 : T.2.2.2.2.1 = 0 := by rw [hmc]
  have e2 : T.2.2.2.2.2 = 0 := by rw [hmc]
  unfold Con at hM
  rw [e1, e2] at hM
  obtain ⟨cell, g1, g2, g3, -⟩ := h.2.2.2.2.2.1.2.1.2.2.2.2.2.2.1.kept (h3.wk h.2.2.2.2.2.2.2.2).2.1
  exact g_after h1 h3 h4 (va_runV (rest := st) (C := "java/lang/String") ⟨h.1, h.2.1, h.2.2.1, h.2.2.2.1, h.2.2.2.2.1⟩ hM ⟨g_cb h mw hR hn (h.2.2.2.2.1 _ hl), h.2.2.2.2.1 _ hs.1, h.2.2.2.2.1 _ hs.2⟩ ⟨g_blind, ⟨cell, g1, g2, g3⟩, g_pre h h2 h3 (.ref _ :: av)⟩ rfl ha h4.1 hst (lv_room hw) hd (by rw [hR]; exact hcs)) hge (kk hP)
end GS
set_option maxHeartbeats 4000000 in
theorem kJ0_coder_7d493 {l : Launch} {D : Dx} {G : G2} {V : V2} {R : R2} : Con l yJ0_coder_7d493 cJ0_coder_7d493 1 (some .byte) (rmN 0 0 0) D G V R [.ref (D.2.2.2.2 2)] (some (.int 0), V, R, G, 0, 0) := by
  refine Con.mk RJ0 (by decide) rfl (Nat.le_of_ble_eq_true rfl) (fun C _ hR hT _ hD hL hC hnm => ?_)
  subst hD
  refine id (α := True → _) ?_ trivial
  refine g_gsC hC dJ0_coder_7d493_0 flJ0_38 ?_
  refine g_eqF hC dJ0_coder_7d493_3 (by decide) ?_
  refine g_aload_n hC dJ0_coder_7d493_6 (j := 0) rfl rfl ?_
  refine g_strC hC dJ0_coder_7d493_7 flJ0_15 ?_
  refine g_goto hC dJ0_coder_7d493_10 ?_
  exact g_nret hC rfl hT dJ0_coder_7d493_14
set_option maxHeartbeats 4000000 in
theorem kJ0_isLatin1_aae02 {l : Launch} {D : Dx} {G : G2} {V : V2} {R : R2} : Con l yJ0_isLatin1_aae02 cJ0_isLatin1_aae02 1 (some .boolean) (rmN 0 0 0) D G V R [.ref (D.2.2.2.2 2)] (some (.int 1), V, R, G, 0, 0) := by
  refine Con.mk RJ0 (by decide) rfl (Nat.le_of_ble_eq_true rfl) (fun C _ hR hT _ hD hL hC hnm => ?_)
  subst hD
  refine id (α := True → _) ?_ trivial
  refine g_gsC hC dJ0_isLatin1_aae02_0 flJ0_38 ?_
  refine g_eqF hC dJ0_isLatin1_aae02_3 (by decide) ?_
  refine g_aload_n hC dJ0_isLatin1_aae02_6 (j := 0) rfl rfl ?_
  refine g_strC hC dJ0_isLatin1_aae02_7 flJ0_15 ?_
  refine g_neF hC dJ0_isLatin1_aae02_10 rfl ?_
  refine g_iconst hC dJ0_isLatin1_aae02_13 ic_1 ?_
  refine g_goto hC dJ0_isLatin1_aae02_14 ?_
  exact g_nret hC rfl hT dJ0_isLatin1_aae02_18
set_option maxHeartbeats 4000000 in
theorem kJ0_length_8abf5 {l : Launch} {D : Dx} {G : G2} {V : V2} {R : R2} : Con l yJ0_length_8abf5 cJ0_length_8abf5 1 (some .int) (rmN 1 0 0) D G V R [.ref (D.2.2.2.2 2)] (some (.int (nI 94 >>> ((0 : Int32) &&& 31))), V, R, G, 0, 0) := by
  refine Con.mk RJ0 (by decide) rfl (Nat.le_of_ble_eq_true rfl) (fun C _ hR hT _ hD hL hC hnm => ?_)
  subst hD
  refine id (α := True → _) ?_ trivial
  refine g_aload_n hC dJ0_length_8abf5_0 (j := 0) rfl rfl ?_
  refine g_strV hC dJ0_length_8abf5_1 flJ0_9 ?_
  refine g_blen hC dJ0_length_8abf5_4 ?_
  refine g_aload_n hC dJ0_length_8abf5_5 (j := 0) rfl rfl ?_
  refine g_runStr hC hR ⟨Nat.le_refl _, Nat.le_refl _⟩ mwJ0_coder_7d493 miJ0_coder_7d493 mlJ0_335 kJ0_coder_7d493 (Nat.le_of_ble_eq_true rfl) rfl (av := []) (st := [.int (nI 94)]) rfl (Nat.le_of_ble_eq_true rfl) rfl (GE.rf G) dJ0_length_8abf5_6 ?_
  refine g_ishr hC dJ0_length_8abf5_9 ?_
  exact g_nret hC rfl hT dJ0_length_8abf5_10
set_option maxHeartbeats 4000000 in
theorem kJ3_checkIndex_8e157 {l : Launch} {D : Dx} {G : G2} {V : V2} {R : R2} {a1 a2 : Int32} {q : Option Nat} (h0 : ¬ a1 < 0) (h1 : a1 < a2) : Con l yJ3_checkIndex_8e157 cJ3_checkIndex_8e157 3 (some .int) (rmN 0 0 0) D G V R [.int a1, .int a2, va_rf q] (some (.int a1), V, R, G, 0, 0) := by
  refine Con.mk RJ3 (by decide) rfl (by cases q <;> exact Nat.le_of_ble_eq_true rfl) (fun C _ hR hT _ hD hL hC hnm => ?_)
  subst hD
  have key : True → Go C 0 [(0, .int a1), (1, .int a2)] [] V R G 0 0 := by
    refine g_iload_n hC dJ3_checkIndex_8e157_0 (j := 0) rfl rfl ?_
    refine g_ltF hC dJ3_checkIndex_8e157_1 h0 ?_
    refine g_iload_n hC dJ3_checkIndex_8e157_4 (j := 0) rfl rfl ?_
    refine g_iload_n hC dJ3_checkIndex_8e157_5 (j := 1) rfl rfl ?_
    refine g_cltT hC dJ3_checkIndex_8e157_6 h1 ?_
    refine g_iload_n hC dJ3_checkIndex_8e157_16 (j := 0) rfl rfl ?_
    exact g_nret hC rfl hT dJ3_checkIndex_8e157_17
  exact g_sub (P := True) [0, 1] (by cases q <;> rfl) key trivial
set_option maxHeartbeats 4000000 in
theorem kJ0_checkIndex_df160 {l : Launch} {D : Dx} {G : G2} {V : V2} {R : R2} {a1 a2 : Int32} (h0 : ¬ a1 < 0) (h1 : a1 < a2) : Con l yJ0_checkIndex_df160 cJ0_checkIndex_df160 2 none (rmN 1 0 0) D G V R [.int a1, .int a2] (none, V, R, G, 0, 0) := by
  refine Con.mk RJ0 (by decide) rfl (Nat.le_of_ble_eq_true rfl) (fun C _ hR hT _ hD hL hC hnm => ?_)
  subst hD
  refine id (α := True → _) ?_ trivial
  refine g_iload_n hC dJ0_checkIndex_df160_0 (j := 0) rfl rfl ?_
  refine g_iload_n hC dJ0_checkIndex_df160_1 (j := 1) rfl rfl ?_
  refine g_gsF hC dJ0_checkIndex_df160_2 flJ0_1053 (fun q => ?_)
  refine fun _ => g_runS hC hR ⟨Nat.le_refl _, Nat.le_refl _⟩ mwJ3_checkIndex_8e157 ms_J3_checkIndex_8e157 mlJ0_1059 (kJ3_checkIndex_8e157 (q := q) h0 h1) (Nat.le_of_ble_eq_true rfl) rfl (st := []) rfl (Nat.le_of_ble_eq_true rfl) rfl (GE.rf G) dJ0_checkIndex_df160_5 ?_
  refine id (α := True → _) ?_ trivial
  refine g_pop hC dJ0_checkIndex_df160_8 rfl ?_
  exact g_vretU hC hT dJ0_checkIndex_df160_9
theorem wrd_c : ∀ j, j < 94 → ((wrdT.getD j 0 &&& 255).toUInt32 % 65536).toInt32 = wrdT.getD j 0 ∧ narrow .char (.int (wrdT.getD j 0)) = .int (wrdT.getD j 0) := by decide +kernel
theorem inb_p {i : Int32} {n : Nat} (h : inb i n = true) : ¬ i < 0 ∧ i.toNatClampNeg < n ∧ i.toInt = (i.toNatClampNeg : Int) := by
  have h2 := inb_iff.mp h
  have h0 : ¬ i < 0 := fun q => h2 (Or.inl q)
  exact ⟨h0, Nat.not_le.mp fun q => h2 (Or.inr q), nn_of h0⟩
theorem inb_lt {i : Int32} {n : Nat} (hn : n < 2 ^ 31) (h : inb i n = true) : i < nI n := by
  obtain ⟨h0, h1, h2⟩ := inb_p h
  rw [Int32.lt_iff_toInt_lt, h2, nI_toInt hn]
  omega
set_option maxHeartbeats 4000000 in
theorem kJ1_charAt_3b067 {l : Launch} {D : Dx} {G : G2} {V : V2} {R : R2} {a1 : Int32} (hi : inb a1 94 = true) : Con l yJ1_charAt_3b067 cJ1_charAt_3b067 2 (some .char) (rmN 2 0 0) D G V R [.ref (D.2.2.2.2 3), .int a1] (some (.int (wrdT.getD a1.toNatClampNeg 0)), V, R, G, 0, 0) := by
  refine Con.mk RJ1 (by decide) rfl (Nat.le_of_ble_eq_true rfl) (fun C _ hR hT _ hD hL hC hnm => ?_)
  subst hD
  refine id (α := True → _) ?_ trivial
  refine g_iload_n hC dJ1_charAt_3b067_0 (j := 1) rfl rfl ?_
  refine g_aload_n hC dJ1_charAt_3b067_1 (j := 0) rfl rfl ?_
  refine g_blen hC dJ1_charAt_3b067_2 ?_
  refine fun _ => g_runS hC hR ⟨Nat.le_refl _, Nat.le_refl _⟩ mwJ0_checkIndex_df160 ms_J0_checkIndex_df160 mlJ1_9 (kJ0_checkIndex_df160 (inb_p hi).1 (inb_lt (by decide) hi)) (Nat.le_of_ble_eq_true rfl) rfl (st := []) rfl (Nat.le_of_ble_eq_true rfl) rfl (GE.rf G) dJ1_charAt_3b067_3 ?_
  refine id (α := True → _) ?_ trivial
  refine g_aload_n hC dJ1_charAt_3b067_6 (j := 0) rfl rfl ?_
  refine g_iload_n hC dJ1_charAt_3b067_7 (j := 1) rfl rfl ?_
  refine g_bald hC hi dJ1_charAt_3b067_8 ?_
  refine g_sipush hC dJ1_charAt_3b067_9 sc_255 ?_
  refine g_iand hC dJ1_charAt_3b067_12 ?_
  refine g_i2c hC (wrd_c _ (inb_p hi).2.1).1 dJ1_charAt_3b067_13 ?_
  exact g_nret hC (wrd_c _ (inb_p hi).2.1).2 hT dJ1_charAt_3b067_14
set_option maxHeartbeats 4000000 in
theorem kJ0_charAt_5068e {l : Launch} {D : Dx} {G : G2} {V : V2} {R : R2} {a1 : Int32} (hi : inb a1 94 = true) : Con l yJ0_charAt_5068e cJ0_charAt_5068e 2 (some .char) (rmN 3 0 0) D G V R [.ref (D.2.2.2.2 2), .int a1] (some (.int (wrdT.getD a1.toNatClampNeg 0)), V, R, G, 0, 0) := by
  refine Con.mk RJ0 (by decide) rfl (Nat.le_of_ble_eq_true rfl) (fun C _ hR hT _ hD hL hC hnm => ?_)
  subst hD
  refine id (α := True → _) ?_ trivial
  refine g_aload_n hC dJ0_charAt_5068e_0 (j := 0) rfl rfl ?_
  refine g_runStr hC hR ⟨Nat.le_refl _, Nat.le_refl _⟩ mwJ0_isLatin1_aae02 miJ0_isLatin1_aae02 mlJ0_492 kJ0_isLatin1_aae02 (Nat.le_of_ble_eq_true rfl) rfl (av := []) (st := []) rfl (Nat.le_of_ble_eq_true rfl) rfl (GE.rf G) dJ0_charAt_5068e_1 ?_
  refine g_eqF hC dJ0_charAt_5068e_4 (by decide) ?_
  refine g_aload_n hC dJ0_charAt_5068e_7 (j := 0) rfl rfl ?_
  refine g_strV hC dJ0_charAt_5068e_8 flJ0_9 ?_
  refine g_iload_n hC dJ0_charAt_5068e_11 (j := 1) rfl rfl ?_
  refine fun _ => g_runS hC hR ⟨Nat.le_refl _, Nat.le_refl _⟩ mwJ1_charAt_3b067 ms_J1_charAt_3b067 mlJ0_495 (kJ1_charAt_3b067 hi) (Nat.le_of_ble_eq_true rfl) rfl (st := []) rfl (Nat.le_of_ble_eq_true rfl) rfl (GE.rf G) dJ0_charAt_5068e_12 ?_
  exact g_nret (P := True) hC (wrd_c _ (inb_p hi).2.1).2 hT dJ0_charAt_5068e_15 trivial
section GT
variable {C : Cx} {cc : ByteArray} {ow : String} {ret : Option FieldType} {pc pc' : Nat} {lv : List (Nat × Value)} {st : List Value} {V : V2} {R : R2} {G : G2} {kc ks N index c0 s0 : Nat} {P : Prop}
theorem g_slen (h : CxOK C cc ow ret) (hR : C.1.2.2.2.1 = rmN N c0 s0) (hN : 2 ≤ N) (hcs : kc ≤ c0 ∧ ks ≤ s0) (hl : Cond.methodLink ow index yJ0_length_8abf5 ∈ lw_gd) (hw : (st.map fun v => v.category).sum ≤ 8) (hd : Dc cc pc (.invokevirtual index) 3 pc') (kk : P → Go C pc' lv (.int 94 :: st) V R G kc ks) : P → Go C pc lv (.ref (C.2.2.2.1.2.2.2.2 2) :: st) V R G kc ks :=
  g_runStr h hR hcs mwJ0_length_8abf5 miJ0_length_8abf5 hl kJ0_length_8abf5 hN rfl (av := []) rfl hw rfl (GE.rf G) hd (by rw [show nI 94 >>> ((0 : Int32) &&& 31) = 94 from by decide]; exact kk)
theorem g_schr {β : Type} {K : Int32 → Option β} {o : β} {i : Int32} (h : CxOK C cc ow ret) (hR : C.1.2.2.2.1 = rmN N c0 s0) (hN : 4 ≤ N) (hcs : kc ≤ c0 ∧ ks ≤ s0) (hl : Cond.methodLink ow index yJ0_charAt_5068e ∈ lw_gd) (hw : (st.map fun v => v.category).sum ≤ 8) (hd : Dc cc pc (.invokevirtual index) 3 pc') (kk : ∀ v, K v = some o → Go C pc' lv (.int v :: st) V R G kc ks) : (ldI 94 (fun j => wrdT.getD j 0) i).bind K = some o → Go C pc lv (.int i :: .ref (C.2.2.2.1.2.2.2.2 2) :: st) V R G kc ks := by
  intro hf
  by_cases q : inb i 94 = true
  · simp only [ldI, if_pos q, Option.bind_some] at hf
    exact g_runStr (P := True) h hR hcs mwJ0_charAt_5068e miJ0_charAt_5068e hl (kJ0_charAt_5068e q) hN rfl (av := [.int i]) rfl hw rfl (GE.rf G) hd (fun _ => kk _ hf) trivial
  · simp [ldI, q] at hf
end GT
