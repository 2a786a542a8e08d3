def pX8_state (n : Nat) (V : V2) (b : Nat) (a1 : Int32) : Option (Int32) :=
  if a1 = 0 then (some (V (b + 2) 0))
  else (if a1 = 1 then (some (V (b + 1) 1))
  else (if a1 = 2 then (some (V (b + 1) 2))
  else (if a1 = 3 then ((pX1_isOver V (b + 1) (b + 2)).bind fun q4 =>
  if q4 = 0 then (some 0)
  else (some 1))
  else (if a1 = 4 then (some (V (b + 2) 2))
  else (if a1 = 5 then ((pX1_ironAt V (b + 1) (V (b + 2) 0)).bind fun q7 =>
  some q7)
  else (if a1 = 6 then ((pX2_bulkOfAll n V (b + 2)).bind fun q9 =>
  some q9)
  else (some (-1))))))))
set_option maxHeartbeats 4000000 in
set_option maxRecDepth 100000 in
theorem kX8_state {l : Launch} {D : Dx} {G : G2} {V : V2} {R : R2} {n : Nat} {b : Nat} {a1 : Int32} (hG : GX G) (h_b : own G b 18) {o : Int32} (hf : pX8_state n V b a1 = some o) : Con l yX8_state cX8_state 2 (some .int) (rmN 1 0 0) D G V R [.ref b, .int a1] (some (.int o), V, R, G, 0, 0) := by
  refine Con.mk RX8 (by decide) rfl (Nat.le_of_ble_eq_true rfl) (fun C _ hR hT _ _ hL hC hnm => ?_)
  revert hf
  unfold pX8_state
  refine g_iload_n hC dX8_state_0 (j := 1) rfl rfl ?_
  refine g_tsw hC 0 (43) (tgt := 44) dX8_state_1 (by decide) rfl ?_ (fun hn1 => ?_)
  · refine g_aload_n hC dX8_state_44 (j := 0) rfl rfl ?_
    refine g_getR hC fr_8_0 h_b (b := b + 1) rfl dX8_state_45 flX8_10 ?_
    refine g_getR hC fr_1_0 (gx_8_0 hG h_b) (b := b + 2) rfl dX8_state_48 flX8_81 ?_
    refine g_getI hC fi_2_0 (gx_1_0 hG (gx_8_0 hG h_b)) dX8_state_51 flX8_148 ?_
    exact g_iret_i hC hT dX8_state_54
  refine g_tsw hC 1 (54) (tgt := 55) dX8_state_1 (by decide) rfl ?_ (fun hn2 => ?_)
  · refine g_aload_n hC dX8_state_55 (j := 0) rfl rfl ?_
    refine g_getR hC fr_8_0 h_b (b := b + 1) rfl dX8_state_56 flX8_10 ?_
    refine g_getI hC fi_1_1 (gx_8_0 hG h_b) dX8_state_59 flX8_151 ?_
    exact g_iret_i hC hT dX8_state_62
  refine g_tsw hC 2 (62) (tgt := 63) dX8_state_1 (by decide) rfl ?_ (fun hn3 => ?_)
  · refine g_aload_n hC dX8_state_63 (j := 0) rfl rfl ?_
    refine g_getR hC fr_8_0 h_b (b := b + 1) rfl dX8_state_64 flX8_10 ?_
    refine g_getI hC fi_1_2 (gx_8_0 hG h_b) dX8_state_67 flX8_157 ?_
    exact g_iret_i hC hT dX8_state_70
  refine g_tsw hC 3 (70) (tgt := 71) dX8_state_1 (by decide) rfl ?_ (fun hn5 => ?_)
  · refine g_aload_n hC dX8_state_71 (j := 0) rfl rfl ?_
    refine g_getR hC fr_8_0 h_b (b := b + 1) rfl dX8_state_72 flX8_10 ?_
    refine g_aload_n hC dX8_state_75 (j := 0) rfl rfl ?_
    refine g_getR hC fr_8_0 h_b (b := b + 1) rfl dX8_state_76 flX8_10 ?_
    refine g_getR hC fr_1_0 (gx_8_0 hG h_b) (b := b + 2) rfl dX8_state_79 flX8_81 ?_
    refine g_callV_i hC hR ⟨Nat.zero_le _, Nat.zero_le _⟩ mwX1_isOver miX1_isOver (ci := 1) rfl (gx_8_0 hG h_b) (Nat.le_of_ble_eq_true rfl) mlX8_160 (fun _ hq => kX1_isOver hG (gx_8_0 hG h_b) (gx_1_0 hG (gx_8_0 hG h_b)) hq) (Nat.le_of_ble_eq_true rfl) rfl (st := []) rfl (Nat.le_of_ble_eq_true rfl) dX8_state_82 (fun q4 => ?_)
    refine g_if_eq hC dX8_state_85 ?_ ?_
    · refine g_iconst hC dX8_state_92 ic_0 ?_
      exact g_iret_i hC hT dX8_state_93
    · refine g_iconst hC dX8_state_88 ic_1 ?_
      refine g_goto hC dX8_state_89 ?_
      exact g_iret_i hC hT dX8_state_93
  refine g_tsw hC 4 (93) (tgt := 94) dX8_state_1 (by decide) rfl ?_ (fun hn6 => ?_)
  · refine g_aload_n hC dX8_state_94 (j := 0) rfl rfl ?_
    refine g_getR hC fr_8_0 h_b (b := b + 1) rfl dX8_state_95 flX8_10 ?_
    refine g_getR hC fr_1_0 (gx_8_0 hG h_b) (b := b + 2) rfl dX8_state_98 flX8_81 ?_
    refine g_getI hC fi_2_2 (gx_1_0 hG (gx_8_0 hG h_b)) dX8_state_101 flX8_154 ?_
    exact g_iret_i hC hT dX8_state_104
  refine g_tsw hC 5 (104) (tgt := 105) dX8_state_1 (by decide) rfl ?_ (fun hn8 => ?_)
  · refine g_aload_n hC dX8_state_105 (j := 0) rfl rfl ?_
    refine g_getR hC fr_8_0 h_b (b := b + 1) rfl dX8_state_106 flX8_10 ?_
    refine g_aload_n hC dX8_state_109 (j := 0) rfl rfl ?_
    refine g_getR hC fr_8_0 h_b (b := b + 1) rfl dX8_state_110 flX8_10 ?_
    refine g_getR hC fr_1_0 (gx_8_0 hG h_b) (b := b + 2) rfl dX8_state_113 flX8_81 ?_
    refine g_getI hC fi_2_0 (gx_1_0 hG (gx_8_0 hG h_b)) dX8_state_116 flX8_148 ?_
    refine g_callV_i hC hR ⟨Nat.zero_le _, Nat.zero_le _⟩ mwX1_ironAt miX1_ironAt (ci := 1) rfl (gx_8_0 hG h_b) (Nat.le_of_ble_eq_true rfl) mlX8_164 (fun _ hq => kX1_ironAt hG (gx_8_0 hG h_b) hq) (Nat.le_of_ble_eq_true rfl) rfl (st := []) rfl (Nat.le_of_ble_eq_true rfl) dX8_state_119 (fun q7 => ?_)
    exact g_iret_i hC hT dX8_state_122
  refine g_tsw hC 6 (122) (tgt := 123) dX8_state_1 (by decide) rfl ?_ (fun hn10 => ?_)
  · refine g_aload_n hC dX8_state_123 (j := 0) rfl rfl ?_
    refine g_getR hC fr_8_0 h_b (b := b + 1) rfl dX8_state_124 flX8_10 ?_
    refine g_getR hC fr_1_0 (gx_8_0 hG h_b) (b := b + 2) rfl dX8_state_127 flX8_81 ?_
    refine g_callV_i hC hR ⟨Nat.zero_le _, Nat.zero_le _⟩ mwX2_bulkOfAll miX2_bulkOfAll (ci := 2) rfl (gx_1_0 hG (gx_8_0 hG h_b)) (Nat.le_of_ble_eq_true rfl) mlX8_168 (fun _ hq => kX2_bulkOfAll hG (gx_1_0 hG (gx_8_0 hG h_b)) hq) (Nat.le_of_ble_eq_true rfl) rfl (st := []) rfl (Nat.le_of_ble_eq_true rfl) dX8_state_130 (fun q9 => ?_)
    exact g_iret_i hC hT dX8_state_133
  refine g_tswd hC (tgt := 134) dX8_state_1 (by have := And.intro trivial trivial; have := lv_neT (a := 0) hn1 (by decide); have := lv_neT (a := 1) hn2 (by decide); have := lv_neT (a := 2) hn3 (by decide); have := lv_neT (a := 3) hn5 (by decide); have := lv_neT (a := 4) hn6 (by decide); have := lv_neT (a := 5) hn8 (by decide); have := lv_neT (a := 6) hn10 (by decide); omega) rfl ?_
  refine g_iconst hC dX8_state_134 ic_m1 ?_
  exact g_iret_i hC hT dX8_state_135
def pX8_feed (n : Nat) (V : V2) (b : Nat) (a1 : Int64) (a2 : Int32) : Option (Int32 × V2) :=
  (pX8_within a2 1 8).bind fun q1 =>
  if q1 = 0 then (some ((-1), V))
  else ((pX5_take n V (b + 65) a1 a2).bind fun q2 =>
  some (q2.1, q2.2))
set_option maxHeartbeats 4000000 in
set_option maxRecDepth 100000 in
theorem kX8_feed {l : Launch} {D : Dx} {G : G2} {V : V2} {R : R2} {n : Nat} {b : Nat} {a1 : Int64} {a2 : Int32} (hG : GX G) (h_b : own G b 18) {o : Int32 × V2} (hf : pX8_feed n V b a1 a2 = some o) : Con l yX8_feed cX8_feed 4 (some .int) (rmN 1 0 0) D G V R [.ref b, .long a1, .int a2] (some (.int o.1), o.2, R, G, 0, 0) := by
  refine Con.mk RX8 (by decide) rfl (Nat.le_of_ble_eq_true rfl) (fun C _ hR hT _ _ hL hC hnm => ?_)
  revert hf
  unfold pX8_feed
  refine g_iload_n hC dX8_feed_0 (j := 2) rfl rfl ?_
  refine g_iconst hC dX8_feed_1 ic_1 ?_
  refine g_bipush hC dX8_feed_2 bc_8 ?_
  refine g_callS_i hC hR ⟨Nat.zero_le _, Nat.zero_le _⟩ mwX8_within ms_X8_within mlX8_77 (fun _ hq => kX8_within  hq) (Nat.le_of_ble_eq_true rfl) rfl (st := []) rfl (Nat.le_of_ble_eq_true rfl) dX8_feed_4 (fun q1 => ?_)
  refine g_if_ne hC dX8_feed_7 ?_ ?_
  · refine g_iconst hC dX8_feed_10 ic_m1 ?_
    exact g_iret_iV hC hT dX8_feed_11
  · refine g_aload_n hC dX8_feed_12 (j := 0) rfl rfl ?_
    refine g_getR hC fr_8_5 h_b (b := b + 65) rfl dX8_feed_13 flX8_40 ?_
    refine g_lload_n hC dX8_feed_16 (j := 1) rfl rfl ?_
    refine g_iload_n hC dX8_feed_17 (j := 2) rfl rfl ?_
    refine g_callV_iV hC hR ⟨Nat.zero_le _, Nat.zero_le _⟩ mwX5_take miX5_take (ci := 5) rfl (gx_8_5 hG h_b) (Nat.le_of_ble_eq_true rfl) mlX8_172 (fun _ hq => kX5_take hG (gx_8_5 hG h_b) hq) (Nat.le_of_ble_eq_true rfl) rfl (st := []) rfl (Nat.le_of_ble_eq_true rfl) dX8_feed_18 (fun q2 => ?_)
    exact g_iret_iV hC hT dX8_feed_21
def lX1_actOfRest_8 (n : Nat) (G : G2) (V : V2) (R : R2) (b : Nat) (a1 : Nat) (q1 : Int32) : Nat → Int32 → (Unit → Option (Int32)) → Option (Int32)
  | 0, _, _ => none
  | f2 + 1, x3, K =>
    if (V a1 1) ≤ x3 then (K ())
    else ((pX1_mayBePressed n G V R b a1 x3 q1).bind fun q4 =>
    if q4 = 0 then (letv (x3 + 1) fun x5 =>
    lX1_actOfRest_8 n G V R b a1 q1 f2 x5 K)
    else (some (x3 + 1)))
def pX1_actOfRest (n : Nat) (G : G2) (V : V2) (R : R2) (b : Nat) (a1 : Nat) : Option (Int32) :=
  (pX1_steamNow V b a1).bind fun q1 =>
  lX1_actOfRest_8 n G V R b a1 q1 n 0 (fun _ =>
  some 0)
set_option maxHeartbeats 4000000 in
set_option maxRecDepth 100000 in
theorem wX1_actOfRest_8 {C : Cx} (hC : CxOK C cX1_actOfRest RX1 (some .int)) (hL : C.2.2.2.2 = 4) {n : Nat} {G : G2} {V : V2} {R : R2} {b : Nat} {a1 : Nat} {q1 : Int32} (hG : GX G) (h_b : own G b 11) (h_a1 : own G a1 12) (hR : C.1.2.2.2.1 = rmN 4 0 0) {o : Int32} (hT : C.2.1 = (some (.int o), V, R, G, 0, 0)) {K : Unit → Option (Int32)} (hX : ∀ (_ : Unit), K () = some o → Go C 36 [] [] V R G 0 0) : ∀ (f : Nat) (x3 : Int32), lX1_actOfRest_8 n G V R b a1 q1 f x3 K = some o → Go C 8 [(0, .ref b), (1, .ref a1), (2, .int q1), (3, .int x3)] [] V R G 0 0 := by
  intro f
  induction f with
  | zero => intro _ hf; exact absurd hf (by unfold lX1_actOfRest_8; exact fun z => nomatch z)
  | succ f2 ih =>
    intro x3
    unfold lX1_actOfRest_8
    refine g_iload_n hC dX1_actOfRest_8 (j := 3) rfl rfl ?_
    refine g_aload_n hC dX1_actOfRest_9 (j := 1) rfl rfl ?_
    refine g_getI hC fi_2_1 h_a1 dX1_actOfRest_10 flX1_140 ?_
    refine g_icmp_ge hC dX1_actOfRest_13 ?_ ?_
    · refine g_sub [] rfl ?_
      exact hX ()
    · refine g_aload_n hC dX1_actOfRest_16 (j := 0) rfl rfl ?_
      refine g_aload_n hC dX1_actOfRest_17 (j := 1) rfl rfl ?_
      refine g_iload_n hC dX1_actOfRest_18 (j := 3) rfl rfl ?_
      refine g_iload_n hC dX1_actOfRest_19 (j := 2) rfl rfl ?_
      refine g_callV_i hC hR ⟨Nat.zero_le _, Nat.zero_le _⟩ mwX1_mayBePressed miX1_mayBePressed (ci := 1) rfl h_b (Nat.le_of_ble_eq_true rfl) mlX1_143 (fun _ hq => kX1_mayBePressed hG h_b h_a1 hq) (Nat.le_of_ble_eq_true rfl) rfl (st := []) rfl (Nat.le_of_ble_eq_true rfl) dX1_actOfRest_20 (fun q4 => ?_)
      refine g_if_eq hC dX1_actOfRest_23 ?_ ?_
      · refine g_iincL hC (n0 := 4) (j := 3) (lv' := fun x5 => [(3, .int x5), (0, .ref b), (1, .ref a1), (2, .int q1)]) dX1_actOfRest_30 rfl ic_1 (Nat.le_of_ble_eq_true rfl) hL (fun _ => rfl) (fun x5 => ?_)
        refine g_goto hC dX1_actOfRest_33 ?_
        refine g_sub [1, 2, 3, 0] rfl ?_
        exact ih x5
      · refine g_iload_n hC dX1_actOfRest_26 (j := 3) rfl rfl ?_
        refine g_iconst hC dX1_actOfRest_27 ic_1 ?_
        refine g_iadd hC dX1_actOfRest_28 ?_
        exact g_iret_i hC hT dX1_actOfRest_29
set_option maxHeartbeats 4000000 in
set_option maxRecDepth 100000 in
theorem kX1_actOfRest {l : Launch} {D : Dx} {G : G2} {V : V2} {R : R2} {n : Nat} {b : Nat} {a1 : Nat} (hG : GX G) (h_b : own G b 11) (h_a1 : own G a1 12) {o : Int32} (hf : pX1_actOfRest n G V R b a1 = some o) : Con l yX1_actOfRest cX1_actOfRest 4 (some .int) (rmN 4 0 0) D G V R [.ref b, .ref a1] (some (.int o), V, R, G, 0, 0) := by
  refine Con.mk RX1 (by decide) rfl (Nat.le_of_ble_eq_true rfl) (fun C _ hR hT _ _ hL hC hnm => ?_)
  revert hf
  unfold pX1_actOfRest
  refine g_aload_n hC dX1_actOfRest_0 (j := 0) rfl rfl ?_
  refine g_aload_n hC dX1_actOfRest_1 (j := 1) rfl rfl ?_
  refine g_callV_i hC hR ⟨Nat.zero_le _, Nat.zero_le _⟩ mwX1_steamNow miX1_steamNow (ci := 1) rfl h_b (Nat.le_of_ble_eq_true rfl) mlX1_136 (fun _ hq => kX1_steamNow hG h_b h_a1 hq) (Nat.le_of_ble_eq_true rfl) rfl (st := []) rfl (Nat.le_of_ble_eq_true rfl) dX1_actOfRest_2 (fun q1 => ?_)
  refine g_istore_n hC (n0 := 4) (lv' := [(2, .int q1), (0, .ref b), (1, .ref a1)]) dX1_actOfRest_5 rfl (Nat.le_of_ble_eq_true rfl) hL rfl ?_
  refine g_iconst hC dX1_actOfRest_6 ic_0 ?_
  refine g_istore_n hC (n0 := 4) (lv' := [(3, .int 0), (2, .int q1), (0, .ref b), (1, .ref a1)]) dX1_actOfRest_7 rfl (Nat.le_of_ble_eq_true rfl) hL rfl ?_
  refine g_sub [2, 3, 1, 0] rfl ?_
  refine wX1_actOfRest_8 hC hL hG h_b h_a1 hR hT (fun _ => ?_) n 0
  refine g_iconst hC dX1_actOfRest_36 ic_0 ?_
  exact g_iret_i hC hT dX1_actOfRest_37
def pX2_lieFlat (V : V2) (b : Nat) (a1 : Int32) : Option (V2) :=
  (pX2_setFlat V b a1 1).bind fun q1 =>
  (stI 6 q1 (b + 2) a1 0).bind fun U2 =>
  some U2
set_option maxHeartbeats 4000000 in
set_option maxRecDepth 100000 in
theorem kX2_lieFlat {l : Launch} {D : Dx} {G : G2} {V : V2} {R : R2} {b : Nat} {a1 : Int32} (hG : GX G) (h_b : own G b 12) {o : V2} (hf : pX2_lieFlat V b a1 = some o) : Con l yX2_lieFlat cX2_lieFlat 2 none (rmN 1 0 0) D G V R [.ref b, .int a1] (none, o, R, G, 0, 0) := by
  refine Con.mk RX2 (by decide) rfl (Nat.le_of_ble_eq_true rfl) (fun C _ hR hT _ _ hL hC hnm => ?_)
  revert hf
  unfold pX2_lieFlat
  refine g_aload_n hC dX2_lieFlat_0 (j := 0) rfl rfl ?_
  refine g_iload_n hC dX2_lieFlat_1 (j := 1) rfl rfl ?_
  refine g_iconst hC dX2_lieFlat_2 ic_1 ?_
  refine g_callV_vV hC hR ⟨Nat.zero_le _, Nat.zero_le _⟩ mwX2_setFlat miX2_setFlat (ci := 2) rfl h_b (Nat.le_of_ble_eq_true rfl) mlX2_40 (fun _ hq => kX2_setFlat hG h_b hq) (Nat.le_of_ble_eq_true rfl) rfl (st := []) rfl (Nat.le_of_ble_eq_true rfl) dX2_lieFlat_3 (fun q1 => ?_)
  refine g_aload_n hC dX2_lieFlat_6 (j := 0) rfl rfl ?_
  refine g_getR hC fr_2_4 h_b (b := b + 2) rfl dX2_lieFlat_7 flX2_25 ?_
  refine g_iload_n hC dX2_lieFlat_10 (j := 1) rfl rfl ?_
  refine g_iconst hC dX2_lieFlat_11 ic_0 ?_
  refine g_iastV hC (gx_2_4 hG h_b) (gl_2_4 hG h_b) dX2_lieFlat_12 (fun U2 => ?_)
  exact g_vret_vV hC hT dX2_lieFlat_13
def pX2_fold (V : V2) (b : Nat) (a1 : Int32) : Option (V2) :=
  (ldI 6 (V (b + 3)) a1).bind fun t1 =>
  (stI 6 V (b + 3) a1 (jmin 9 (t1 + 1))).bind fun U2 =>
  (ldI 6 (U2 (b + 2)) a1).bind fun t3 =>
  (stI 6 U2 (b + 2) a1 (jmax 0 (t3 - 6))).bind fun U4 =>
  some U4
set_option maxHeartbeats 4000000 in
set_option maxRecDepth 100000 in
theorem kX2_fold {l : Launch} {D : Dx} {G : G2} {V : V2} {R : R2} {b : Nat} {a1 : Int32} (hG : GX G) (h_b : own G b 12) {o : V2} (hf : pX2_fold V b a1 = some o) : Con l yX2_fold cX2_fold 2 none (rmN 1 0 0) D G V R [.ref b, .int a1] (none, o, R, G, 0, 0) := by
  refine Con.mk RX2 (by decide) rfl (Nat.le_of_ble_eq_true rfl) (fun C _ hR hT _ _ hL hC hnm => ?_)
  revert hf
  unfold pX2_fold
  refine g_aload_n hC dX2_fold_0 (j := 0) rfl rfl ?_
  refine g_getR hC fr_2_5 h_b (b := b + 3) rfl dX2_fold_1 flX2_28 ?_
  refine g_iload_n hC dX2_fold_4 (j := 1) rfl rfl ?_
  refine g_bipush hC dX2_fold_5 bc_9 ?_
  refine g_aload_n hC dX2_fold_7 (j := 0) rfl rfl ?_
  refine g_getR hC fr_2_5 h_b (b := b + 3) rfl dX2_fold_8 flX2_28 ?_
  refine g_iload_n hC dX2_fold_11 (j := 1) rfl rfl ?_
  refine g_ialdV hC (gx_2_5 hG h_b) (gl_2_5 hG h_b) dX2_fold_12 (fun t1 => ?_)
  refine g_iconst hC dX2_fold_13 ic_1 ?_
  refine g_iadd hC dX2_fold_14 ?_
  refine g_mmin hC hR (Nat.le_of_ble_eq_true rfl) ⟨Nat.le_refl _, Nat.le_refl _⟩ dX2_fold_15 mlX2_44 (st := [.int a1, .ref (b + 3)]) (Nat.le_of_ble_eq_true rfl) ?_
  refine g_iastV hC (gx_2_5 hG h_b) (gl_2_5 hG h_b) dX2_fold_18 (fun U2 => ?_)
  refine g_aload_n hC dX2_fold_19 (j := 0) rfl rfl ?_
  refine g_getR hC fr_2_4 h_b (b := b + 2) rfl dX2_fold_20 flX2_25 ?_
  refine g_iload_n hC dX2_fold_23 (j := 1) rfl rfl ?_
  refine g_iconst hC dX2_fold_24 ic_0 ?_
  refine g_aload_n hC dX2_fold_25 (j := 0) rfl rfl ?_
  refine g_getR hC fr_2_4 h_b (b := b + 2) rfl dX2_fold_26 flX2_25 ?_
  refine g_iload_n hC dX2_fold_29 (j := 1) rfl rfl ?_
  refine g_ialdV hC (gx_2_4 hG h_b) (gl_2_4 hG h_b) dX2_fold_30 (fun t3 => ?_)
  refine g_bipush hC dX2_fold_31 bc_6 ?_
  refine g_isub hC dX2_fold_33 ?_
  refine g_mmax hC hR (Nat.le_of_ble_eq_true rfl) ⟨Nat.le_refl _, Nat.le_refl _⟩ dX2_fold_34 mlX2_50 (st := [.int a1, .ref (b + 2)]) (Nat.le_of_ble_eq_true rfl) ?_
  refine g_iastV hC (gx_2_4 hG h_b) (gl_2_4 hG h_b) dX2_fold_37 (fun U4 => ?_)
  exact g_vret_vV hC hT dX2_fold_38
def pX1_doWill (n : Nat) (G : G2) (V : V2) (R : R2) (b : Nat) (a1 : Nat) (a2 : Int32) : Option (Int32 × V2) :=
  (pX2_isFlat V a1 a2).bind fun q1 =>
  if q1 = 0 then ((pX1_steamNow V b a1).bind fun q2 =>
  (pX1_will n G V R b a1 a2 q2).bind fun q3 =>
  if q3 = 0 then ((pX1_pays n V b a1 a2 q2).bind fun q4 =>
  if q4 ≤ 0 then (some (q4, V))
  else ((pX2_lieFlat V a1 a2).bind fun q5 =>
  some (q4, q5)))
  else (if q3 = 2 then ((pX2_fold V a1 a2).bind fun q7 =>
  (pX1_sighNow q7 b a1).bind fun q8 =>
  if q8 = 0 then (some (1, q7))
  else (some (0, q7)))
  else (some (0, V))))
  else (some (0, V))
set_option maxHeartbeats 4000000 in
set_option maxRecDepth 100000 in
theorem kX1_doWill {l : Launch} {D : Dx} {G : G2} {V : V2} {R : R2} {n : Nat} {b : Nat} {a1 : Nat} {a2 : Int32} (hG : GX G) (h_b : own G b 11) (h_a1 : own G a1 12) {o : Int32 × V2} (hf : pX1_doWill n G V R b a1 a2 = some o) : Con l yX1_doWill cX1_doWill 5 (some .int) (rmN 3 0 0) D G V R [.ref b, .ref a1, .int a2] (some (.int o.1), o.2, R, G, 0, 0) := by
  refine Con.mk RX1 (by decide) rfl (Nat.le_of_ble_eq_true rfl) (fun C _ hR hT _ _ hL hC hnm => ?_)
  revert hf
  unfold pX1_doWill
  refine g_aload_n hC dX1_doWill_0 (j := 1) rfl rfl ?_
  refine g_iload_n hC dX1_doWill_1 (j := 2) rfl rfl ?_
  refine g_callV_i hC hR ⟨Nat.zero_le _, Nat.zero_le _⟩ mwX2_isFlat miX2_isFlat (ci := 2) rfl h_a1 (Nat.le_of_ble_eq_true rfl) mlX1_100 (fun _ hq => kX2_isFlat hG h_a1 hq) (Nat.le_of_ble_eq_true rfl) rfl (st := []) rfl (Nat.le_of_ble_eq_true rfl) dX1_doWill_2 (fun q1 => ?_)
  refine g_if_eq hC dX1_doWill_5 ?_ ?_
  · refine g_aload_n hC dX1_doWill_10 (j := 0) rfl rfl ?_
    refine g_aload_n hC dX1_doWill_11 (j := 1) rfl rfl ?_
    refine g_callV_i hC hR ⟨Nat.zero_le _, Nat.zero_le _⟩ mwX1_steamNow miX1_steamNow (ci := 1) rfl h_b (Nat.le_of_ble_eq_true rfl) mlX1_136 (fun _ hq => kX1_steamNow hG h_b h_a1 hq) (Nat.le_of_ble_eq_true rfl) rfl (st := []) rfl (Nat.le_of_ble_eq_true rfl) dX1_doWill_12 (fun q2 => ?_)
    refine g_istore_n hC (n0 := 5) (lv' := [(3, .int q2), (0, .ref b), (1, .ref a1), (2, .int a2)]) dX1_doWill_15 rfl (Nat.le_of_ble_eq_true rfl) hL rfl ?_
    refine g_aload_n hC dX1_doWill_16 (j := 1) rfl rfl ?_
    refine g_aload_n hC dX1_doWill_17 (j := 2) rfl rfl ?_
    refine g_iload_n hC dX1_doWill_18 (j := 3) rfl rfl ?_
    refine g_iload_n hC dX1_doWill_19 (j := 0) rfl rfl ?_
    refine g_callV_i hC hR ⟨Nat.zero_le _, Nat.zero_le _⟩ mwX1_will miX1_will (ci := 1) rfl h_b (Nat.le_of_ble_eq_true rfl) mlX1_134 (fun _ hq => kX1_will hG h_b h_a1 hq) (Nat.le_of_ble_eq_true rfl) rfl (st := []) rfl (Nat.le_of_ble_eq_true rfl) dX1_doWill_20 (fun q3 => ?_)
    refine g_lsw hC 0 (25) (tgt := 48) dX1_doWill_23 (by decide) (by decide) rfl ?_ (fun hn6 => ?_)
    · refine g_aload_n hC dX1_doWill_48 (j := 1) rfl rfl ?_
      refine g_aload_n hC dX1_doWill_49 (j := 2) rfl rfl ?_
      refine g_iload_n hC dX1_doWill_50 (j := 3) rfl rfl ?_
      refine g_iload_n hC dX1_doWill_51 (j := 0) rfl rfl ?_
      refine g_callV_i hC hR ⟨Nat.zero_le _, Nat.zero_le _⟩ mwX1_pays miX1_pays (ci := 1) rfl h_b (Nat.le_of_ble_eq_true rfl) mlX1_130 (fun _ hq => kX1_pays hG h_b h_a1 hq) (Nat.le_of_ble_eq_true rfl) rfl (st := []) rfl (Nat.le_of_ble_eq_true rfl) dX1_doWill_52 (fun q4 => ?_)
      refine g_istore hC (n0 := 5) (lv' := [(4, .int q4), (3, .int q2), (0, .ref b), (1, .ref a1), (2, .int a2)]) dX1_doWill_55 (Nat.le_of_ble_eq_true rfl) hL rfl ?_
      refine g_iload hC dX1_doWill_57 (j := 0) rfl ?_
      refine g_if_le hC dX1_doWill_59 ?_ ?_
      · refine g_iload hC dX1_doWill_67 (j := 0) rfl ?_
        exact g_iret_iV hC hT dX1_doWill_69
      · refine g_aload_n hC dX1_doWill_62 (j := 3) rfl rfl ?_
        refine g_iload_n hC dX1_doWill_63 (j := 4) rfl rfl ?_
        refine g_callV_vV hC hR ⟨Nat.zero_le _, Nat.zero_le _⟩ mwX2_lieFlat miX2_lieFlat (ci := 2) rfl h_a1 (Nat.le_of_ble_eq_true rfl) mlX1_180 (fun _ hq => kX2_lieFlat hG h_a1 hq) (Nat.le_of_ble_eq_true rfl) rfl (st := []) rfl (Nat.le_of_ble_eq_true rfl) dX1_doWill_64 (fun q5 => ?_)
        refine g_iload hC dX1_doWill_67 (j := 0) rfl ?_
        exact g_iret_iV hC hT dX1_doWill_69
    refine g_lsw hC 2 (47) (tgt := 70) dX1_doWill_23 (by decide) (by decide) rfl ?_ (fun hn9 => ?_)
    · refine g_aload_n hC dX1_doWill_70 (j := 2) rfl rfl ?_
      refine g_iload_n hC dX1_doWill_71 (j := 3) rfl rfl ?_
      refine g_callV_vV hC hR ⟨Nat.zero_le _, Nat.zero_le _⟩ mwX2_fold miX2_fold (ci := 2) rfl h_a1 (Nat.le_of_ble_eq_true rfl) mlX1_184 (fun _ hq => kX2_fold hG h_a1 hq) (Nat.le_of_ble_eq_true rfl) rfl (st := []) rfl (Nat.le_of_ble_eq_true rfl) dX1_doWill_72 (fun q7 => ?_)
      refine g_aload_n hC dX1_doWill_75 (j := 1) rfl rfl ?_
      refine g_aload_n hC dX1_doWill_76 (j := 2) rfl rfl ?_
      refine g_callV_i hC hR ⟨Nat.zero_le _, Nat.zero_le _⟩ mwX1_sighNow miX1_sighNow (ci := 1) rfl h_b (Nat.le_of_ble_eq_true rfl) mlX1_157 (fun _ hq => kX1_sighNow hG h_b h_a1 hq) (Nat.le_of_ble_eq_true rfl) rfl (st := []) rfl (Nat.le_of_ble_eq_true rfl) dX1_doWill_77 (fun q8 => ?_)
      refine g_if_ne hC dX1_doWill_80 ?_ ?_
      · refine g_iconst hC dX1_doWill_83 ic_1 ?_
        refine g_goto hC dX1_doWill_84 ?_
        exact g_iret_iV hC hT dX1_doWill_88
      · refine g_iconst hC dX1_doWill_87 ic_0 ?_
        exact g_iret_iV hC hT dX1_doWill_88
    refine g_lswd hC (tgt := 89) dX1_doWill_23 (by decide) (by rw [lv_osw hn6 (by decide)]; rw [lv_osw hn9 (by decide)]; rfl) rfl ?_
    refine g_iconst hC dX1_doWill_89 ic_0 ?_
    exact g_iret_iV hC hT dX1_doWill_90
  · refine g_iconst hC dX1_doWill_8 ic_0 ?_
    exact g_iret_iV hC hT dX1_doWill_9
def lX2_undoLastFlat_7 (b : Nat) : Nat → V2 → Int32 → (V2 → Option (V2)) → Option (V2)
  | 0, _, _, _ => none
  | f2 + 1, U3, x4, K =>
    if x4 < 0 then (K U3)
    else ((pX2_isFlat U3 b x4).bind fun q5 =>
    if q5 = 0 then (letv (x4 + (-1)) fun x6 =>
    lX2_undoLastFlat_7 b f2 U3 x6 K)
    else ((pX2_setFlat U3 b x4 0).bind fun q7 =>
    (stI 6 q7 (b + 2) x4 25).bind fun U8 =>
    some U8))
def pX2_undoLastFlat (n : Nat) (V : V2) (b : Nat) : Option (V2) :=
  letv ((V b 1) - 1) fun x1 =>
  lX2_undoLastFlat_7 b n V x1 (fun w9 =>
  some w9)
set_option maxHeartbeats 4000000 in
set_option maxRecDepth 100000 in
theorem wX2_undoLastFlat_7 {C : Cx} (hC : CxOK C cX2_undoLastFlat RX2 none) (hL : C.2.2.2.2 = 2) {G : G2} {R : R2} {b : Nat} (hG : GX G) (h_b : own G b 12) (hR : C.1.2.2.2.1 = rmN 1 0 0) {o : V2} (hT : C.2.1 = (none, o, R, G, 0, 0)) {K : V2 → Option (V2)} (hX : ∀ (y1 : V2), K y1 = some o → Go C 40 [] [] y1 R G 0 0) : ∀ (f : Nat) (U3 : V2) (x4 : Int32), lX2_undoLastFlat_7 b f U3 x4 K = some o → Go C 7 [(0, .ref b), (1, .int x4)] [] U3 R G 0 0 := by
  intro f
  induction f with
  | zero => intro _ _ hf; exact absurd hf (by unfold lX2_undoLastFlat_7; exact fun z => nomatch z)
  | succ f2 ih =>
    intro U3 x4
    unfold lX2_undoLastFlat_7
    refine g_iload_n hC dX2_undoLastFlat_7 (j := 1) rfl rfl ?_
    refine g_if_lt hC dX2_undoLastFlat_8 ?_ ?_
    · refine g_sub [] rfl ?_
      exact hX U3
    · refine g_aload_n hC dX2_undoLastFlat_11 (j := 0) rfl rfl ?_
      refine g_iload_n hC dX2_undoLastFlat_12 (j := 1) rfl rfl ?_
      refine g_callV_i hC hR ⟨Nat.zero_le _, Nat.zero_le _⟩ mwX2_isFlat miX2_isFlat (ci := 2) rfl h_b (Nat.le_of_ble_eq_true rfl) mlX2_53 (fun _ hq => kX2_isFlat hG h_b hq) (Nat.le_of_ble_eq_true rfl) rfl (st := []) rfl (Nat.le_of_ble_eq_true rfl) dX2_undoLastFlat_13 (fun q5 => ?_)
      refine g_if_eq hC dX2_undoLastFlat_16 ?_ ?_
      · refine g_iincL hC (n0 := 2) (j := 1) (lv' := fun x6 => [(1, .int x6), (0, .ref b)]) dX2_undoLastFlat_34 rfl ic_m1 (Nat.le_of_ble_eq_true rfl) hL (fun _ => rfl) (fun x6 => ?_)
        refine g_goto hC dX2_undoLastFlat_37 ?_
        refine g_sub [1, 0] rfl ?_
        exact ih U3 x6
      · refine g_aload_n hC dX2_undoLastFlat_19 (j := 0) rfl rfl ?_
        refine g_iload_n hC dX2_undoLastFlat_20 (j := 1) rfl rfl ?_
        refine g_iconst hC dX2_undoLastFlat_21 ic_0 ?_
        refine g_callV_vV hC hR ⟨Nat.zero_le _, Nat.zero_le _⟩ mwX2_setFlat miX2_setFlat (ci := 2) rfl h_b (Nat.le_of_ble_eq_true rfl) mlX2_40 (fun _ hq => kX2_setFlat hG h_b hq) (Nat.le_of_ble_eq_true rfl) rfl (st := []) rfl (Nat.le_of_ble_eq_true rfl) dX2_undoLastFlat_22 (fun q7 => ?_)
        refine g_aload_n hC dX2_undoLastFlat_25 (j := 0) rfl rfl ?_
        refine g_getR hC fr_2_4 h_b (b := b + 2) rfl dX2_undoLastFlat_26 flX2_25 ?_
        refine g_iload_n hC dX2_undoLastFlat_29 (j := 1) rfl rfl ?_
        refine g_bipush hC dX2_undoLastFlat_30 bc_25 ?_
        refine g_iastV hC (gx_2_4 hG h_b) (gl_2_4 hG h_b) dX2_undoLastFlat_32 (fun U8 => ?_)
        exact g_vret_vV hC hT dX2_undoLastFlat_33
set_option maxHeartbeats 4000000 in
set_option maxRecDepth 100000 in
theorem kX2_undoLastFlat {l : Launch} {D : Dx} {G : G2} {V : V2} {R : R2} {n : Nat} {b : Nat} (hG : GX G) (h_b : own G b 12) {o : V2} (hf : pX2_undoLastFlat n V b = some o) : Con l yX2_undoLastFlat cX2_undoLastFlat 2 none (rmN 1 0 0) D G V R [.ref b] (none, o, R, G, 0, 0) := by
  refine Con.mk RX2 (by decide) rfl (Nat.le_of_ble_eq_true rfl) (fun C _ hR hT _ _ hL hC hnm => ?_)
  revert hf
  unfold pX2_undoLastFlat
  refine g_aload_n hC dX2_undoLastFlat_0 (j := 0) rfl rfl ?_
  refine g_getI hC fi_2_1 h_b dX2_undoLastFlat_1 flX2_15 ?_
  refine g_iconst hC dX2_undoLastFlat_4 ic_1 ?_
  refine g_isub hC dX2_undoLastFlat_5 ?_
  refine g_istore_nL hC (n0 := 2) (lv' := fun x1 => [(1, .int x1), (0, .ref b)]) dX2_undoLastFlat_6 rfl (Nat.le_of_ble_eq_true rfl) hL (fun _ => rfl) (fun x1 => ?_)
  refine g_sub [1, 0] rfl ?_
  refine wX2_undoLastFlat_7 hC hL hG h_b hR hT (fun w9 => ?_) n V x1
  exact g_vret_vV hC hT dX2_undoLastFlat_40
def lX1_goBy_57 (b : Nat) (a1 : Nat) (q1 : Int32) : Nat → V2 → Int32 → Option (V2)
  | 0, _, _ => none
  | f8 + 1, U9, x10 =>
    if (U9 a1 1) ≤ x10 then (some U9)
    else ((pX2_isFlat U9 a1 x10).bind fun q11 =>
    ((if q11 = 0 then ((ldI 6 (U9 (a1 + 2)) x10).bind fun t13 =>
    (pX1_swells U9 b a1 x10 q1).bind fun q14 =>
    some (jmin 99 (t13 + q14)))
    else (some 0) : Option (Int32))).bind fun j12 =>
    (stI 6 U9 (a1 + 2) x10 j12).bind fun U15 =>
    letv (x10 + 1) fun x16 =>
    lX1_goBy_57 b a1 q1 f8 U15 x16)
def pX1_goBy (n : Nat) (G : G2) (V : V2) (R : R2) (b : Nat) (a1 : Nat) (a2 : Int32) : Option (Int32 × V2) :=
  (pX1_sighNow V b a1).bind fun q1 =>
  ((if a2 < (1 : Int32) then (some (0, V))
  else (if (V a1 1) < a2 then (some (0, V))
  else ((pX1_doWill n G V R b a1 (a2 - 1)).bind fun q3 =>
  some (q3.1, q3.2))) : Option (Int32 × V2))).bind fun j2 =>
  ((if q1 = (3 : Int32) then ((pX2_undoLastFlat n j2.2 a1).bind fun q5 =>
  some q5)
  else (some j2.2) : Option (V2))).bind fun j4 =>
  (pJ6_bitCount_0f7a4 (j4 a1 2)).bind fun q6 =>
  letv (j2.1 + q6) fun x7 =>
  (lX1_goBy_57 b a1 q1 n j4 0).bind fun w17 =>
  letv (up2 w17 a1 0 ((w17 a1 0) + 1)) fun U18 =>
  some (x7, U18)
set_option maxHeartbeats 4000000 in
set_option maxRecDepth 100000 in
theorem wX1_goBy_57 {C : Cx} (hC : CxOK C cX1_goBy RX1 (some .int)) (hL : C.2.2.2.2 = 6) {G : G2} {R : R2} {b : Nat} {a1 : Nat} {q1 : Int32} {x7 : Int32} (hG : GX G) (h_b : own G b 11) (h_a1 : own G a1 12) (hR : C.1.2.2.2.1 = rmN 4 0 0) {o : V2} (hX : Go C 113 [(1, .ref a1), (4, .int x7)] [] o R G 0 0) : ∀ (f : Nat) (U9 : V2) (x10 : Int32), lX1_goBy_57 b a1 q1 f U9 x10 = some o → Go C 57 [(0, .ref b), (1, .ref a1), (3, .int q1), (4, .int x7), (5, .int x10)] [] U9 R G 0 0 := by
  intro f
  induction f with
  | zero => intro _ _ hf; exact absurd hf (by unfold lX1_goBy_57; exact fun z => nomatch z)
  | succ f8 ih =>
    intro U9 x10
    unfold lX1_goBy_57
    refine g_iload hC dX1_goBy_57 (j := 4) rfl ?_
    refine g_aload_n hC dX1_goBy_59 (j := 1) rfl rfl ?_
    refine g_getI hC fi_2_1 h_a1 dX1_goBy_60 flX1_140 ?_
    refine g_icmp_ge hC dX1_goBy_63 ?_ ?_
    · refine g_sub [1, 3] rfl ?_
      exact fun e => by cases e; exact hX
    · refine g_aload_n hC dX1_goBy_66 (j := 1) rfl rfl ?_
      refine g_getR hC fr_2_4 h_a1 (b := a1 + 2) rfl dX1_goBy_67 flX1_107 ?_
      refine g_iload hC dX1_goBy_70 (j := 4) rfl ?_
      refine g_aload_n hC dX1_goBy_72 (j := 1) rfl rfl ?_
      refine g_iload hC dX1_goBy_73 (j := 4) rfl ?_
      refine g_callV_i hC hR ⟨Nat.zero_le _, Nat.zero_le _⟩ mwX2_isFlat miX2_isFlat (ci := 2) rfl h_a1 (Nat.le_of_ble_eq_true rfl) mlX1_100 (fun _ hq => kX2_isFlat hG h_a1 hq) (Nat.le_of_ble_eq_true rfl) rfl (st := [.int x10, .ref (a1 + 2)]) rfl (Nat.le_of_ble_eq_true rfl) dX1_goBy_75 (fun q11 => ?_)
      refine g_bind (J := fun j12 => Go C 106 [(0, .ref b), (1, .ref a1), (3, .int q1), (4, .int x7), (5, .int x10)] [.int j12, .int x10, .ref (a1 + 2)] U9 R G 0 0) (fun j12 hJ => ?_) (fun j12 => ?_)
      · refine g_if_eq hC dX1_goBy_78 ?_ ?_
        · refine g_bipush hC dX1_goBy_85 bc_99 ?_
          refine g_aload_n hC dX1_goBy_87 (j := 1) rfl rfl ?_
          refine g_getR hC fr_2_4 h_a1 (b := a1 + 2) rfl dX1_goBy_88 flX1_107 ?_
          refine g_iload hC dX1_goBy_91 (j := 4) rfl ?_
          refine g_ialdV hC (gx_2_4 hG h_a1) (gl_2_4 hG h_a1) dX1_goBy_93 (fun t13 => ?_)
          refine g_aload_n hC dX1_goBy_94 (j := 0) rfl rfl ?_
          refine g_aload_n hC dX1_goBy_95 (j := 1) rfl rfl ?_
          refine g_iload hC dX1_goBy_96 (j := 4) rfl ?_
          refine g_iload_n hC dX1_goBy_98 (j := 2) rfl rfl ?_
          refine g_callV_i hC hR ⟨Nat.zero_le _, Nat.zero_le _⟩ mwX1_swells miX1_swells (ci := 1) rfl h_b (Nat.le_of_ble_eq_true rfl) mlX1_174 (fun _ hq => kX1_swells hG h_b h_a1 hq) (Nat.le_of_ble_eq_true rfl) rfl (st := [.int t13, .int 99, .int x10, .ref (a1 + 2)]) rfl (Nat.le_of_ble_eq_true rfl) dX1_goBy_99 (fun q14 => ?_)
          refine g_iadd hC dX1_goBy_102 ?_
          refine g_mmin hC hR (Nat.le_of_ble_eq_true rfl) ⟨Nat.le_refl _, Nat.le_refl _⟩ dX1_goBy_103 mlX1_177 (st := [.int x10, .ref (a1 + 2)]) (Nat.le_of_ble_eq_true rfl) ?_
          exact fun e => by cases e; exact hJ
        · refine g_iconst hC dX1_goBy_81 ic_0 ?_
          refine g_goto hC dX1_goBy_82 ?_
          exact fun e => by cases e; exact hJ
      · refine g_iastV hC (gx_2_4 hG h_a1) (gl_2_4 hG h_a1) dX1_goBy_106 (fun U15 => ?_)
        refine g_iincL hC (n0 := 6) (j := 4) (lv' := fun x16 => [(5, .int x16), (0, .ref b), (1, .ref a1), (3, .int q1), (4, .int x7)]) dX1_goBy_107 rfl ic_1 (Nat.le_of_ble_eq_true rfl) hL (fun _ => rfl) (fun x16 => ?_)
        refine g_goto hC dX1_goBy_110 ?_
        refine g_sub [1, 2, 3, 4, 0] rfl ?_
        exact ih U15 x16
set_option maxHeartbeats 4000000 in
set_option maxRecDepth 100000 in
theorem kX1_goBy {l : Launch} {D : Dx} {G : G2} {V : V2} {R : R2} {n : Nat} {b : Nat} {a1 : Nat} {a2 : Int32} (hG : GX G) (h_b : own G b 11) (h_a1 : own G a1 12) {o : Int32 × V2} (hf : pX1_goBy n G V R b a1 a2 = some o) : Con l yX1_goBy cX1_goBy 6 (some .int) (rmN 4 0 0) D G V R [.ref b, .ref a1, .int a2] (some (.int o.1), o.2, R, G, 0, 0) := by
  refine Con.mk RX1 (by decide) rfl (Nat.le_of_ble_eq_true rfl) (fun C _ hR hT _ _ hL hC hnm => ?_)
  revert hf
  unfold pX1_goBy
  refine g_aload_n hC dX1_goBy_0 (j := 0) rfl rfl ?_
  refine g_aload_n hC dX1_goBy_1 (j := 1) rfl rfl ?_
  refine g_callV_i hC hR ⟨Nat.zero_le _, Nat.zero_le _⟩ mwX1_sighNow miX1_sighNow (ci := 1) rfl h_b (Nat.le_of_ble_eq_true rfl) mlX1_157 (fun _ hq => kX1_sighNow hG h_b h_a1 hq) (Nat.le_of_ble_eq_true rfl) rfl (st := []) rfl (Nat.le_of_ble_eq_true rfl) dX1_goBy_2 (fun q1 => ?_)
  refine g_istore_n hC (n0 := 6) (lv' := [(3, .int q1), (0, .ref b), (1, .ref a1), (2, .int a2)]) dX1_goBy_5 rfl (Nat.le_of_ble_eq_true rfl) hL rfl ?_
  refine g_iload_n hC dX1_goBy_6 (j := 3) rfl rfl ?_
  refine g_iconst hC dX1_goBy_7 ic_1 ?_
  refine g_bind (J := fun j2 => Go C 31 [(0, .ref b), (1, .ref a1), (3, .int q1)] [.int j2.1] j2.2 R G 0 0) (fun j2 hJ => ?_) (fun j2 => ?_)
  · refine g_icmp_lt hC dX1_goBy_8 ?_ ?_
    · refine g_iconst hC dX1_goBy_30 ic_0 ?_
      refine g_sub [1, 2, 0] rfl ?_
      exact fun e => by cases e; exact hJ
    · refine g_iload_n hC dX1_goBy_11 (j := 3) rfl rfl ?_
      refine g_aload_n hC dX1_goBy_12 (j := 2) rfl rfl ?_
      refine g_getI hC fi_2_1 h_a1 dX1_goBy_13 flX1_140 ?_
      refine g_icmp_gt hC dX1_goBy_16 ?_ ?_
      · refine g_iconst hC dX1_goBy_30 ic_0 ?_
        refine g_sub [1, 2, 0] rfl ?_
        exact fun e => by cases e; exact hJ
      · refine g_aload_n hC dX1_goBy_19 (j := 1) rfl rfl ?_
        refine g_aload_n hC dX1_goBy_20 (j := 2) rfl rfl ?_
        refine g_iload_n hC dX1_goBy_21 (j := 3) rfl rfl ?_
        refine g_iconst hC dX1_goBy_22 ic_1 ?_
        refine g_isub hC dX1_goBy_23 ?_
        refine g_callV_iV hC hR ⟨Nat.zero_le _, Nat.zero_le _⟩ mwX1_doWill miX1_doWill (ci := 1) rfl h_b (Nat.le_of_ble_eq_true rfl) mlX1_160 (fun _ hq => kX1_doWill hG h_b h_a1 hq) (Nat.le_of_ble_eq_true rfl) rfl (st := []) rfl (Nat.le_of_ble_eq_true rfl) dX1_goBy_24 (fun q3 => ?_)
        refine g_goto hC dX1_goBy_27 ?_
        refine g_sub [1, 2, 0] rfl ?_
        exact fun e => by cases e; exact hJ
  · refine g_istore hC (n0 := 6) (lv' := [(4, .int j2.1), (0, .ref b), (1, .ref a1), (3, .int q1)]) dX1_goBy_31 (Nat.le_of_ble_eq_true rfl) hL rfl ?_
    refine g_iload_n hC dX1_goBy_33 (j := 3) rfl rfl ?_
    refine g_iconst hC dX1_goBy_34 ic_3 ?_
    refine g_bind (J := fun j4 => Go C 42 [(0, .ref b), (1, .ref a1), (3, .int q1), (4, .int j2.1)] [] j4 R G 0 0) (fun j4 hJ => ?_) (fun j4 => ?_)
    · refine g_icmp_ne hC dX1_goBy_35 ?_ ?_
      · refine g_aload_n hC dX1_goBy_38 (j := 2) rfl rfl ?_
        refine g_callV_vV hC hR ⟨Nat.zero_le _, Nat.zero_le _⟩ mwX2_undoLastFlat miX2_undoLastFlat (ci := 2) rfl h_a1 (Nat.le_of_ble_eq_true rfl) mlX1_163 (fun _ hq => kX2_undoLastFlat hG h_a1 hq) (Nat.le_of_ble_eq_true rfl) rfl (st := []) rfl (Nat.le_of_ble_eq_true rfl) dX1_goBy_39 (fun q5 => ?_)
        refine g_sub [1, 2, 3, 0] rfl ?_
        exact fun e => by cases e; exact hJ
      · refine g_sub [1, 2, 3, 0] rfl ?_
        exact fun e => by cases e; exact hJ
    · refine g_iload hC dX1_goBy_42 (j := 3) rfl ?_
      refine g_aload_n hC dX1_goBy_44 (j := 1) rfl rfl ?_
      refine g_getI hC fi_2_2 h_a1 dX1_goBy_45 flX1_166 ?_
      refine g_callS_i hC hR ⟨Nat.zero_le _, Nat.zero_le _⟩ mwJ6_bitCount_0f7a4 ms_J6_bitCount_0f7a4 mlX1_169 (fun _ hq => kJ6_bitCount_0f7a4  hq) (Nat.le_of_ble_eq_true rfl) rfl (st := [.int j2.1]) rfl (Nat.le_of_ble_eq_true rfl) dX1_goBy_48 (fun q6 => ?_)
      refine g_iadd hC dX1_goBy_51 ?_
      refine g_istoreL hC (n0 := 6) (lv' := fun x7 => [(4, .int x7), (0, .ref b), (1, .ref a1), (3, .int q1)]) dX1_goBy_52 (Nat.le_of_ble_eq_true rfl) hL (fun _ => rfl) (fun x7 => ?_)
      refine g_iconst hC dX1_goBy_54 ic_0 ?_
      refine g_istore hC (n0 := 6) (lv' := [(5, .int 0), (4, .int x7), (0, .ref b), (1, .ref a1), (3, .int q1)]) dX1_goBy_55 (Nat.le_of_ble_eq_true rfl) hL rfl ?_
      refine g_sub [2, 3, 4, 1, 0] rfl ?_
      refine g_bind (J := fun w17 => Go C 113 [(1, .ref a1), (4, .int x7)] [] w17 R G 0 0) (fun w17 hJ => wX1_goBy_57 hC hL hG h_b h_a1 hR hJ n j4 0) (fun w17 => ?_)
      refine g_aload_n hC dX1_goBy_113 (j := 0) rfl rfl ?_
      refine g_dup hC dX1_goBy_114 rfl ?_
      refine g_getI hC fi_2_0 h_a1 dX1_goBy_115 flX1_77 ?_
      refine g_iconst hC dX1_goBy_118 ic_1 ?_
      refine g_iadd hC dX1_goBy_119 ?_
      refine g_putIL hC fp_2_0 h_a1 dX1_goBy_120 flX1_77 (fun U18 => ?_)
      refine g_iload hC dX1_goBy_123 (j := 1) rfl ?_
      exact g_iret_iV hC hT dX1_goBy_125
def pX8_goByNow (n : Nat) (G : G2) (V : V2) (R : R2) (b : Nat) (a1 : Int32) : Option (Int32 × V2) :=
  (pX1_goBy n G V R (b + 1) (b + 2) a1).bind fun q1 =>
  letv (up2 q1.2 (b + 1) 2 ((q1.2 (b + 1) 2) + q1.1)) fun U2 =>
  some (q1.1, U2)
set_option maxHeartbeats 4000000 in
set_option maxRecDepth 100000 in
theorem kX8_goByNow {l : Launch} {D : Dx} {G : G2} {V : V2} {R : R2} {n : Nat} {b : Nat} {a1 : Int32} (hG : GX G) (h_b : own G b 18) {o : Int32 × V2} (hf : pX8_goByNow n G V R b a1 = some o) : Con l yX8_goByNow cX8_goByNow 3 (some .int) (rmN 5 0 0) D G V R [.ref b, .int a1] (some (.int o.1), o.2, R, G, 0, 0) := by
  refine Con.mk RX8 (by decide) rfl (Nat.le_of_ble_eq_true rfl) (fun C _ hR hT _ _ hL hC hnm => ?_)
  revert hf
  unfold pX8_goByNow
  refine g_aload_n hC dX8_goByNow_0 (j := 0) rfl rfl ?_
  refine g_getR hC fr_8_0 h_b (b := b + 1) rfl dX8_goByNow_1 flX8_10 ?_
  refine g_aload_n hC dX8_goByNow_4 (j := 0) rfl rfl ?_
  refine g_getR hC fr_8_0 h_b (b := b + 1) rfl dX8_goByNow_5 flX8_10 ?_
  refine g_getR hC fr_1_0 (gx_8_0 hG h_b) (b := b + 2) rfl dX8_goByNow_8 flX8_81 ?_
  refine g_iload_n hC dX8_goByNow_11 (j := 1) rfl rfl ?_
  refine g_callV_iV hC hR ⟨Nat.zero_le _, Nat.zero_le _⟩ mwX1_goBy miX1_goBy (ci := 1) rfl (gx_8_0 hG h_b) (Nat.le_of_ble_eq_true rfl) mlX8_301 (fun _ hq => kX1_goBy hG (gx_8_0 hG h_b) (gx_1_0 hG (gx_8_0 hG h_b)) hq) (Nat.le_of_ble_eq_true rfl) rfl (st := []) rfl (Nat.le_of_ble_eq_true rfl) dX8_goByNow_12 (fun q1 => ?_)
  refine g_istore_n hC (n0 := 3) (lv' := [(2, .int q1.1), (0, .ref b), (1, .int a1)]) dX8_goByNow_15 rfl (Nat.le_of_ble_eq_true rfl) hL rfl ?_
  refine g_aload_n hC dX8_goByNow_16 (j := 1) rfl rfl ?_
  refine g_getR hC fr_8_0 h_b (b := b + 1) rfl dX8_goByNow_17 flX8_10 ?_
  refine g_dup hC dX8_goByNow_20 rfl ?_
  refine g_getI hC fi_1_2 (gx_8_0 hG h_b) dX8_goByNow_21 flX8_157 ?_
  refine g_iload_n hC dX8_goByNow_24 (j := 0) rfl rfl ?_
  refine g_iadd hC dX8_goByNow_25 ?_
  refine g_putIL hC fp_1_2 (gx_8_0 hG h_b) dX8_goByNow_26 flX8_157 (fun U2 => ?_)
  refine g_iload_n hC dX8_goByNow_29 (j := 0) rfl rfl ?_
  exact g_iret_iV hC hT dX8_goByNow_30
def pX8_wash (n : Nat) (G : G2) (V : V2) (R : R2) (b : Nat) : Option (Int32 × V2) :=
  (pX1_isOver V (b + 1) (b + 2)).bind fun q1 =>
  if q1 = 0 then ((pX1_actOfRest n G V R (b + 1) (b + 2)).bind fun q2 =>
  (pX8_goByNow n G V R b q2).bind fun q3 =>
  some (q3.1, q3.2))
  else (some ((-4), V))
set_option maxHeartbeats 4000000 in
set_option maxRecDepth 100000 in
theorem kX8_wash {l : Launch} {D : Dx} {G : G2} {V : V2} {R : R2} {n : Nat} {b : Nat} (hG : GX G) (h_b : own G b 18) {o : Int32 × V2} (hf : pX8_wash n G V R b = some o) : Con l yX8_wash cX8_wash 1 (some .int) (rmN 6 0 0) D G V R [.ref b] (some (.int o.1), o.2, R, G, 0, 0) := by
  refine Con.mk RX8 (by decide) rfl (Nat.le_of_ble_eq_true rfl) (fun C _ hR hT _ _ hL hC hnm => ?_)
  revert hf
  unfold pX8_wash
  refine g_aload_n hC dX8_wash_0 (j := 0) rfl rfl ?_
  refine g_getR hC fr_8_0 h_b (b := b + 1) rfl dX8_wash_1 flX8_10 ?_
  refine g_aload_n hC dX8_wash_4 (j := 0) rfl rfl ?_
  refine g_getR hC fr_8_0 h_b (b := b + 1) rfl dX8_wash_5 flX8_10 ?_
  refine g_getR hC fr_1_0 (gx_8_0 hG h_b) (b := b + 2) rfl dX8_wash_8 flX8_81 ?_
  refine g_callV_i hC hR ⟨Nat.zero_le _, Nat.zero_le _⟩ mwX1_isOver miX1_isOver (ci := 1) rfl (gx_8_0 hG h_b) (Nat.le_of_ble_eq_true rfl) mlX8_160 (fun _ hq => kX1_isOver hG (gx_8_0 hG h_b) (gx_1_0 hG (gx_8_0 hG h_b)) hq) (Nat.le_of_ble_eq_true rfl) rfl (st := []) rfl (Nat.le_of_ble_eq_true rfl) dX8_wash_11 (fun q1 => ?_)
  refine g_if_eq hC dX8_wash_14 ?_ ?_
  · refine g_aload_n hC dX8_wash_20 (j := 0) rfl rfl ?_
    refine g_aload_n hC dX8_wash_21 (j := 0) rfl rfl ?_
    refine g_getR hC fr_8_0 h_b (b := b + 1) rfl dX8_wash_22 flX8_10 ?_
    refine g_aload_n hC dX8_wash_25 (j := 0) rfl rfl ?_
    refine g_getR hC fr_8_0 h_b (b := b + 1) rfl dX8_wash_26 flX8_10 ?_
    refine g_getR hC fr_1_0 (gx_8_0 hG h_b) (b := b + 2) rfl dX8_wash_29 flX8_81 ?_
    refine g_callV_i hC hR ⟨Nat.zero_le _, Nat.zero_le _⟩ mwX1_actOfRest miX1_actOfRest (ci := 1) rfl (gx_8_0 hG h_b) (Nat.le_of_ble_eq_true rfl) mlX8_204 (fun _ hq => kX1_actOfRest hG (gx_8_0 hG h_b) (gx_1_0 hG (gx_8_0 hG h_b)) hq) (Nat.le_of_ble_eq_true rfl) rfl (st := [.ref b]) rfl (Nat.le_of_ble_eq_true rfl) dX8_wash_32 (fun q2 => ?_)
    refine g_callV_iV hC hR ⟨Nat.zero_le _, Nat.zero_le _⟩ mwX8_goByNow miX8_goByNow (ci := 8) rfl h_b (Nat.le_of_ble_eq_true rfl) mlX8_207 (fun _ hq => kX8_goByNow hG h_b hq) (Nat.le_of_ble_eq_true rfl) rfl (st := []) rfl (Nat.le_of_ble_eq_true rfl) dX8_wash_35 (fun q3 => ?_)
    exact g_iret_iV hC hT dX8_wash_38
  · refine g_bipush hC dX8_wash_17 bc_m4 ?_
    exact g_iret_iV hC hT dX8_wash_19
def pX2_copy (V : V2) (b : Nat) (a1 : Nat) : Option (V2) :=
  letv (up2 V b 0 (V a1 0)) fun U1 =>
  letv (up2 U1 b 1 (U1 a1 1)) fun U2 =>
  letv (up2 U2 b 2 (U2 a1 2)) fun U3 =>
  (cpyV 6 6 U3 (a1 + 1) 0 (b + 1) 0 6).bind fun U4 =>
  (cpyV 6 6 U4 (a1 + 2) 0 (b + 2) 0 6).bind fun U5 =>
  (cpyV 6 6 U5 (a1 + 3) 0 (b + 3) 0 6).bind fun U6 =>
  (cpyV 6 6 U6 (a1 + 4) 0 (b + 4) 0 6).bind fun U7 =>
  some U7
set_option maxHeartbeats 4000000 in
set_option maxRecDepth 100000 in
theorem kX2_copy {l : Launch} {D : Dx} {G : G2} {V : V2} {R : R2} {b : Nat} {a1 : Nat} (hG : GX G) (h_b : own G b 12) (h_a1 : own G a1 12) {o : V2} (hf : pX2_copy V b a1 = some o) : Con l yX2_copy cX2_copy 2 none (rmN 1 0 0) D G V R [.ref b, .ref a1] (none, o, R, G, 0, 0) := by
  refine Con.mk RX2 (by decide) rfl (Nat.le_of_ble_eq_true rfl) (fun C _ hR hT _ _ hL hC hnm => ?_)
  revert hf
  unfold pX2_copy
  refine g_aload_n hC dX2_copy_0 (j := 0) rfl rfl ?_
  refine g_aload_n hC dX2_copy_1 (j := 1) rfl rfl ?_
  refine g_getI hC fi_2_0 h_a1 dX2_copy_2 flX2_9 ?_
  refine g_putIL hC fp_2_0 h_b dX2_copy_5 flX2_9 (fun U1 => ?_)
  refine g_aload_n hC dX2_copy_8 (j := 0) rfl rfl ?_
  refine g_aload_n hC dX2_copy_9 (j := 1) rfl rfl ?_
  refine g_getI hC fi_2_1 h_a1 dX2_copy_10 flX2_15 ?_
  refine g_putIL hC fp_2_1 h_b dX2_copy_13 flX2_15 (fun U2 => ?_)
  refine g_aload_n hC dX2_copy_16 (j := 0) rfl rfl ?_
  refine g_aload_n hC dX2_copy_17 (j := 1) rfl rfl ?_
  refine g_getI hC fi_2_2 h_a1 dX2_copy_18 flX2_18 ?_
  refine g_putIL hC fp_2_2 h_b dX2_copy_21 flX2_18 (fun U3 => ?_)
  refine g_aload_n hC dX2_copy_24 (j := 1) rfl rfl ?_
  refine g_getR hC fr_2_3 h_a1 (b := a1 + 1) rfl dX2_copy_25 flX2_21 ?_
  refine g_iconst hC dX2_copy_28 ic_0 ?_
  refine g_aload_n hC dX2_copy_29 (j := 0) rfl rfl ?_
  refine g_getR hC fr_2_3 h_b (b := b + 1) rfl dX2_copy_30 flX2_21 ?_
  refine g_iconst hC dX2_copy_33 ic_0 ?_
  refine g_bipush hC dX2_copy_34 bc_6 ?_
  refine g_acpy hC hR (Nat.le_of_ble_eq_true rfl) (gx_2_3 hG h_a1) (gx_2_3 hG h_b) (gl_2_3 hG h_a1) (gl_2_3 hG h_b) dX2_copy_36 mlX2_34 (Nat.le_of_ble_eq_true rfl) (fun U4 => ?_)
  refine g_aload_n hC dX2_copy_39 (j := 1) rfl rfl ?_
  refine g_getR hC fr_2_4 h_a1 (b := a1 + 2) rfl dX2_copy_40 flX2_25 ?_
  refine g_iconst hC dX2_copy_43 ic_0 ?_
  refine g_aload_n hC dX2_copy_44 (j := 0) rfl rfl ?_
  refine g_getR hC fr_2_4 h_b (b := b + 2) rfl dX2_copy_45 flX2_25 ?_
  refine g_iconst hC dX2_copy_48 ic_0 ?_
  refine g_bipush hC dX2_copy_49 bc_6 ?_
  refine g_acpy hC hR (Nat.le_of_ble_eq_true rfl) (gx_2_4 hG h_a1) (gx_2_4 hG h_b) (gl_2_4 hG h_a1) (gl_2_4 hG h_b) dX2_copy_51 mlX2_34 (Nat.le_of_ble_eq_true rfl) (fun U5 => ?_)
  refine g_aload_n hC dX2_copy_54 (j := 1) rfl rfl ?_
  refine g_getR hC fr_2_5 h_a1 (b := a1 + 3) rfl dX2_copy_55 flX2_28 ?_
  refine g_iconst hC dX2_copy_58 ic_0 ?_
  refine g_aload_n hC dX2_copy_59 (j := 0) rfl rfl ?_
  refine g_getR hC fr_2_5 h_b (b := b + 3) rfl dX2_copy_60 flX2_28 ?_
  refine g_iconst hC dX2_copy_63 ic_0 ?_
  refine g_bipush hC dX2_copy_64 bc_6 ?_
  refine g_acpy hC hR (Nat.le_of_ble_eq_true rfl) (gx_2_5 hG h_a1) (gx_2_5 hG h_b) (gl_2_5 hG h_a1) (gl_2_5 hG h_b) dX2_copy_66 mlX2_34 (Nat.le_of_ble_eq_true rfl) (fun U6 => ?_)
  refine g_aload_n hC dX2_copy_69 (j := 1) rfl rfl ?_
  refine g_getR hC fr_2_6 h_a1 (b := a1 + 4) rfl dX2_copy_70 flX2_31 ?_
  refine g_iconst hC dX2_copy_73 ic_0 ?_
  refine g_aload_n hC dX2_copy_74 (j := 0) rfl rfl ?_
  refine g_getR hC fr_2_6 h_b (b := b + 4) rfl dX2_copy_75 flX2_31 ?_
  refine g_iconst hC dX2_copy_78 ic_0 ?_
  refine g_bipush hC dX2_copy_79 bc_6 ?_
  refine g_acpy hC hR (Nat.le_of_ble_eq_true rfl) (gx_2_6 hG h_a1) (gx_2_6 hG h_b) (gl_2_6 hG h_a1) (gl_2_6 hG h_b) dX2_copy_81 mlX2_34 (Nat.le_of_ble_eq_true rfl) (fun U7 => ?_)
  exact g_vret_vV hC hT dX2_copy_84
def lX1_goRest_5 (n : Nat) (G : G2) (R : R2) (b : Nat) (a1 : Nat) (a2 : Int32) : Nat → V2 → Int32 → Int32 → Option (V2 × Int32)
  | 0, _, _, _ => none
  | f1 + 1, U2, x3, x4 =>
    if a2 ≤ x4 then (some (U2, x3))
    else ((pX1_isOver U2 b a1).bind fun q5 =>
    if q5 = 0 then ((pX1_actOfRest n G U2 R b a1).bind fun q6 =>
    (pX1_goBy n G U2 R b a1 q6).bind fun q7 =>
    letv (x3 + q7.1) fun x8 =>
    letv (x4 + 1) fun x9 =>
    lX1_goRest_5 n G R b a1 a2 f1 q7.2 x8 x9)
    else (some (U2, x3)))
def pX1_goRest (n : Nat) (G : G2) (V : V2) (R : R2) (b : Nat) (a1 : Nat) (a2 : Int32) : Option (Int32 × V2) :=
  (lX1_goRest_5 n G R b a1 a2 n V 0 0).bind fun w10 =>
  some (w10.2, w10.1)
set_option maxHeartbeats 4000000 in
set_option maxRecDepth 100000 in
theorem wX1_goRest_5 {C : Cx} (hC : CxOK C cX1_goRest RX1 (some .int)) (hL : C.2.2.2.2 = 5) {n : Nat} {G : G2} {R : R2} {b : Nat} {a1 : Nat} {a2 : Int32} (hG : GX G) (h_b : own G b 11) (h_a1 : own G a1 12) (hR : C.1.2.2.2.1 = rmN 5 0 0) {o : V2 × Int32} (hX : Go C 38 [(3, .int o.2)] [] o.1 R G 0 0) : ∀ (f : Nat) (U2 : V2) (x3 : Int32) (x4 : Int32), lX1_goRest_5 n G R b a1 a2 f U2 x3 x4 = some o → Go C 5 [(0, .ref b), (1, .ref a1), (2, .int a2), (3, .int x3), (4, .int x4)] [] U2 R G 0 0 := by
  intro f
  induction f with
  | zero => intro _ _ _ hf; exact absurd hf (by unfold lX1_goRest_5; exact fun z => nomatch z)
  | succ f1 ih =>
    intro U2 x3 x4
    unfold lX1_goRest_5
    refine g_iload hC dX1_goRest_5 (j := 4) rfl ?_
    refine g_iload_n hC dX1_goRest_7 (j := 2) rfl rfl ?_
    refine g_icmp_ge hC dX1_goRest_8 ?_ ?_
    · refine g_sub [3] rfl ?_
      exact fun e => by cases e; exact hX
    · refine g_aload_n hC dX1_goRest_11 (j := 0) rfl rfl ?_
      refine g_aload_n hC dX1_goRest_12 (j := 1) rfl rfl ?_
      refine g_callV_i hC hR ⟨Nat.zero_le _, Nat.zero_le _⟩ mwX1_isOver miX1_isOver (ci := 1) rfl h_b (Nat.le_of_ble_eq_true rfl) mlX1_146 (fun _ hq => kX1_isOver hG h_b h_a1 hq) (Nat.le_of_ble_eq_true rfl) rfl (st := []) rfl (Nat.le_of_ble_eq_true rfl) dX1_goRest_13 (fun q5 => ?_)
      refine g_if_ne hC dX1_goRest_16 ?_ ?_
      · refine g_iload_n hC dX1_goRest_19 (j := 3) rfl rfl ?_
        refine g_aload_n hC dX1_goRest_20 (j := 0) rfl rfl ?_
        refine g_aload_n hC dX1_goRest_21 (j := 1) rfl rfl ?_
        refine g_aload_n hC dX1_goRest_22 (j := 0) rfl rfl ?_
        refine g_aload_n hC dX1_goRest_23 (j := 1) rfl rfl ?_
        refine g_callV_i hC hR ⟨Nat.zero_le _, Nat.zero_le _⟩ mwX1_actOfRest miX1_actOfRest (ci := 1) rfl h_b (Nat.le_of_ble_eq_true rfl) mlX1_150 (fun _ hq => kX1_actOfRest hG h_b h_a1 hq) (Nat.le_of_ble_eq_true rfl) rfl (st := [.ref a1, .ref b, .int x3]) rfl (Nat.le_of_ble_eq_true rfl) dX1_goRest_24 (fun q6 => ?_)
        refine g_callV_iV hC hR ⟨Nat.zero_le _, Nat.zero_le _⟩ mwX1_goBy miX1_goBy (ci := 1) rfl h_b (Nat.le_of_ble_eq_true rfl) mlX1_153 (fun _ hq => kX1_goBy hG h_b h_a1 hq) (Nat.le_of_ble_eq_true rfl) rfl (st := [.int x3]) rfl (Nat.le_of_ble_eq_true rfl) dX1_goRest_27 (fun q7 => ?_)
        refine g_iadd hC dX1_goRest_30 ?_
        refine g_istore_nL hC (n0 := 5) (lv' := fun x8 => [(3, .int x8), (0, .ref b), (1, .ref a1), (2, .int a2), (4, .int x4)]) dX1_goRest_31 rfl (Nat.le_of_ble_eq_true rfl) hL (fun _ => rfl) (fun x8 => ?_)
        refine g_iincL hC (n0 := 5) (j := 4) (lv' := fun x9 => [(4, .int x9), (3, .int x8), (0, .ref b), (1, .ref a1), (2, .int a2)]) dX1_goRest_32 rfl ic_1 (Nat.le_of_ble_eq_true rfl) hL (fun _ => rfl) (fun x9 => ?_)
        refine g_goto hC dX1_goRest_35 ?_
        refine g_sub [2, 3, 4, 1, 0] rfl ?_
        exact ih q7.2 x8 x9
      · refine g_sub [3] rfl ?_
        exact fun e => by cases e; exact hX
set_option maxHeartbeats 4000000 in
set_option maxRecDepth 100000 in
theorem kX1_goRest {l : Launch} {D : Dx} {G : G2} {V : V2} {R : R2} {n : Nat} {b : Nat} {a1 : Nat} {a2 : Int32} (hG : GX G) (h_b : own G b 11) (h_a1 : own G a1 12) {o : Int32 × V2} (hf : pX1_goRest n G V R b a1 a2 = some o) : Con l yX1_goRest cX1_goRest 5 (some .int) (rmN 5 0 0) D G V R [.ref b, .ref a1, .int a2] (some (.int o.1), o.2, R, G, 0, 0) := by
  refine Con.mk RX1 (by decide) rfl (Nat.le_of_ble_eq_true rfl) (fun C _ hR hT _ _ hL hC hnm => ?_)
  revert hf
  unfold pX1_goRest
  refine g_iconst hC dX1_goRest_0 ic_0 ?_
  refine g_istore_n hC (n0 := 5) (lv' := [(3, .int 0), (0, .ref b), (1, .ref a1), (2, .int a2)]) dX1_goRest_1 rfl (Nat.le_of_ble_eq_true rfl) hL rfl ?_
  refine g_iconst hC dX1_goRest_2 ic_0 ?_
  refine g_istore hC (n0 := 5) (lv' := [(4, .int 0), (3, .int 0), (0, .ref b), (1, .ref a1), (2, .int a2)]) dX1_goRest_3 (Nat.le_of_ble_eq_true rfl) hL rfl ?_
  refine g_sub [2, 3, 4, 1, 0] rfl ?_
  refine g_bind (J := fun w10 => Go C 38 [(3, .int w10.2)] [] w10.1 R G 0 0) (fun w10 hJ => wX1_goRest_5 hC hL hG h_b h_a1 hR hJ n V 0 0) (fun w10 => ?_)
  refine g_iload_n hC dX1_goRest_38 (j := 0) rfl rfl ?_
  exact g_iret_iV hC hT dX1_goRest_39
def pX8_on (n : Nat) (G : G2) (V : V2) (R : R2) (b : Nat) (a1 : Int32) : Option (Int32 × V2) :=
  (pX8_within a1 0 16).bind fun q1 =>
  if q1 = 0 then (some ((-1), V))
  else ((pX2_copy V (b + 31) (b + 2)).bind fun q2 =>
  (pX1_goRest n G q2 R (b + 1) (b + 31) a1).bind fun q3 =>
  some (q3.1, q3.2))
set_option maxHeartbeats 4000000 in
set_option maxRecDepth 100000 in
theorem kX8_on {l : Launch} {D : Dx} {G : G2} {V : V2} {R : R2} {n : Nat} {b : Nat} {a1 : Int32} (hG : GX G) (h_b : own G b 18) {o : Int32 × V2} (hf : pX8_on n G V R b a1 = some o) : Con l yX8_on cX8_on 2 (some .int) (rmN 6 0 0) D G V R [.ref b, .int a1] (some (.int o.1), o.2, R, G, 0, 0) := by
  refine Con.mk RX8 (by decide) rfl (Nat.le_of_ble_eq_true rfl) (fun C _ hR hT _ _ hL hC hnm => ?_)
  revert hf
  unfold pX8_on
  refine g_iload_n hC dX8_on_0 (j := 1) rfl rfl ?_
  refine g_iconst hC dX8_on_1 ic_0 ?_
  refine g_bipush hC dX8_on_2 bc_16 ?_
  refine g_callS_i hC hR ⟨Nat.zero_le _, Nat.zero_le _⟩ mwX8_within ms_X8_within mlX8_77 (fun _ hq => kX8_within  hq) (Nat.le_of_ble_eq_true rfl) rfl (st := []) rfl (Nat.le_of_ble_eq_true rfl) dX8_on_4 (fun q1 => ?_)
  refine g_if_ne hC dX8_on_7 ?_ ?_
  · refine g_iconst hC dX8_on_10 ic_m1 ?_
    exact g_iret_iV hC hT dX8_on_11
  · refine g_aload_n hC dX8_on_12 (j := 0) rfl rfl ?_
    refine g_getR hC fr_8_3 h_b (b := b + 31) rfl dX8_on_13 flX8_26 ?_
    refine g_aload_n hC dX8_on_16 (j := 0) rfl rfl ?_
    refine g_getR hC fr_8_0 h_b (b := b + 1) rfl dX8_on_17 flX8_10 ?_
    refine g_getR hC fr_1_0 (gx_8_0 hG h_b) (b := b + 2) rfl dX8_on_20 flX8_81 ?_
    refine g_callV_vV hC hR ⟨Nat.zero_le _, Nat.zero_le _⟩ mwX2_copy miX2_copy (ci := 2) rfl (gx_8_3 hG h_b) (Nat.le_of_ble_eq_true rfl) mlX8_210 (fun _ hq => kX2_copy hG (gx_8_3 hG h_b) (gx_1_0 hG (gx_8_0 hG h_b)) hq) (Nat.le_of_ble_eq_true rfl) rfl (st := []) rfl (Nat.le_of_ble_eq_true rfl) dX8_on_23 (fun q2 => ?_)
    refine g_aload_n hC dX8_on_26 (j := 0) rfl rfl ?_
    refine g_getR hC fr_8_0 h_b (b := b + 1) rfl dX8_on_27 flX8_10 ?_
    refine g_aload_n hC dX8_on_30 (j := 0) rfl rfl ?_
    refine g_getR hC fr_8_3 h_b (b := b + 31) rfl dX8_on_31 flX8_26 ?_
    refine g_iload_n hC dX8_on_34 (j := 1) rfl rfl ?_
    refine g_callV_iV hC hR ⟨Nat.zero_le _, Nat.zero_le _⟩ mwX1_goRest miX1_goRest (ci := 1) rfl (gx_8_0 hG h_b) (Nat.le_of_ble_eq_true rfl) mlX8_214 (fun _ hq => kX1_goRest hG (gx_8_0 hG h_b) (gx_8_3 hG h_b) hq) (Nat.le_of_ble_eq_true rfl) rfl (st := []) rfl (Nat.le_of_ble_eq_true rfl) dX8_on_35 (fun q3 => ?_)
    exact g_iret_iV hC hT dX8_on_38
def lX8_when_40 (n : Nat) (G : G2) (R : R2) (b : Nat) (a1 : Int32) : Nat → V2 → Int32 → (V2 → Option (Int32 × V2)) → Option (Int32 × V2)
  | 0, _, _, _ => none
  | f4 + 1, U5, x6, K =>
    if (16 : Int32) ≤ x6 then (K U5)
    else ((pX1_isOver U5 (b + 1) (b + 31)).bind fun q7 =>
    if q7 = 0 then ((pX1_goRest n G U5 R (b + 1) (b + 31) 1).bind fun q8 =>
    (pX2_isFlat q8.2 (b + 31) a1).bind fun q9 =>
    if q9 = 0 then (letv (x6 + 1) fun x10 =>
    lX8_when_40 n G R b a1 f4 q8.2 x10 K)
    else (some ((q8.2 (b + 31) 0) - 1, q8.2)))
    else (K U5))
def pX8_when (n : Nat) (G : G2) (V : V2) (R : R2) (b : Nat) (a1 : Int32) : Option (Int32 × V2) :=
  (pX8_isThing V b a1).bind fun q1 =>
  if q1 = 0 then (some ((-1), V))
  else ((pX2_copy V (b + 31) (b + 2)).bind fun q2 =>
  (pX2_isFlat q2 (b + 31) a1).bind fun q3 =>
  if q3 = 0 then (lX8_when_40 n G R b a1 n q2 0 (fun w11 =>
  some ((-3), w11)))
  else (some ((-3), q2)))
set_option maxHeartbeats 4000000 in
set_option maxRecDepth 100000 in
theorem wX8_when_40 {C : Cx} (hC : CxOK C cX8_when RX8 (some .int)) (hL : C.2.2.2.2 = 3) {n : Nat} {G : G2} {R : R2} {b : Nat} {a1 : Int32} (hG : GX G) (h_b : own G b 18) (hR : C.1.2.2.2.1 = rmN 6 0 0) {o : Int32 × V2} (hT : C.2.1 = (some (.int o.1), o.2, R, G, 0, 0)) {K : V2 → Option (Int32 × V2)} (hX : ∀ (y1 : V2), K y1 = some o → Go C 100 [] [] y1 R G 0 0) : ∀ (f : Nat) (U5 : V2) (x6 : Int32), lX8_when_40 n G R b a1 f U5 x6 K = some o → Go C 40 [(0, .ref b), (1, .int a1), (2, .int x6)] [] U5 R G 0 0 := by
  intro f
  induction f with
  | zero => intro _ _ hf; exact absurd hf (by unfold lX8_when_40; exact fun z => nomatch z)
  | succ f4 ih =>
    intro U5 x6
    unfold lX8_when_40
    refine g_iload_n hC dX8_when_40 (j := 2) rfl rfl ?_
    refine g_bipush hC dX8_when_41 bc_16 ?_
    refine g_icmp_ge hC dX8_when_43 ?_ ?_
    · refine g_sub [] rfl ?_
      exact hX U5
    · refine g_aload_n hC dX8_when_46 (j := 0) rfl rfl ?_
      refine g_getR hC fr_8_0 h_b (b := b + 1) rfl dX8_when_47 flX8_10 ?_
      refine g_aload_n hC dX8_when_50 (j := 0) rfl rfl ?_
      refine g_getR hC fr_8_3 h_b (b := b + 31) rfl dX8_when_51 flX8_26 ?_
      refine g_callV_i hC hR ⟨Nat.zero_le _, Nat.zero_le _⟩ mwX1_isOver miX1_isOver (ci := 1) rfl (gx_8_0 hG h_b) (Nat.le_of_ble_eq_true rfl) mlX8_160 (fun _ hq => kX1_isOver hG (gx_8_0 hG h_b) (gx_8_3 hG h_b) hq) (Nat.le_of_ble_eq_true rfl) rfl (st := []) rfl (Nat.le_of_ble_eq_true rfl) dX8_when_54 (fun q7 => ?_)
      refine g_if_ne hC dX8_when_57 ?_ ?_
      · refine g_aload_n hC dX8_when_60 (j := 0) rfl rfl ?_
        refine g_getR hC fr_8_0 h_b (b := b + 1) rfl dX8_when_61 flX8_10 ?_
        refine g_aload_n hC dX8_when_64 (j := 0) rfl rfl ?_
        refine g_getR hC fr_8_3 h_b (b := b + 31) rfl dX8_when_65 flX8_26 ?_
        refine g_iconst hC dX8_when_68 ic_1 ?_
        refine g_callV_iV hC hR ⟨Nat.zero_le _, Nat.zero_le _⟩ mwX1_goRest miX1_goRest (ci := 1) rfl (gx_8_0 hG h_b) (Nat.le_of_ble_eq_true rfl) mlX8_214 (fun _ hq => kX1_goRest hG (gx_8_0 hG h_b) (gx_8_3 hG h_b) hq) (Nat.le_of_ble_eq_true rfl) rfl (st := []) rfl (Nat.le_of_ble_eq_true rfl) dX8_when_69 (fun q8 => ?_)
        refine g_pop hC dX8_when_72 rfl ?_
        refine g_aload_n hC dX8_when_73 (j := 0) rfl rfl ?_
        refine g_getR hC fr_8_3 h_b (b := b + 31) rfl dX8_when_74 flX8_26 ?_
        refine g_iload_n hC dX8_when_77 (j := 1) rfl rfl ?_
        refine g_callV_i hC hR ⟨Nat.zero_le _, Nat.zero_le _⟩ mwX2_isFlat miX2_isFlat (ci := 2) rfl (gx_8_3 hG h_b) (Nat.le_of_ble_eq_true rfl) mlX8_107 (fun _ hq => kX2_isFlat hG (gx_8_3 hG h_b) hq) (Nat.le_of_ble_eq_true rfl) rfl (st := []) rfl (Nat.le_of_ble_eq_true rfl) dX8_when_78 (fun q9 => ?_)
        refine g_if_eq hC dX8_when_81 ?_ ?_
        · refine g_iincL hC (n0 := 3) (j := 2) (lv' := fun x10 => [(2, .int x10), (0, .ref b), (1, .int a1)]) dX8_when_94 rfl ic_1 (Nat.le_of_ble_eq_true rfl) hL (fun _ => rfl) (fun x10 => ?_)
          refine g_goto hC dX8_when_97 ?_
          refine g_sub [1, 2, 0] rfl ?_
          exact ih q8.2 x10
        · refine g_aload_n hC dX8_when_84 (j := 0) rfl rfl ?_
          refine g_getR hC fr_8_3 h_b (b := b + 31) rfl dX8_when_85 flX8_26 ?_
          refine g_getI hC fi_2_0 (gx_8_3 hG h_b) dX8_when_88 flX8_148 ?_
          refine g_iconst hC dX8_when_91 ic_1 ?_
          refine g_isub hC dX8_when_92 ?_
          exact g_iret_iV hC hT dX8_when_93
      · refine g_sub [] rfl ?_
        exact hX U5
set_option maxHeartbeats 4000000 in
set_option maxRecDepth 100000 in
theorem kX8_when {l : Launch} {D : Dx} {G : G2} {V : V2} {R : R2} {n : Nat} {b : Nat} {a1 : Int32} (hG : GX G) (h_b : own G b 18) {o : Int32 × V2} (hf : pX8_when n G V R b a1 = some o) : Con l yX8_when cX8_when 3 (some .int) (rmN 6 0 0) D G V R [.ref b, .int a1] (some (.int o.1), o.2, R, G, 0, 0) := by
  refine Con.mk RX8 (by decide) rfl (Nat.le_of_ble_eq_true rfl) (fun C _ hR hT _ _ hL hC hnm => ?_)
  revert hf
  unfold pX8_when
  refine g_aload_n hC dX8_when_0 (j := 0) rfl rfl ?_
  refine g_iload_n hC dX8_when_1 (j := 1) rfl rfl ?_
  refine g_callV_i hC hR ⟨Nat.zero_le _, Nat.zero_le _⟩ mwX8_isThing miX8_isThing (ci := 8) rfl h_b (Nat.le_of_ble_eq_true rfl) mlX8_103 (fun _ hq => kX8_isThing hG h_b hq) (Nat.le_of_ble_eq_true rfl) rfl (st := []) rfl (Nat.le_of_ble_eq_true rfl) dX8_when_2 (fun q1 => ?_)
  refine g_if_ne hC dX8_when_5 ?_ ?_
  · refine g_iconst hC dX8_when_8 ic_m1 ?_
    exact g_iret_iV hC hT dX8_when_9
  · refine g_aload_n hC dX8_when_10 (j := 0) rfl rfl ?_
    refine g_getR hC fr_8_3 h_b (b := b + 31) rfl dX8_when_11 flX8_26 ?_
    refine g_aload_n hC dX8_when_14 (j := 0) rfl rfl ?_
    refine g_getR hC fr_8_0 h_b (b := b + 1) rfl dX8_when_15 flX8_10 ?_
    refine g_getR hC fr_1_0 (gx_8_0 hG h_b) (b := b + 2) rfl dX8_when_18 flX8_81 ?_
    refine g_callV_vV hC hR ⟨Nat.zero_le _, Nat.zero_le _⟩ mwX2_copy miX2_copy (ci := 2) rfl (gx_8_3 hG h_b) (Nat.le_of_ble_eq_true rfl) mlX8_210 (fun _ hq => kX2_copy hG (gx_8_3 hG h_b) (gx_1_0 hG (gx_8_0 hG h_b)) hq) (Nat.le_of_ble_eq_true rfl) rfl (st := []) rfl (Nat.le_of_ble_eq_true rfl) dX8_when_21 (fun q2 => ?_)
    refine g_aload_n hC dX8_when_24 (j := 0) rfl rfl ?_
    refine g_getR hC fr_8_3 h_b (b := b + 31) rfl dX8_when_25 flX8_26 ?_
    refine g_iload_n hC dX8_when_28 (j := 1) rfl rfl ?_
    refine g_callV_i hC hR ⟨Nat.zero_le _, Nat.zero_le _⟩ mwX2_isFlat miX2_isFlat (ci := 2) rfl (gx_8_3 hG h_b) (Nat.le_of_ble_eq_true rfl) mlX8_107 (fun _ hq => kX2_isFlat hG (gx_8_3 hG h_b) hq) (Nat.le_of_ble_eq_true rfl) rfl (st := []) rfl (Nat.le_of_ble_eq_true rfl) dX8_when_29 (fun q3 => ?_)
    refine g_if_eq hC dX8_when_32 ?_ ?_
    · refine g_iconst hC dX8_when_38 ic_0 ?_
      refine g_istore_n hC (n0 := 3) (lv' := [(2, .int 0), (0, .ref b), (1, .int a1)]) dX8_when_39 rfl (Nat.le_of_ble_eq_true rfl) hL rfl ?_
      refine g_sub [1, 2, 0] rfl ?_
      refine wX8_when_40 hC hL hG h_b hR hT (fun w11 => ?_) n q2 0
      refine g_bipush hC dX8_when_100 bc_m3 ?_
      exact g_iret_iV hC hT dX8_when_102
    · refine g_bipush hC dX8_when_35 bc_m3 ?_
      exact g_iret_iV hC hT dX8_when_37
def lX8_creaseFor_17 (n : Nat) (G : G2) (R : R2) (b : Nat) (a1 : Int32) : Nat → V2 → Int32 → Int32 → Int32 → Option (V2 × Int32)
  | 0, _, _, _, _ => none
  | f2 + 1, U3, x4, x5, x6 =>
    if (9 : Int32) < x6 then (some (U3, x4))
    else ((pX2_copy U3 (b + 31) (b + 2)).bind fun q7 =>
    (stI 6 q7 (b + 34) a1 x6).bind fun U8 =>
    (pX1_goRest n G U8 R (b + 1) (b + 31) 16).bind fun q9 =>
    if q9.1 ≤ x5 then (letv (x6 + 1) fun x10 =>
    lX8_creaseFor_17 n G R b a1 f2 q9.2 x4 x5 x10)
    else (letv (x6 + 1) fun x11 =>
    lX8_creaseFor_17 n G R b a1 f2 q9.2 x6 q9.1 x11))
def pX8_creaseFor (n : Nat) (G : G2) (V : V2) (R : R2) (b : Nat) (a1 : Int32) : Option (Int32 × V2) :=
  (pX8_isThing V b a1).bind fun q1 =>
  if q1 = 0 then (some ((-1), V))
  else ((lX8_creaseFor_17 n G R b a1 n V 0 (-1) 0).bind fun w12 =>
  some (w12.2, w12.1))
set_option maxHeartbeats 4000000 in
set_option maxRecDepth 100000 in
theorem wX8_creaseFor_17 {C : Cx} (hC : CxOK C cX8_creaseFor RX8 (some .int)) (hL : C.2.2.2.2 = 6) {n : Nat} {G : G2} {R : R2} {b : Nat} {a1 : Int32} (hG : GX G) (h_b : own G b 18) (hR : C.1.2.2.2.1 = rmN 6 0 0) {o : V2 × Int32} (hX : Go C 82 [(2, .int o.2)] [] o.1 R G 0 0) : ∀ (f : Nat) (U3 : V2) (x4 : Int32) (x5 : Int32) (x6 : Int32), lX8_creaseFor_17 n G R b a1 f U3 x4 x5 x6 = some o → Go C 17 [(0, .ref b), (1, .int a1), (2, .int x4), (3, .int x5), (4, .int x6)] [] U3 R G 0 0 := by
  intro f
  induction f with
  | zero => intro _ _ _ _ hf; exact absurd hf (by unfold lX8_creaseFor_17; exact fun z => nomatch z)
  | succ f2 ih =>
    intro U3 x4 x5 x6
    unfold lX8_creaseFor_17
    refine g_iload hC dX8_creaseFor_17 (j := 4) rfl ?_
    refine g_bipush hC dX8_creaseFor_19 bc_9 ?_
    refine g_icmp_gt hC dX8_creaseFor_21 ?_ ?_
    · refine g_sub [2] rfl ?_
      exact fun e => by cases e; exact hX
    · refine g_aload_n hC dX8_creaseFor_24 (j := 0) rfl rfl ?_
      refine g_getR hC fr_8_3 h_b (b := b + 31) rfl dX8_creaseFor_25 flX8_26 ?_
      refine g_aload_n hC dX8_creaseFor_28 (j := 0) rfl rfl ?_
      refine g_getR hC fr_8_0 h_b (b := b + 1) rfl dX8_creaseFor_29 flX8_10 ?_
      refine g_getR hC fr_1_0 (gx_8_0 hG h_b) (b := b + 2) rfl dX8_creaseFor_32 flX8_81 ?_
      refine g_callV_vV hC hR ⟨Nat.zero_le _, Nat.zero_le _⟩ mwX2_copy miX2_copy (ci := 2) rfl (gx_8_3 hG h_b) (Nat.le_of_ble_eq_true rfl) mlX8_210 (fun _ hq => kX2_copy hG (gx_8_3 hG h_b) (gx_1_0 hG (gx_8_0 hG h_b)) hq) (Nat.le_of_ble_eq_true rfl) rfl (st := []) rfl (Nat.le_of_ble_eq_true rfl) dX8_creaseFor_35 (fun q7 => ?_)
      refine g_aload_n hC dX8_creaseFor_38 (j := 0) rfl rfl ?_
      refine g_getR hC fr_8_3 h_b (b := b + 31) rfl dX8_creaseFor_39 flX8_26 ?_
      refine g_getR hC fr_2_5 (gx_8_3 hG h_b) (b := b + 34) rfl dX8_creaseFor_42 flX8_93 ?_
      refine g_iload_n hC dX8_creaseFor_45 (j := 1) rfl rfl ?_
      refine g_iload hC dX8_creaseFor_46 (j := 4) rfl ?_
      refine g_iastV hC (gx_2_5 hG (gx_8_3 hG h_b)) (gl_2_5 hG (gx_8_3 hG h_b)) dX8_creaseFor_48 (fun U8 => ?_)
      refine g_aload_n hC dX8_creaseFor_49 (j := 0) rfl rfl ?_
      refine g_getR hC fr_8_0 h_b (b := b + 1) rfl dX8_creaseFor_50 flX8_10 ?_
      refine g_aload_n hC dX8_creaseFor_53 (j := 0) rfl rfl ?_
      refine g_getR hC fr_8_3 h_b (b := b + 31) rfl dX8_creaseFor_54 flX8_26 ?_
      refine g_bipush hC dX8_creaseFor_57 bc_16 ?_
      refine g_callV_iV hC hR ⟨Nat.zero_le _, Nat.zero_le _⟩ mwX1_goRest miX1_goRest (ci := 1) rfl (gx_8_0 hG h_b) (Nat.le_of_ble_eq_true rfl) mlX8_214 (fun _ hq => kX1_goRest hG (gx_8_0 hG h_b) (gx_8_3 hG h_b) hq) (Nat.le_of_ble_eq_true rfl) rfl (st := []) rfl (Nat.le_of_ble_eq_true rfl) dX8_creaseFor_59 (fun q9 => ?_)
      refine g_istore hC (n0 := 6) (lv' := [(5, .int q9.1), (0, .ref b), (1, .int a1), (2, .int x4), (3, .int x5), (4, .int x6)]) dX8_creaseFor_62 (Nat.le_of_ble_eq_true rfl) hL rfl ?_
      refine g_iload hC dX8_creaseFor_64 (j := 0) rfl ?_
      refine g_iload_n hC dX8_creaseFor_66 (j := 4) rfl rfl ?_
      refine g_icmp_le hC dX8_creaseFor_67 ?_ ?_
      · refine g_iincL hC (n0 := 6) (j := 5) (lv' := fun x10 => [(4, .int x10), (5, .int q9.1), (0, .ref b), (1, .int a1), (2, .int x4), (3, .int x5)]) dX8_creaseFor_76 rfl ic_1 (Nat.le_of_ble_eq_true rfl) hL (fun _ => rfl) (fun x10 => ?_)
        refine g_goto hC dX8_creaseFor_79 ?_
        refine g_sub [2, 3, 4, 5, 0] rfl ?_
        exact ih q9.2 x4 x5 x10
      · refine g_iload hC dX8_creaseFor_70 (j := 0) rfl ?_
        refine g_istore_n hC (n0 := 6) (lv' := [(3, .int q9.1), (5, .int q9.1), (0, .ref b), (1, .int a1), (2, .int x4), (4, .int x6)]) dX8_creaseFor_72 rfl (Nat.le_of_ble_eq_true rfl) hL rfl ?_
        refine g_iload hC dX8_creaseFor_73 (j := 5) rfl ?_
        refine g_istore_n hC (n0 := 6) (lv' := [(2, .int x6), (3, .int q9.1), (5, .int q9.1), (0, .ref b), (1, .int a1), (4, .int x6)]) dX8_creaseFor_75 rfl (Nat.le_of_ble_eq_true rfl) hL rfl ?_
        refine g_iincL hC (n0 := 6) (j := 5) (lv' := fun x11 => [(4, .int x11), (2, .int x6), (3, .int q9.1), (5, .int q9.1), (0, .ref b), (1, .int a1)]) dX8_creaseFor_76 rfl ic_1 (Nat.le_of_ble_eq_true rfl) hL (fun _ => rfl) (fun x11 => ?_)
        refine g_goto hC dX8_creaseFor_79 ?_
        refine g_sub [4, 5, 1, 2, 0] rfl ?_
        exact ih q9.2 x6 q9.1 x11
set_option maxHeartbeats 4000000 in
set_option maxRecDepth 100000 in
theorem kX8_creaseFor {l : Launch} {D : Dx} {G : G2} {V : V2} {R : R2} {n : Nat} {b : Nat} {a1 : Int32} (hG : GX G) (h_b : own G b 18) {o : Int32 × V2} (hf : pX8_creaseFor n G V R b a1 = some o) : Con l yX8_creaseFor cX8_creaseFor 6 (some .int) (rmN 6 0 0) D G V R [.ref b, .int a1] (some (.int o.1), o.2, R, G, 0, 0) := by
  refine Con.mk RX8 (by decide) rfl (Nat.le_of_ble_eq_true rfl) (fun C _ hR hT _ _ hL hC hnm => ?_)
  revert hf
  unfold pX8_creaseFor
  refine g_aload_n hC dX8_creaseFor_0 (j := 0) rfl rfl ?_
  refine g_iload_n hC dX8_creaseFor_1 (j := 1) rfl rfl ?_
  refine g_callV_i hC hR ⟨Nat.zero_le _, Nat.zero_le _⟩ mwX8_isThing miX8_isThing (ci := 8) rfl h_b (Nat.le_of_ble_eq_true rfl) mlX8_103 (fun _ hq => kX8_isThing hG h_b hq) (Nat.le_of_ble_eq_true rfl) rfl (st := []) rfl (Nat.le_of_ble_eq_true rfl) dX8_creaseFor_2 (fun q1 => ?_)
  refine g_if_ne hC dX8_creaseFor_5 ?_ ?_
  · refine g_iconst hC dX8_creaseFor_8 ic_m1 ?_
    exact g_iret_iV hC hT dX8_creaseFor_9
  · refine g_iconst hC dX8_creaseFor_10 ic_0 ?_
    refine g_istore_n hC (n0 := 6) (lv' := [(2, .int 0), (0, .ref b), (1, .int a1)]) dX8_creaseFor_11 rfl (Nat.le_of_ble_eq_true rfl) hL rfl ?_
    refine g_iconst hC dX8_creaseFor_12 ic_m1 ?_
    refine g_istore_n hC (n0 := 6) (lv' := [(3, .int (-1)), (2, .int 0), (0, .ref b), (1, .int a1)]) dX8_creaseFor_13 rfl (Nat.le_of_ble_eq_true rfl) hL rfl ?_
    refine g_iconst hC dX8_creaseFor_14 ic_0 ?_
    refine g_istore hC (n0 := 6) (lv' := [(4, .int 0), (3, .int (-1)), (2, .int 0), (0, .ref b), (1, .int a1)]) dX8_creaseFor_15 (Nat.le_of_ble_eq_true rfl) hL rfl ?_
    refine g_sub [3, 4, 2, 1, 0] rfl ?_
    refine g_bind (J := fun w12 => Go C 82 [(2, .int w12.2)] [] w12.1 R G 0 0) (fun w12 hJ => wX8_creaseFor_17 hC hL hG h_b hR hJ n V 0 (-1) 0) (fun w12 => ?_)
    refine g_iload_n hC dX8_creaseFor_82 (j := 0) rfl rfl ?_
    exact g_iret_iV hC hT dX8_creaseFor_83
def lX8_boardFor_17 (n : Nat) (G : G2) (R : R2) (b : Nat) (a1 : Int32) : Nat → V2 → Int32 → Int32 → Int32 → Option (V2 × Int32)
  | 0, _, _, _, _ => none
  | f2 + 1, U3, x4, x5, x6 =>
    if (6 : Int32) ≤ x6 then (some (U3, x4))
    else ((pX2_copy U3 (b + 31) (b + 2)).bind fun q7 =>
    (stI 6 q7 (b + 35) a1 x6).bind fun U8 =>
    (pX1_goRest n G U8 R (b + 1) (b + 31) 16).bind fun q9 =>
    if q9.1 ≤ x5 then (letv (x6 + 1) fun x10 =>
    lX8_boardFor_17 n G R b a1 f2 q9.2 x4 x5 x10)
    else (letv (x6 + 1) fun x11 =>
    lX8_boardFor_17 n G R b a1 f2 q9.2 x6 q9.1 x11))
def pX8_boardFor (n : Nat) (G : G2) (V : V2) (R : R2) (b : Nat) (a1 : Int32) : Option (Int32 × V2) :=
  (pX8_isThing V b a1).bind fun q1 =>
  if q1 = 0 then (some ((-1), V))
  else ((lX8_boardFor_17 n G R b a1 n V 0 (-1) 0).bind fun w12 =>
  some (w12.2, w12.1))
set_option maxHeartbeats 4000000 in
set_option maxRecDepth 100000 in
theorem wX8_boardFor_17 {C : Cx} (hC : CxOK C cX8_boardFor RX8 (some .int)) (hL : C.2.2.2.2 = 6) {n : Nat} {G : G2} {R : R2} {b : Nat} {a1 : Int32} (hG : GX G) (h_b : own G b 18) (hR : C.1.2.2.2.1 = rmN 6 0 0) {o : V2 × Int32} (hX : Go C 82 [(2, .int o.2)] [] o.1 R G 0 0) : ∀ (f : Nat) (U3 : V2) (x4 : Int32) (x5 : Int32) (x6 : Int32), lX8_boardFor_17 n G R b a1 f U3 x4 x5 x6 = some o → Go C 17 [(0, .ref b), (1, .int a1), (2, .int x4), (3, .int x5), (4, .int x6)] [] U3 R G 0 0 := by
  intro f
  induction f with
  | zero => intro _ _ _ _ hf; exact absurd hf (by unfold lX8_boardFor_17; exact fun z => nomatch z)
  | succ f2 ih =>
    intro U3 x4 x5 x6
    unfold lX8_boardFor_17
    refine g_iload hC dX8_boardFor_17 (j := 4) rfl ?_
    refine g_bipush hC dX8_boardFor_19 bc_6 ?_
    refine g_icmp_ge hC dX8_boardFor_21 ?_ ?_
    · refine g_sub [2] rfl ?_
      exact fun e => by cases e; exact hX
    · refine g_aload_n hC dX8_boardFor_24 (j := 0) rfl rfl ?_
      refine g_getR hC fr_8_3 h_b (b := b + 31) rfl dX8_boardFor_25 flX8_26 ?_
      refine g_aload_n hC dX8_boardFor_28 (j := 0) rfl rfl ?_
      refine g_getR hC fr_8_0 h_b (b := b + 1) rfl dX8_boardFor_29 flX8_10 ?_
      refine g_getR hC fr_1_0 (gx_8_0 hG h_b) (b := b + 2) rfl dX8_boardFor_32 flX8_81 ?_
      refine g_callV_vV hC hR ⟨Nat.zero_le _, Nat.zero_le _⟩ mwX2_copy miX2_copy (ci := 2) rfl (gx_8_3 hG h_b) (Nat.le_of_ble_eq_true rfl) mlX8_210 (fun _ hq => kX2_copy hG (gx_8_3 hG h_b) (gx_1_0 hG (gx_8_0 hG h_b)) hq) (Nat.le_of_ble_eq_true rfl) rfl (st := []) rfl (Nat.le_of_ble_eq_true rfl) dX8_boardFor_35 (fun q7 => ?_)
      refine g_aload_n hC dX8_boardFor_38 (j := 0) rfl rfl ?_
      refine g_getR hC fr_8_3 h_b (b := b + 31) rfl dX8_boardFor_39 flX8_26 ?_
      refine g_getR hC fr_2_6 (gx_8_3 hG h_b) (b := b + 35) rfl dX8_boardFor_42 flX8_96 ?_
      refine g_iload_n hC dX8_boardFor_45 (j := 1) rfl rfl ?_
      refine g_iload hC dX8_boardFor_46 (j := 4) rfl ?_
      refine g_iastV hC (gx_2_6 hG (gx_8_3 hG h_b)) (gl_2_6 hG (gx_8_3 hG h_b)) dX8_boardFor_48 (fun U8 => ?_)
      refine g_aload_n hC dX8_boardFor_49 (j := 0) rfl rfl ?_
      refine g_getR hC fr_8_0 h_b (b := b + 1) rfl dX8_boardFor_50 flX8_10 ?_
      refine g_aload_n hC dX8_boardFor_53 (j := 0) rfl rfl ?_
      refine g_getR hC fr_8_3 h_b (b := b + 31) rfl dX8_boardFor_54 flX8_26 ?_
      refine g_bipush hC dX8_boardFor_57 bc_16 ?_
      refine g_callV_iV hC hR ⟨Nat.zero_le _, Nat.zero_le _⟩ mwX1_goRest miX1_goRest (ci := 1) rfl (gx_8_0 hG h_b) (Nat.le_of_ble_eq_true rfl) mlX8_214 (fun _ hq => kX1_goRest hG (gx_8_0 hG h_b) (gx_8_3 hG h_b) hq) (Nat.le_of_ble_eq_true rfl) rfl (st := []) rfl (Nat.le_of_ble_eq_true rfl) dX8_boardFor_59 (fun q9 => ?_)
      refine g_istore hC (n0 := 6) (lv' := [(5, .int q9.1), (0, .ref b), (1, .int a1), (2, .int x4), (3, .int x5), (4, .int x6)]) dX8_boardFor_62 (Nat.le_of_ble_eq_true rfl) hL rfl ?_
      refine g_iload hC dX8_boardFor_64 (j := 0) rfl ?_
      refine g_iload_n hC dX8_boardFor_66 (j := 4) rfl rfl ?_
      refine g_icmp_le hC dX8_boardFor_67 ?_ ?_
      · refine g_iincL hC (n0 := 6) (j := 5) (lv' := fun x10 => [(4, .int x10), (5, .int q9.1), (0, .ref b), (1, .int a1), (2, .int x4), (3, .int x5)]) dX8_boardFor_76 rfl ic_1 (Nat.le_of_ble_eq_true rfl) hL (fun _ => rfl) (fun x10 => ?_)
        refine g_goto hC dX8_boardFor_79 ?_
        refine g_sub [2, 3, 4, 5, 0] rfl ?_
        exact ih q9.2 x4 x5 x10
      · refine g_iload hC dX8_boardFor_70 (j := 0) rfl ?_
        refine g_istore_n hC (n0 := 6) (lv' := [(3, .int q9.1), (5, .int q9.1), (0, .ref b), (1, .int a1), (2, .int x4), (4, .int x6)]) dX8_boardFor_72 rfl (Nat.le_of_ble_eq_true rfl) hL rfl ?_
        refine g_iload hC dX8_boardFor_73 (j := 5) rfl ?_
        refine g_istore_n hC (n0 := 6) (lv' := [(2, .int x6), (3, .int q9.1), (5, .int q9.1), (0, .ref b), (1, .int a1), (4, .int x6)]) dX8_boardFor_75 rfl (Nat.le_of_ble_eq_true rfl) hL rfl ?_
        refine g_iincL hC (n0 := 6) (j := 5) (lv' := fun x11 => [(4, .int x11), (2, .int x6), (3, .int q9.1), (5, .int q9.1), (0, .ref b), (1, .int a1)]) dX8_boardFor_76 rfl ic_1 (Nat.le_of_ble_eq_true rfl) hL (fun _ => rfl) (fun x11 => ?_)
        refine g_goto hC dX8_boardFor_79 ?_
        refine g_sub [4, 5, 1, 2, 0] rfl ?_
        exact ih q9.2 x6 q9.1 x11
set_option maxHeartbeats 4000000 in
set_option maxRecDepth 100000 in
theorem kX8_boardFor {l : Launch} {D : Dx} {G : G2} {V : V2} {R : R2} {n : Nat} {b : Nat} {a1 : Int32} (hG : GX G) (h_b : own G b 18) {o : Int32 × V2} (hf : pX8_boardFor n G V R b a1 = some o) : Con l yX8_boardFor cX8_boardFor 6 (some .int) (rmN 6 0 0) D G V R [.ref b, .int a1] (some (.int o.1), o.2, R, G, 0, 0) := by
  refine Con.mk RX8 (by decide) rfl (Nat.le_of_ble_eq_true rfl) (fun C _ hR hT _ _ hL hC hnm => ?_)
  revert hf
  unfold pX8_boardFor
  refine g_aload_n hC dX8_boardFor_0 (j := 0) rfl rfl ?_
  refine g_iload_n hC dX8_boardFor_1 (j := 1) rfl rfl ?_
  refine g_callV_i hC hR ⟨Nat.zero_le _, Nat.zero_le _⟩ mwX8_isThing miX8_isThing (ci := 8) rfl h_b (Nat.le_of_ble_eq_true rfl) mlX8_103 (fun _ hq => kX8_isThing hG h_b hq) (Nat.le_of_ble_eq_true rfl) rfl (st := []) rfl (Nat.le_of_ble_eq_true rfl) dX8_boardFor_2 (fun q1 => ?_)
  refine g_if_ne hC dX8_boardFor_5 ?_ ?_
  · refine g_iconst hC dX8_boardFor_8 ic_m1 ?_
    exact g_iret_iV hC hT dX8_boardFor_9
  · refine g_iconst hC dX8_boardFor_10 ic_0 ?_
    refine g_istore_n hC (n0 := 6) (lv' := [(2, .int 0), (0, .ref b), (1, .int a1)]) dX8_boardFor_11 rfl (Nat.le_of_ble_eq_true rfl) hL rfl ?_
    refine g_iconst hC dX8_boardFor_12 ic_m1 ?_
    refine g_istore_n hC (n0 := 6) (lv' := [(3, .int (-1)), (2, .int 0), (0, .ref b), (1, .int a1)]) dX8_boardFor_13 rfl (Nat.le_of_ble_eq_true rfl) hL rfl ?_
    refine g_iconst hC dX8_boardFor_14 ic_0 ?_
    refine g_istore hC (n0 := 6) (lv' := [(4, .int 0), (3, .int (-1)), (2, .int 0), (0, .ref b), (1, .int a1)]) dX8_boardFor_15 (Nat.le_of_ble_eq_true rfl) hL rfl ?_
    refine g_sub [3, 4, 2, 1, 0] rfl ?_
    refine g_bind (J := fun w12 => Go C 82 [(2, .int w12.2)] [] w12.1 R G 0 0) (fun w12 hJ => wX8_boardFor_17 hC hL hG h_b hR hJ n V 0 (-1) 0) (fun w12 => ?_)
    refine g_iload_n hC dX8_boardFor_82 (j := 0) rfl rfl ?_
    exact g_iret_iV hC hT dX8_boardFor_83
def lX8_fat_26 (n : Nat) (G : G2) (R : R2) (b : Nat) (a1 : Int32) : Nat → V2 → Int32 → Option (V2)
  | 0, _, _ => none
  | f3 + 1, U4, x5 =>
    if (16 : Int32) ≤ x5 then (some U4)
    else ((pX1_isOver U4 (b + 1) (b + 31)).bind fun q6 =>
    if q6 = 0 then ((ldI 6 (U4 (b + 33)) a1).bind fun t7 =>
    if (60 : Int32) ≤ t7 then (some U4)
    else ((pX1_goRest n G U4 R (b + 1) (b + 31) 1).bind fun q8 =>
    letv (x5 + 1) fun x9 =>
    lX8_fat_26 n G R b a1 f3 q8.2 x9))
    else (some U4))
def pX8_fat (n : Nat) (G : G2) (V : V2) (R : R2) (b : Nat) (a1 : Int32) : Option (Int32 × V2) :=
  (pX8_isThing V b a1).bind fun q1 =>
  if q1 = 0 then (some ((-1), V))
  else ((pX2_copy V (b + 31) (b + 2)).bind fun q2 =>
  (lX8_fat_26 n G R b a1 n q2 0).bind fun w10 =>
  (ldI 6 (w10 (b + 33)) a1).bind fun t11 =>
  if t11 < (60 : Int32) then (some ((-3), w10))
  else (some (w10 (b + 31) 0, w10)))
set_option maxHeartbeats 4000000 in
set_option maxRecDepth 100000 in
theorem wX8_fat_26 {C : Cx} (hC : CxOK C cX8_fat RX8 (some .int)) (hL : C.2.2.2.2 = 3) {n : Nat} {G : G2} {R : R2} {b : Nat} {a1 : Int32} (hG : GX G) (h_b : own G b 18) (hR : C.1.2.2.2.1 = rmN 6 0 0) {o : V2} (hX : Go C 79 [(0, .ref b), (1, .int a1)] [] o R G 0 0) : ∀ (f : Nat) (U4 : V2) (x5 : Int32), lX8_fat_26 n G R b a1 f U4 x5 = some o → Go C 26 [(0, .ref b), (1, .int a1), (2, .int x5)] [] U4 R G 0 0 := by
  intro f
  induction f with
  | zero => intro _ _ hf; exact absurd hf (by unfold lX8_fat_26; exact fun z => nomatch z)
  | succ f3 ih =>
    intro U4 x5
    unfold lX8_fat_26
    refine g_iload_n hC dX8_fat_26 (j := 2) rfl rfl ?_
    refine g_bipush hC dX8_fat_27 bc_16 ?_
    refine g_icmp_ge hC dX8_fat_29 ?_ ?_
    · refine g_sub [0, 1] rfl ?_
      exact fun e => by cases e; exact hX
    · refine g_aload_n hC dX8_fat_32 (j := 0) rfl rfl ?_
      refine g_getR hC fr_8_0 h_b (b := b + 1) rfl dX8_fat_33 flX8_10 ?_
      refine g_aload_n hC dX8_fat_36 (j := 0) rfl rfl ?_
      refine g_getR hC fr_8_3 h_b (b := b + 31) rfl dX8_fat_37 flX8_26 ?_
      refine g_callV_i hC hR ⟨Nat.zero_le _, Nat.zero_le _⟩ mwX1_isOver miX1_isOver (ci := 1) rfl (gx_8_0 hG h_b) (Nat.le_of_ble_eq_true rfl) mlX8_160 (fun _ hq => kX1_isOver hG (gx_8_0 hG h_b) (gx_8_3 hG h_b) hq) (Nat.le_of_ble_eq_true rfl) rfl (st := []) rfl (Nat.le_of_ble_eq_true rfl) dX8_fat_40 (fun q6 => ?_)
      refine g_if_ne hC dX8_fat_43 ?_ ?_
      · refine g_aload_n hC dX8_fat_46 (j := 0) rfl rfl ?_
        refine g_getR hC fr_8_3 h_b (b := b + 31) rfl dX8_fat_47 flX8_26 ?_
        refine g_getR hC fr_2_4 (gx_8_3 hG h_b) (b := b + 33) rfl dX8_fat_50 flX8_90 ?_
        refine g_iload_n hC dX8_fat_53 (j := 1) rfl rfl ?_
        refine g_ialdV hC (gx_2_4 hG (gx_8_3 hG h_b)) (gl_2_4 hG (gx_8_3 hG h_b)) dX8_fat_54 (fun t7 => ?_)
        refine g_bipush hC dX8_fat_55 bc_60 ?_
        refine g_icmp_ge hC dX8_fat_57 ?_ ?_
        · refine g_sub [0, 1] rfl ?_
          exact fun e => by cases e; exact hX
        · refine g_aload_n hC dX8_fat_60 (j := 0) rfl rfl ?_
          refine g_getR hC fr_8_0 h_b (b := b + 1) rfl dX8_fat_61 flX8_10 ?_
          refine g_aload_n hC dX8_fat_64 (j := 0) rfl rfl ?_
          refine g_getR hC fr_8_3 h_b (b := b + 31) rfl dX8_fat_65 flX8_26 ?_
          refine g_iconst hC dX8_fat_68 ic_1 ?_
          refine g_callV_iV hC hR ⟨Nat.zero_le _, Nat.zero_le _⟩ mwX1_goRest miX1_goRest (ci := 1) rfl (gx_8_0 hG h_b) (Nat.le_of_ble_eq_true rfl) mlX8_214 (fun _ hq => kX1_goRest hG (gx_8_0 hG h_b) (gx_8_3 hG h_b) hq) (Nat.le_of_ble_eq_true rfl) rfl (st := []) rfl (Nat.le_of_ble_eq_true rfl) dX8_fat_69 (fun q8 => ?_)
          refine g_pop hC dX8_fat_72 rfl ?_
          refine g_iincL hC (n0 := 3) (j := 2) (lv' := fun x9 => [(2, .int x9), (0, .ref b), (1, .int a1)]) dX8_fat_73 rfl ic_1 (Nat.le_of_ble_eq_true rfl) hL (fun _ => rfl) (fun x9 => ?_)
          refine g_goto hC dX8_fat_76 ?_
          refine g_sub [1, 2, 0] rfl ?_
          exact ih q8.2 x9
      · refine g_sub [0, 1] rfl ?_
        exact fun e => by cases e; exact hX
set_option maxHeartbeats 4000000 in
set_option maxRecDepth 100000 in
theorem kX8_fat {l : Launch} {D : Dx} {G : G2} {V : V2} {R : R2} {n : Nat} {b : Nat} {a1 : Int32} (hG : GX G) (h_b : own G b 18) {o : Int32 × V2} (hf : pX8_fat n G V R b a1 = some o) : Con l yX8_fat cX8_fat 3 (some .int) (rmN 6 0 0) D G V R [.ref b, .int a1] (some (.int o.1), o.2, R, G, 0, 0) := by
  refine Con.mk RX8 (by decide) rfl (Nat.le_of_ble_eq_true rfl) (fun C _ hR hT _ _ hL hC hnm => ?_)
  revert hf
  unfold pX8_fat
  refine g_aload_n hC dX8_fat_0 (j := 0) rfl rfl ?_
  refine g_iload_n hC dX8_fat_1 (j := 1) rfl rfl ?_
  refine g_callV_i hC hR ⟨Nat.zero_le _, Nat.zero_le _⟩ mwX8_isThing miX8_isThing (ci := 8) rfl h_b (Nat.le_of_ble_eq_true rfl) mlX8_103 (fun _ hq => kX8_isThing hG h_b hq) (Nat.le_of_ble_eq_true rfl) rfl (st := []) rfl (Nat.le_of_ble_eq_true rfl) dX8_fat_2 (fun q1 => ?_)
  refine g_if_ne hC dX8_fat_5 ?_ ?_
  · refine g_iconst hC dX8_fat_8 ic_m1 ?_
    exact g_iret_iV hC hT dX8_fat_9
  · refine g_aload_n hC dX8_fat_10 (j := 0) rfl rfl ?_
    refine g_getR hC fr_8_3 h_b (b := b + 31) rfl dX8_fat_11 flX8_26 ?_
    refine g_aload_n hC dX8_fat_14 (j := 0) rfl rfl ?_
    refine g_getR hC fr_8_0 h_b (b := b + 1) rfl dX8_fat_15 flX8_10 ?_
    refine g_getR hC fr_1_0 (gx_8_0 hG h_b) (b := b + 2) rfl dX8_fat_18 flX8_81 ?_
    refine g_callV_vV hC hR ⟨Nat.zero_le _, Nat.zero_le _⟩ mwX2_copy miX2_copy (ci := 2) rfl (gx_8_3 hG h_b) (Nat.le_of_ble_eq_true rfl) mlX8_210 (fun _ hq => kX2_copy hG (gx_8_3 hG h_b) (gx_1_0 hG (gx_8_0 hG h_b)) hq) (Nat.le_of_ble_eq_true rfl) rfl (st := []) rfl (Nat.le_of_ble_eq_true rfl) dX8_fat_21 (fun q2 => ?_)
    refine g_iconst hC dX8_fat_24 ic_0 ?_
    refine g_istore_n hC (n0 := 3) (lv' := [(2, .int 0), (0, .ref b), (1, .int a1)]) dX8_fat_25 rfl (Nat.le_of_ble_eq_true rfl) hL rfl ?_
    refine g_sub [1, 2, 0] rfl ?_
    refine g_bind (J := fun w10 => Go C 79 [(0, .ref b), (1, .int a1)] [] w10 R G 0 0) (fun w10 hJ => wX8_fat_26 hC hL hG h_b hR hJ n q2 0) (fun w10 => ?_)
    refine g_aload_n hC dX8_fat_79 (j := 0) rfl rfl ?_
    refine g_getR hC fr_8_3 h_b (b := b + 31) rfl dX8_fat_80 flX8_26 ?_
    refine g_getR hC fr_2_4 (gx_8_3 hG h_b) (b := b + 33) rfl dX8_fat_83 flX8_90 ?_
    refine g_iload_n hC dX8_fat_86 (j := 1) rfl rfl ?_
    refine g_ialdV hC (gx_2_4 hG (gx_8_3 hG h_b)) (gl_2_4 hG (gx_8_3 hG h_b)) dX8_fat_87 (fun t11 => ?_)
    refine g_bipush hC dX8_fat_88 bc_60 ?_
    refine g_icmp_lt hC dX8_fat_90 ?_ ?_
    · refine g_bipush hC dX8_fat_103 bc_m3 ?_
      exact g_iret_iV hC hT dX8_fat_105
    · refine g_aload_n hC dX8_fat_93 (j := 0) rfl rfl ?_
      refine g_getR hC fr_8_3 h_b (b := b + 31) rfl dX8_fat_94 flX8_26 ?_
      refine g_getI hC fi_2_0 (gx_8_3 hG h_b) dX8_fat_97 flX8_148 ?_
      refine g_goto hC dX8_fat_100 ?_
      exact g_iret_iV hC hT dX8_fat_105
def lX8_least_12 (n : Nat) (V : V2) (b : Nat) (a1 : Int32) : Nat → Int32 → (Unit → Option (Int32)) → Option (Int32)
  | 0, _, _ => none
  | f2 + 1, x3, K =>
    if (3 : Int32) < x3 then (K ())
    else ((pX1_pays n V (b + 1) (b + 2) a1 x3).bind fun q4 =>
    if q4 ≤ 0 then (letv (x3 + 1) fun x5 =>
    lX8_least_12 n V b a1 f2 x5 K)
    else (some x3))
def pX8_least (n : Nat) (V : V2) (b : Nat) (a1 : Int32) : Option (Int32) :=
  (pX8_isThing V b a1).bind fun q1 =>
  if q1 = 0 then (some (-1))
  else (lX8_least_12 n V b a1 n 0 (fun _ =>
  some (-3)))
set_option maxHeartbeats 4000000 in
set_option maxRecDepth 100000 in
theorem wX8_least_12 {C : Cx} (hC : CxOK C cX8_least RX8 (some .int)) (hL : C.2.2.2.2 = 3) {n : Nat} {G : G2} {V : V2} {R : R2} {b : Nat} {a1 : Int32} (hG : GX G) (h_b : own G b 18) (hR : C.1.2.2.2.1 = rmN 3 0 0) {o : Int32} (hT : C.2.1 = (some (.int o), V, R, G, 0, 0)) {K : Unit → Option (Int32)} (hX : ∀ (_ : Unit), K () = some o → Go C 44 [] [] V R G 0 0) : ∀ (f : Nat) (x3 : Int32), lX8_least_12 n V b a1 f x3 K = some o → Go C 12 [(0, .ref b), (1, .int a1), (2, .int x3)] [] V R G 0 0 := by
  intro f
  induction f with
  | zero => intro _ hf; exact absurd hf (by unfold lX8_least_12; exact fun z => nomatch z)
  | succ f2 ih =>
    intro x3
    unfold lX8_least_12
    refine g_iload_n hC dX8_least_12 (j := 2) rfl rfl ?_
    refine g_iconst hC dX8_least_13 ic_3 ?_
    refine g_icmp_gt hC dX8_least_14 ?_ ?_
    · refine g_sub [] rfl ?_
      exact hX ()
    · refine g_aload_n hC dX8_least_17 (j := 0) rfl rfl ?_
      refine g_getR hC fr_8_0 h_b (b := b + 1) rfl dX8_least_18 flX8_10 ?_
      refine g_aload_n hC dX8_least_21 (j := 0) rfl rfl ?_
      refine g_getR hC fr_8_0 h_b (b := b + 1) rfl dX8_least_22 flX8_10 ?_
      refine g_getR hC fr_1_0 (gx_8_0 hG h_b) (b := b + 2) rfl dX8_least_25 flX8_81 ?_
      refine g_iload_n hC dX8_least_28 (j := 1) rfl rfl ?_
      refine g_iload_n hC dX8_least_29 (j := 2) rfl rfl ?_
      refine g_callV_i hC hR ⟨Nat.zero_le _, Nat.zero_le _⟩ mwX1_pays miX1_pays (ci := 1) rfl (gx_8_0 hG h_b) (Nat.le_of_ble_eq_true rfl) mlX8_125 (fun _ hq => kX1_pays hG (gx_8_0 hG h_b) (gx_1_0 hG (gx_8_0 hG h_b)) hq) (Nat.le_of_ble_eq_true rfl) rfl (st := []) rfl (Nat.le_of_ble_eq_true rfl) dX8_least_30 (fun q4 => ?_)
      refine g_if_le hC dX8_least_33 ?_ ?_
      · refine g_iincL hC (n0 := 3) (j := 2) (lv' := fun x5 => [(2, .int x5), (0, .ref b), (1, .int a1)]) dX8_least_38 rfl ic_1 (Nat.le_of_ble_eq_true rfl) hL (fun _ => rfl) (fun x5 => ?_)
        refine g_goto hC dX8_least_41 ?_
        refine g_sub [1, 2, 0] rfl ?_
        exact ih x5
      · refine g_iload_n hC dX8_least_36 (j := 2) rfl rfl ?_
        exact g_iret_i hC hT dX8_least_37
set_option maxHeartbeats 4000000 in
set_option maxRecDepth 100000 in
theorem kX8_least {l : Launch} {D : Dx} {G : G2} {V : V2} {R : R2} {n : Nat} {b : Nat} {a1 : Int32} (hG : GX G) (h_b : own G b 18) {o : Int32} (hf : pX8_least n V b a1 = some o) : Con l yX8_least cX8_least 3 (some .int) (rmN 3 0 0) D G V R [.ref b, .int a1] (some (.int o), V, R, G, 0, 0) := by
  refine Con.mk RX8 (by decide) rfl (Nat.le_of_ble_eq_true rfl) (fun C _ hR hT _ _ hL hC hnm => ?_)
  revert hf
  unfold pX8_least
  refine g_aload_n hC dX8_least_0 (j := 0) rfl rfl ?_
  refine g_iload_n hC dX8_least_1 (j := 1) rfl rfl ?_
  refine g_callV_i hC hR ⟨Nat.zero_le _, Nat.zero_le _⟩ mwX8_isThing miX8_isThing (ci := 8) rfl h_b (Nat.le_of_ble_eq_true rfl) mlX8_103 (fun _ hq => kX8_isThing hG h_b hq) (Nat.le_of_ble_eq_true rfl) rfl (st := []) rfl (Nat.le_of_ble_eq_true rfl) dX8_least_2 (fun q1 => ?_)
  refine g_if_ne hC dX8_least_5 ?_ ?_
  · refine g_iconst hC dX8_least_8 ic_m1 ?_
    exact g_iret_i hC hT dX8_least_9
  · refine g_iconst hC dX8_least_10 ic_0 ?_
    refine g_istore_n hC (n0 := 3) (lv' := [(2, .int 0), (0, .ref b), (1, .int a1)]) dX8_least_11 rfl (Nat.le_of_ble_eq_true rfl) hL rfl ?_
    refine g_sub [1, 2, 0] rfl ?_
    refine wX8_least_12 hC hL hG h_b hR hT (fun _ => ?_) n 0
    refine g_bipush hC dX8_least_44 bc_m3 ?_
    exact g_iret_i hC hT dX8_least_46
def pX8_left (n : Nat) (G : G2) (V : V2) (R : R2) (b : Nat) (a1 : Int32) (a2 : Int32) : Option (Int32 × V2) :=
  (pX8_within a1 0 16).bind fun q1 =>
  if q1 = 0 then (some ((-1), V))
  else ((pX8_within a2 0 1).bind fun q2 =>
  if q2 = 0 then (some ((-1), V))
  else ((pX2_copy V (b + 31) (b + 2)).bind fun q3 =>
  (pX1_goRest n G q3 R (b + 1) (b + 31) a1).bind fun q4 =>
  if a2 = 0 then ((pX2_bulkOfAll n q4.2 (b + 31)).bind fun q5 =>
  some (q5, q4.2))
  else (some (q4.2 (b + 31) 2, q4.2))))
set_option maxHeartbeats 4000000 in
set_option maxRecDepth 100000 in
theorem kX8_left {l : Launch} {D : Dx} {G : G2} {V : V2} {R : R2} {n : Nat} {b : Nat} {a1 : Int32} {a2 : Int32} (hG : GX G) (h_b : own G b 18) {o : Int32 × V2} (hf : pX8_left n G V R b a1 a2 = some o) : Con l yX8_left cX8_left 3 (some .int) (rmN 6 0 0) D G V R [.ref b, .int a1, .int a2] (some (.int o.1), o.2, R, G, 0, 0) := by
  refine Con.mk RX8 (by decide) rfl (Nat.le_of_ble_eq_true rfl) (fun C _ hR hT _ _ hL hC hnm => ?_)
  revert hf
  unfold pX8_left
  refine g_iload_n hC dX8_left_0 (j := 1) rfl rfl ?_
  refine g_iconst hC dX8_left_1 ic_0 ?_
  refine g_bipush hC dX8_left_2 bc_16 ?_
  refine g_callS_i hC hR ⟨Nat.zero_le _, Nat.zero_le _⟩ mwX8_within ms_X8_within mlX8_77 (fun _ hq => kX8_within  hq) (Nat.le_of_ble_eq_true rfl) rfl (st := []) rfl (Nat.le_of_ble_eq_true rfl) dX8_left_4 (fun q1 => ?_)
  refine g_if_eq hC dX8_left_7 ?_ ?_
  · refine g_iconst hC dX8_left_19 ic_m1 ?_
    exact g_iret_iV hC hT dX8_left_20
  · refine g_iload_n hC dX8_left_10 (j := 2) rfl rfl ?_
    refine g_iconst hC dX8_left_11 ic_0 ?_
    refine g_iconst hC dX8_left_12 ic_1 ?_
    refine g_callS_i hC hR ⟨Nat.zero_le _, Nat.zero_le _⟩ mwX8_within ms_X8_within mlX8_77 (fun _ hq => kX8_within  hq) (Nat.le_of_ble_eq_true rfl) rfl (st := []) rfl (Nat.le_of_ble_eq_true rfl) dX8_left_13 (fun q2 => ?_)
    refine g_if_ne hC dX8_left_16 ?_ ?_
    · refine g_iconst hC dX8_left_19 ic_m1 ?_
      exact g_iret_iV hC hT dX8_left_20
    · refine g_aload_n hC dX8_left_21 (j := 0) rfl rfl ?_
      refine g_getR hC fr_8_3 h_b (b := b + 31) rfl dX8_left_22 flX8_26 ?_
      refine g_aload_n hC dX8_left_25 (j := 0) rfl rfl ?_
      refine g_getR hC fr_8_0 h_b (b := b + 1) rfl dX8_left_26 flX8_10 ?_
      refine g_getR hC fr_1_0 (gx_8_0 hG h_b) (b := b + 2) rfl dX8_left_29 flX8_81 ?_
      refine g_callV_vV hC hR ⟨Nat.zero_le _, Nat.zero_le _⟩ mwX2_copy miX2_copy (ci := 2) rfl (gx_8_3 hG h_b) (Nat.le_of_ble_eq_true rfl) mlX8_210 (fun _ hq => kX2_copy hG (gx_8_3 hG h_b) (gx_1_0 hG (gx_8_0 hG h_b)) hq) (Nat.le_of_ble_eq_true rfl) rfl (st := []) rfl (Nat.le_of_ble_eq_true rfl) dX8_left_32 (fun q3 => ?_)
      refine g_aload_n hC dX8_left_35 (j := 0) rfl rfl ?_
      refine g_getR hC fr_8_0 h_b (b := b + 1) rfl dX8_left_36 flX8_10 ?_
      refine g_aload_n hC dX8_left_39 (j := 0) rfl rfl ?_
      refine g_getR hC fr_8_3 h_b (b := b + 31) rfl dX8_left_40 flX8_26 ?_
      refine g_iload_n hC dX8_left_43 (j := 1) rfl rfl ?_
      refine g_callV_iV hC hR ⟨Nat.zero_le _, Nat.zero_le _⟩ mwX1_goRest miX1_goRest (ci := 1) rfl (gx_8_0 hG h_b) (Nat.le_of_ble_eq_true rfl) mlX8_214 (fun _ hq => kX1_goRest hG (gx_8_0 hG h_b) (gx_8_3 hG h_b) hq) (Nat.le_of_ble_eq_true rfl) rfl (st := []) rfl (Nat.le_of_ble_eq_true rfl) dX8_left_44 (fun q4 => ?_)
      refine g_pop hC dX8_left_47 rfl ?_
      refine g_iload_n hC dX8_left_48 (j := 2) rfl rfl ?_
      refine g_if_ne hC dX8_left_49 ?_ ?_
      · refine g_aload_n hC dX8_left_52 (j := 0) rfl rfl ?_
        refine g_getR hC fr_8_3 h_b (b := b + 31) rfl dX8_left_53 flX8_26 ?_
        refine g_callV_i hC hR ⟨Nat.zero_le _, Nat.zero_le _⟩ mwX2_bulkOfAll miX2_bulkOfAll (ci := 2) rfl (gx_8_3 hG h_b) (Nat.le_of_ble_eq_true rfl) mlX8_168 (fun _ hq => kX2_bulkOfAll hG (gx_8_3 hG h_b) hq) (Nat.le_of_ble_eq_true rfl) rfl (st := []) rfl (Nat.le_of_ble_eq_true rfl) dX8_left_56 (fun q5 => ?_)
        refine g_goto hC dX8_left_59 ?_
        exact g_iret_iV hC hT dX8_left_69
      · refine g_aload_n hC dX8_left_62 (j := 0) rfl rfl ?_
        refine g_getR hC fr_8_3 h_b (b := b + 31) rfl dX8_left_63 flX8_26 ?_
        refine g_getI hC fi_2_2 (gx_8_3 hG h_b) dX8_left_66 flX8_154 ?_
        exact g_iret_iV hC hT dX8_left_69
def lX2_isCloseToAny_12 (V : V2) (b : Nat) (a1 : Int32) (a2 : Int32) : Nat → Int32 → (Unit → Option (Int32)) → Option (Int32)
  | 0, _, _ => none
  | f2 + 1, x3, K =>
    if (V b 1) ≤ x3 then (K ())
    else (if ((a2 >>> (x3 &&& 31)) &&& 1) = (1 : Int32) then ((ldI 6 (V (b + 4)) x3).bind fun t4 =>
    (ldI 6 (V (b + 4)) a1).bind fun t5 =>
    if t4 = t5 then (some 1)
    else ((ldI 6 (V (b + 3)) x3).bind fun t6 =>
    (ldI 6 (V (b + 3)) a1).bind fun t7 =>
    if t6 = t7 then (some 1)
    else (letv (x3 + 1) fun x8 =>
    lX2_isCloseToAny_12 V b a1 a2 f2 x8 K)))
    else (letv (x3 + 1) fun x9 =>
    lX2_isCloseToAny_12 V b a1 a2 f2 x9 K))
def pX2_isCloseToAny (n : Nat) (V : V2) (b : Nat) (a1 : Int32) (a2 : Int32) : Option (Int32) :=
  (pX2_isFlat V b a1).bind fun q1 =>
  if q1 = 0 then (lX2_isCloseToAny_12 V b a1 a2 n 0 (fun _ =>
  some 0))
  else (some 0)
set_option maxHeartbeats 4000000 in
set_option maxRecDepth 100000 in
theorem wX2_isCloseToAny_12 {C : Cx} (hC : CxOK C cX2_isCloseToAny RX2 (some .boolean)) (hL : C.2.2.2.2 = 4) {G : G2} {V : V2} {R : R2} {b : Nat} {a1 : Int32} {a2 : Int32} (hG : GX G) (h_b : own G b 12) {o : Int32} (hT : C.2.1 = (some (.int o), V, R, G, 0, 0)) {K : Unit → Option (Int32)} (hX : ∀ (_ : Unit), K () = some o → Go C 67 [] [] V R G 0 0) : ∀ (f : Nat) (x3 : Int32), lX2_isCloseToAny_12 V b a1 a2 f x3 K = some o → Go C 12 [(0, .ref b), (1, .int a1), (2, .int a2), (3, .int x3)] [] V R G 0 0 := by
  intro f
  induction f with
  | zero => intro _ hf; exact absurd hf (by unfold lX2_isCloseToAny_12; exact fun z => nomatch z)
  | succ f2 ih =>
    intro x3
    unfold lX2_isCloseToAny_12
    refine g_iload_n hC dX2_isCloseToAny_12 (j := 3) rfl rfl ?_
    refine g_aload_n hC dX2_isCloseToAny_13 (j := 0) rfl rfl ?_
    refine g_getI hC fi_2_1 h_b dX2_isCloseToAny_14 flX2_15 ?_
    refine g_icmp_ge hC dX2_isCloseToAny_17 ?_ ?_
    · refine g_sub [] rfl ?_
      exact hX ()
    · refine g_iload_n hC dX2_isCloseToAny_20 (j := 2) rfl rfl ?_
      refine g_iload_n hC dX2_isCloseToAny_21 (j := 3) rfl rfl ?_
      refine g_ishr hC dX2_isCloseToAny_22 ?_
      refine g_iconst hC dX2_isCloseToAny_23 ic_1 ?_
      refine g_iand hC dX2_isCloseToAny_24 ?_
      refine g_iconst hC dX2_isCloseToAny_25 ic_1 ?_
      refine g_icmp_ne hC dX2_isCloseToAny_26 ?_ ?_
      · refine g_aload_n hC dX2_isCloseToAny_29 (j := 0) rfl rfl ?_
        refine g_getR hC fr_2_6 h_b (b := b + 4) rfl dX2_isCloseToAny_30 flX2_31 ?_
        refine g_iload_n hC dX2_isCloseToAny_33 (j := 3) rfl rfl ?_
        refine g_ialdV hC (gx_2_6 hG h_b) (gl_2_6 hG h_b) dX2_isCloseToAny_34 (fun t4 => ?_)
        refine g_aload_n hC dX2_isCloseToAny_35 (j := 0) rfl rfl ?_
        refine g_getR hC fr_2_6 h_b (b := b + 4) rfl dX2_isCloseToAny_36 flX2_31 ?_
        refine g_iload_n hC dX2_isCloseToAny_39 (j := 1) rfl rfl ?_
        refine g_ialdV hC (gx_2_6 hG h_b) (gl_2_6 hG h_b) dX2_isCloseToAny_40 (fun t5 => ?_)
        refine g_icmp_eq hC dX2_isCloseToAny_41 ?_ ?_
        · refine g_iconst hC dX2_isCloseToAny_59 ic_1 ?_
          exact g_zret_i hC rfl hT dX2_isCloseToAny_60
        · refine g_aload_n hC dX2_isCloseToAny_44 (j := 0) rfl rfl ?_
          refine g_getR hC fr_2_5 h_b (b := b + 3) rfl dX2_isCloseToAny_45 flX2_28 ?_
          refine g_iload_n hC dX2_isCloseToAny_48 (j := 3) rfl rfl ?_
          refine g_ialdV hC (gx_2_5 hG h_b) (gl_2_5 hG h_b) dX2_isCloseToAny_49 (fun t6 => ?_)
          refine g_aload_n hC dX2_isCloseToAny_50 (j := 0) rfl rfl ?_
          refine g_getR hC fr_2_5 h_b (b := b + 3) rfl dX2_isCloseToAny_51 flX2_28 ?_
          refine g_iload_n hC dX2_isCloseToAny_54 (j := 1) rfl rfl ?_
          refine g_ialdV hC (gx_2_5 hG h_b) (gl_2_5 hG h_b) dX2_isCloseToAny_55 (fun t7 => ?_)
          refine g_icmp_ne hC dX2_isCloseToAny_56 ?_ ?_
          · refine g_iconst hC dX2_isCloseToAny_59 ic_1 ?_
            exact g_zret_i hC rfl hT dX2_isCloseToAny_60
          · refine g_iincL hC (n0 := 4) (j := 3) (lv' := fun x8 => [(3, .int x8), (0, .ref b), (1, .int a1), (2, .int a2)]) dX2_isCloseToAny_61 rfl ic_1 (Nat.le_of_ble_eq_true rfl) hL (fun _ => rfl) (fun x8 => ?_)
            refine g_goto hC dX2_isCloseToAny_64 ?_
            refine g_sub [1, 2, 3, 0] rfl ?_
            exact ih x8
      · refine g_iincL hC (n0 := 4) (j := 3) (lv' := fun x9 => [(3, .int x9), (0, .ref b), (1, .int a1), (2, .int a2)]) dX2_isCloseToAny_61 rfl ic_1 (Nat.le_of_ble_eq_true rfl) hL (fun _ => rfl) (fun x9 => ?_)
        refine g_goto hC dX2_isCloseToAny_64 ?_
        refine g_sub [1, 2, 3, 0] rfl ?_
        exact ih x9
set_option maxHeartbeats 4000000 in
set_option maxRecDepth 100000 in
theorem kX2_isCloseToAny {l : Launch} {D : Dx} {G : G2} {V : V2} {R : R2} {n : Nat} {b : Nat} {a1 : Int32} {a2 : Int32} (hG : GX G) (h_b : own G b 12) {o : Int32} (hf : pX2_isCloseToAny n V b a1 a2 = some o) : Con l yX2_isCloseToAny cX2_isCloseToAny 4 (some .boolean) (rmN 1 0 0) D G V R [.ref b, .int a1, .int a2] (some (.int o), V, R, G, 0, 0) := by
  refine Con.mk RX2 (by decide) rfl (Nat.le_of_ble_eq_true rfl) (fun C _ hR hT _ _ hL hC hnm => ?_)
  revert hf
  unfold pX2_isCloseToAny
  refine g_aload_n hC dX2_isCloseToAny_0 (j := 0) rfl rfl ?_
  refine g_iload_n hC dX2_isCloseToAny_1 (j := 1) rfl rfl ?_
  refine g_callV_i hC hR ⟨Nat.zero_le _, Nat.zero_le _⟩ mwX2_isFlat miX2_isFlat (ci := 2) rfl h_b (Nat.le_of_ble_eq_true rfl) mlX2_53 (fun _ hq => kX2_isFlat hG h_b hq) (Nat.le_of_ble_eq_true rfl) rfl (st := []) rfl (Nat.le_of_ble_eq_true rfl) dX2_isCloseToAny_2 (fun q1 => ?_)
  refine g_if_eq hC dX2_isCloseToAny_5 ?_ ?_
  · refine g_iconst hC dX2_isCloseToAny_10 ic_0 ?_
    refine g_istore_n hC (n0 := 4) (lv' := [(3, .int 0), (0, .ref b), (1, .int a1), (2, .int a2)]) dX2_isCloseToAny_11 rfl (Nat.le_of_ble_eq_true rfl) hL rfl ?_
    refine g_sub [1, 2, 3, 0] rfl ?_
    refine wX2_isCloseToAny_12 hC hL hG h_b hT (fun _ => ?_) n 0
    refine g_iconst hC dX2_isCloseToAny_67 ic_0 ?_
    exact g_zret_i hC rfl hT dX2_isCloseToAny_68
  · refine g_iconst hC dX2_isCloseToAny_8 ic_0 ?_
    exact g_zret_i hC rfl hT dX2_isCloseToAny_9
def lX2_pileOf_27 (n : Nat) (V : V2) (b : Nat) : Nat → Int32 → Int32 → Option (Int32)
  | 0, _, _ => none
  | f6 + 1, x7, x8 =>
    if (V b 1) ≤ x8 then (some x7)
    else ((pX2_isCloseToAny n V b x8 x7).bind fun q9 =>
    if q9 = 0 then (letv (x8 + 1) fun x10 =>
    lX2_pileOf_27 n V b f6 x7 x10)
    else (letv (x7 ||| (1 <<< (x8 &&& 31))) fun x11 =>
    letv (x8 + 1) fun x12 =>
    lX2_pileOf_27 n V b f6 x11 x12))
def lX2_pileOf_16 (n : Nat) (V : V2) (b : Nat) : Nat → Int32 → Int32 → Option (Int32)
  | 0, _, _ => none
  | f3 + 1, x4, x5 =>
    if (V b 1) ≤ x5 then (some x4)
    else ((lX2_pileOf_27 n V b n x4 0).bind fun w13 =>
    letv (x5 + 1) fun x14 =>
    lX2_pileOf_16 n V b f3 w13 x14)
def pX2_pileOf (n : Nat) (V : V2) (b : Nat) (a1 : Int32) : Option (Int32) :=
  (pX2_isFlat V b a1).bind fun q1 =>
  if q1 = 0 then (letv (1 <<< (a1 &&& 31)) fun x2 =>
  (lX2_pileOf_16 n V b n x2 0).bind fun w15 =>
  some w15)
  else (some 0)
set_option maxHeartbeats 4000000 in
set_option maxRecDepth 100000 in
theorem wX2_pileOf_27 {C : Cx} (hC : CxOK C cX2_pileOf RX2 (some .int)) (hL : C.2.2.2.2 = 5) {n : Nat} {G : G2} {V : V2} {R : R2} {b : Nat} {x5 : Int32} (hG : GX G) (h_b : own G b 12) (hR : C.1.2.2.2.1 = rmN 2 0 0) {o : Int32} (hX : Go C 59 [(0, .ref b), (2, .int o), (3, .int x5)] [] V R G 0 0) : ∀ (f : Nat) (x7 : Int32) (x8 : Int32), lX2_pileOf_27 n V b f x7 x8 = some o → Go C 27 [(0, .ref b), (2, .int x7), (3, .int x5), (4, .int x8)] [] V R G 0 0 := by
  intro f
  induction f with
  | zero => intro _ _ hf; exact absurd hf (by unfold lX2_pileOf_27; exact fun z => nomatch z)
  | succ f6 ih =>
    intro x7 x8
    unfold lX2_pileOf_27
    refine g_iload hC dX2_pileOf_27 (j := 3) rfl ?_
    refine g_aload_n hC dX2_pileOf_29 (j := 0) rfl rfl ?_
    refine g_getI hC fi_2_1 h_b dX2_pileOf_30 flX2_15 ?_
    refine g_icmp_ge hC dX2_pileOf_33 ?_ ?_
    · refine g_sub [0, 1, 2] rfl ?_
      exact fun e => by cases e; exact hX
    · refine g_aload_n hC dX2_pileOf_36 (j := 0) rfl rfl ?_
      refine g_iload hC dX2_pileOf_37 (j := 3) rfl ?_
      refine g_iload_n hC dX2_pileOf_39 (j := 1) rfl rfl ?_
      refine g_callV_i hC hR ⟨Nat.zero_le _, Nat.zero_le _⟩ mwX2_isCloseToAny miX2_isCloseToAny (ci := 2) rfl h_b (Nat.le_of_ble_eq_true rfl) mlX2_57 (fun _ hq => kX2_isCloseToAny hG h_b hq) (Nat.le_of_ble_eq_true rfl) rfl (st := []) rfl (Nat.le_of_ble_eq_true rfl) dX2_pileOf_40 (fun q9 => ?_)
      refine g_if_eq hC dX2_pileOf_43 ?_ ?_
      · refine g_iincL hC (n0 := 5) (j := 3) (lv' := fun x10 => [(4, .int x10), (0, .ref b), (2, .int x7), (3, .int x5)]) dX2_pileOf_53 rfl ic_1 (Nat.le_of_ble_eq_true rfl) hL (fun _ => rfl) (fun x10 => ?_)
        refine g_goto hC dX2_pileOf_56 ?_
        refine g_sub [1, 2, 3, 0] rfl ?_
        exact ih x7 x10
      · refine g_iload_n hC dX2_pileOf_46 (j := 1) rfl rfl ?_
        refine g_iconst hC dX2_pileOf_47 ic_1 ?_
        refine g_iload hC dX2_pileOf_48 (j := 3) rfl ?_
        refine g_ishl hC dX2_pileOf_50 ?_
        refine g_ior hC dX2_pileOf_51 ?_
        refine g_istore_nL hC (n0 := 5) (lv' := fun x11 => [(2, .int x11), (0, .ref b), (3, .int x5), (4, .int x8)]) dX2_pileOf_52 rfl (Nat.le_of_ble_eq_true rfl) hL (fun _ => rfl) (fun x11 => ?_)
        refine g_iincL hC (n0 := 5) (j := 3) (lv' := fun x12 => [(4, .int x12), (2, .int x11), (0, .ref b), (3, .int x5)]) dX2_pileOf_53 rfl ic_1 (Nat.le_of_ble_eq_true rfl) hL (fun _ => rfl) (fun x12 => ?_)
        refine g_goto hC dX2_pileOf_56 ?_
        refine g_sub [2, 1, 3, 0] rfl ?_
        exact ih x11 x12
set_option maxHeartbeats 4000000 in
set_option maxRecDepth 100000 in
theorem wX2_pileOf_16 {C : Cx} (hC : CxOK C cX2_pileOf RX2 (some .int)) (hL : C.2.2.2.2 = 5) {n : Nat} {G : G2} {V : V2} {R : R2} {b : Nat} (hG : GX G) (h_b : own G b 12) (hR : C.1.2.2.2.1 = rmN 2 0 0) {o : Int32} (hX : Go C 65 [(2, .int o)] [] V R G 0 0) : ∀ (f : Nat) (x4 : Int32) (x5 : Int32), lX2_pileOf_16 n V b f x4 x5 = some o → Go C 16 [(0, .ref b), (2, .int x4), (3, .int x5)] [] V R G 0 0 := by
  intro f
  induction f with
  | zero => intro _ _ hf; exact absurd hf (by unfold lX2_pileOf_16; exact fun z => nomatch z)
  | succ f3 ih =>
    intro x4 x5
    unfold lX2_pileOf_16
    refine g_iload_n hC dX2_pileOf_16 (j := 2) rfl rfl ?_
    refine g_aload_n hC dX2_pileOf_17 (j := 0) rfl rfl ?_
    refine g_getI hC fi_2_1 h_b dX2_pileOf_18 flX2_15 ?_
    refine g_icmp_ge hC dX2_pileOf_21 ?_ ?_
    · refine g_sub [1] rfl ?_
      exact fun e => by cases e; exact hX
    · refine g_iconst hC dX2_pileOf_24 ic_0 ?_
      refine g_istore hC (n0 := 5) (lv' := [(4, .int 0), (0, .ref b), (2, .int x4), (3, .int x5)]) dX2_pileOf_25 (Nat.le_of_ble_eq_true rfl) hL rfl ?_
      refine g_sub [1, 2, 3, 0] rfl ?_
      refine g_bind (J := fun w13 => Go C 59 [(0, .ref b), (2, .int w13), (3, .int x5)] [] V R G 0 0) (fun w13 hJ => wX2_pileOf_27 hC hL hG h_b hR hJ n x4 0) (fun w13 => ?_)
      refine g_iincL hC (n0 := 5) (j := 2) (lv' := fun x14 => [(3, .int x14), (0, .ref b), (2, .int w13)]) dX2_pileOf_59 rfl ic_1 (Nat.le_of_ble_eq_true rfl) hL (fun _ => rfl) (fun x14 => ?_)
      refine g_goto hC dX2_pileOf_62 ?_
      refine g_sub [1, 2, 0] rfl ?_
      exact ih w13 x14
set_option maxHeartbeats 4000000 in
set_option maxRecDepth 100000 in
theorem kX2_pileOf {l : Launch} {D : Dx} {G : G2} {V : V2} {R : R2} {n : Nat} {b : Nat} {a1 : Int32} (hG : GX G) (h_b : own G b 12) {o : Int32} (hf : pX2_pileOf n V b a1 = some o) : Con l yX2_pileOf cX2_pileOf 5 (some .int) (rmN 2 0 0) D G V R [.ref b, .int a1] (some (.int o), V, R, G, 0, 0) := by
  refine Con.mk RX2 (by decide) rfl (Nat.le_of_ble_eq_true rfl) (fun C _ hR hT _ _ hL hC hnm => ?_)
  revert hf
  unfold pX2_pileOf
  refine g_aload_n hC dX2_pileOf_0 (j := 0) rfl rfl ?_
  refine g_iload_n hC dX2_pileOf_1 (j := 1) rfl rfl ?_
  refine g_callV_i hC hR ⟨Nat.zero_le _, Nat.zero_le _⟩ mwX2_isFlat miX2_isFlat (ci := 2) rfl h_b (Nat.le_of_ble_eq_true rfl) mlX2_53 (fun _ hq => kX2_isFlat hG h_b hq) (Nat.le_of_ble_eq_true rfl) rfl (st := []) rfl (Nat.le_of_ble_eq_true rfl) dX2_pileOf_2 (fun q1 => ?_)
  refine g_if_eq hC dX2_pileOf_5 ?_ ?_
  · refine g_iconst hC dX2_pileOf_10 ic_1 ?_
    refine g_iload_n hC dX2_pileOf_11 (j := 1) rfl rfl ?_
    refine g_ishl hC dX2_pileOf_12 ?_
    refine g_istore_nL hC (n0 := 5) (lv' := fun x2 => [(2, .int x2), (0, .ref b), (1, .int a1)]) dX2_pileOf_13 rfl (Nat.le_of_ble_eq_true rfl) hL (fun _ => rfl) (fun x2 => ?_)
    refine g_iconst hC dX2_pileOf_14 ic_0 ?_
    refine g_istore_n hC (n0 := 5) (lv' := [(3, .int 0), (2, .int x2), (0, .ref b), (1, .int a1)]) dX2_pileOf_15 rfl (Nat.le_of_ble_eq_true rfl) hL rfl ?_
    refine g_sub [2, 1, 0] rfl ?_
    refine g_bind (J := fun w15 => Go C 65 [(2, .int w15)] [] V R G 0 0) (fun w15 hJ => wX2_pileOf_16 hC hL hG h_b hR hJ n x2 0) (fun w15 => ?_)
    refine g_iload_n hC dX2_pileOf_65 (j := 0) rfl rfl ?_
    exact g_iret_i hC hT dX2_pileOf_66
  · refine g_iconst hC dX2_pileOf_8 ic_0 ?_
    exact g_iret_i hC hT dX2_pileOf_9
def lX8_howManyPiles_6 (n : Nat) (V : V2) (b : Nat) : Nat → Int32 → Int32 → Int32 → Option (Int32)
  | 0, _, _, _ => none
  | f1 + 1, x2, x3, x4 =>
    if (V (b + 2) 1) ≤ x4 then (some x2)
    else ((pX2_pileOf n V (b + 2) x4).bind fun q5 =>
    if q5 = 0 then (letv (x4 + 1) fun x6 =>
    lX8_howManyPiles_6 n V b f1 x2 x3 x6)
    else (if (q5 &&& x3) = 0 then (letv (x2 + 1) fun x7 =>
    letv (x3 ||| q5) fun x8 =>
    letv (x4 + 1) fun x9 =>
    lX8_howManyPiles_6 n V b f1 x7 x8 x9)
    else (letv (x4 + 1) fun x10 =>
    lX8_howManyPiles_6 n V b f1 x2 x3 x10)))
def pX8_howManyPiles (n : Nat) (V : V2) (b : Nat) : Option (Int32) :=
  (lX8_howManyPiles_6 n V b n 0 0 0).bind fun w11 =>
  some w11
set_option maxHeartbeats 4000000 in
set_option maxRecDepth 100000 in
theorem wX8_howManyPiles_6 {C : Cx} (hC : CxOK C cX8_howManyPiles RX8 (some .int)) (hL : C.2.2.2.2 = 5) {n : Nat} {G : G2} {V : V2} {R : R2} {b : Nat} (hG : GX G) (h_b : own G b 18) (hR : C.1.2.2.2.1 = rmN 3 0 0) {o : Int32} (hX : Go C 59 [(1, .int o)] [] V R G 0 0) : ∀ (f : Nat) (x2 : Int32) (x3 : Int32) (x4 : Int32), lX8_howManyPiles_6 n V b f x2 x3 x4 = some o → Go C 6 [(0, .ref b), (1, .int x2), (2, .int x3), (3, .int x4)] [] V R G 0 0 := by
  intro f
  induction f with
  | zero => intro _ _ _ hf; exact absurd hf (by unfold lX8_howManyPiles_6; exact fun z => nomatch z)
  | succ f1 ih =>
    intro x2 x3 x4
    unfold lX8_howManyPiles_6
    refine g_iload_n hC dX8_howManyPiles_6 (j := 3) rfl rfl ?_
    refine g_aload_n hC dX8_howManyPiles_7 (j := 0) rfl rfl ?_
    refine g_getR hC fr_8_0 h_b (b := b + 1) rfl dX8_howManyPiles_8 flX8_10 ?_
    refine g_getR hC fr_1_0 (gx_8_0 hG h_b) (b := b + 2) rfl dX8_howManyPiles_11 flX8_81 ?_
    refine g_getI hC fi_2_1 (gx_1_0 hG (gx_8_0 hG h_b)) dX8_howManyPiles_14 flX8_84 ?_
    refine g_icmp_ge hC dX8_howManyPiles_17 ?_ ?_
    · refine g_sub [1] rfl ?_
      exact fun e => by cases e; exact hX
    · refine g_aload_n hC dX8_howManyPiles_20 (j := 0) rfl rfl ?_
      refine g_getR hC fr_8_0 h_b (b := b + 1) rfl dX8_howManyPiles_21 flX8_10 ?_
      refine g_getR hC fr_1_0 (gx_8_0 hG h_b) (b := b + 2) rfl dX8_howManyPiles_24 flX8_81 ?_
      refine g_iload_n hC dX8_howManyPiles_27 (j := 3) rfl rfl ?_
      refine g_callV_i hC hR ⟨Nat.zero_le _, Nat.zero_le _⟩ mwX2_pileOf miX2_pileOf (ci := 2) rfl (gx_1_0 hG (gx_8_0 hG h_b)) (Nat.le_of_ble_eq_true rfl) mlX8_221 (fun _ hq => kX2_pileOf hG (gx_1_0 hG (gx_8_0 hG h_b)) hq) (Nat.le_of_ble_eq_true rfl) rfl (st := []) rfl (Nat.le_of_ble_eq_true rfl) dX8_howManyPiles_28 (fun q5 => ?_)
      refine g_istore hC (n0 := 5) (lv' := [(4, .int q5), (0, .ref b), (1, .int x2), (2, .int x3), (3, .int x4)]) dX8_howManyPiles_31 (Nat.le_of_ble_eq_true rfl) hL rfl ?_
      refine g_iload hC dX8_howManyPiles_33 (j := 0) rfl ?_
      refine g_if_eq hC dX8_howManyPiles_35 ?_ ?_
      · refine g_iincL hC (n0 := 5) (j := 4) (lv' := fun x6 => [(3, .int x6), (4, .int q5), (0, .ref b), (1, .int x2), (2, .int x3)]) dX8_howManyPiles_53 rfl ic_1 (Nat.le_of_ble_eq_true rfl) hL (fun _ => rfl) (fun x6 => ?_)
        refine g_goto hC dX8_howManyPiles_56 ?_
        refine g_sub [2, 3, 4, 0] rfl ?_
        exact ih x2 x3 x6
      · refine g_iload hC dX8_howManyPiles_38 (j := 0) rfl ?_
        refine g_iload_n hC dX8_howManyPiles_40 (j := 3) rfl rfl ?_
        refine g_iand hC dX8_howManyPiles_41 ?_
        refine g_if_ne hC dX8_howManyPiles_42 ?_ ?_
        · refine g_iincL hC (n0 := 5) (j := 2) (lv' := fun x7 => [(1, .int x7), (4, .int q5), (0, .ref b), (2, .int x3), (3, .int x4)]) dX8_howManyPiles_45 rfl ic_1 (Nat.le_of_ble_eq_true rfl) hL (fun _ => rfl) (fun x7 => ?_)
          refine g_iload_n hC dX8_howManyPiles_48 (j := 3) rfl rfl ?_
          refine g_iload hC dX8_howManyPiles_49 (j := 1) rfl ?_
          refine g_ior hC dX8_howManyPiles_51 ?_
          refine g_istore_nL hC (n0 := 5) (lv' := fun x8 => [(2, .int x8), (1, .int x7), (4, .int q5), (0, .ref b), (3, .int x4)]) dX8_howManyPiles_52 rfl (Nat.le_of_ble_eq_true rfl) hL (fun _ => rfl) (fun x8 => ?_)
          refine g_iincL hC (n0 := 5) (j := 4) (lv' := fun x9 => [(3, .int x9), (2, .int x8), (1, .int x7), (4, .int q5), (0, .ref b)]) dX8_howManyPiles_53 rfl ic_1 (Nat.le_of_ble_eq_true rfl) hL (fun _ => rfl) (fun x9 => ?_)
          refine g_goto hC dX8_howManyPiles_56 ?_
          refine g_sub [4, 2, 1, 0] rfl ?_
          exact ih x7 x8 x9
        · refine g_iincL hC (n0 := 5) (j := 4) (lv' := fun x10 => [(3, .int x10), (4, .int q5), (0, .ref b), (1, .int x2), (2, .int x3)]) dX8_howManyPiles_53 rfl ic_1 (Nat.le_of_ble_eq_true rfl) hL (fun _ => rfl) (fun x10 => ?_)
          refine g_goto hC dX8_howManyPiles_56 ?_
          refine g_sub [2, 3, 4, 0] rfl ?_
          exact ih x2 x3 x10
set_option maxHeartbeats 4000000 in
set_option maxRecDepth 100000 in
theorem kX8_howManyPiles {l : Launch} {D : Dx} {G : G2} {V : V2} {R : R2} {n : Nat} {b : Nat} (hG : GX G) (h_b : own G b 18) {o : Int32} (hf : pX8_howManyPiles n V b = some o) : Con l yX8_howManyPiles cX8_howManyPiles 5 (some .int) (rmN 3 0 0) D G V R [.ref b] (some (.int o), V, R, G, 0, 0) := by
  refine Con.mk RX8 (by decide) rfl (Nat.le_of_ble_eq_true rfl) (fun C _ hR hT _ _ hL hC hnm => ?_)
  revert hf
  unfold pX8_howManyPiles
  refine g_iconst hC dX8_howManyPiles_0 ic_0 ?_
  refine g_istore_n hC (n0 := 5) (lv' := [(1, .int 0), (0, .ref b)]) dX8_howManyPiles_1 rfl (Nat.le_of_ble_eq_true rfl) hL rfl ?_
  refine g_iconst hC dX8_howManyPiles_2 ic_0 ?_
  refine g_istore_n hC (n0 := 5) (lv' := [(2, .int 0), (1, .int 0), (0, .ref b)]) dX8_howManyPiles_3 rfl (Nat.le_of_ble_eq_true rfl) hL rfl ?_
  refine g_iconst hC dX8_howManyPiles_4 ic_0 ?_
  refine g_istore_n hC (n0 := 5) (lv' := [(3, .int 0), (2, .int 0), (1, .int 0), (0, .ref b)]) dX8_howManyPiles_5 rfl (Nat.le_of_ble_eq_true rfl) hL rfl ?_
  refine g_sub [3, 2, 1, 0] rfl ?_
  refine g_bind (J := fun w11 => Go C 59 [(1, .int w11)] [] V R G 0 0) (fun w11 hJ => wX8_howManyPiles_6 hC hL hG h_b hR hJ n 0 0 0) (fun w11 => ?_)
  refine g_iload_n hC dX8_howManyPiles_59 (j := 0) rfl rfl ?_
  exact g_iret_i hC hT dX8_howManyPiles_60
def pX8_piles (n : Nat) (V : V2) (b : Nat) (a1 : Int32) : Option (Int32) :=
  if a1 = (-1 : Int32) then ((pX8_howManyPiles n V b).bind fun q1 =>
  some q1)
  else ((pX8_isThing V b a1).bind fun q2 =>
  if q2 = 0 then (some (-1))
  else ((pX2_pileOf n V (b + 2) a1).bind fun q3 =>
  some q3))
set_option maxHeartbeats 4000000 in
set_option maxRecDepth 100000 in
theorem kX8_piles {l : Launch} {D : Dx} {G : G2} {V : V2} {R : R2} {n : Nat} {b : Nat} {a1 : Int32} (hG : GX G) (h_b : own G b 18) {o : Int32} (hf : pX8_piles n V b a1 = some o) : Con l yX8_piles cX8_piles 2 (some .int) (rmN 4 0 0) D G V R [.ref b, .int a1] (some (.int o), V, R, G, 0, 0) := by
  refine Con.mk RX8 (by decide) rfl (Nat.le_of_ble_eq_true rfl) (fun C _ hR hT _ _ hL hC hnm => ?_)
  revert hf
  unfold pX8_piles
  refine g_iload_n hC dX8_piles_0 (j := 1) rfl rfl ?_
  refine g_iconst hC dX8_piles_1 ic_m1 ?_
  refine g_icmp_ne hC dX8_piles_2 ?_ ?_
  · refine g_aload_n hC dX8_piles_5 (j := 0) rfl rfl ?_
    refine g_callV_i hC hR ⟨Nat.zero_le _, Nat.zero_le _⟩ mwX8_howManyPiles miX8_howManyPiles (ci := 8) rfl h_b (Nat.le_of_ble_eq_true rfl) mlX8_218 (fun _ hq => kX8_howManyPiles hG h_b hq) (Nat.le_of_ble_eq_true rfl) rfl (st := []) rfl (Nat.le_of_ble_eq_true rfl) dX8_piles_6 (fun q1 => ?_)
    exact g_iret_i hC hT dX8_piles_9
  · refine g_aload_n hC dX8_piles_10 (j := 0) rfl rfl ?_
    refine g_iload_n hC dX8_piles_11 (j := 1) rfl rfl ?_
    refine g_callV_i hC hR ⟨Nat.zero_le _, Nat.zero_le _⟩ mwX8_isThing miX8_isThing (ci := 8) rfl h_b (Nat.le_of_ble_eq_true rfl) mlX8_103 (fun _ hq => kX8_isThing hG h_b hq) (Nat.le_of_ble_eq_true rfl) rfl (st := []) rfl (Nat.le_of_ble_eq_true rfl) dX8_piles_12 (fun q2 => ?_)
    refine g_if_eq hC dX8_piles_15 ?_ ?_
    · refine g_iconst hC dX8_piles_32 ic_m1 ?_
      exact g_iret_i hC hT dX8_piles_33
    · refine g_aload_n hC dX8_piles_18 (j := 0) rfl rfl ?_
      refine g_getR hC fr_8_0 h_b (b := b + 1) rfl dX8_piles_19 flX8_10 ?_
      refine g_getR hC fr_1_0 (gx_8_0 hG h_b) (b := b + 2) rfl dX8_piles_22 flX8_81 ?_
      refine g_iload_n hC dX8_piles_25 (j := 1) rfl rfl ?_
      refine g_callV_i hC hR ⟨Nat.zero_le _, Nat.zero_le _⟩ mwX2_pileOf miX2_pileOf (ci := 2) rfl (gx_1_0 hG (gx_8_0 hG h_b)) (Nat.le_of_ble_eq_true rfl) mlX8_221 (fun _ hq => kX2_pileOf hG (gx_1_0 hG (gx_8_0 hG h_b)) hq) (Nat.le_of_ble_eq_true rfl) rfl (st := []) rfl (Nat.le_of_ble_eq_true rfl) dX8_piles_26 (fun q3 => ?_)
      refine g_goto hC dX8_piles_29 ?_
      exact g_iret_i hC hT dX8_piles_33
def pX6_begin (G : G2) (V : V2) (R : R2) (b : Nat) (a1 : Nat) (a2 : Int32) : Option (V2) :=
  (ldR 5 (R (b + 1)) 0).bind fun q1 =>
  ocase q1 none fun y2 => if ownB G y2 12 then ((pX2_copy V y2 (a1 + 1)).bind fun q4 =>
  letv (up2 q4 b 4 (jmax 0 (jmin (jmin a2 4) ((q4 a1 1) - (q4 (a1 + 1) 0))))) fun U5 =>
  some U5) else none
set_option maxHeartbeats 4000000 in
set_option maxRecDepth 100000 in
theorem kX6_begin {l : Launch} {D : Dx} {G : G2} {V : V2} {R : R2} {b : Nat} {a1 : Nat} {a2 : Int32} (hG : GX G) (h_b : own G b 16) (h_a1 : own G a1 11) {o : V2} (hf : pX6_begin G V R b a1 a2 = some o) : Con l yX6_begin cX6_begin 3 none (rmN 2 0 0) D G V R [.ref b, .ref a1, .int a2] (none, o, R, G, 0, 0) := by
  refine Con.mk RX6 (by decide) rfl (Nat.le_of_ble_eq_true rfl) (fun C _ hR hT _ _ hL hC hnm => ?_)
  revert hf
  unfold pX6_begin
  refine g_aload_n hC dX6_begin_0 (j := 0) rfl rfl ?_
  refine g_getR hC fr_6_0 h_b (b := b + 1) rfl dX6_begin_1 flX6_11 ?_
  refine g_iconst hC dX6_begin_4 ic_0 ?_
  refine g_aaldV hC (by decide) (gx_6_0 hG h_b) (gl_6_0 hG h_b) dX6_begin_5 (fun q1 => ?_)
  cases q1 with
  | none => exact fun hf => nomatch hf
  | some y2 =>
    refine g_osome ?_
    refine g_guard (fun hy3 => ?_)
    refine g_aload_n hC dX6_begin_6 (j := 1) rfl rfl ?_
    refine g_getR hC fr_1_0 h_a1 (b := a1 + 1) rfl dX6_begin_7 flX6_47 ?_
    refine g_callV_vV hC hR ⟨Nat.zero_le _, Nat.zero_le _⟩ mwX2_copy miX2_copy (ci := 2) rfl hy3 (Nat.le_of_ble_eq_true rfl) mlX6_53 (fun _ hq => kX2_copy hG hy3 (gx_1_0 hG h_a1) hq) (Nat.le_of_ble_eq_true rfl) rfl (st := []) rfl (Nat.le_of_ble_eq_true rfl) dX6_begin_10 (fun q4 => ?_)
    refine g_aload_n hC dX6_begin_13 (j := 0) rfl rfl ?_
    refine g_iconst hC dX6_begin_14 ic_0 ?_
    refine g_iload_n hC dX6_begin_15 (j := 2) rfl rfl ?_
    refine g_iconst hC dX6_begin_16 ic_4 ?_
    refine g_mmin hC hR (Nat.le_of_ble_eq_true rfl) ⟨Nat.le_refl _, Nat.le_refl _⟩ dX6_begin_17 mlX6_57 (st := [.int 0, .ref b]) (Nat.le_of_ble_eq_true rfl) ?_
    refine g_aload_n hC dX6_begin_20 (j := 1) rfl rfl ?_
    refine g_getI hC fi_1_1 h_a1 dX6_begin_21 flX6_63 ?_
    refine g_aload_n hC dX6_begin_24 (j := 1) rfl rfl ?_
    refine g_getR hC fr_1_0 h_a1 (b := a1 + 1) rfl dX6_begin_25 flX6_47 ?_
    refine g_getI hC fi_2_0 (gx_1_0 hG h_a1) dX6_begin_28 flX6_66 ?_
    refine g_isub hC dX6_begin_31 ?_
    refine g_mmin hC hR (Nat.le_of_ble_eq_true rfl) ⟨Nat.le_refl _, Nat.le_refl _⟩ dX6_begin_32 mlX6_57 (st := [.int 0, .ref b]) (Nat.le_of_ble_eq_true rfl) ?_
    refine g_mmax hC hR (Nat.le_of_ble_eq_true rfl) ⟨Nat.le_refl _, Nat.le_refl _⟩ dX6_begin_35 mlX6_69 (st := [.ref b]) (Nat.le_of_ble_eq_true rfl) ?_
    refine g_putIL hC fp_6_4 h_b dX6_begin_38 flX6_28 (fun U5 => ?_)
    exact g_vret_vV hC hT dX6_begin_41
def pX6_weigh (G : G2) (V : V2) (R : R2) (b : Nat) (a1 : Int32) (a2 : Int32) : Option (V2) :=
  ((if a1 ≤ (V b 5) then (some V)
  else (letv (up2 V b 5 a1) fun U2 =>
  letv (up2 U2 b 6 0) fun U3 =>
  (cpyV 4 4 U3 (b + 2) 0 (b + 3) 0 (U3 b 4)).bind fun U4 =>
  some U4) : Option (V2))).bind fun j1 =>
  letv ((if a1 = (j1 b 5) then (letv (up2 j1 b 6 ((j1 b 6) + 1)) fun U6 =>
  U6)
  else (j1) : V2)) fun j5 =>
  (ldR 5 (R (b + 1)) (j5 b 4)).bind fun q7 =>
  ocase q7 none fun y8 => if ownB G y8 12 then (letv (j5 y8 2) fun x10 =>
  letv (up2 j5 b 8 ((j5 b 8) ||| x10)) fun U11 =>
  if (x10 &&& (U11 b 2)) = (U11 b 2) then (letv (fun (u13 : Unit) => (letv (up2 U11 b 7 a2) fun U14 =>
  some U14)) fun j12 =>
  if (U11 b 7) = (-3 : Int32) then (j12 ())
  else (if (U11 b 7) ≤ a2 then (some U11)
  else (j12 ())))
  else (some U11)) else none
set_option maxHeartbeats 4000000 in
set_option maxRecDepth 100000 in
theorem kX6_weigh {l : Launch} {D : Dx} {G : G2} {V : V2} {R : R2} {b : Nat} {a1 : Int32} {a2 : Int32} (hG : GX G) (h_b : own G b 16) {o : V2} (hf : pX6_weigh G V R b a1 a2 = some o) : Con l yX6_weigh cX6_weigh 4 none (rmN 1 0 0) D G V R [.ref b, .int a1, .int a2] (none, o, R, G, 0, 0) := by
  refine Con.mk RX6 (by decide) rfl (Nat.le_of_ble_eq_true rfl) (fun C _ hR hT _ _ hL hC hnm => ?_)
  revert hf
  unfold pX6_weigh
  refine g_iload_n hC dX6_weigh_0 (j := 1) rfl rfl ?_
  refine g_aload_n hC dX6_weigh_1 (j := 0) rfl rfl ?_
  refine g_getI hC fi_6_5 h_b dX6_weigh_2 flX6_31 ?_
  refine g_bind (J := fun j1 => Go C 35 [(0, .ref b), (1, .int a1), (2, .int a2)] [] j1 R G 0 0) (fun j1 hJ => ?_) (fun j1 => ?_)
  · refine g_icmp_le hC dX6_weigh_5 ?_ ?_
    · exact fun e => by cases e; exact hJ
    · refine g_aload_n hC dX6_weigh_8 (j := 0) rfl rfl ?_
      refine g_iload_n hC dX6_weigh_9 (j := 1) rfl rfl ?_
      refine g_putIL hC fp_6_5 h_b dX6_weigh_10 flX6_31 (fun U2 => ?_)
      refine g_aload_n hC dX6_weigh_13 (j := 0) rfl rfl ?_
      refine g_iconst hC dX6_weigh_14 ic_0 ?_
      refine g_putIL hC fp_6_6 h_b dX6_weigh_15 flX6_34 (fun U3 => ?_)
      refine g_aload_n hC dX6_weigh_18 (j := 0) rfl rfl ?_
      refine g_getR hC fr_6_1 h_b (b := b + 2) rfl dX6_weigh_19 flX6_17 ?_
      refine g_iconst hC dX6_weigh_22 ic_0 ?_
      refine g_aload_n hC dX6_weigh_23 (j := 0) rfl rfl ?_
      refine g_getR hC fr_6_3 h_b (b := b + 3) rfl dX6_weigh_24 flX6_25 ?_
      refine g_iconst hC dX6_weigh_27 ic_0 ?_
      refine g_aload_n hC dX6_weigh_28 (j := 0) rfl rfl ?_
      refine g_getI hC fi_6_4 h_b dX6_weigh_29 flX6_28 ?_
      refine g_acpy hC hR (Nat.le_of_ble_eq_true rfl) (gx_6_1 hG h_b) (gx_6_3 hG h_b) (gl_6_1 hG h_b) (gl_6_3 hG h_b) dX6_weigh_32 mlX6_91 (Nat.le_of_ble_eq_true rfl) (fun U4 => ?_)
      exact fun e => by cases e; exact hJ
  · refine g_iload_n hC dX6_weigh_35 (j := 1) rfl rfl ?_
    refine g_aload_n hC dX6_weigh_36 (j := 0) rfl rfl ?_
    refine g_getI hC fi_6_5 h_b dX6_weigh_37 flX6_31 ?_
    refine g_letJ (J := fun j5 => Go C 53 [(0, .ref b), (2, .int a2)] [] j5 R G 0 0) (fun j5 hJ => ?_) (fun j5 => ?_)
    · refine g_icmp_ne hC dX6_weigh_40 ?_ ?_
      · refine g_aload_n hC dX6_weigh_43 (j := 0) rfl rfl ?_
        refine g_dup hC dX6_weigh_44 rfl ?_
        refine g_getI hC fi_6_6 h_b dX6_weigh_45 flX6_34 ?_
        refine g_iconst hC dX6_weigh_48 ic_1 ?_
        refine g_iadd hC dX6_weigh_49 ?_
        refine g_putIL hC fp_6_6 h_b dX6_weigh_50 flX6_34 (fun U6 => ?_)
        refine g_sub [0, 2] rfl ?_
        exact fun e => by cases e; exact hJ
      · refine g_sub [0, 2] rfl ?_
        exact fun e => by cases e; exact hJ
    · refine g_aload_n hC dX6_weigh_53 (j := 0) rfl rfl ?_
      refine g_getR hC fr_6_0 h_b (b := b + 1) rfl dX6_weigh_54 flX6_11 ?_
      refine g_aload_n hC dX6_weigh_57 (j := 0) rfl rfl ?_
      refine g_getI hC fi_6_4 h_b dX6_weigh_58 flX6_28 ?_
      refine g_aaldV hC (by decide) (gx_6_0 hG h_b) (gl_6_0 hG h_b) dX6_weigh_61 (fun q7 => ?_)
      cases q7 with
      | none => exact fun hf => nomatch hf
      | some y8 =>
        refine g_osome ?_
        refine g_guard (fun hy9 => ?_)
        refine g_getI hC fi_2_2 hy9 dX6_weigh_62 flX6_97 ?_
        refine g_istore_nL hC (n0 := 4) (lv' := fun x10 => [(3, .int x10), (0, .ref b), (2, .int a2)]) dX6_weigh_65 rfl (Nat.le_of_ble_eq_true rfl) hL (fun _ => rfl) (fun x10 => ?_)
        refine g_aload_n hC dX6_weigh_66 (j := 1) rfl rfl ?_
        refine g_dup hC dX6_weigh_67 rfl ?_
        refine g_getI hC fi_6_8 h_b dX6_weigh_68 flX6_40 ?_
        refine g_iload_n hC dX6_weigh_71 (j := 0) rfl rfl ?_
        refine g_ior hC dX6_weigh_72 ?_
        refine g_putIL hC fp_6_8 h_b dX6_weigh_73 flX6_40 (fun U11 => ?_)
        refine g_iload_n hC dX6_weigh_76 (j := 0) rfl rfl ?_
        refine g_aload_n hC dX6_weigh_77 (j := 1) rfl rfl ?_
        refine g_getI hC fi_6_2 h_b dX6_weigh_78 flX6_21 ?_
        refine g_iand hC dX6_weigh_81 ?_
        refine g_aload_n hC dX6_weigh_82 (j := 1) rfl rfl ?_
        refine g_getI hC fi_6_2 h_b dX6_weigh_83 flX6_21 ?_
        refine g_icmp_ne hC dX6_weigh_86 ?_ ?_
        · refine g_aload_n hC dX6_weigh_89 (j := 1) rfl rfl ?_
          refine g_getI hC fi_6_7 h_b dX6_weigh_90 flX6_37 ?_
          refine g_bipush hC dX6_weigh_93 bc_m3 ?_
          refine g_jn (J := fun j12 => ∀ (u13 : Unit), j12 u13 = some o → Go C 106 [(0, .ref b), (2, .int a2)] [] U11 R G 0 0) (fun u13 => ?_) (fun j12 hJ => ?_)
          · refine g_aload_n hC dX6_weigh_106 (j := 0) rfl rfl ?_
            refine g_iload_n hC dX6_weigh_107 (j := 1) rfl rfl ?_
            refine g_putIL hC fp_6_7 h_b dX6_weigh_108 flX6_37 (fun U14 => ?_)
            exact g_vret_vV hC hT dX6_weigh_111
          · refine g_icmp_eq hC dX6_weigh_95 ?_ ?_
            · refine g_sub [1, 2] rfl ?_
              exact hJ ()
            · refine g_iload_n hC dX6_weigh_98 (j := 2) rfl rfl ?_
              refine g_aload_n hC dX6_weigh_99 (j := 1) rfl rfl ?_
              refine g_getI hC fi_6_7 h_b dX6_weigh_100 flX6_37 ?_
              refine g_icmp_ge hC dX6_weigh_103 ?_ ?_
              · exact g_vret_vV hC hT dX6_weigh_111
              · refine g_sub [1, 2] rfl ?_
                exact hJ ()
        · exact g_vret_vV hC hT dX6_weigh_111
def lX6_tryFrom_37 (rec : Nat → G2 → V2 → R2 → Nat → Nat → Int32 → Int32 → Int32 → Option (V2)) (n : Nat) (G : G2) (R : R2) (b : Nat) (a1 : Nat) (a2 : Int32) (a3 : Int32) (a4 : Int32) (y2 : Nat) (y5 : Nat) : Nat → V2 → Int32 → Option (V2)
  | 0, _, _ => none
  | f7 + 1, U8, x9 =>
    if (U8 y2 1) < x9 then (some U8)
    else ((pX2_copy U8 y5 y2).bind fun q10 =>
    (stI 4 q10 (b + 2) a2 x9).bind fun U11 =>
    (pX1_goBy n G U11 R a1 y5 x9).bind fun q12 =>
    letv ((if x9 = 0 then (a4)
    else (a4 + 1) : Int32)) fun j13 =>
    (rec n G q12.2 R b a1 (a2 + 1) (a3 + q12.1) j13).bind fun q14 =>
    letv (x9 + 1) fun x15 =>
    lX6_tryFrom_37 rec n G R b a1 a2 a3 a4 y2 y5 f7 q14 x15)
def fX6_tryFrom (rec : Nat → G2 → V2 → R2 → Nat → Nat → Int32 → Int32 → Int32 → Option (V2)) (n : Nat) (G : G2) (V : V2) (R : R2) (b : Nat) (a1 : Nat) (a2 : Int32) (a3 : Int32) (a4 : Int32) : Option (V2) :=
  if a2 < (V b 4) then ((ldR 5 (R (b + 1)) a2).bind fun q1 =>
  ocase q1 none fun y2 => if ownB G y2 12 then ((ldR 5 (R (b + 1)) (a2 + 1)).bind fun q4 =>
  ocase q4 none fun y5 => if ownB G y5 12 then ((lX6_tryFrom_37 rec n G R b a1 a2 a3 a4 y2 y5 n V 0).bind fun w16 =>
  some w16) else none) else none)
  else ((pX6_weigh G V R b a3 a4).bind fun q17 =>
  some q17)
set_option maxHeartbeats 4000000 in
set_option maxRecDepth 100000 in
theorem wX6_tryFrom_37 {C : Cx} (hC : CxOK C cX6_tryFrom RX6 none) (hL : C.2.2.2.2 = 9) {rec : Nat → G2 → V2 → R2 → Nat → Nat → Int32 → Int32 → Int32 → Option (V2)} {N : Nat} {n : Nat} {G : G2} {R : R2} {b : Nat} {a1 : Nat} {a2 : Int32} {a3 : Int32} {a4 : Int32} {y2 : Nat} {y5 : Nat} (hrec : ∀ {l : Launch} {D : Dx} {G : G2} {V : V2} {R : R2} {n : Nat} {b : Nat} {a1 : Nat} {a2 : Int32} {a3 : Int32} {a4 : Int32} (hG : GX G) (h_b : own G b 16) (h_a1 : own G a1 11) {o : V2}, rec n G V R b a1 a2 a3 a4 = some o → Con l yX6_tryFrom cX6_tryFrom 9 none (rmN N 0 0) D G V R [.ref b, .ref a1, .int a2, .int a3, .int a4] (none, o, R, G, 0, 0)) (hN : 5 ≤ N) (hG : GX G) (h_b : own G b 16) (h_a1 : own G a1 11) (hR : C.1.2.2.2.1 = rmN (N + 1) 0 0) (hy3 : own G y2 12) (hy6 : own G y5 12) {o : V2} (hX : Go C 104 [] [] o R G 0 0) : ∀ (f : Nat) (U8 : V2) (x9 : Int32), lX6_tryFrom_37 rec n G R b a1 a2 a3 a4 y2 y5 f U8 x9 = some o → Go C 37 [(0, .ref b), (1, .ref a1), (2, .int a2), (3, .int a3), (4, .int a4), (5, .ref y2), (6, .ref y5), (7, .int x9)] [] U8 R G 0 0 := by
  intro f
  induction f with
  | zero => intro _ _ hf; exact absurd hf (by unfold lX6_tryFrom_37; exact fun z => nomatch z)
  | succ f7 ih =>
    intro U8 x9
    unfold lX6_tryFrom_37
    refine g_iload hC dX6_tryFrom_37 (j := 7) rfl ?_
    refine g_aload hC dX6_tryFrom_39 (j := 5) rfl ?_
    refine g_getI hC fi_2_1 hy3 dX6_tryFrom_41 flX6_84 ?_
    refine g_icmp_gt hC dX6_tryFrom_44 ?_ ?_
    · refine g_sub [] rfl ?_
      exact fun e => by cases e; exact hX
    · refine g_aload hC dX6_tryFrom_47 (j := 6) rfl ?_
      refine g_aload hC dX6_tryFrom_49 (j := 5) rfl ?_
      refine g_callV_vV hC hR ⟨Nat.zero_le _, Nat.zero_le _⟩ mwX2_copy miX2_copy (ci := 2) rfl hy6 (Nat.le_of_ble_eq_true rfl) mlX6_53 (fun _ hq => kX2_copy hG hy6 hy3 hq) (by have := hN; omega) rfl (st := []) rfl (Nat.le_of_ble_eq_true rfl) dX6_tryFrom_51 (fun q10 => ?_)
      refine g_aload_n hC dX6_tryFrom_54 (j := 0) rfl rfl ?_
      refine g_getR hC fr_6_1 h_b (b := b + 2) rfl dX6_tryFrom_55 flX6_17 ?_
      refine g_iload_n hC dX6_tryFrom_58 (j := 2) rfl rfl ?_
      refine g_iload hC dX6_tryFrom_59 (j := 7) rfl ?_
      refine g_iastV hC (gx_6_1 hG h_b) (gl_6_1 hG h_b) dX6_tryFrom_61 (fun U11 => ?_)
      refine g_aload_n hC dX6_tryFrom_62 (j := 1) rfl rfl ?_
      refine g_aload hC dX6_tryFrom_63 (j := 6) rfl ?_
      refine g_iload hC dX6_tryFrom_65 (j := 7) rfl ?_
      refine g_callV_iV hC hR ⟨Nat.zero_le _, Nat.zero_le _⟩ mwX1_goBy miX1_goBy (ci := 1) rfl h_a1 (Nat.le_of_ble_eq_true rfl) mlX6_87 (fun _ hq => kX1_goBy hG h_a1 hy6 hq) (by have := hN; omega) rfl (st := []) rfl (Nat.le_of_ble_eq_true rfl) dX6_tryFrom_67 (fun q12 => ?_)
      refine g_istore hC (n0 := 9) (lv' := [(8, .int q12.1), (0, .ref b), (1, .ref a1), (2, .int a2), (3, .int a3), (4, .int a4), (5, .ref y2), (6, .ref y5), (7, .int x9)]) dX6_tryFrom_70 (Nat.le_of_ble_eq_true rfl) hL rfl ?_
      refine g_aload_n hC dX6_tryFrom_72 (j := 1) rfl rfl ?_
      refine g_aload_n hC dX6_tryFrom_73 (j := 2) rfl rfl ?_
      refine g_iload_n hC dX6_tryFrom_74 (j := 3) rfl rfl ?_
      refine g_iconst hC dX6_tryFrom_75 ic_1 ?_
      refine g_iadd hC dX6_tryFrom_76 ?_
      refine g_iload_n hC dX6_tryFrom_77 (j := 4) rfl rfl ?_
      refine g_iload hC dX6_tryFrom_78 (j := 0) rfl ?_
      refine g_iadd hC dX6_tryFrom_80 ?_
      refine g_iload hC dX6_tryFrom_81 (j := 8) rfl ?_
      refine g_letJ (J := fun j13 => Go C 95 [(0, .ref b), (1, .ref a1), (2, .int a2), (3, .int a3), (4, .int a4), (5, .ref y2), (6, .ref y5), (7, .int x9)] [.int j13, .int (a3 + q12.1), .int (a2 + 1), .ref a1, .ref b] q12.2 R G 0 0) (fun j13 hJ => ?_) (fun j13 => ?_)
      · refine g_if_ne hC dX6_tryFrom_83 ?_ ?_
        · refine g_iload hC dX6_tryFrom_86 (j := 5) rfl ?_
          refine g_goto hC dX6_tryFrom_88 ?_
          refine g_sub [1, 2, 3, 4, 5, 6, 7, 8] rfl ?_
          exact fun e => by cases e; exact hJ
        · refine g_iload hC dX6_tryFrom_91 (j := 5) rfl ?_
          refine g_iconst hC dX6_tryFrom_93 ic_1 ?_
          refine g_iadd hC dX6_tryFrom_94 ?_
          refine g_sub [1, 2, 3, 4, 5, 6, 7, 8] rfl ?_
          exact fun e => by cases e; exact hJ
      · refine g_callV_vV hC hR ⟨Nat.zero_le _, Nat.zero_le _⟩ mwX6_tryFrom miX6_tryFrom (ci := 6) rfl h_b (Nat.le_of_ble_eq_true rfl) mlX6_76 (fun _ hq => hrec hG h_b h_a1 hq) (by have := hN; omega) rfl (st := []) rfl (Nat.le_of_ble_eq_true rfl) dX6_tryFrom_95 (fun q14 => ?_)
        refine g_iincL hC (n0 := 9) (j := 7) (lv' := fun x15 => [(7, .int x15), (0, .ref b), (1, .ref a1), (2, .int a2), (3, .int a3), (4, .int a4), (5, .ref y2), (6, .ref y5)]) dX6_tryFrom_98 rfl ic_1 (Nat.le_of_ble_eq_true rfl) hL (fun _ => rfl) (fun x15 => ?_)
        refine g_goto hC dX6_tryFrom_101 ?_
        refine g_sub [1, 2, 3, 4, 5, 6, 7, 0] rfl ?_
        exact ih q14 x15
set_option maxHeartbeats 4000000 in
set_option maxRecDepth 100000 in
theorem kfX6_tryFrom {l : Launch} {D : Dx} {G : G2} {V : V2} {R : R2} {rec : Nat → G2 → V2 → R2 → Nat → Nat → Int32 → Int32 → Int32 → Option (V2)} {N : Nat} {n : Nat} {b : Nat} {a1 : Nat} {a2 : Int32} {a3 : Int32} {a4 : Int32} (hrec : ∀ {l : Launch} {D : Dx} {G : G2} {V : V2} {R : R2} {n : Nat} {b : Nat} {a1 : Nat} {a2 : Int32} {a3 : Int32} {a4 : Int32} (hG : GX G) (h_b : own G b 16) (h_a1 : own G a1 11) {o : V2}, rec n G V R b a1 a2 a3 a4 = some o → Con l yX6_tryFrom cX6_tryFrom 9 none (rmN N 0 0) D G V R [.ref b, .ref a1, .int a2, .int a3, .int a4] (none, o, R, G, 0, 0)) (hN : 5 ≤ N) (hG : GX G) (h_b : own G b 16) (h_a1 : own G a1 11) {o : V2} (hf : fX6_tryFrom rec n G V R b a1 a2 a3 a4 = some o) : Con l yX6_tryFrom cX6_tryFrom 9 none (rmN (N + 1) 0 0) D G V R [.ref b, .ref a1, .int a2, .int a3, .int a4] (none, o, R, G, 0, 0) := by
  refine Con.mk RX6 (by decide) rfl (Nat.le_of_ble_eq_true rfl) (fun C _ hR hT _ _ hL hC hnm => ?_)
  revert hf
  unfold fX6_tryFrom
  refine g_iload_n hC dX6_tryFrom_0 (j := 2) rfl rfl ?_
  refine g_aload_n hC dX6_tryFrom_1 (j := 0) rfl rfl ?_
  refine g_getI hC fi_6_4 h_b dX6_tryFrom_2 flX6_28 ?_
  refine g_icmp_lt hC dX6_tryFrom_5 ?_ ?_
  · refine g_aload_n hC dX6_tryFrom_16 (j := 0) rfl rfl ?_
    refine g_getR hC fr_6_0 h_b (b := b + 1) rfl dX6_tryFrom_17 flX6_11 ?_
    refine g_iload_n hC dX6_tryFrom_20 (j := 2) rfl rfl ?_
    refine g_aaldV hC (by decide) (gx_6_0 hG h_b) (gl_6_0 hG h_b) dX6_tryFrom_21 (fun q1 => ?_)
    cases q1 with
    | none => exact fun hf => nomatch hf
    | some y2 =>
      refine g_osome ?_
      refine g_guard (fun hy3 => ?_)
      refine g_astore hC (n0 := 9) (lv' := [(5, .ref y2), (0, .ref b), (1, .ref a1), (2, .int a2), (3, .int a3), (4, .int a4)]) dX6_tryFrom_22 (Nat.le_of_ble_eq_true rfl) hL rfl ?_
      refine g_aload_n hC dX6_tryFrom_24 (j := 1) rfl rfl ?_
      refine g_getR hC fr_6_0 h_b (b := b + 1) rfl dX6_tryFrom_25 flX6_11 ?_
      refine g_iload_n hC dX6_tryFrom_28 (j := 3) rfl rfl ?_
      refine g_iconst hC dX6_tryFrom_29 ic_1 ?_
      refine g_iadd hC dX6_tryFrom_30 ?_
      refine g_aaldV hC (by decide) (gx_6_0 hG h_b) (gl_6_0 hG h_b) dX6_tryFrom_31 (fun q4 => ?_)
      cases q4 with
      | none => exact fun hf => nomatch hf
      | some y5 =>
        refine g_osome ?_
        refine g_guard (fun hy6 => ?_)
        refine g_astore hC (n0 := 9) (lv' := [(6, .ref y5), (5, .ref y2), (0, .ref b), (1, .ref a1), (2, .int a2), (3, .int a3), (4, .int a4)]) dX6_tryFrom_32 (Nat.le_of_ble_eq_true rfl) hL rfl ?_
        refine g_iconst hC dX6_tryFrom_34 ic_0 ?_
        refine g_istore hC (n0 := 9) (lv' := [(7, .int 0), (6, .ref y5), (5, .ref y2), (0, .ref b), (1, .ref a1), (2, .int a2), (3, .int a3), (4, .int a4)]) dX6_tryFrom_35 (Nat.le_of_ble_eq_true rfl) hL rfl ?_
        refine g_sub [3, 4, 5, 6, 7, 2, 1, 0] rfl ?_
        refine g_bind (J := fun w16 => Go C 104 [] [] w16 R G 0 0) (fun w16 hJ => wX6_tryFrom_37 hC hL hrec hN hG h_b h_a1 hR hy3 hy6 hJ n V 0) (fun w16 => ?_)
        exact g_vret_vV hC hT dX6_tryFrom_104
  · refine g_aload_n hC dX6_tryFrom_8 (j := 0) rfl rfl ?_
    refine g_iload_n hC dX6_tryFrom_9 (j := 3) rfl rfl ?_
    refine g_iload hC dX6_tryFrom_10 (j := 4) rfl ?_
    refine g_callV_vV hC hR ⟨Nat.zero_le _, Nat.zero_le _⟩ mwX6_weigh miX6_weigh (ci := 6) rfl h_b (Nat.le_of_ble_eq_true rfl) mlX6_80 (fun _ hq => kX6_weigh hG h_b hq) (by have := hN; omega) rfl (st := []) rfl (Nat.le_of_ble_eq_true rfl) dX6_tryFrom_12 (fun q17 => ?_)
    exact g_vret_vV hC hT dX6_tryFrom_15
def pX6_tryFrom : Nat → Nat → G2 → V2 → R2 → Nat → Nat → Int32 → Int32 → Int32 → Option (V2)
  | 0 => fun _ _ _ _ _ _ _ _ _ => none
  | d + 1 => fX6_tryFrom (pX6_tryFrom d)
theorem kX6_tryFrom : ∀ (d : Nat) {l : Launch} {D : Dx} {G : G2} {V : V2} {R : R2} {n : Nat} {b : Nat} {a1 : Nat} {a2 : Int32} {a3 : Int32} {a4 : Int32} (hG : GX G) (h_b : own G b 16) (h_a1 : own G a1 11) {o : V2}, pX6_tryFrom d n G V R b a1 a2 a3 a4 = some o → Con l yX6_tryFrom cX6_tryFrom 9 none (rmN (5 + 1 * d) 0 0) D G V R [.ref b, .ref a1, .int a2, .int a3, .int a4] (none, o, R, G, 0, 0) := by
  intro d
  induction d with
  | zero => intro _ _ _ _ _ _ _ _ _ _ _ _ _ _ _ hf; exact absurd hf (by unfold pX6_tryFrom; exact fun z => nomatch z)
  | succ d ih =>
    intro l D G V R _ _ _ _ _ _ hG h_b h_a1 _ hf
    have := kfX6_tryFrom (l := l) (D := D) (V := V) (R := R) (N := 5 + 1 * d) ih (by omega) hG h_b h_a1 hf
    rw [show 5 + 1 * (d + 1) = 5 + 1 * d + 1 by omega]
    exact this
def pX6_tryAll (n : Nat) (G : G2) (V : V2) (R : R2) (b : Nat) (a1 : Nat) (a2 : Int32) (a3 : Int32) : Option (V2) :=
  (pX6_begin G V R b a1 a2).bind fun q1 =>
  letv (up2 q1 b 2 a3) fun U2 =>
  letv (up2 U2 b 5 (-1)) fun U3 =>
  letv (up2 U3 b 6 0) fun U4 =>
  letv (up2 U4 b 7 (-3)) fun U5 =>
  letv (up2 U5 b 8 0) fun U6 =>
  (pX6_tryFrom 6 n G U6 R b a1 0 0 0).bind fun q7 =>
  some q7
set_option maxHeartbeats 4000000 in
set_option maxRecDepth 100000 in
theorem kX6_tryAll {l : Launch} {D : Dx} {G : G2} {V : V2} {R : R2} {n : Nat} {b : Nat} {a1 : Nat} {a2 : Int32} {a3 : Int32} (hG : GX G) (h_b : own G b 16) (h_a1 : own G a1 11) {o : V2} (hf : pX6_tryAll n G V R b a1 a2 a3 = some o) : Con l yX6_tryAll cX6_tryAll 4 none (rmN 12 0 0) D G V R [.ref b, .ref a1, .int a2, .int a3] (none, o, R, G, 0, 0) := by
  refine Con.mk RX6 (by decide) rfl (Nat.le_of_ble_eq_true rfl) (fun C _ hR hT _ _ hL hC hnm => ?_)
  revert hf
  unfold pX6_tryAll
  refine g_aload_n hC dX6_tryAll_0 (j := 0) rfl rfl ?_
  refine g_aload_n hC dX6_tryAll_1 (j := 1) rfl rfl ?_
  refine g_iload_n hC dX6_tryAll_2 (j := 2) rfl rfl ?_
  refine g_callV_vV hC hR ⟨Nat.zero_le _, Nat.zero_le _⟩ mwX6_begin miX6_begin (ci := 6) rfl h_b (Nat.le_of_ble_eq_true rfl) mlX6_72 (fun _ hq => kX6_begin hG h_b h_a1 hq) (Nat.le_of_ble_eq_true rfl) rfl (st := []) rfl (Nat.le_of_ble_eq_true rfl) dX6_tryAll_3 (fun q1 => ?_)
  refine g_aload_n hC dX6_tryAll_6 (j := 0) rfl rfl ?_
  refine g_iload_n hC dX6_tryAll_7 (j := 3) rfl rfl ?_
  refine g_putIL hC fp_6_2 h_b dX6_tryAll_8 flX6_21 (fun U2 => ?_)
  refine g_aload_n hC dX6_tryAll_11 (j := 0) rfl rfl ?_
  refine g_iconst hC dX6_tryAll_12 ic_m1 ?_
  refine g_putIL hC fp_6_5 h_b dX6_tryAll_13 flX6_31 (fun U3 => ?_)
  refine g_aload_n hC dX6_tryAll_16 (j := 0) rfl rfl ?_
  refine g_iconst hC dX6_tryAll_17 ic_0 ?_
  refine g_putIL hC fp_6_6 h_b dX6_tryAll_18 flX6_34 (fun U4 => ?_)
  refine g_aload_n hC dX6_tryAll_21 (j := 0) rfl rfl ?_
  refine g_bipush hC dX6_tryAll_22 bc_m3 ?_
  refine g_putIL hC fp_6_7 h_b dX6_tryAll_24 flX6_37 (fun U5 => ?_)
  refine g_aload_n hC dX6_tryAll_27 (j := 0) rfl rfl ?_
  refine g_iconst hC dX6_tryAll_28 ic_0 ?_
  refine g_putIL hC fp_6_8 h_b dX6_tryAll_29 flX6_40 (fun U6 => ?_)
  refine g_aload_n hC dX6_tryAll_32 (j := 0) rfl rfl ?_
  refine g_aload_n hC dX6_tryAll_33 (j := 1) rfl rfl ?_
  refine g_iconst hC dX6_tryAll_34 ic_0 ?_
  refine g_iconst hC dX6_tryAll_35 ic_0 ?_
  refine g_iconst hC dX6_tryAll_36 ic_0 ?_
  refine g_callV_vV hC hR ⟨Nat.zero_le _, Nat.zero_le _⟩ mwX6_tryFrom miX6_tryFrom (ci := 6) rfl h_b (Nat.le_of_ble_eq_true rfl) mlX6_76 (fun _ hq => kX6_tryFrom 6 hG h_b h_a1 hq) (Nat.le_of_ble_eq_true rfl) rfl (st := []) rfl (Nat.le_of_ble_eq_true rfl) dX6_tryAll_37 (fun q7 => ?_)
  exact g_vret_vV hC hT dX6_tryAll_40
def pX8_best (n : Nat) (G : G2) (V : V2) (R : R2) (b : Nat) (a1 : Int32) : Option (Int32 × V2) :=
  (pX8_within a1 0 4).bind fun q1 =>
  if q1 = 0 then (some ((-1), V))
  else ((pX6_tryAll n G V R (b + 36) (b + 1) a1 0).bind fun q2 =>
  some (q2 (b + 36) 5, q2))
set_option maxHeartbeats 4000000 in
set_option maxRecDepth 100000 in
theorem kX8_best {l : Launch} {D : Dx} {G : G2} {V : V2} {R : R2} {n : Nat} {b : Nat} {a1 : Int32} (hG : GX G) (h_b : own G b 18) {o : Int32 × V2} (hf : pX8_best n G V R b a1 = some o) : Con l yX8_best cX8_best 2 (some .int) (rmN 13 0 0) D G V R [.ref b, .int a1] (some (.int o.1), o.2, R, G, 0, 0) := by
  refine Con.mk RX8 (by decide) rfl (Nat.le_of_ble_eq_true rfl) (fun C _ hR hT _ _ hL hC hnm => ?_)
  revert hf
  unfold pX8_best
  refine g_iload_n hC dX8_best_0 (j := 1) rfl rfl ?_
  refine g_iconst hC dX8_best_1 ic_0 ?_
  refine g_iconst hC dX8_best_2 ic_4 ?_
  refine g_callS_i hC hR ⟨Nat.zero_le _, Nat.zero_le _⟩ mwX8_within ms_X8_within mlX8_77 (fun _ hq => kX8_within  hq) (Nat.le_of_ble_eq_true rfl) rfl (st := []) rfl (Nat.le_of_ble_eq_true rfl) dX8_best_3 (fun q1 => ?_)
  refine g_if_ne hC dX8_best_6 ?_ ?_
  · refine g_iconst hC dX8_best_9 ic_m1 ?_
    exact g_iret_iV hC hT dX8_best_10
  · refine g_aload_n hC dX8_best_11 (j := 0) rfl rfl ?_
    refine g_getR hC fr_8_4 h_b (b := b + 36) rfl dX8_best_12 flX8_33 ?_
    refine g_aload_n hC dX8_best_15 (j := 0) rfl rfl ?_
    refine g_getR hC fr_8_0 h_b (b := b + 1) rfl dX8_best_16 flX8_10 ?_
    refine g_iload_n hC dX8_best_19 (j := 1) rfl rfl ?_
    refine g_iconst hC dX8_best_20 ic_0 ?_
    refine g_callV_vV hC hR ⟨Nat.zero_le _, Nat.zero_le _⟩ mwX6_tryAll miX6_tryAll (ci := 6) rfl (gx_8_4 hG h_b) (Nat.le_of_ble_eq_true rfl) mlX8_224 (fun _ hq => kX6_tryAll hG (gx_8_4 hG h_b) (gx_8_0 hG h_b) hq) (Nat.le_of_ble_eq_true rfl) rfl (st := []) rfl (Nat.le_of_ble_eq_true rfl) dX8_best_21 (fun q2 => ?_)
    refine g_aload_n hC dX8_best_24 (j := 0) rfl rfl ?_
    refine g_getR hC fr_8_4 h_b (b := b + 36) rfl dX8_best_25 flX8_33 ?_
    refine g_getI hC fi_6_5 (gx_8_4 hG h_b) dX8_best_28 flX8_228 ?_
    exact g_iret_iV hC hT dX8_best_31
def pX8_ith (n : Nat) (G : G2) (V : V2) (R : R2) (b : Nat) (a1 : Int32) (a2 : Int32) : Option (Int32 × V2) :=
  (pX8_within a1 0 4).bind fun q1 =>
  if q1 = 0 then (some ((-1), V))
  else ((pX8_within a2 0 3).bind fun q2 =>
  if q2 = 0 then (some ((-1), V))
  else ((pX6_tryAll n G V R (b + 36) (b + 1) a1 0).bind fun q3 =>
  if (q3 (b + 36) 4) ≤ a2 then (some ((-3), q3))
  else ((ldI 4 (q3 (b + 39)) a2).bind fun t4 =>
  some (t4, q3))))
set_option maxHeartbeats 4000000 in
set_option maxRecDepth 100000 in
theorem kX8_ith {l : Launch} {D : Dx} {G : G2} {V : V2} {R : R2} {n : Nat} {b : Nat} {a1 : Int32} {a2 : Int32} (hG : GX G) (h_b : own G b 18) {o : Int32 × V2} (hf : pX8_ith n G V R b a1 a2 = some o) : Con l yX8_ith cX8_ith 3 (some .int) (rmN 13 0 0) D G V R [.ref b, .int a1, .int a2] (some (.int o.1), o.2, R, G, 0, 0) := by
  refine Con.mk RX8 (by decide) rfl (Nat.le_of_ble_eq_true rfl) (fun C _ hR hT _ _ hL hC hnm => ?_)
  revert hf
  unfold pX8_ith
  refine g_iload_n hC dX8_ith_0 (j := 1) rfl rfl ?_
  refine g_iconst hC dX8_ith_1 ic_0 ?_
  refine g_iconst hC dX8_ith_2 ic_4 ?_
  refine g_callS_i hC hR ⟨Nat.zero_le _, Nat.zero_le _⟩ mwX8_within ms_X8_within mlX8_77 (fun _ hq => kX8_within  hq) (Nat.le_of_ble_eq_true rfl) rfl (st := []) rfl (Nat.le_of_ble_eq_true rfl) dX8_ith_3 (fun q1 => ?_)
  refine g_if_eq hC dX8_ith_6 ?_ ?_
  · refine g_iconst hC dX8_ith_18 ic_m1 ?_
    exact g_iret_iV hC hT dX8_ith_19
  · refine g_iload_n hC dX8_ith_9 (j := 2) rfl rfl ?_
    refine g_iconst hC dX8_ith_10 ic_0 ?_
    refine g_iconst hC dX8_ith_11 ic_3 ?_
    refine g_callS_i hC hR ⟨Nat.zero_le _, Nat.zero_le _⟩ mwX8_within ms_X8_within mlX8_77 (fun _ hq => kX8_within  hq) (Nat.le_of_ble_eq_true rfl) rfl (st := []) rfl (Nat.le_of_ble_eq_true rfl) dX8_ith_12 (fun q2 => ?_)
    refine g_if_ne hC dX8_ith_15 ?_ ?_
    · refine g_iconst hC dX8_ith_18 ic_m1 ?_
      exact g_iret_iV hC hT dX8_ith_19
    · refine g_aload_n hC dX8_ith_20 (j := 0) rfl rfl ?_
      refine g_getR hC fr_8_4 h_b (b := b + 36) rfl dX8_ith_21 flX8_33 ?_
      refine g_aload_n hC dX8_ith_24 (j := 0) rfl rfl ?_
      refine g_getR hC fr_8_0 h_b (b := b + 1) rfl dX8_ith_25 flX8_10 ?_
      refine g_iload_n hC dX8_ith_28 (j := 1) rfl rfl ?_
      refine g_iconst hC dX8_ith_29 ic_0 ?_
      refine g_callV_vV hC hR ⟨Nat.zero_le _, Nat.zero_le _⟩ mwX6_tryAll miX6_tryAll (ci := 6) rfl (gx_8_4 hG h_b) (Nat.le_of_ble_eq_true rfl) mlX8_224 (fun _ hq => kX6_tryAll hG (gx_8_4 hG h_b) (gx_8_0 hG h_b) hq) (Nat.le_of_ble_eq_true rfl) rfl (st := []) rfl (Nat.le_of_ble_eq_true rfl) dX8_ith_30 (fun q3 => ?_)
      refine g_iload_n hC dX8_ith_33 (j := 2) rfl rfl ?_
      refine g_aload_n hC dX8_ith_34 (j := 0) rfl rfl ?_
      refine g_getR hC fr_8_4 h_b (b := b + 36) rfl dX8_ith_35 flX8_33 ?_
      refine g_getI hC fi_6_4 (gx_8_4 hG h_b) dX8_ith_38 flX8_231 ?_
      refine g_icmp_ge hC dX8_ith_41 ?_ ?_
      · refine g_bipush hC dX8_ith_56 bc_m3 ?_
        exact g_iret_iV hC hT dX8_ith_58
      · refine g_aload_n hC dX8_ith_44 (j := 0) rfl rfl ?_
        refine g_getR hC fr_8_4 h_b (b := b + 36) rfl dX8_ith_45 flX8_33 ?_
        refine g_getR hC fr_6_3 (gx_8_4 hG h_b) (b := b + 39) rfl dX8_ith_48 flX8_234 ?_
        refine g_iload_n hC dX8_ith_51 (j := 2) rfl rfl ?_
        refine g_ialdV hC (gx_6_3 hG (gx_8_4 hG h_b)) (gl_6_3 hG (gx_8_4 hG h_b)) dX8_ith_52 (fun t4 => ?_)
        refine g_goto hC dX8_ith_53 ?_
        exact g_iret_iV hC hT dX8_ith_58
def pX8_ways (n : Nat) (G : G2) (V : V2) (R : R2) (b : Nat) (a1 : Int32) : Option (Int32 × V2) :=
  (pX8_within a1 0 4).bind fun q1 =>
  if q1 = 0 then (some ((-1), V))
  else ((pX6_tryAll n G V R (b + 36) (b + 1) a1 0).bind fun q2 =>
  some (q2 (b + 36) 6, q2))
set_option maxHeartbeats 4000000 in
set_option maxRecDepth 100000 in
theorem kX8_ways {l : Launch} {D : Dx} {G : G2} {V : V2} {R : R2} {n : Nat} {b : Nat} {a1 : Int32} (hG : GX G) (h_b : own G b 18) {o : Int32 × V2} (hf : pX8_ways n G V R b a1 = some o) : Con l yX8_ways cX8_ways 2 (some .int) (rmN 13 0 0) D G V R [.ref b, .int a1] (some (.int o.1), o.2, R, G, 0, 0) := by
  refine Con.mk RX8 (by decide) rfl (Nat.le_of_ble_eq_true rfl) (fun C _ hR hT _ _ hL hC hnm => ?_)
  revert hf
  unfold pX8_ways
  refine g_iload_n hC dX8_ways_0 (j := 1) rfl rfl ?_
  refine g_iconst hC dX8_ways_1 ic_0 ?_
  refine g_iconst hC dX8_ways_2 ic_4 ?_
  refine g_callS_i hC hR ⟨Nat.zero_le _, Nat.zero_le _⟩ mwX8_within ms_X8_within mlX8_77 (fun _ hq => kX8_within  hq) (Nat.le_of_ble_eq_true rfl) rfl (st := []) rfl (Nat.le_of_ble_eq_true rfl) dX8_ways_3 (fun q1 => ?_)
  refine g_if_ne hC dX8_ways_6 ?_ ?_
  · refine g_iconst hC dX8_ways_9 ic_m1 ?_
    exact g_iret_iV hC hT dX8_ways_10
  · refine g_aload_n hC dX8_ways_11 (j := 0) rfl rfl ?_
    refine g_getR hC fr_8_4 h_b (b := b + 36) rfl dX8_ways_12 flX8_33 ?_
    refine g_aload_n hC dX8_ways_15 (j := 0) rfl rfl ?_
    refine g_getR hC fr_8_0 h_b (b := b + 1) rfl dX8_ways_16 flX8_10 ?_
    refine g_iload_n hC dX8_ways_19 (j := 1) rfl rfl ?_
    refine g_iconst hC dX8_ways_20 ic_0 ?_
    refine g_callV_vV hC hR ⟨Nat.zero_le _, Nat.zero_le _⟩ mwX6_tryAll miX6_tryAll (ci := 6) rfl (gx_8_4 hG h_b) (Nat.le_of_ble_eq_true rfl) mlX8_224 (fun _ hq => kX6_tryAll hG (gx_8_4 hG h_b) (gx_8_0 hG h_b) hq) (Nat.le_of_ble_eq_true rfl) rfl (st := []) rfl (Nat.le_of_ble_eq_true rfl) dX8_ways_21 (fun q2 => ?_)
    refine g_aload_n hC dX8_ways_24 (j := 0) rfl rfl ?_
    refine g_getR hC fr_8_4 h_b (b := b + 36) rfl dX8_ways_25 flX8_33 ?_
    refine g_getI hC fi_6_6 (gx_8_4 hG h_b) dX8_ways_28 flX8_237 ?_
    exact g_iret_iV hC hT dX8_ways_31
