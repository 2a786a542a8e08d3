def pX8_item (G : G2) (V : V2) (R : R2) (b : Nat) (a1 : Int32) (a2 : Int32) (a3 : Int32) : Option (Int32) :=
  (pX8_within a1 0 3).bind fun q1 =>
  if q1 = 0 then (some (-1))
  else ((pX8_within a2 0 4).bind fun q2 =>
  if q2 = 0 then (some (-1))
  else ((ldR 4 (R (b + 70)) a1).bind fun q3 =>
  ocase q3 (some (-11)) fun y4 => if ownB G y4 17 then (if (V y4 0) = a2 then ((pX7_has G V y4 a3).bind fun q6 =>
  if q6 = 0 then (some (-12))
  else ((ldI (G.2.2.1 (y4 + 1)) (V (y4 + 1)) a3).bind fun t7 =>
  some t7))
  else (some (-13))) else none))
set_option maxHeartbeats 4000000 in
set_option maxRecDepth 100000 in
theorem kX8_item {l : Launch} {D : Dx} {G : G2} {V : V2} {R : R2} {b : Nat} {a1 : Int32} {a2 : Int32} {a3 : Int32} (hG : GX G) (h_b : own G b 18) {o : Int32} (hf : pX8_item G V R b a1 a2 a3 = some o) : Con l yX8_item cX8_item 5 (some .int) (rmN 2 0 0) D G V R [.ref b, .int a1, .int a2, .int a3] (some (.int o), V, R, G, 0, 0) := by
  refine Con.mk RX8 (by decide) rfl (Nat.le_of_ble_eq_true rfl) (fun C _ hR hT _ _ hL hC hnm => ?_)
  revert hf
  unfold pX8_item
  refine g_iload_n hC dX8_item_0 (j := 1) rfl rfl ?_
  refine g_iconst hC dX8_item_1 ic_0 ?_
  refine g_iconst hC dX8_item_2 ic_3 ?_
  refine g_callS_i hC hR ⟨Nat.zero_le _, Nat.zero_le _⟩ mwX8_within ms_X8_within mlX8_77 (fun _ hq => kX8_within  hq) (Nat.le_of_ble_eq_true rfl) rfl (st := []) rfl (Nat.le_of_ble_eq_true rfl) dX8_item_3 (fun q1 => ?_)
  refine g_if_eq hC dX8_item_6 ?_ ?_
  · refine g_iconst hC dX8_item_18 ic_m1 ?_
    exact g_iret_i hC hT dX8_item_19
  · refine g_iload_n hC dX8_item_9 (j := 2) rfl rfl ?_
    refine g_iconst hC dX8_item_10 ic_0 ?_
    refine g_iconst hC dX8_item_11 ic_4 ?_
    refine g_callS_i hC hR ⟨Nat.zero_le _, Nat.zero_le _⟩ mwX8_within ms_X8_within mlX8_77 (fun _ hq => kX8_within  hq) (Nat.le_of_ble_eq_true rfl) rfl (st := []) rfl (Nat.le_of_ble_eq_true rfl) dX8_item_12 (fun q2 => ?_)
    refine g_if_ne hC dX8_item_15 ?_ ?_
    · refine g_iconst hC dX8_item_18 ic_m1 ?_
      exact g_iret_i hC hT dX8_item_19
    · refine g_aload_n hC dX8_item_20 (j := 0) rfl rfl ?_
      refine g_getR hC fr_8_8 h_b (b := b + 70) rfl dX8_item_21 flX8_54 ?_
      refine g_iload_n hC dX8_item_24 (j := 1) rfl rfl ?_
      refine g_aaldV hC (by decide) (gx_8_8 hG h_b) (gl_8_8 hG h_b) dX8_item_25 (fun q3 => ?_)
      refine g_astoreq hC (n0 := 5) (lv' := [(4, va_rf q3), (0, .ref b), (1, .int a1), (2, .int a2), (3, .int a3)]) dX8_item_26 (Nat.le_of_ble_eq_true rfl) hL rfl ?_
      refine g_aloadq hC dX8_item_28 (j := 0) rfl ?_
      cases q3 with
      | none =>
        refine g_onone ?_
        refine g_ifnonnull_no hC dX8_item_30 ?_
        refine g_bipush hC dX8_item_33 bc_m11 ?_
        exact g_iret_i hC hT dX8_item_35
      | some y4 =>
        refine g_osome ?_
        refine g_guard (fun hy5 => ?_)
        refine g_ifnonnull_yes hC dX8_item_30 ?_
        refine g_aload hC dX8_item_36 (j := 0) rfl ?_
        refine g_getI hC fi_7_0 hy5 dX8_item_38 flX8_320 ?_
        refine g_iload_n hC dX8_item_41 (j := 3) rfl rfl ?_
        refine g_icmp_eq hC dX8_item_42 ?_ ?_
        · refine g_aload hC dX8_item_48 (j := 0) rfl ?_
          refine g_iload_n hC dX8_item_50 (j := 4) rfl rfl ?_
          refine g_callV_i hC hR ⟨Nat.zero_le _, Nat.zero_le _⟩ mwX7_has miX7_has (ci := 7) rfl hy5 (Nat.le_of_ble_eq_true rfl) mlX8_314 (fun _ hq => kX7_has hG hy5 hq) (Nat.le_of_ble_eq_true rfl) rfl (st := []) rfl (Nat.le_of_ble_eq_true rfl) dX8_item_51 (fun q6 => ?_)
          refine g_if_eq hC dX8_item_54 ?_ ?_
          · refine g_bipush hC dX8_item_67 bc_m12 ?_
            exact g_iret_i hC hT dX8_item_69
          · refine g_aload hC dX8_item_57 (j := 0) rfl ?_
            refine g_getR hC fr_7_1 hy5 (b := y4 + 1) rfl dX8_item_59 flX8_323 ?_
            refine g_iload_n hC dX8_item_62 (j := 4) rfl rfl ?_
            refine g_ialdV hC (gx_7_1 hG hy5) rfl dX8_item_63 (fun t7 => ?_)
            refine g_goto hC dX8_item_64 ?_
            exact g_iret_i hC hT dX8_item_69
        · refine g_bipush hC dX8_item_45 bc_m13 ?_
          exact g_iret_i hC hT dX8_item_47
def pX8_refusedAsActs (G : G2) (V : V2) (R : R2) (b : Nat) (a1 : Int32) (a2 : Int32) : Option (Int32) :=
  (pX8_within a1 0 3).bind fun q1 =>
  if q1 = 0 then (some (-1))
  else ((pX8_within a2 0 20).bind fun q2 =>
  if q2 = 0 then (some (-1))
  else ((ldR 4 (R (b + 70)) a1).bind fun q3 =>
  ocase q3 (some (-11)) fun y4 => if ownB G y4 17 then (if (V y4 0) = 0 then (some 0)
  else (some (-13))) else none))
set_option maxHeartbeats 4000000 in
set_option maxRecDepth 100000 in
theorem kX8_refusedAsActs {l : Launch} {D : Dx} {G : G2} {V : V2} {R : R2} {b : Nat} {a1 : Int32} {a2 : Int32} (hG : GX G) (h_b : own G b 18) {o : Int32} (hf : pX8_refusedAsActs G V R b a1 a2 = some o) : Con l yX8_refusedAsActs cX8_refusedAsActs 4 (some .int) (rmN 1 0 0) D G V R [.ref b, .int a1, .int a2] (some (.int o), V, R, G, 0, 0) := by
  refine Con.mk RX8 (by decide) rfl (Nat.le_of_ble_eq_true rfl) (fun C _ hR hT _ _ hL hC hnm => ?_)
  revert hf
  unfold pX8_refusedAsActs
  refine g_iload_n hC dX8_refusedAsActs_0 (j := 1) rfl rfl ?_
  refine g_iconst hC dX8_refusedAsActs_1 ic_0 ?_
  refine g_iconst hC dX8_refusedAsActs_2 ic_3 ?_
  refine g_callS_i hC hR ⟨Nat.zero_le _, Nat.zero_le _⟩ mwX8_within ms_X8_within mlX8_77 (fun _ hq => kX8_within  hq) (Nat.le_of_ble_eq_true rfl) rfl (st := []) rfl (Nat.le_of_ble_eq_true rfl) dX8_refusedAsActs_3 (fun q1 => ?_)
  refine g_if_eq hC dX8_refusedAsActs_6 ?_ ?_
  · refine g_iconst hC dX8_refusedAsActs_19 ic_m1 ?_
    exact g_iret_i hC hT dX8_refusedAsActs_20
  · refine g_iload_n hC dX8_refusedAsActs_9 (j := 2) rfl rfl ?_
    refine g_iconst hC dX8_refusedAsActs_10 ic_0 ?_
    refine g_bipush hC dX8_refusedAsActs_11 bc_20 ?_
    refine g_callS_i hC hR ⟨Nat.zero_le _, Nat.zero_le _⟩ mwX8_within ms_X8_within mlX8_77 (fun _ hq => kX8_within  hq) (Nat.le_of_ble_eq_true rfl) rfl (st := []) rfl (Nat.le_of_ble_eq_true rfl) dX8_refusedAsActs_13 (fun q2 => ?_)
    refine g_if_ne hC dX8_refusedAsActs_16 ?_ ?_
    · refine g_iconst hC dX8_refusedAsActs_19 ic_m1 ?_
      exact g_iret_i hC hT dX8_refusedAsActs_20
    · refine g_aload_n hC dX8_refusedAsActs_21 (j := 0) rfl rfl ?_
      refine g_getR hC fr_8_8 h_b (b := b + 70) rfl dX8_refusedAsActs_22 flX8_54 ?_
      refine g_iload_n hC dX8_refusedAsActs_25 (j := 1) rfl rfl ?_
      refine g_aaldV hC (by decide) (gx_8_8 hG h_b) (gl_8_8 hG h_b) dX8_refusedAsActs_26 (fun q3 => ?_)
      refine g_astore_nq hC (n0 := 4) (lv' := [(3, va_rf q3), (0, .ref b), (1, .int a1), (2, .int a2)]) dX8_refusedAsActs_27 rfl (Nat.le_of_ble_eq_true rfl) hL rfl ?_
      refine g_aload_nq hC dX8_refusedAsActs_28 (j := 0) rfl rfl ?_
      cases q3 with
      | none =>
        refine g_onone ?_
        refine g_ifnonnull_no hC dX8_refusedAsActs_29 ?_
        refine g_bipush hC dX8_refusedAsActs_32 bc_m11 ?_
        exact g_iret_i hC hT dX8_refusedAsActs_34
      | some y4 =>
        refine g_osome ?_
        refine g_guard (fun hy5 => ?_)
        refine g_ifnonnull_yes hC dX8_refusedAsActs_29 ?_
        refine g_aload_n hC dX8_refusedAsActs_35 (j := 0) rfl rfl ?_
        refine g_getI hC fi_7_0 hy5 dX8_refusedAsActs_36 flX8_320 ?_
        refine g_if_ne hC dX8_refusedAsActs_39 ?_ ?_
        · refine g_iconst hC dX8_refusedAsActs_42 ic_0 ?_
          refine g_goto hC dX8_refusedAsActs_43 ?_
          exact g_iret_i hC hT dX8_refusedAsActs_48
        · refine g_bipush hC dX8_refusedAsActs_46 bc_m13 ?_
          exact g_iret_i hC hT dX8_refusedAsActs_48
def lX8_goAll_30 (n : Nat) (G : G2) (R : R2) (b : Nat) (a2 : Int32) (a3 : Int32) (q2 : Option Nat) : Nat → V2 → Int32 → Int32 → (V2 → Int32 → Option (Int32 × V2)) → Option (Int32 × V2)
  | 0, _, _, _, _ => none
  | f3 + 1, U4, x5, x6, K =>
    if a3 ≤ x6 then (K U4 x5)
    else (ocase q2 (some ((-12), U4)) fun y7 => if ownB G y7 17 then ((pX7_has G U4 y7 (a2 + x6)).bind fun q9 =>
    if q9 = 0 then (some ((-12), U4))
    else ((ldI (G.2.2.1 (y7 + 1)) (U4 (y7 + 1)) (a2 + x6)).bind fun t10 =>
    (pX8_within t10 0 (U4 (b + 2) 1)).bind fun q11 =>
    if q11 = 0 then (letv (x6 + 1) fun x12 =>
    lX8_goAll_30 n G R b a2 a3 q2 f3 U4 x5 x12 K)
    else ((pX1_isOver U4 (b + 1) (b + 2)).bind fun q13 =>
    if q13 = 0 then ((pX8_goByNow n G U4 R b t10).bind fun q14 =>
    letv (x5 + q14.1) fun x15 =>
    letv (x6 + 1) fun x16 =>
    lX8_goAll_30 n G R b a2 a3 q2 f3 q14.2 x15 x16 K)
    else (letv (x6 + 1) fun x17 =>
    lX8_goAll_30 n G R b a2 a3 q2 f3 U4 x5 x17 K)))) else none)
def pX8_goAll (n : Nat) (G : G2) (V : V2) (R : R2) (b : Nat) (a1 : Int32) (a2 : Int32) (a3 : Int32) : Option (Int32 × V2) :=
  (pX8_refusedAsActs G V R b a1 a3).bind fun q1 =>
  if q1 = 0 then ((ldR 4 (R (b + 70)) a1).bind fun q2 =>
  lX8_goAll_30 n G R b a2 a3 q2 n V 0 0 (fun w18 w19 =>
  some (w19, w18)))
  else (some (q1, V))
set_option maxHeartbeats 4000000 in
set_option maxRecDepth 100000 in
theorem wX8_goAll_30 {C : Cx} (hC : CxOK C cX8_goAll RX8 (some .int)) (hL : C.2.2.2.2 = 9) {n : Nat} {G : G2} {R : R2} {b : Nat} {a2 : Int32} {a3 : Int32} {q2 : Option Nat} (hG : GX G) (h_b : own G b 18) (hR : C.1.2.2.2.1 = rmN 6 0 0) {o : Int32 × V2} (hT : C.2.1 = (some (.int o.1), o.2, R, G, 0, 0)) {K : V2 → Int32 → Option (Int32 × V2)} (hX : ∀ (y1 : V2) (y2 : Int32), K y1 y2 = some o → Go C 121 [(6, .int y2)] [] y1 R G 0 0) : ∀ (f : Nat) (U4 : V2) (x5 : Int32) (x6 : Int32), lX8_goAll_30 n G R b a2 a3 q2 f U4 x5 x6 K = some o → Go C 30 [(0, .ref b), (2, .int a2), (3, .int a3), (5, va_rf q2), (6, .int x5), (7, .int x6)] [] U4 R G 0 0 := by
  intro f
  induction f with
  | zero => intro _ _ _ hf; exact absurd hf (by unfold lX8_goAll_30; exact fun z => nomatch z)
  | succ f3 ih =>
    intro U4 x5 x6
    unfold lX8_goAll_30
    refine g_iload hC dX8_goAll_30 (j := 5) rfl ?_
    refine g_iload_n hC dX8_goAll_32 (j := 2) rfl rfl ?_
    refine g_icmp_ge hC dX8_goAll_33 ?_ ?_
    · refine g_sub [4] rfl ?_
      exact hX U4 x5
    · refine g_aloadq hC dX8_goAll_36 (j := 3) rfl ?_
      cases q2 with
      | none =>
        refine g_onone ?_
        refine g_ifnull_yes hC dX8_goAll_38 ?_
        refine g_bipush hC dX8_goAll_53 bc_m12 ?_
        exact g_iret_iV hC hT dX8_goAll_55
      | some y7 =>
        refine g_osome ?_
        refine g_guard (fun hy8 => ?_)
        refine g_ifnull_no hC dX8_goAll_38 ?_
        refine g_aload hC dX8_goAll_41 (j := 3) rfl ?_
        refine g_iload_n hC dX8_goAll_43 (j := 1) rfl rfl ?_
        refine g_iload hC dX8_goAll_44 (j := 5) rfl ?_
        refine g_iadd hC dX8_goAll_46 ?_
        refine g_callV_i hC hR ⟨Nat.zero_le _, Nat.zero_le _⟩ mwX7_has miX7_has (ci := 7) rfl hy8 (Nat.le_of_ble_eq_true rfl) mlX8_314 (fun _ hq => kX7_has hG hy8 hq) (Nat.le_of_ble_eq_true rfl) rfl (st := []) rfl (Nat.le_of_ble_eq_true rfl) dX8_goAll_47 (fun q9 => ?_)
        refine g_if_ne hC dX8_goAll_50 ?_ ?_
        · refine g_bipush hC dX8_goAll_53 bc_m12 ?_
          exact g_iret_iV hC hT dX8_goAll_55
        · refine g_aload hC dX8_goAll_56 (j := 3) rfl ?_
          refine g_getR hC fr_7_1 hy8 (b := y7 + 1) rfl dX8_goAll_58 flX8_323 ?_
          refine g_iload_n hC dX8_goAll_61 (j := 1) rfl rfl ?_
          refine g_iload hC dX8_goAll_62 (j := 5) rfl ?_
          refine g_iadd hC dX8_goAll_64 ?_
          refine g_ialdV hC (gx_7_1 hG hy8) rfl dX8_goAll_65 (fun t10 => ?_)
          refine g_istore hC (n0 := 9) (lv' := [(8, .int t10), (0, .ref b), (2, .int a2), (3, .int a3), (5, .ref y7), (6, .int x5), (7, .int x6)]) dX8_goAll_66 (Nat.le_of_ble_eq_true rfl) hL rfl ?_
          refine g_iload hC dX8_goAll_68 (j := 0) rfl ?_
          refine g_iconst hC dX8_goAll_70 ic_0 ?_
          refine g_aload_n hC dX8_goAll_71 (j := 1) rfl rfl ?_
          refine g_getR hC fr_8_0 h_b (b := b + 1) rfl dX8_goAll_72 flX8_10 ?_
          refine g_getR hC fr_1_0 (gx_8_0 hG h_b) (b := b + 2) rfl dX8_goAll_75 flX8_81 ?_
          refine g_getI hC fi_2_1 (gx_1_0 hG (gx_8_0 hG h_b)) dX8_goAll_78 flX8_84 ?_
          refine g_callS_i hC hR ⟨Nat.zero_le _, Nat.zero_le _⟩ mwX8_within ms_X8_within mlX8_77 (fun _ hq => kX8_within  hq) (Nat.le_of_ble_eq_true rfl) rfl (st := []) rfl (Nat.le_of_ble_eq_true rfl) dX8_goAll_81 (fun q11 => ?_)
          refine g_if_eq hC dX8_goAll_84 ?_ ?_
          · refine g_iincL hC (n0 := 9) (j := 6) (lv' := fun x12 => [(7, .int x12), (8, .int t10), (0, .ref b), (2, .int a2), (3, .int a3), (5, .ref y7), (6, .int x5)]) dX8_goAll_115 rfl ic_1 (Nat.le_of_ble_eq_true rfl) hL (fun _ => rfl) (fun x12 => ?_)
            refine g_goto hC dX8_goAll_118 ?_
            refine g_sub [2, 3, 4, 5, 6, 0] rfl ?_
            exact ih U4 x5 x12
          · refine g_aload_n hC dX8_goAll_87 (j := 1) rfl rfl ?_
            refine g_getR hC fr_8_0 h_b (b := b + 1) rfl dX8_goAll_88 flX8_10 ?_
            refine g_aload_n hC dX8_goAll_91 (j := 1) rfl rfl ?_
            refine g_getR hC fr_8_0 h_b (b := b + 1) rfl dX8_goAll_92 flX8_10 ?_
            refine g_getR hC fr_1_0 (gx_8_0 hG h_b) (b := b + 2) rfl dX8_goAll_95 flX8_81 ?_
            refine g_callV_i hC hR ⟨Nat.zero_le _, Nat.zero_le _⟩ mwX1_isOver miX1_isOver (ci := 1) rfl (gx_8_0 hG h_b) (Nat.le_of_ble_eq_true rfl) mlX8_160 (fun _ hq => kX1_isOver hG (gx_8_0 hG h_b) (gx_1_0 hG (gx_8_0 hG h_b)) hq) (Nat.le_of_ble_eq_true rfl) rfl (st := []) rfl (Nat.le_of_ble_eq_true rfl) dX8_goAll_98 (fun q13 => ?_)
            refine g_if_ne hC dX8_goAll_101 ?_ ?_
            · refine g_iload hC dX8_goAll_104 (j := 5) rfl ?_
              refine g_aload_n hC dX8_goAll_106 (j := 1) rfl rfl ?_
              refine g_iload hC dX8_goAll_107 (j := 0) rfl ?_
              refine g_callV_iV hC hR ⟨Nat.zero_le _, Nat.zero_le _⟩ mwX8_goByNow miX8_goByNow (ci := 8) rfl h_b (Nat.le_of_ble_eq_true rfl) mlX8_207 (fun _ hq => kX8_goByNow hG h_b hq) (Nat.le_of_ble_eq_true rfl) rfl (st := [.int x5]) rfl (Nat.le_of_ble_eq_true rfl) dX8_goAll_109 (fun q14 => ?_)
              refine g_iadd hC dX8_goAll_112 ?_
              refine g_istoreL hC (n0 := 9) (lv' := fun x15 => [(6, .int x15), (8, .int t10), (0, .ref b), (2, .int a2), (3, .int a3), (5, .ref y7), (7, .int x6)]) dX8_goAll_113 (Nat.le_of_ble_eq_true rfl) hL (fun _ => rfl) (fun x15 => ?_)
              refine g_iincL hC (n0 := 9) (j := 6) (lv' := fun x16 => [(7, .int x16), (6, .int x15), (8, .int t10), (0, .ref b), (2, .int a2), (3, .int a3), (5, .ref y7)]) dX8_goAll_115 rfl ic_1 (Nat.le_of_ble_eq_true rfl) hL (fun _ => rfl) (fun x16 => ?_)
              refine g_goto hC dX8_goAll_118 ?_
              refine g_sub [3, 4, 5, 6, 1, 0] rfl ?_
              exact ih q14.2 x15 x16
            · refine g_iincL hC (n0 := 9) (j := 6) (lv' := fun x17 => [(7, .int x17), (8, .int t10), (0, .ref b), (2, .int a2), (3, .int a3), (5, .ref y7), (6, .int x5)]) dX8_goAll_115 rfl ic_1 (Nat.le_of_ble_eq_true rfl) hL (fun _ => rfl) (fun x17 => ?_)
              refine g_goto hC dX8_goAll_118 ?_
              refine g_sub [2, 3, 4, 5, 6, 0] rfl ?_
              exact ih U4 x5 x17
set_option maxHeartbeats 4000000 in
set_option maxRecDepth 100000 in
theorem kX8_goAll {l : Launch} {D : Dx} {G : G2} {V : V2} {R : R2} {n : Nat} {b : Nat} {a1 : Int32} {a2 : Int32} {a3 : Int32} (hG : GX G) (h_b : own G b 18) {o : Int32 × V2} (hf : pX8_goAll n G V R b a1 a2 a3 = some o) : Con l yX8_goAll cX8_goAll 9 (some .int) (rmN 6 0 0) D G V R [.ref b, .int a1, .int a2, .int a3] (some (.int o.1), o.2, R, G, 0, 0) := by
  refine Con.mk RX8 (by decide) rfl (Nat.le_of_ble_eq_true rfl) (fun C _ hR hT _ _ hL hC hnm => ?_)
  revert hf
  unfold pX8_goAll
  refine g_aload_n hC dX8_goAll_0 (j := 0) rfl rfl ?_
  refine g_iload_n hC dX8_goAll_1 (j := 1) rfl rfl ?_
  refine g_iload_n hC dX8_goAll_2 (j := 3) rfl rfl ?_
  refine g_callV_i hC hR ⟨Nat.zero_le _, Nat.zero_le _⟩ mwX8_refusedAsActs miX8_refusedAsActs (ci := 8) rfl h_b (Nat.le_of_ble_eq_true rfl) mlX8_326 (fun _ hq => kX8_refusedAsActs hG h_b hq) (Nat.le_of_ble_eq_true rfl) rfl (st := []) rfl (Nat.le_of_ble_eq_true rfl) dX8_goAll_3 (fun q1 => ?_)
  refine g_istore hC (n0 := 9) (lv' := [(4, .int q1), (0, .ref b), (1, .int a1), (2, .int a2), (3, .int a3)]) dX8_goAll_6 (Nat.le_of_ble_eq_true rfl) hL rfl ?_
  refine g_iload hC dX8_goAll_8 (j := 0) rfl ?_
  refine g_if_eq hC dX8_goAll_10 ?_ ?_
  · refine g_aload_n hC dX8_goAll_16 (j := 1) rfl rfl ?_
    refine g_getR hC fr_8_8 h_b (b := b + 70) rfl dX8_goAll_17 flX8_54 ?_
    refine g_iload_n hC dX8_goAll_20 (j := 2) rfl rfl ?_
    refine g_aaldV hC (by decide) (gx_8_8 hG h_b) (gl_8_8 hG h_b) dX8_goAll_21 (fun q2 => ?_)
    refine g_astoreq hC (n0 := 9) (lv' := [(5, va_rf q2), (4, .int q1), (0, .ref b), (1, .int a1), (2, .int a2), (3, .int a3)]) dX8_goAll_22 (Nat.le_of_ble_eq_true rfl) hL rfl ?_
    refine g_iconst hC dX8_goAll_24 ic_0 ?_
    refine g_istore hC (n0 := 9) (lv' := [(6, .int 0), (5, va_rf q2), (4, .int q1), (0, .ref b), (1, .int a1), (2, .int a2), (3, .int a3)]) dX8_goAll_25 (Nat.le_of_ble_eq_true rfl) hL (by cases q2 <;> rfl) ?_
    refine g_iconst hC dX8_goAll_27 ic_0 ?_
    refine g_istore hC (n0 := 9) (lv' := [(7, .int 0), (6, .int 0), (5, va_rf q2), (4, .int q1), (0, .ref b), (1, .int a1), (2, .int a2), (3, .int a3)]) dX8_goAll_28 (Nat.le_of_ble_eq_true rfl) hL rfl ?_
    refine g_sub [4, 6, 7, 2, 1, 0] rfl ?_
    refine wX8_goAll_30 hC hL hG h_b hR hT (fun w18 w19 => ?_) n V 0 0
    refine g_iload hC dX8_goAll_121 (j := 0) rfl ?_
    exact g_iret_iV hC hT dX8_goAll_123
  · refine g_iload hC dX8_goAll_13 (j := 0) rfl ?_
    exact g_iret_iV hC hT dX8_goAll_15
def lX8_wouldBe_44 (n : Nat) (G : G2) (R : R2) (b : Nat) (a2 : Int32) (a3 : Int32) (q2 : Option Nat) : Nat → V2 → Int32 → Int32 → (V2 → Int32 → Option (Int32 × V2)) → Option (Int32 × V2)
  | 0, _, _, _, _ => none
  | f4 + 1, U5, x6, x7, K =>
    if a3 ≤ x7 then (K U5 x6)
    else (ocase q2 (some ((-12), U5)) fun y8 => if ownB G y8 17 then ((pX7_has G U5 y8 (a2 + x7)).bind fun q10 =>
    if q10 = 0 then (some ((-12), U5))
    else ((ldI (G.2.2.1 (y8 + 1)) (U5 (y8 + 1)) (a2 + x7)).bind fun t11 =>
    (pX8_within t11 0 (U5 (b + 31) 1)).bind fun q12 =>
    if q12 = 0 then (some ((-4), U5))
    else ((pX1_isOver U5 (b + 1) (b + 31)).bind fun q13 =>
    if q13 = 0 then ((pX1_goBy n G U5 R (b + 1) (b + 31) t11).bind fun q14 =>
    letv (x6 + q14.1) fun x15 =>
    letv (x7 + 1) fun x16 =>
    lX8_wouldBe_44 n G R b a2 a3 q2 f4 q14.2 x15 x16 K)
    else (some ((-4), U5))))) else none)
def pX8_wouldBe (n : Nat) (G : G2) (V : V2) (R : R2) (b : Nat) (a1 : Int32) (a2 : Int32) (a3 : Int32) : Option (Int32 × V2) :=
  (pX8_refusedAsActs G V R b a1 a3).bind fun q1 =>
  if q1 = 0 then ((ldR 4 (R (b + 70)) a1).bind fun q2 =>
  (pX2_copy V (b + 31) (b + 2)).bind fun q3 =>
  lX8_wouldBe_44 n G R b a2 a3 q2 n q3 0 0 (fun w17 w18 =>
  some (w18, w17)))
  else (some (q1, V))
set_option maxHeartbeats 4000000 in
set_option maxRecDepth 100000 in
theorem wX8_wouldBe_44 {C : Cx} (hC : CxOK C cX8_wouldBe RX8 (some .int)) (hL : C.2.2.2.2 = 9) {n : Nat} {G : G2} {R : R2} {b : Nat} {a2 : Int32} {a3 : Int32} {q2 : Option Nat} (hG : GX G) (h_b : own G b 18) (hR : C.1.2.2.2.1 = rmN 5 0 0) {o : Int32 × V2} (hT : C.2.1 = (some (.int o.1), o.2, R, G, 0, 0)) {K : V2 → Int32 → Option (Int32 × V2)} (hX : ∀ (y1 : V2) (y2 : Int32), K y1 y2 = some o → Go C 139 [(6, .int y2)] [] y1 R G 0 0) : ∀ (f : Nat) (U5 : V2) (x6 : Int32) (x7 : Int32), lX8_wouldBe_44 n G R b a2 a3 q2 f U5 x6 x7 K = some o → Go C 44 [(0, .ref b), (2, .int a2), (3, .int a3), (5, va_rf q2), (6, .int x6), (7, .int x7)] [] U5 R G 0 0 := by
  intro f
  induction f with
  | zero => intro _ _ _ hf; exact absurd hf (by unfold lX8_wouldBe_44; exact fun z => nomatch z)
  | succ f4 ih =>
    intro U5 x6 x7
    unfold lX8_wouldBe_44
    refine g_iload hC dX8_wouldBe_44 (j := 5) rfl ?_
    refine g_iload_n hC dX8_wouldBe_46 (j := 2) rfl rfl ?_
    refine g_icmp_ge hC dX8_wouldBe_47 ?_ ?_
    · refine g_sub [4] rfl ?_
      exact hX U5 x6
    · refine g_aloadq hC dX8_wouldBe_50 (j := 3) rfl ?_
      cases q2 with
      | none =>
        refine g_onone ?_
        refine g_ifnull_yes hC dX8_wouldBe_52 ?_
        refine g_bipush hC dX8_wouldBe_67 bc_m12 ?_
        exact g_iret_iV hC hT dX8_wouldBe_69
      | some y8 =>
        refine g_osome ?_
        refine g_guard (fun hy9 => ?_)
        refine g_ifnull_no hC dX8_wouldBe_52 ?_
        refine g_aload hC dX8_wouldBe_55 (j := 3) rfl ?_
        refine g_iload_n hC dX8_wouldBe_57 (j := 1) rfl rfl ?_
        refine g_iload hC dX8_wouldBe_58 (j := 5) rfl ?_
        refine g_iadd hC dX8_wouldBe_60 ?_
        refine g_callV_i hC hR ⟨Nat.zero_le _, Nat.zero_le _⟩ mwX7_has miX7_has (ci := 7) rfl hy9 (Nat.le_of_ble_eq_true rfl) mlX8_314 (fun _ hq => kX7_has hG hy9 hq) (Nat.le_of_ble_eq_true rfl) rfl (st := []) rfl (Nat.le_of_ble_eq_true rfl) dX8_wouldBe_61 (fun q10 => ?_)
        refine g_if_ne hC dX8_wouldBe_64 ?_ ?_
        · refine g_bipush hC dX8_wouldBe_67 bc_m12 ?_
          exact g_iret_iV hC hT dX8_wouldBe_69
        · refine g_aload hC dX8_wouldBe_70 (j := 3) rfl ?_
          refine g_getR hC fr_7_1 hy9 (b := y8 + 1) rfl dX8_wouldBe_72 flX8_323 ?_
          refine g_iload_n hC dX8_wouldBe_75 (j := 1) rfl rfl ?_
          refine g_iload hC dX8_wouldBe_76 (j := 5) rfl ?_
          refine g_iadd hC dX8_wouldBe_78 ?_
          refine g_ialdV hC (gx_7_1 hG hy9) rfl dX8_wouldBe_79 (fun t11 => ?_)
          refine g_istore hC (n0 := 9) (lv' := [(8, .int t11), (0, .ref b), (2, .int a2), (3, .int a3), (5, .ref y8), (6, .int x6), (7, .int x7)]) dX8_wouldBe_80 (Nat.le_of_ble_eq_true rfl) hL rfl ?_
          refine g_iload hC dX8_wouldBe_82 (j := 0) rfl ?_
          refine g_iconst hC dX8_wouldBe_84 ic_0 ?_
          refine g_aload_n hC dX8_wouldBe_85 (j := 1) rfl rfl ?_
          refine g_getR hC fr_8_3 h_b (b := b + 31) rfl dX8_wouldBe_86 flX8_26 ?_
          refine g_getI hC fi_2_1 (gx_8_3 hG h_b) dX8_wouldBe_89 flX8_84 ?_
          refine g_callS_i hC hR ⟨Nat.zero_le _, Nat.zero_le _⟩ mwX8_within ms_X8_within mlX8_77 (fun _ hq => kX8_within  hq) (Nat.le_of_ble_eq_true rfl) rfl (st := []) rfl (Nat.le_of_ble_eq_true rfl) dX8_wouldBe_92 (fun q12 => ?_)
          refine g_if_eq hC dX8_wouldBe_95 ?_ ?_
          · refine g_bipush hC dX8_wouldBe_112 bc_m4 ?_
            exact g_iret_iV hC hT dX8_wouldBe_114
          · refine g_aload_n hC dX8_wouldBe_98 (j := 1) rfl rfl ?_
            refine g_getR hC fr_8_0 h_b (b := b + 1) rfl dX8_wouldBe_99 flX8_10 ?_
            refine g_aload_n hC dX8_wouldBe_102 (j := 1) rfl rfl ?_
            refine g_getR hC fr_8_3 h_b (b := b + 31) rfl dX8_wouldBe_103 flX8_26 ?_
            refine g_callV_i hC hR ⟨Nat.zero_le _, Nat.zero_le _⟩ mwX1_isOver miX1_isOver (ci := 1) rfl (gx_8_0 hG h_b) (Nat.le_of_ble_eq_true rfl) mlX8_160 (fun _ hq => kX1_isOver hG (gx_8_0 hG h_b) (gx_8_3 hG h_b) hq) (Nat.le_of_ble_eq_true rfl) rfl (st := []) rfl (Nat.le_of_ble_eq_true rfl) dX8_wouldBe_106 (fun q13 => ?_)
            refine g_if_eq hC dX8_wouldBe_109 ?_ ?_
            · refine g_iload hC dX8_wouldBe_115 (j := 5) rfl ?_
              refine g_aload_n hC dX8_wouldBe_117 (j := 1) rfl rfl ?_
              refine g_getR hC fr_8_0 h_b (b := b + 1) rfl dX8_wouldBe_118 flX8_10 ?_
              refine g_aload_n hC dX8_wouldBe_121 (j := 1) rfl rfl ?_
              refine g_getR hC fr_8_3 h_b (b := b + 31) rfl dX8_wouldBe_122 flX8_26 ?_
              refine g_iload hC dX8_wouldBe_125 (j := 0) rfl ?_
              refine g_callV_iV hC hR ⟨Nat.zero_le _, Nat.zero_le _⟩ mwX1_goBy miX1_goBy (ci := 1) rfl (gx_8_0 hG h_b) (Nat.le_of_ble_eq_true rfl) mlX8_301 (fun _ hq => kX1_goBy hG (gx_8_0 hG h_b) (gx_8_3 hG h_b) hq) (Nat.le_of_ble_eq_true rfl) rfl (st := [.int x6]) rfl (Nat.le_of_ble_eq_true rfl) dX8_wouldBe_127 (fun q14 => ?_)
              refine g_iadd hC dX8_wouldBe_130 ?_
              refine g_istoreL hC (n0 := 9) (lv' := fun x15 => [(6, .int x15), (8, .int t11), (0, .ref b), (2, .int a2), (3, .int a3), (5, .ref y8), (7, .int x7)]) dX8_wouldBe_131 (Nat.le_of_ble_eq_true rfl) hL (fun _ => rfl) (fun x15 => ?_)
              refine g_iincL hC (n0 := 9) (j := 6) (lv' := fun x16 => [(7, .int x16), (6, .int x15), (8, .int t11), (0, .ref b), (2, .int a2), (3, .int a3), (5, .ref y8)]) dX8_wouldBe_133 rfl ic_1 (Nat.le_of_ble_eq_true rfl) hL (fun _ => rfl) (fun x16 => ?_)
              refine g_goto hC dX8_wouldBe_136 ?_
              refine g_sub [3, 4, 5, 6, 1, 0] rfl ?_
              exact ih q14.2 x15 x16
            · refine g_bipush hC dX8_wouldBe_112 bc_m4 ?_
              exact g_iret_iV hC hT dX8_wouldBe_114
set_option maxHeartbeats 4000000 in
set_option maxRecDepth 100000 in
theorem kX8_wouldBe {l : Launch} {D : Dx} {G : G2} {V : V2} {R : R2} {n : Nat} {b : Nat} {a1 : Int32} {a2 : Int32} {a3 : Int32} (hG : GX G) (h_b : own G b 18) {o : Int32 × V2} (hf : pX8_wouldBe n G V R b a1 a2 a3 = some o) : Con l yX8_wouldBe cX8_wouldBe 9 (some .int) (rmN 5 0 0) D G V R [.ref b, .int a1, .int a2, .int a3] (some (.int o.1), o.2, R, G, 0, 0) := by
  refine Con.mk RX8 (by decide) rfl (Nat.le_of_ble_eq_true rfl) (fun C _ hR hT _ _ hL hC hnm => ?_)
  revert hf
  unfold pX8_wouldBe
  refine g_aload_n hC dX8_wouldBe_0 (j := 0) rfl rfl ?_
  refine g_iload_n hC dX8_wouldBe_1 (j := 1) rfl rfl ?_
  refine g_iload_n hC dX8_wouldBe_2 (j := 3) rfl rfl ?_
  refine g_callV_i hC hR ⟨Nat.zero_le _, Nat.zero_le _⟩ mwX8_refusedAsActs miX8_refusedAsActs (ci := 8) rfl h_b (Nat.le_of_ble_eq_true rfl) mlX8_326 (fun _ hq => kX8_refusedAsActs hG h_b hq) (Nat.le_of_ble_eq_true rfl) rfl (st := []) rfl (Nat.le_of_ble_eq_true rfl) dX8_wouldBe_3 (fun q1 => ?_)
  refine g_istore hC (n0 := 9) (lv' := [(4, .int q1), (0, .ref b), (1, .int a1), (2, .int a2), (3, .int a3)]) dX8_wouldBe_6 (Nat.le_of_ble_eq_true rfl) hL rfl ?_
  refine g_iload hC dX8_wouldBe_8 (j := 0) rfl ?_
  refine g_if_eq hC dX8_wouldBe_10 ?_ ?_
  · refine g_aload_n hC dX8_wouldBe_16 (j := 1) rfl rfl ?_
    refine g_getR hC fr_8_8 h_b (b := b + 70) rfl dX8_wouldBe_17 flX8_54 ?_
    refine g_iload_n hC dX8_wouldBe_20 (j := 2) rfl rfl ?_
    refine g_aaldV hC (by decide) (gx_8_8 hG h_b) (gl_8_8 hG h_b) dX8_wouldBe_21 (fun q2 => ?_)
    refine g_astoreq hC (n0 := 9) (lv' := [(5, va_rf q2), (4, .int q1), (0, .ref b), (1, .int a1), (2, .int a2), (3, .int a3)]) dX8_wouldBe_22 (Nat.le_of_ble_eq_true rfl) hL rfl ?_
    refine g_aload_n hC dX8_wouldBe_24 (j := 2) rfl rfl ?_
    refine g_getR hC fr_8_3 h_b (b := b + 31) rfl dX8_wouldBe_25 flX8_26 ?_
    refine g_aload_n hC dX8_wouldBe_28 (j := 2) rfl rfl ?_
    refine g_getR hC fr_8_0 h_b (b := b + 1) rfl dX8_wouldBe_29 flX8_10 ?_
    refine g_getR hC fr_1_0 (gx_8_0 hG h_b) (b := b + 2) rfl dX8_wouldBe_32 flX8_81 ?_
    refine g_callV_vV hC hR ⟨Nat.zero_le _, Nat.zero_le _⟩ mwX2_copy miX2_copy (ci := 2) rfl (gx_8_3 hG h_b) (Nat.le_of_ble_eq_true rfl) mlX8_210 (fun _ hq => kX2_copy hG (gx_8_3 hG h_b) (gx_1_0 hG (gx_8_0 hG h_b)) hq) (Nat.le_of_ble_eq_true rfl) rfl (st := []) rfl (Nat.le_of_ble_eq_true rfl) dX8_wouldBe_35 (fun q3 => ?_)
    refine g_iconst hC dX8_wouldBe_38 ic_0 ?_
    refine g_istore hC (n0 := 9) (lv' := [(6, .int 0), (5, va_rf q2), (4, .int q1), (0, .ref b), (1, .int a1), (2, .int a2), (3, .int a3)]) dX8_wouldBe_39 (Nat.le_of_ble_eq_true rfl) hL (by cases q2 <;> rfl) ?_
    refine g_iconst hC dX8_wouldBe_41 ic_0 ?_
    refine g_istore hC (n0 := 9) (lv' := [(7, .int 0), (6, .int 0), (5, va_rf q2), (4, .int q1), (0, .ref b), (1, .int a1), (2, .int a2), (3, .int a3)]) dX8_wouldBe_42 (Nat.le_of_ble_eq_true rfl) hL rfl ?_
    refine g_sub [4, 6, 7, 2, 1, 0] rfl ?_
    refine wX8_wouldBe_44 hC hL hG h_b hR hT (fun w17 w18 => ?_) n q3 0 0
    refine g_iload hC dX8_wouldBe_139 (j := 0) rfl ?_
    exact g_iret_iV hC hT dX8_wouldBe_141
  · refine g_iload hC dX8_wouldBe_13 (j := 0) rfl ?_
    exact g_iret_iV hC hT dX8_wouldBe_15
def pX8_shelf (G : G2) (V : V2) (R : R2) (b : Nat) (a1 : Int32) (a2 : Int32) (a3 : Int32) : Option (Int32 × V2 × R2) :=
  (pX8_within a1 0 3).bind fun q1 =>
  if q1 = 0 then (some ((-1), V, R))
  else ((pX8_within a2 0 2).bind fun q2 =>
  if q2 = 0 then (some ((-1), V, R))
  else (letv (fun (u4 : Unit) => (letv (fun (u6 : Unit) => (letv ((if a2 = 0 then (a3)
  else ((-1)) : Int32)) fun j7 =>
  (stI 4 V (b + 71) a1 j7).bind fun U8 =>
  ((if a2 = (1 : Int32) then ((ldR 4 (R (b + 70)) a3).bind fun q10 =>
  some q10)
  else (some none) : Option (Option Nat))).bind fun j9 =>
  if okQ G j9 17 then (
  (stR 4 R (b + 72) a1 j9).bind fun S11 =>
  some (1, U8, S11)) else none)) fun j5 =>
  if a2 = (1 : Int32) then ((pX8_within a3 0 3).bind fun q13 =>
  if q13 = 0 then (some ((-1), V, R))
  else (j5 ()))
  else (j5 ()))) fun j3 =>
  if a2 = 0 then ((pX8_isThing V b a3).bind fun q14 =>
  if q14 = 0 then (some ((-1), V, R))
  else (j3 ()))
  else (j3 ())))
set_option maxHeartbeats 4000000 in
set_option maxRecDepth 100000 in
theorem kX8_shelf {l : Launch} {D : Dx} {G : G2} {V : V2} {R : R2} {b : Nat} {a1 : Int32} {a2 : Int32} {a3 : Int32} (hG : GX G) (h_b : own G b 18) {o : Int32 × V2 × R2} (hf : pX8_shelf G V R b a1 a2 a3 = some o) : Con l yX8_shelf cX8_shelf 4 (some .int) (rmN 2 0 0) D G V R [.ref b, .int a1, .int a2, .int a3] (some (.int o.1), o.2.1, o.2.2, G, 0, 0) := by
  refine Con.mk RX8 (by decide) rfl (Nat.le_of_ble_eq_true rfl) (fun C _ hR hT _ _ hL hC hnm => ?_)
  revert hf
  unfold pX8_shelf
  refine g_iload_n hC dX8_shelf_0 (j := 1) rfl rfl ?_
  refine g_iconst hC dX8_shelf_1 ic_0 ?_
  refine g_iconst hC dX8_shelf_2 ic_3 ?_
  refine g_callS_i hC hR ⟨Nat.zero_le _, Nat.zero_le _⟩ mwX8_within ms_X8_within mlX8_77 (fun _ hq => kX8_within  hq) (Nat.le_of_ble_eq_true rfl) rfl (st := []) rfl (Nat.le_of_ble_eq_true rfl) dX8_shelf_3 (fun q1 => ?_)
  refine g_if_eq hC dX8_shelf_6 ?_ ?_
  · refine g_iconst hC dX8_shelf_18 ic_m1 ?_
    exact g_iret_iR hC hT dX8_shelf_19
  · refine g_iload_n hC dX8_shelf_9 (j := 2) rfl rfl ?_
    refine g_iconst hC dX8_shelf_10 ic_0 ?_
    refine g_iconst hC dX8_shelf_11 ic_2 ?_
    refine g_callS_i hC hR ⟨Nat.zero_le _, Nat.zero_le _⟩ mwX8_within ms_X8_within mlX8_77 (fun _ hq => kX8_within  hq) (Nat.le_of_ble_eq_true rfl) rfl (st := []) rfl (Nat.le_of_ble_eq_true rfl) dX8_shelf_12 (fun q2 => ?_)
    refine g_if_ne hC dX8_shelf_15 ?_ ?_
    · refine g_iconst hC dX8_shelf_18 ic_m1 ?_
      exact g_iret_iR hC hT dX8_shelf_19
    · refine g_iload_n hC dX8_shelf_20 (j := 2) rfl rfl ?_
      refine g_jn (J := fun j3 => ∀ (u4 : Unit), j3 u4 = some o → Go C 32 [(0, .ref b), (1, .int a1), (2, .int a2), (3, .int a3)] [] V R G 0 0) (fun u4 => ?_) (fun j3 hJ => ?_)
      · refine g_iload_n hC dX8_shelf_32 (j := 2) rfl rfl ?_
        refine g_iconst hC dX8_shelf_33 ic_1 ?_
        refine g_jn (J := fun j5 => ∀ (u6 : Unit), j5 u6 = some o → Go C 48 [(0, .ref b), (1, .int a1), (2, .int a2), (3, .int a3)] [] V R G 0 0) (fun u6 => ?_) (fun j5 hJ => ?_)
        · refine g_aload_n hC dX8_shelf_48 (j := 0) rfl rfl ?_
          refine g_getR hC fr_8_9 h_b (b := b + 71) rfl dX8_shelf_49 flX8_58 ?_
          refine g_iload_n hC dX8_shelf_52 (j := 1) rfl rfl ?_
          refine g_iload_n hC dX8_shelf_53 (j := 2) rfl rfl ?_
          refine g_letJ (J := fun j7 => Go C 62 [(0, .ref b), (1, .int a1), (2, .int a2), (3, .int a3)] [.int j7, .int a1, .ref (b + 71)] V R G 0 0) (fun j7 hJ => ?_) (fun j7 => ?_)
          · refine g_if_ne hC dX8_shelf_54 ?_ ?_
            · refine g_iload_n hC dX8_shelf_57 (j := 3) rfl rfl ?_
              refine g_goto hC dX8_shelf_58 ?_
              exact fun e => by cases e; exact hJ
            · refine g_iconst hC dX8_shelf_61 ic_m1 ?_
              exact fun e => by cases e; exact hJ
          · refine g_iastV hC (gx_8_9 hG h_b) (gl_8_9 hG h_b) dX8_shelf_62 (fun U8 => ?_)
            refine g_aload_n hC dX8_shelf_63 (j := 0) rfl rfl ?_
            refine g_getR hC fr_8_10 h_b (b := b + 72) rfl dX8_shelf_64 flX8_61 ?_
            refine g_iload_n hC dX8_shelf_67 (j := 1) rfl rfl ?_
            refine g_iload_n hC dX8_shelf_68 (j := 2) rfl rfl ?_
            refine g_iconst hC dX8_shelf_69 ic_1 ?_
            refine g_bind (J := fun j9 => Go C 83 [] [va_rf j9, .int a1, .ref (b + 72)] U8 R G 0 0) (fun j9 hJ => ?_) (fun j9 => ?_)
            · refine g_icmp_ne hC dX8_shelf_70 ?_ ?_
              · refine g_aload_n hC dX8_shelf_73 (j := 0) rfl rfl ?_
                refine g_getR hC fr_8_8 h_b (b := b + 70) rfl dX8_shelf_74 flX8_54 ?_
                refine g_iload_n hC dX8_shelf_77 (j := 3) rfl rfl ?_
                refine g_aaldV hC (by decide) (gx_8_8 hG h_b) (gl_8_8 hG h_b) dX8_shelf_78 (fun q10 => ?_)
                refine g_goto hC dX8_shelf_79 ?_
                refine g_sub [] rfl ?_
                exact fun e => by cases e; exact hJ
              · refine g_null hC dX8_shelf_82 ?_
                refine g_sub [] rfl ?_
                exact fun e => by cases e; exact hJ
            · refine g_guardb (fun hz12 => ?_)
              refine g_aastV hC (x := j9) (ci := 7) ⟨Nat.le_of_ble_eq_true rfl, Nat.le_of_ble_eq_true rfl⟩ rfl rfl (Nat.le_of_ble_eq_true rfl) hz12 (gx_8_10 hG h_b) (gl_8_10 hG h_b) dX8_shelf_83 (fun S11 => ?_)
              refine g_iconst hC dX8_shelf_84 ic_1 ?_
              exact g_iret_iR hC hT dX8_shelf_85
        · refine g_icmp_ne hC dX8_shelf_34 ?_ ?_
          · refine g_iload_n hC dX8_shelf_37 (j := 3) rfl rfl ?_
            refine g_iconst hC dX8_shelf_38 ic_0 ?_
            refine g_iconst hC dX8_shelf_39 ic_3 ?_
            refine g_callS_i hC hR ⟨Nat.zero_le _, Nat.zero_le _⟩ mwX8_within ms_X8_within mlX8_77 (fun _ hq => kX8_within  hq) (Nat.le_of_ble_eq_true rfl) rfl (st := []) rfl (Nat.le_of_ble_eq_true rfl) dX8_shelf_40 (fun q13 => ?_)
            refine g_if_ne hC dX8_shelf_43 ?_ ?_
            · refine g_iconst hC dX8_shelf_46 ic_m1 ?_
              exact g_iret_iR hC hT dX8_shelf_47
            · exact hJ ()
          · exact hJ ()
      · refine g_if_ne hC dX8_shelf_21 ?_ ?_
        · refine g_aload_n hC dX8_shelf_24 (j := 0) rfl rfl ?_
          refine g_iload_n hC dX8_shelf_25 (j := 3) rfl rfl ?_
          refine g_callV_i hC hR ⟨Nat.zero_le _, Nat.zero_le _⟩ mwX8_isThing miX8_isThing (ci := 8) rfl h_b (Nat.le_of_ble_eq_true rfl) mlX8_103 (fun _ hq => kX8_isThing hG h_b hq) (Nat.le_of_ble_eq_true rfl) rfl (st := []) rfl (Nat.le_of_ble_eq_true rfl) dX8_shelf_26 (fun q14 => ?_)
          refine g_if_eq hC dX8_shelf_29 ?_ ?_
          · refine g_iconst hC dX8_shelf_46 ic_m1 ?_
            exact g_iret_iR hC hT dX8_shelf_47
          · exact hJ ()
        · exact hJ ()
def pX8_taken (n : Nat) (G : G2) (V : V2) (R : R2) (b : Nat) (a1 : Int32) (a2 : Int32) : Option (Int32) :=
  (pX8_within a1 0 3).bind fun q1 =>
  if q1 = 0 then (some (-1))
  else ((pX8_within a2 0 5).bind fun q2 =>
  letv (fun (u4 : Unit) => ((ldR 4 (R (b + 72)) a1).bind fun q5 =>
  ocase q5 ((ldI 4 (V (b + 71)) a1).bind fun t8 =>
  (pX8_isThing V b t8).bind fun q9 =>
  if q9 = 0 then (some (-11))
  else (if (5 : Int32) < a2 then (some (-13))
  else ((ldI 6 (V (b + 3)) t8).bind fun t10 =>
  (pX8_isOrIsUnder n V t10 a2).bind fun q11 =>
  if q11 = 0 then (some (-13))
  else (some t8)))) fun y6 => if ownB G y6 17 then (if (V y6 0) = (a2 - 10) then (some (nI (G.2.2.1 (y6 + 1))))
  else (some (-13))) else none)) fun j3 =>
  if q2 = 0 then ((pX8_within a2 10 14).bind fun q12 =>
  if q12 = 0 then (some (-1))
  else (j3 ()))
  else (j3 ()))
set_option maxHeartbeats 4000000 in
set_option maxRecDepth 100000 in
theorem kX8_taken {l : Launch} {D : Dx} {G : G2} {V : V2} {R : R2} {n : Nat} {b : Nat} {a1 : Int32} {a2 : Int32} (hG : GX G) (h_b : own G b 18) {o : Int32} (hf : pX8_taken n G V R b a1 a2 = some o) : Con l yX8_taken cX8_taken 5 (some .int) (rmN 2 0 0) D G V R [.ref b, .int a1, .int a2] (some (.int o), V, R, G, 0, 0) := by
  refine Con.mk RX8 (by decide) rfl (Nat.le_of_ble_eq_true rfl) (fun C _ hR hT _ _ hL hC hnm => ?_)
  revert hf
  unfold pX8_taken
  refine g_iload_n hC dX8_taken_0 (j := 1) rfl rfl ?_
  refine g_iconst hC dX8_taken_1 ic_0 ?_
  refine g_iconst hC dX8_taken_2 ic_3 ?_
  refine g_callS_i hC hR ⟨Nat.zero_le _, Nat.zero_le _⟩ mwX8_within ms_X8_within mlX8_77 (fun _ hq => kX8_within  hq) (Nat.le_of_ble_eq_true rfl) rfl (st := []) rfl (Nat.le_of_ble_eq_true rfl) dX8_taken_3 (fun q1 => ?_)
  refine g_if_eq hC dX8_taken_6 ?_ ?_
  · refine g_iconst hC dX8_taken_29 ic_m1 ?_
    exact g_iret_i hC hT dX8_taken_30
  · refine g_iload_n hC dX8_taken_9 (j := 2) rfl rfl ?_
    refine g_iconst hC dX8_taken_10 ic_0 ?_
    refine g_iconst hC dX8_taken_11 ic_5 ?_
    refine g_callS_i hC hR ⟨Nat.zero_le _, Nat.zero_le _⟩ mwX8_within ms_X8_within mlX8_77 (fun _ hq => kX8_within  hq) (Nat.le_of_ble_eq_true rfl) rfl (st := []) rfl (Nat.le_of_ble_eq_true rfl) dX8_taken_12 (fun q2 => ?_)
    refine g_jn (J := fun j3 => ∀ (u4 : Unit), j3 u4 = some o → Go C 31 [(0, .ref b), (1, .int a1), (2, .int a2)] [] V R G 0 0) (fun u4 => ?_) (fun j3 hJ => ?_)
    · refine g_aload_n hC dX8_taken_31 (j := 0) rfl rfl ?_
      refine g_getR hC fr_8_10 h_b (b := b + 72) rfl dX8_taken_32 flX8_61 ?_
      refine g_iload_n hC dX8_taken_35 (j := 1) rfl rfl ?_
      refine g_aaldV hC (by decide) (gx_8_10 hG h_b) (gl_8_10 hG h_b) dX8_taken_36 (fun q5 => ?_)
      refine g_astore_nq hC (n0 := 5) (lv' := [(3, va_rf q5), (0, .ref b), (1, .int a1), (2, .int a2)]) dX8_taken_37 rfl (Nat.le_of_ble_eq_true rfl) hL rfl ?_
      refine g_aload_nq hC dX8_taken_38 (j := 0) rfl rfl ?_
      cases q5 with
      | none =>
        refine g_onone ?_
        refine g_ifnull_yes hC dX8_taken_39 ?_
        refine g_aload_n hC dX8_taken_64 (j := 1) rfl rfl ?_
        refine g_getR hC fr_8_9 h_b (b := b + 71) rfl dX8_taken_65 flX8_58 ?_
        refine g_iload_n hC dX8_taken_68 (j := 2) rfl rfl ?_
        refine g_ialdV hC (gx_8_9 hG h_b) (gl_8_9 hG h_b) dX8_taken_69 (fun t8 => ?_)
        refine g_istore hC (n0 := 5) (lv' := [(4, .int t8), (3, va_rf none), (0, .ref b), (1, .int a1), (2, .int a2)]) dX8_taken_70 (Nat.le_of_ble_eq_true rfl) hL rfl ?_
        refine g_aload_n hC dX8_taken_72 (j := 2) rfl rfl ?_
        refine g_iload hC dX8_taken_73 (j := 0) rfl ?_
        refine g_callV_i hC hR ⟨Nat.zero_le _, Nat.zero_le _⟩ mwX8_isThing miX8_isThing (ci := 8) rfl h_b (Nat.le_of_ble_eq_true rfl) mlX8_103 (fun _ hq => kX8_isThing hG h_b hq) (Nat.le_of_ble_eq_true rfl) rfl (st := []) rfl (Nat.le_of_ble_eq_true rfl) dX8_taken_75 (fun q9 => ?_)
        refine g_if_ne hC dX8_taken_78 ?_ ?_
        · refine g_bipush hC dX8_taken_81 bc_m11 ?_
          exact g_iret_i hC hT dX8_taken_83
        · refine g_iload_n hC dX8_taken_84 (j := 4) rfl rfl ?_
          refine g_iconst hC dX8_taken_85 ic_5 ?_
          refine g_icmp_gt hC dX8_taken_86 ?_ ?_
          · refine g_bipush hC dX8_taken_114 bc_m13 ?_
            exact g_iret_i hC hT dX8_taken_116
          · refine g_aload_n hC dX8_taken_89 (j := 2) rfl rfl ?_
            refine g_getR hC fr_8_0 h_b (b := b + 1) rfl dX8_taken_90 flX8_10 ?_
            refine g_getR hC fr_1_0 (gx_8_0 hG h_b) (b := b + 2) rfl dX8_taken_93 flX8_81 ?_
            refine g_getR hC fr_2_3 (gx_1_0 hG (gx_8_0 hG h_b)) (b := b + 3) rfl dX8_taken_96 flX8_87 ?_
            refine g_iload hC dX8_taken_99 (j := 0) rfl ?_
            refine g_ialdV hC (gx_2_3 hG (gx_1_0 hG (gx_8_0 hG h_b))) (gl_2_3 hG (gx_1_0 hG (gx_8_0 hG h_b))) dX8_taken_101 (fun t10 => ?_)
            refine g_iload_n hC dX8_taken_102 (j := 4) rfl rfl ?_
            refine g_callS_i hC hR ⟨Nat.zero_le _, Nat.zero_le _⟩ mwX8_isOrIsUnder ms_X8_isOrIsUnder mlX8_329 (fun _ hq => kX8_isOrIsUnder  hq) (Nat.le_of_ble_eq_true rfl) rfl (st := []) rfl (Nat.le_of_ble_eq_true rfl) dX8_taken_103 (fun q11 => ?_)
            refine g_if_eq hC dX8_taken_106 ?_ ?_
            · refine g_bipush hC dX8_taken_114 bc_m13 ?_
              exact g_iret_i hC hT dX8_taken_116
            · refine g_iload hC dX8_taken_109 (j := 0) rfl ?_
              refine g_goto hC dX8_taken_111 ?_
              exact g_iret_i hC hT dX8_taken_116
      | some y6 =>
        refine g_osome ?_
        refine g_guard (fun hy7 => ?_)
        refine g_ifnull_no hC dX8_taken_39 ?_
        refine g_aload_n hC dX8_taken_42 (j := 0) rfl rfl ?_
        refine g_getI hC fi_7_0 hy7 dX8_taken_43 flX8_320 ?_
        refine g_iload_n hC dX8_taken_46 (j := 3) rfl rfl ?_
        refine g_bipush hC dX8_taken_47 bc_10 ?_
        refine g_isub hC dX8_taken_49 ?_
        refine g_icmp_ne hC dX8_taken_50 ?_ ?_
        · refine g_aload_n hC dX8_taken_53 (j := 0) rfl rfl ?_
          refine g_getR hC fr_7_1 hy7 (b := y6 + 1) rfl dX8_taken_54 flX8_323 ?_
          refine g_alenV hC (gx_7_1 hG hy7) rfl dX8_taken_57 ?_
          refine g_goto hC dX8_taken_58 ?_
          exact g_iret_i hC hT dX8_taken_63
        · refine g_bipush hC dX8_taken_61 bc_m13 ?_
          exact g_iret_i hC hT dX8_taken_63
    · refine g_if_ne hC dX8_taken_15 ?_ ?_
      · refine g_iload_n hC dX8_taken_18 (j := 2) rfl rfl ?_
        refine g_bipush hC dX8_taken_19 bc_10 ?_
        refine g_bipush hC dX8_taken_21 bc_14 ?_
        refine g_callS_i hC hR ⟨Nat.zero_le _, Nat.zero_le _⟩ mwX8_within ms_X8_within mlX8_77 (fun _ hq => kX8_within  hq) (Nat.le_of_ble_eq_true rfl) rfl (st := []) rfl (Nat.le_of_ble_eq_true rfl) dX8_taken_23 (fun q12 => ?_)
        refine g_if_ne hC dX8_taken_26 ?_ ?_
        · refine g_iconst hC dX8_taken_29 ic_m1 ?_
          exact g_iret_i hC hT dX8_taken_30
        · exact hJ ()
      · exact hJ ()
def pX0_forgetBodies (V : V2) (b : Nat) : Option (V2) :=
  letv (up2 V b 1 0) fun U1 =>
  some U1
set_option maxHeartbeats 4000000 in
set_option maxRecDepth 100000 in
theorem kX0_forgetBodies {l : Launch} {D : Dx} {G : G2} {V : V2} {R : R2} {b : Nat} (hG : GX G) (h_b : own G b 10) {o : V2} (hf : pX0_forgetBodies V b = some o) : Con l yX0_forgetBodies cX0_forgetBodies 1 none (rmN 0 0 0) D G V R [.ref b] (none, o, R, G, 0, 0) := by
  refine Con.mk RX0 (by decide) rfl (Nat.le_of_ble_eq_true rfl) (fun C _ hR hT _ _ hL hC hnm => ?_)
  revert hf
  unfold pX0_forgetBodies
  refine g_aload_n hC dX0_forgetBodies_0 (j := 0) rfl rfl ?_
  refine g_iconst hC dX0_forgetBodies_1 ic_0 ?_
  refine g_putIL hC fp_0_1 h_b dX0_forgetBodies_2 flX0_15 (fun U1 => ?_)
  exact g_vret_vV hC hT dX0_forgetBodies_5
def pX0_become (V : V2) (b : Nat) (a1 : Int32) (a2 : Int32) (a3 : Int32) : Option (V2) :=
  letv (up2 V b 2 a1) fun U1 =>
  letv (up2 U1 b 3 a2) fun U2 =>
  letv (up2 U2 b 4 a3) fun U3 =>
  some U3
set_option maxHeartbeats 4000000 in
set_option maxRecDepth 100000 in
theorem kX0_become {l : Launch} {D : Dx} {G : G2} {V : V2} {R : R2} {b : Nat} {a1 : Int32} {a2 : Int32} {a3 : Int32} (hG : GX G) (h_b : own G b 10) {o : V2} (hf : pX0_become V b a1 a2 a3 = some o) : Con l yX0_become cX0_become 4 none (rmN 0 0 0) D G V R [.ref b, .int a1, .int a2, .int a3] (none, o, R, G, 0, 0) := by
  refine Con.mk RX0 (by decide) rfl (Nat.le_of_ble_eq_true rfl) (fun C _ hR hT _ _ hL hC hnm => ?_)
  revert hf
  unfold pX0_become
  refine g_aload_n hC dX0_become_0 (j := 0) rfl rfl ?_
  refine g_iload_n hC dX0_become_1 (j := 1) rfl rfl ?_
  refine g_putIL hC fp_0_2 h_b dX0_become_2 flX0_19 (fun U1 => ?_)
  refine g_aload_n hC dX0_become_5 (j := 0) rfl rfl ?_
  refine g_iload_n hC dX0_become_6 (j := 2) rfl rfl ?_
  refine g_putIL hC fp_0_3 h_b dX0_become_7 flX0_22 (fun U2 => ?_)
  refine g_aload_n hC dX0_become_10 (j := 0) rfl rfl ?_
  refine g_iload_n hC dX0_become_11 (j := 3) rfl rfl ?_
  refine g_putIL hC fp_0_4 h_b dX0_become_12 flX0_25 (fun U3 => ?_)
  exact g_vret_vV hC hT dX0_become_15
def pX0_bodyOf (V : V2) (b : Nat) (a1 : Int32) : Option (Int32) :=
  letv (((V b 2) * 4) + a1) fun x1 =>
  (pX8_within x1 0 ((nI 24) - 1)).bind fun q2 =>
  if q2 = 0 then (some 0)
  else ((ldI 24 (fun j => bodT.getD j 0) x1).bind fun t3 =>
  some t3)
set_option maxHeartbeats 4000000 in
set_option maxRecDepth 100000 in
theorem kX0_bodyOf {l : Launch} {D : Dx} {G : G2} {V : V2} {R : R2} {b : Nat} {a1 : Int32} (hG : GX G) (h_b : own G b 10) {o : Int32} (hf : pX0_bodyOf V b a1 = some o) : Con l yX0_bodyOf cX0_bodyOf 3 (some .int) (rmN 1 0 0) D G V R [.ref b, .int a1] (some (.int o), V, R, G, 0, 0) := by
  refine Con.mk RX0 (by decide) rfl (Nat.le_of_ble_eq_true rfl) (fun C _ hR hT _ _ hL hC hnm => ?_)
  revert hf
  unfold pX0_bodyOf
  refine g_aload_n hC dX0_bodyOf_0 (j := 0) rfl rfl ?_
  refine g_getI hC fi_0_2 h_b dX0_bodyOf_1 flX0_19 ?_
  refine g_iconst hC dX0_bodyOf_4 ic_4 ?_
  refine g_imul hC dX0_bodyOf_5 ?_
  refine g_iload_n hC dX0_bodyOf_6 (j := 1) rfl rfl ?_
  refine g_iadd hC dX0_bodyOf_7 ?_
  refine g_istore_nL hC (n0 := 3) (lv' := fun x1 => [(2, .int x1), (0, .ref b), (1, .int a1)]) dX0_bodyOf_8 rfl (Nat.le_of_ble_eq_true rfl) hL (fun _ => rfl) (fun x1 => ?_)
  refine g_iload_n hC dX0_bodyOf_9 (j := 0) rfl rfl ?_
  refine g_iconst hC dX0_bodyOf_10 ic_0 ?_
  refine g_getS1 hC dX0_bodyOf_11 flX0_40 ?_
  refine g_alenT hC hC.2.2.2.2.2.1.2.1.2.2.2.1 dX0_bodyOf_14 ?_
  refine g_iconst hC dX0_bodyOf_15 ic_1 ?_
  refine g_isub hC dX0_bodyOf_16 ?_
  refine g_callSN_i hC hR ⟨Nat.zero_le _, Nat.zero_le _⟩ mwX8_within ms_X8_within mlX0_43 (fun _ hq => kX8_within  hq) (Nat.le_of_ble_eq_true rfl) rfl (st := []) rfl (Nat.le_of_ble_eq_true rfl) dX0_bodyOf_17 (fun q2 => ?_)
  refine g_if_eq hC dX0_bodyOf_20 ?_ ?_
  · refine g_iconst hC dX0_bodyOf_31 ic_0 ?_
    exact g_iret_i hC hT dX0_bodyOf_32
  · refine g_getS1 hC dX0_bodyOf_23 flX0_40 ?_
    refine g_iload_n hC dX0_bodyOf_26 (j := 0) rfl rfl ?_
    refine g_ialdT hC hC.2.2.2.2.2.1.2.1.2.2.2.1 (Nat.le_of_ble_eq_true rfl) dX0_bodyOf_27 (fun t3 => ?_)
    refine g_goto hC dX0_bodyOf_28 ?_
    exact g_iret_i hC hT dX0_bodyOf_32
def pX0_part (V : V2) (b : Nat) (a1 : Int32) (a2 : Int32) : Option (Int32 × V2) :=
  if a2 = 0 then (letv (up2 V b 5 1) fun U1 =>
  some (0, U1))
  else ((dvI a1 a2).bind fun t2 =>
  some (t2, V))
set_option maxHeartbeats 4000000 in
set_option maxRecDepth 100000 in
theorem kX0_part {l : Launch} {D : Dx} {G : G2} {V : V2} {R : R2} {b : Nat} {a1 : Int32} {a2 : Int32} (hG : GX G) (h_b : own G b 10) {o : Int32 × V2} (hf : pX0_part V b a1 a2 = some o) : Con l yX0_part cX0_part 3 (some .int) (rmN 0 0 0) D G V R [.ref b, .int a1, .int a2] (some (.int o.1), o.2, R, G, 0, 0) := by
  refine Con.mk RX0 (by decide) rfl (Nat.le_of_ble_eq_true rfl) (fun C _ hR hT _ _ hL hC hnm => ?_)
  revert hf
  unfold pX0_part
  refine g_iload_n hC dX0_part_0 (j := 2) rfl rfl ?_
  refine g_if_ne hC dX0_part_1 ?_ ?_
  · refine g_aload_n hC dX0_part_4 (j := 0) rfl rfl ?_
    refine g_iconst hC dX0_part_5 ic_1 ?_
    refine g_putZL hC fp_0_5 h_b rfl dX0_part_6 flX0_28 (fun U1 => ?_)
    refine g_iconst hC dX0_part_9 ic_0 ?_
    exact g_iret_iV hC hT dX0_part_10
  · refine g_iload_n hC dX0_part_11 (j := 1) rfl rfl ?_
    refine g_iload_n hC dX0_part_12 (j := 2) rfl rfl ?_
    refine g_dvI hC dX0_part_13 (fun t2 => ?_)
    exact g_iret_iV hC hT dX0_part_14
def fX0_run (rec : V2 → Nat → Int32 → Int32 → Int32 → Option (Int32 × V2)) (V : V2) (b : Nat) (a1 : Int32) (a2 : Int32) (a3 : Int32) : Option (Int32 × V2) :=
  if (V b 5) = 0 then (if a3 ≤ (20 : Int32) then (((if (nI 30) ≤ (V b 1) then (some V)
  else ((stI 30 V (b + 1) (V b 1) a1).bind fun U2 =>
  letv (up2 U2 b 1 ((U2 b 1) + 1)) fun U3 =>
  some U3) : Option (V2))).bind fun j1 =>
  letv (a3 + 1) fun x4 =>
  if a1 = 10 then (some ((a2 * 6) - (2 * (j1 b 3)), j1))
  else (if a1 = 11 then ((pX0_bodyOf j1 b 0).bind fun q6 =>
  (rec j1 b q6 a2 x4).bind fun q7 =>
  some (q7.1 + (7 * (q7.2 b 4)), q7.2))
  else (if a1 = 12 then ((pX0_part j1 b a2 (((j1 b 3) - (j1 b 4)) + 2)).bind fun q9 =>
  some (q9.1, q9.2))
  else (if a1 = 13 then ((pX0_bodyOf j1 b 1).bind fun q11 =>
  (rec j1 b q11 a2 x4).bind fun q12 =>
  (pX0_bodyOf q12.2 b 2).bind fun q13 =>
  (rec q12.2 b q13 a2 x4).bind fun q14 =>
  some (q12.1 - q14.1, q14.2))
  else (if a1 = 20 then ((rec j1 b 10 a2 x4).bind fun q16 =>
  some (q16.1 ^^^ 23, q16.2))
  else (if a1 = 30 then ((rec j1 b 11 a2 x4).bind fun q18 =>
  some (q18.1 * 2, q18.2))
  else (if a1 = 40 then ((rec j1 b 12 a2 x4).bind fun q20 =>
  some (q20.1 + 8, q20.2))
  else (if a1 = 50 then ((rec j1 b 10 (a2 + 9) x4).bind fun q22 =>
  some (q22.1, q22.2))
  else (if a1 = 51 then ((rec j1 b 13 a2 x4).bind fun q24 =>
  (pX0_bodyOf q24.2 b 1).bind fun q25 =>
  (rec q24.2 b q25 (q24.2 b 4) x4).bind fun q26 =>
  some (q24.1 - q26.1, q26.2))
  else (if a1 = 60 then ((rec j1 b 11 a2 x4).bind fun q28 =>
  some (0 - q28.1, q28.2))
  else (if a1 = 61 then ((rec j1 b 40 a2 x4).bind fun q30 =>
  (pX0_bodyOf q30.2 b 0).bind fun q31 =>
  (rec q30.2 b q31 (q30.2 b 3) x4).bind fun q32 =>
  some (q30.1 ^^^ q32.1, q32.2))
  else (some (0, j1)))))))))))))
  else (some (0, V)))
  else (some (0, V))
set_option maxHeartbeats 4000000 in
set_option maxRecDepth 100000 in
theorem kfX0_run {l : Launch} {D : Dx} {G : G2} {V : V2} {R : R2} {rec : V2 → Nat → Int32 → Int32 → Int32 → Option (Int32 × V2)} {N : Nat} {b : Nat} {a1 : Int32} {a2 : Int32} {a3 : Int32} (hrec : ∀ {l : Launch} {D : Dx} {G : G2} {V : V2} {R : R2} {b : Nat} {a1 : Int32} {a2 : Int32} {a3 : Int32} (hG : GX G) (h_b : own G b 10) {o : Int32 × V2}, rec V b a1 a2 a3 = some o → Con l yX0_run cX0_run 5 (some .int) (rmN N 0 0) D G V R [.ref b, .int a1, .int a2, .int a3] (some (.int o.1), o.2, R, G, 0, 0)) (hN : 2 ≤ N) (hG : GX G) (h_b : own G b 10) {o : Int32 × V2} (hf : fX0_run rec V b a1 a2 a3 = some o) : Con l yX0_run cX0_run 5 (some .int) (rmN (N + 1) 0 0) D G V R [.ref b, .int a1, .int a2, .int a3] (some (.int o.1), o.2, R, G, 0, 0) := by
  refine Con.mk RX0 (by decide) rfl (Nat.le_of_ble_eq_true rfl) (fun C _ hR hT _ _ hL hC hnm => ?_)
  revert hf
  unfold fX0_run
  refine g_aload_n hC dX0_run_0 (j := 0) rfl rfl ?_
  refine g_getI hC fi_0_5 h_b dX0_run_1 flX0_28 ?_
  refine g_if_ne hC dX0_run_4 ?_ ?_
  · refine g_iload_n hC dX0_run_7 (j := 3) rfl rfl ?_
    refine g_bipush hC dX0_run_8 bc_20 ?_
    refine g_icmp_le hC dX0_run_10 ?_ ?_
    · refine g_aload_n hC dX0_run_15 (j := 0) rfl rfl ?_
      refine g_getI hC fi_0_1 h_b dX0_run_16 flX0_15 ?_
      refine g_aload_n hC dX0_run_19 (j := 0) rfl rfl ?_
      refine g_getR hC fr_0_0 h_b (b := b + 1) rfl dX0_run_20 flX0_9 ?_
      refine g_alenV hC (gx_0_0 hG h_b) (gl_0_0 hG h_b) dX0_run_23 ?_
      refine g_bind (J := fun j1 => Go C 47 [(0, .ref b), (1, .int a1), (2, .int a2), (3, .int a3)] [] j1 R G 0 0) (fun j1 hJ => ?_) (fun j1 => ?_)
      · refine g_icmp_ge hC dX0_run_24 ?_ ?_
        · exact fun e => by cases e; exact hJ
        · refine g_aload_n hC dX0_run_27 (j := 0) rfl rfl ?_
          refine g_getR hC fr_0_0 h_b (b := b + 1) rfl dX0_run_28 flX0_9 ?_
          refine g_aload_n hC dX0_run_31 (j := 0) rfl rfl ?_
          refine g_getI hC fi_0_1 h_b dX0_run_32 flX0_15 ?_
          refine g_iload_n hC dX0_run_35 (j := 1) rfl rfl ?_
          refine g_iastV hC (gx_0_0 hG h_b) (gl_0_0 hG h_b) dX0_run_36 (fun U2 => ?_)
          refine g_aload_n hC dX0_run_37 (j := 0) rfl rfl ?_
          refine g_dup hC dX0_run_38 rfl ?_
          refine g_getI hC fi_0_1 h_b dX0_run_39 flX0_15 ?_
          refine g_iconst hC dX0_run_42 ic_1 ?_
          refine g_iadd hC dX0_run_43 ?_
          refine g_putIL hC fp_0_1 h_b dX0_run_44 flX0_15 (fun U3 => ?_)
          exact fun e => by cases e; exact hJ
      · refine g_iload_n hC dX0_run_47 (j := 3) rfl rfl ?_
        refine g_iconst hC dX0_run_48 ic_1 ?_
        refine g_iadd hC dX0_run_49 ?_
        refine g_istoreL hC (n0 := 5) (lv' := fun x4 => [(4, .int x4), (0, .ref b), (1, .int a1), (2, .int a2), (3, .int a3)]) dX0_run_50 (Nat.le_of_ble_eq_true rfl) hL (fun _ => rfl) (fun x4 => ?_)
        refine g_iload_n hC dX0_run_52 (j := 2) rfl rfl ?_
        refine g_lsw hC 10 (99) (tgt := 152) dX0_run_53 (by decide) (by decide) rfl ?_ (fun hn5 => ?_)
        · refine g_iload_n hC dX0_run_152 (j := 3) rfl rfl ?_
          refine g_bipush hC dX0_run_153 bc_6 ?_
          refine g_imul hC dX0_run_155 ?_
          refine g_iconst hC dX0_run_156 ic_2 ?_
          refine g_aload_n hC dX0_run_157 (j := 1) rfl rfl ?_
          refine g_getI hC fi_0_3 h_b dX0_run_158 flX0_22 ?_
          refine g_imul hC dX0_run_161 ?_
          refine g_isub hC dX0_run_162 ?_
          exact g_iret_iV hC hT dX0_run_163
        refine g_lsw hC 11 (111) (tgt := 164) dX0_run_53 (by decide) (by decide) rfl ?_ (fun hn8 => ?_)
        · refine g_aload_n hC dX0_run_164 (j := 1) rfl rfl ?_
          refine g_aload_n hC dX0_run_165 (j := 1) rfl rfl ?_
          refine g_iconst hC dX0_run_166 ic_0 ?_
          refine g_callV_i hC hR ⟨Nat.zero_le _, Nat.zero_le _⟩ mwX0_bodyOf miX0_bodyOf (ci := 0) rfl h_b (Nat.le_of_ble_eq_true rfl) mlX0_32 (fun _ hq => kX0_bodyOf hG h_b hq) (by have := hN; omega) rfl (st := [.ref b]) rfl (Nat.le_of_ble_eq_true rfl) dX0_run_167 (fun q6 => ?_)
          refine g_iload_n hC dX0_run_170 (j := 3) rfl rfl ?_
          refine g_iload hC dX0_run_171 (j := 0) rfl ?_
          refine g_callV_iV hC hR ⟨Nat.zero_le _, Nat.zero_le _⟩ mwX0_run miX0_run (ci := 0) rfl h_b (Nat.le_of_ble_eq_true rfl) mlX0_36 (fun _ hq => hrec hG h_b hq) (by have := hN; omega) rfl (st := []) rfl (Nat.le_of_ble_eq_true rfl) dX0_run_173 (fun q7 => ?_)
          refine g_bipush hC dX0_run_176 bc_7 ?_
          refine g_aload_n hC dX0_run_178 (j := 1) rfl rfl ?_
          refine g_getI hC fi_0_4 h_b dX0_run_179 flX0_25 ?_
          refine g_imul hC dX0_run_182 ?_
          refine g_iadd hC dX0_run_183 ?_
          exact g_iret_iV hC hT dX0_run_184
        refine g_lsw hC 12 (132) (tgt := 185) dX0_run_53 (by decide) (by decide) rfl ?_ (fun hn10 => ?_)
        · refine g_aload_n hC dX0_run_185 (j := 1) rfl rfl ?_
          refine g_iload_n hC dX0_run_186 (j := 3) rfl rfl ?_
          refine g_aload_n hC dX0_run_187 (j := 1) rfl rfl ?_
          refine g_getI hC fi_0_3 h_b dX0_run_188 flX0_22 ?_
          refine g_aload_n hC dX0_run_191 (j := 1) rfl rfl ?_
          refine g_getI hC fi_0_4 h_b dX0_run_192 flX0_25 ?_
          refine g_isub hC dX0_run_195 ?_
          refine g_iconst hC dX0_run_196 ic_2 ?_
          refine g_iadd hC dX0_run_197 ?_
          refine g_callV_iV hC hR ⟨Nat.zero_le _, Nat.zero_le _⟩ mwX0_part miX0_part (ci := 0) rfl h_b (Nat.le_of_ble_eq_true rfl) mlX0_47 (fun _ hq => kX0_part hG h_b hq) (by have := hN; omega) rfl (st := []) rfl (Nat.le_of_ble_eq_true rfl) dX0_run_198 (fun q9 => ?_)
          exact g_iret_iV hC hT dX0_run_201
        refine g_lsw hC 13 (149) (tgt := 202) dX0_run_53 (by decide) (by decide) rfl ?_ (fun hn15 => ?_)
        · refine g_aload_n hC dX0_run_202 (j := 1) rfl rfl ?_
          refine g_aload_n hC dX0_run_203 (j := 1) rfl rfl ?_
          refine g_iconst hC dX0_run_204 ic_1 ?_
          refine g_callV_i hC hR ⟨Nat.zero_le _, Nat.zero_le _⟩ mwX0_bodyOf miX0_bodyOf (ci := 0) rfl h_b (Nat.le_of_ble_eq_true rfl) mlX0_32 (fun _ hq => kX0_bodyOf hG h_b hq) (by have := hN; omega) rfl (st := [.ref b]) rfl (Nat.le_of_ble_eq_true rfl) dX0_run_205 (fun q11 => ?_)
          refine g_iload_n hC dX0_run_208 (j := 3) rfl rfl ?_
          refine g_iload hC dX0_run_209 (j := 0) rfl ?_
          refine g_callV_iV hC hR ⟨Nat.zero_le _, Nat.zero_le _⟩ mwX0_run miX0_run (ci := 0) rfl h_b (Nat.le_of_ble_eq_true rfl) mlX0_36 (fun _ hq => hrec hG h_b hq) (by have := hN; omega) rfl (st := []) rfl (Nat.le_of_ble_eq_true rfl) dX0_run_211 (fun q12 => ?_)
          refine g_aload_n hC dX0_run_214 (j := 1) rfl rfl ?_
          refine g_aload_n hC dX0_run_215 (j := 1) rfl rfl ?_
          refine g_iconst hC dX0_run_216 ic_2 ?_
          refine g_callV_i hC hR ⟨Nat.zero_le _, Nat.zero_le _⟩ mwX0_bodyOf miX0_bodyOf (ci := 0) rfl h_b (Nat.le_of_ble_eq_true rfl) mlX0_32 (fun _ hq => kX0_bodyOf hG h_b hq) (by have := hN; omega) rfl (st := [.ref b, .int q12.1]) rfl (Nat.le_of_ble_eq_true rfl) dX0_run_217 (fun q13 => ?_)
          refine g_iload_n hC dX0_run_220 (j := 3) rfl rfl ?_
          refine g_iload hC dX0_run_221 (j := 0) rfl ?_
          refine g_callV_iV hC hR ⟨Nat.zero_le _, Nat.zero_le _⟩ mwX0_run miX0_run (ci := 0) rfl h_b (Nat.le_of_ble_eq_true rfl) mlX0_36 (fun _ hq => hrec hG h_b hq) (by have := hN; omega) rfl (st := [.int q12.1]) rfl (Nat.le_of_ble_eq_true rfl) dX0_run_223 (fun q14 => ?_)
          refine g_isub hC dX0_run_226 ?_
          exact g_iret_iV hC hT dX0_run_227
        refine g_lsw hC 20 (175) (tgt := 228) dX0_run_53 (by decide) (by decide) rfl ?_ (fun hn17 => ?_)
        · refine g_aload_n hC dX0_run_228 (j := 1) rfl rfl ?_
          refine g_bipush hC dX0_run_229 bc_10 ?_
          refine g_iload_n hC dX0_run_231 (j := 3) rfl rfl ?_
          refine g_iload hC dX0_run_232 (j := 0) rfl ?_
          refine g_callV_iV hC hR ⟨Nat.zero_le _, Nat.zero_le _⟩ mwX0_run miX0_run (ci := 0) rfl h_b (Nat.le_of_ble_eq_true rfl) mlX0_36 (fun _ hq => hrec hG h_b hq) (by have := hN; omega) rfl (st := []) rfl (Nat.le_of_ble_eq_true rfl) dX0_run_234 (fun q16 => ?_)
          refine g_bipush hC dX0_run_237 bc_23 ?_
          refine g_ixor hC dX0_run_239 ?_
          exact g_iret_iV hC hT dX0_run_240
        refine g_lsw hC 30 (188) (tgt := 241) dX0_run_53 (by decide) (by decide) rfl ?_ (fun hn19 => ?_)
        · refine g_aload_n hC dX0_run_241 (j := 1) rfl rfl ?_
          refine g_bipush hC dX0_run_242 bc_11 ?_
          refine g_iload_n hC dX0_run_244 (j := 3) rfl rfl ?_
          refine g_iload hC dX0_run_245 (j := 0) rfl ?_
          refine g_callV_iV hC hR ⟨Nat.zero_le _, Nat.zero_le _⟩ mwX0_run miX0_run (ci := 0) rfl h_b (Nat.le_of_ble_eq_true rfl) mlX0_36 (fun _ hq => hrec hG h_b hq) (by have := hN; omega) rfl (st := []) rfl (Nat.le_of_ble_eq_true rfl) dX0_run_247 (fun q18 => ?_)
          refine g_iconst hC dX0_run_250 ic_2 ?_
          refine g_imul hC dX0_run_251 ?_
          exact g_iret_iV hC hT dX0_run_252
        refine g_lsw hC 40 (200) (tgt := 253) dX0_run_53 (by decide) (by decide) rfl ?_ (fun hn21 => ?_)
        · refine g_aload_n hC dX0_run_253 (j := 1) rfl rfl ?_
          refine g_bipush hC dX0_run_254 bc_12 ?_
          refine g_iload_n hC dX0_run_256 (j := 3) rfl rfl ?_
          refine g_iload hC dX0_run_257 (j := 0) rfl ?_
          refine g_callV_iV hC hR ⟨Nat.zero_le _, Nat.zero_le _⟩ mwX0_run miX0_run (ci := 0) rfl h_b (Nat.le_of_ble_eq_true rfl) mlX0_36 (fun _ hq => hrec hG h_b hq) (by have := hN; omega) rfl (st := []) rfl (Nat.le_of_ble_eq_true rfl) dX0_run_259 (fun q20 => ?_)
          refine g_bipush hC dX0_run_262 bc_8 ?_
          refine g_iadd hC dX0_run_264 ?_
          exact g_iret_iV hC hT dX0_run_265
        refine g_lsw hC 50 (213) (tgt := 266) dX0_run_53 (by decide) (by decide) rfl ?_ (fun hn23 => ?_)
        · refine g_aload_n hC dX0_run_266 (j := 1) rfl rfl ?_
          refine g_bipush hC dX0_run_267 bc_10 ?_
          refine g_iload_n hC dX0_run_269 (j := 3) rfl rfl ?_
          refine g_bipush hC dX0_run_270 bc_9 ?_
          refine g_iadd hC dX0_run_272 ?_
          refine g_iload hC dX0_run_273 (j := 0) rfl ?_
          refine g_callV_iV hC hR ⟨Nat.zero_le _, Nat.zero_le _⟩ mwX0_run miX0_run (ci := 0) rfl h_b (Nat.le_of_ble_eq_true rfl) mlX0_36 (fun _ hq => hrec hG h_b hq) (by have := hN; omega) rfl (st := []) rfl (Nat.le_of_ble_eq_true rfl) dX0_run_275 (fun q22 => ?_)
          exact g_iret_iV hC hT dX0_run_278
        refine g_lsw hC 51 (226) (tgt := 279) dX0_run_53 (by decide) (by decide) rfl ?_ (fun hn27 => ?_)
        · refine g_aload_n hC dX0_run_279 (j := 1) rfl rfl ?_
          refine g_bipush hC dX0_run_280 bc_13 ?_
          refine g_iload_n hC dX0_run_282 (j := 3) rfl rfl ?_
          refine g_iload hC dX0_run_283 (j := 0) rfl ?_
          refine g_callV_iV hC hR ⟨Nat.zero_le _, Nat.zero_le _⟩ mwX0_run miX0_run (ci := 0) rfl h_b (Nat.le_of_ble_eq_true rfl) mlX0_36 (fun _ hq => hrec hG h_b hq) (by have := hN; omega) rfl (st := []) rfl (Nat.le_of_ble_eq_true rfl) dX0_run_285 (fun q24 => ?_)
          refine g_aload_n hC dX0_run_288 (j := 1) rfl rfl ?_
          refine g_aload_n hC dX0_run_289 (j := 1) rfl rfl ?_
          refine g_iconst hC dX0_run_290 ic_1 ?_
          refine g_callV_i hC hR ⟨Nat.zero_le _, Nat.zero_le _⟩ mwX0_bodyOf miX0_bodyOf (ci := 0) rfl h_b (Nat.le_of_ble_eq_true rfl) mlX0_32 (fun _ hq => kX0_bodyOf hG h_b hq) (by have := hN; omega) rfl (st := [.ref b, .int q24.1]) rfl (Nat.le_of_ble_eq_true rfl) dX0_run_291 (fun q25 => ?_)
          refine g_aload_n hC dX0_run_294 (j := 1) rfl rfl ?_
          refine g_getI hC fi_0_4 h_b dX0_run_295 flX0_25 ?_
          refine g_iload hC dX0_run_298 (j := 0) rfl ?_
          refine g_callV_iV hC hR ⟨Nat.zero_le _, Nat.zero_le _⟩ mwX0_run miX0_run (ci := 0) rfl h_b (Nat.le_of_ble_eq_true rfl) mlX0_36 (fun _ hq => hrec hG h_b hq) (by have := hN; omega) rfl (st := [.int q24.1]) rfl (Nat.le_of_ble_eq_true rfl) dX0_run_300 (fun q26 => ?_)
          refine g_isub hC dX0_run_303 ?_
          exact g_iret_iV hC hT dX0_run_304
        refine g_lsw hC 60 (252) (tgt := 305) dX0_run_53 (by decide) (by decide) rfl ?_ (fun hn29 => ?_)
        · refine g_iconst hC dX0_run_305 ic_0 ?_
          refine g_aload_n hC dX0_run_306 (j := 1) rfl rfl ?_
          refine g_bipush hC dX0_run_307 bc_11 ?_
          refine g_iload_n hC dX0_run_309 (j := 3) rfl rfl ?_
          refine g_iload hC dX0_run_310 (j := 0) rfl ?_
          refine g_callV_iV hC hR ⟨Nat.zero_le _, Nat.zero_le _⟩ mwX0_run miX0_run (ci := 0) rfl h_b (Nat.le_of_ble_eq_true rfl) mlX0_36 (fun _ hq => hrec hG h_b hq) (by have := hN; omega) rfl (st := [.int 0]) rfl (Nat.le_of_ble_eq_true rfl) dX0_run_312 (fun q28 => ?_)
          refine g_isub hC dX0_run_315 ?_
          exact g_iret_iV hC hT dX0_run_316
        refine g_lsw hC 61 (264) (tgt := 317) dX0_run_53 (by decide) (by decide) rfl ?_ (fun hn33 => ?_)
        · refine g_aload_n hC dX0_run_317 (j := 1) rfl rfl ?_
          refine g_bipush hC dX0_run_318 bc_40 ?_
          refine g_iload_n hC dX0_run_320 (j := 3) rfl rfl ?_
          refine g_iload hC dX0_run_321 (j := 0) rfl ?_
          refine g_callV_iV hC hR ⟨Nat.zero_le _, Nat.zero_le _⟩ mwX0_run miX0_run (ci := 0) rfl h_b (Nat.le_of_ble_eq_true rfl) mlX0_36 (fun _ hq => hrec hG h_b hq) (by have := hN; omega) rfl (st := []) rfl (Nat.le_of_ble_eq_true rfl) dX0_run_323 (fun q30 => ?_)
          refine g_aload_n hC dX0_run_326 (j := 1) rfl rfl ?_
          refine g_aload_n hC dX0_run_327 (j := 1) rfl rfl ?_
          refine g_iconst hC dX0_run_328 ic_0 ?_
          refine g_callV_i hC hR ⟨Nat.zero_le _, Nat.zero_le _⟩ mwX0_bodyOf miX0_bodyOf (ci := 0) rfl h_b (Nat.le_of_ble_eq_true rfl) mlX0_32 (fun _ hq => kX0_bodyOf hG h_b hq) (by have := hN; omega) rfl (st := [.ref b, .int q30.1]) rfl (Nat.le_of_ble_eq_true rfl) dX0_run_329 (fun q31 => ?_)
          refine g_aload_n hC dX0_run_332 (j := 1) rfl rfl ?_
          refine g_getI hC fi_0_3 h_b dX0_run_333 flX0_22 ?_
          refine g_iload hC dX0_run_336 (j := 0) rfl ?_
          refine g_callV_iV hC hR ⟨Nat.zero_le _, Nat.zero_le _⟩ mwX0_run miX0_run (ci := 0) rfl h_b (Nat.le_of_ble_eq_true rfl) mlX0_36 (fun _ hq => hrec hG h_b hq) (by have := hN; omega) rfl (st := [.int q30.1]) rfl (Nat.le_of_ble_eq_true rfl) dX0_run_338 (fun q32 => ?_)
          refine g_ixor hC dX0_run_341 ?_
          exact g_iret_iV hC hT dX0_run_342
        refine g_lswd hC (tgt := 343) dX0_run_53 (by decide) (by rw [lv_osw hn5 (by decide)]; rw [lv_osw hn8 (by decide)]; rw [lv_osw hn10 (by decide)]; rw [lv_osw hn15 (by decide)]; rw [lv_osw hn17 (by decide)]; rw [lv_osw hn19 (by decide)]; rw [lv_osw hn21 (by decide)]; rw [lv_osw hn23 (by decide)]; rw [lv_osw hn27 (by decide)]; rw [lv_osw hn29 (by decide)]; rw [lv_osw hn33 (by decide)]; rfl) rfl ?_
        refine g_iconst hC dX0_run_343 ic_0 ?_
        exact g_iret_iV hC hT dX0_run_344
    · refine g_iconst hC dX0_run_13 ic_0 ?_
      exact g_iret_iV hC hT dX0_run_14
  · refine g_iconst hC dX0_run_13 ic_0 ?_
    exact g_iret_iV hC hT dX0_run_14
def pX0_run : Nat → V2 → Nat → Int32 → Int32 → Int32 → Option (Int32 × V2)
  | 0 => fun _ _ _ _ _ => none
  | d + 1 => fX0_run (pX0_run d)
theorem kX0_run : ∀ (d : Nat) {l : Launch} {D : Dx} {G : G2} {V : V2} {R : R2} {b : Nat} {a1 : Int32} {a2 : Int32} {a3 : Int32} (hG : GX G) (h_b : own G b 10) {o : Int32 × V2}, pX0_run d V b a1 a2 a3 = some o → Con l yX0_run cX0_run 5 (some .int) (rmN (2 + 1 * d) 0 0) D G V R [.ref b, .int a1, .int a2, .int a3] (some (.int o.1), o.2, R, G, 0, 0) := by
  intro d
  induction d with
  | zero => intro _ _ _ _ _ _ _ _ _ _ _ _ hf; exact absurd hf (by unfold pX0_run; exact fun z => nomatch z)
  | succ d ih =>
    intro l D G V R _ _ _ _ hG h_b _ hf
    have := kfX0_run (l := l) (D := D) (V := V) (R := R) (N := 2 + 1 * d) ih (by omega) hG h_b hf
    rw [show 2 + 1 * (d + 1) = 2 + 1 * d + 1 by omega]
    exact this
def pX0_doAct (V : V2) (b : Nat) (a1 : Int32) (a2 : Int32) : Option (Int32 × V2) :=
  letv (up2 V b 5 0) fun U1 =>
  (pX0_bodyOf U1 b a1).bind fun q2 =>
  (pX0_run 10 U1 b q2 a2 0).bind fun q3 =>
  if (q3.2 b 5) = 0 then (some (q3.1, q3.2))
  else (some ((-15), q3.2))
set_option maxHeartbeats 4000000 in
set_option maxRecDepth 100000 in
theorem kX0_doAct {l : Launch} {D : Dx} {G : G2} {V : V2} {R : R2} {b : Nat} {a1 : Int32} {a2 : Int32} (hG : GX G) (h_b : own G b 10) {o : Int32 × V2} (hf : pX0_doAct V b a1 a2 = some o) : Con l yX0_doAct cX0_doAct 4 (some .int) (rmN 13 0 0) D G V R [.ref b, .int a1, .int a2] (some (.int o.1), o.2, R, G, 0, 0) := by
  refine Con.mk RX0 (by decide) rfl (Nat.le_of_ble_eq_true rfl) (fun C _ hR hT _ _ hL hC hnm => ?_)
  revert hf
  unfold pX0_doAct
  refine g_aload_n hC dX0_doAct_0 (j := 0) rfl rfl ?_
  refine g_iconst hC dX0_doAct_1 ic_0 ?_
  refine g_putZL hC fp_0_5 h_b rfl dX0_doAct_2 flX0_28 (fun U1 => ?_)
  refine g_aload_n hC dX0_doAct_5 (j := 0) rfl rfl ?_
  refine g_aload_n hC dX0_doAct_6 (j := 0) rfl rfl ?_
  refine g_iload_n hC dX0_doAct_7 (j := 1) rfl rfl ?_
  refine g_callV_i hC hR ⟨Nat.zero_le _, Nat.zero_le _⟩ mwX0_bodyOf miX0_bodyOf (ci := 0) rfl h_b (Nat.le_of_ble_eq_true rfl) mlX0_32 (fun _ hq => kX0_bodyOf hG h_b hq) (Nat.le_of_ble_eq_true rfl) rfl (st := [.ref b]) rfl (Nat.le_of_ble_eq_true rfl) dX0_doAct_8 (fun q2 => ?_)
  refine g_iload_n hC dX0_doAct_11 (j := 2) rfl rfl ?_
  refine g_iconst hC dX0_doAct_12 ic_0 ?_
  refine g_callV_iV hC hR ⟨Nat.zero_le _, Nat.zero_le _⟩ mwX0_run miX0_run (ci := 0) rfl h_b (Nat.le_of_ble_eq_true rfl) mlX0_36 (fun _ hq => kX0_run 10 hG h_b hq) (Nat.le_of_ble_eq_true rfl) rfl (st := []) rfl (Nat.le_of_ble_eq_true rfl) dX0_doAct_13 (fun q3 => ?_)
  refine g_istore_n hC (n0 := 4) (lv' := [(3, .int q3.1), (0, .ref b), (1, .int a1), (2, .int a2)]) dX0_doAct_16 rfl (Nat.le_of_ble_eq_true rfl) hL rfl ?_
  refine g_aload_n hC dX0_doAct_17 (j := 1) rfl rfl ?_
  refine g_getI hC fi_0_5 h_b dX0_doAct_18 flX0_28 ?_
  refine g_if_eq hC dX0_doAct_21 ?_ ?_
  · refine g_iload_n hC dX0_doAct_29 (j := 0) rfl rfl ?_
    exact g_iret_iV hC hT dX0_doAct_30
  · refine g_bipush hC dX0_doAct_24 bc_m15 ?_
    refine g_goto hC dX0_doAct_26 ?_
    exact g_iret_iV hC hT dX0_doAct_30
def pX8_act (V : V2) (b : Nat) (a1 : Int32) (a2 : Int32) (a3 : Int32) : Option (Int32 × V2) :=
  (pX0_forgetBodies V (b + 73)).bind fun q1 =>
  (pX8_within a1 0 3).bind fun q2 =>
  if q2 = 0 then (some (0, q1))
  else ((pX8_within a2 0 3).bind fun q3 =>
  if q3 = 0 then (some (0, q1))
  else ((ldI 4 (q1 (b + 71)) a1).bind fun t4 =>
  (pX8_isThing q1 b t4).bind fun q5 =>
  if q5 = 0 then (some (0, q1))
  else ((ldI 6 (q1 (b + 3)) t4).bind fun t6 =>
  (ldI 6 (q1 (b + 6)) t4).bind fun t7 =>
  (pX0_become q1 (b + 73) t6 t4 t7).bind fun q8 =>
  (pX0_doAct q8 (b + 73) a2 a3).bind fun q9 =>
  some (q9.1, q9.2))))
set_option maxHeartbeats 4000000 in
set_option maxRecDepth 100000 in
theorem kX8_act {l : Launch} {D : Dx} {G : G2} {V : V2} {R : R2} {b : Nat} {a1 : Int32} {a2 : Int32} {a3 : Int32} (hG : GX G) (h_b : own G b 18) {o : Int32 × V2} (hf : pX8_act V b a1 a2 a3 = some o) : Con l yX8_act cX8_act 5 (some .int) (rmN 14 0 0) D G V R [.ref b, .int a1, .int a2, .int a3] (some (.int o.1), o.2, R, G, 0, 0) := by
  refine Con.mk RX8 (by decide) rfl (Nat.le_of_ble_eq_true rfl) (fun C _ hR hT _ _ hL hC hnm => ?_)
  revert hf
  unfold pX8_act
  refine g_aload_n hC dX8_act_0 (j := 0) rfl rfl ?_
  refine g_getR hC fr_8_11 h_b (b := b + 73) rfl dX8_act_1 flX8_67 ?_
  refine g_callV_vV hC hR ⟨Nat.zero_le _, Nat.zero_le _⟩ mwX0_forgetBodies miX0_forgetBodies (ci := 0) rfl (gx_8_11 hG h_b) (Nat.le_of_ble_eq_true rfl) mlX8_332 (fun _ hq => kX0_forgetBodies hG (gx_8_11 hG h_b) hq) (Nat.le_of_ble_eq_true rfl) rfl (st := []) rfl (Nat.le_of_ble_eq_true rfl) dX8_act_4 (fun q1 => ?_)
  refine g_iload_n hC dX8_act_7 (j := 1) rfl rfl ?_
  refine g_iconst hC dX8_act_8 ic_0 ?_
  refine g_iconst hC dX8_act_9 ic_3 ?_
  refine g_callS_i hC hR ⟨Nat.zero_le _, Nat.zero_le _⟩ mwX8_within ms_X8_within mlX8_77 (fun _ hq => kX8_within  hq) (Nat.le_of_ble_eq_true rfl) rfl (st := []) rfl (Nat.le_of_ble_eq_true rfl) dX8_act_10 (fun q2 => ?_)
  refine g_if_eq hC dX8_act_13 ?_ ?_
  · refine g_iconst hC dX8_act_25 ic_0 ?_
    exact g_iret_iV hC hT dX8_act_26
  · refine g_iload_n hC dX8_act_16 (j := 2) rfl rfl ?_
    refine g_iconst hC dX8_act_17 ic_0 ?_
    refine g_iconst hC dX8_act_18 ic_3 ?_
    refine g_callS_i hC hR ⟨Nat.zero_le _, Nat.zero_le _⟩ mwX8_within ms_X8_within mlX8_77 (fun _ hq => kX8_within  hq) (Nat.le_of_ble_eq_true rfl) rfl (st := []) rfl (Nat.le_of_ble_eq_true rfl) dX8_act_19 (fun q3 => ?_)
    refine g_if_ne hC dX8_act_22 ?_ ?_
    · refine g_iconst hC dX8_act_25 ic_0 ?_
      exact g_iret_iV hC hT dX8_act_26
    · refine g_aload_n hC dX8_act_27 (j := 0) rfl rfl ?_
      refine g_getR hC fr_8_9 h_b (b := b + 71) rfl dX8_act_28 flX8_58 ?_
      refine g_iload_n hC dX8_act_31 (j := 1) rfl rfl ?_
      refine g_ialdV hC (gx_8_9 hG h_b) (gl_8_9 hG h_b) dX8_act_32 (fun t4 => ?_)
      refine g_istore hC (n0 := 5) (lv' := [(4, .int t4), (0, .ref b), (1, .int a1), (2, .int a2), (3, .int a3)]) dX8_act_33 (Nat.le_of_ble_eq_true rfl) hL rfl ?_
      refine g_aload_n hC dX8_act_35 (j := 1) rfl rfl ?_
      refine g_iload hC dX8_act_36 (j := 0) rfl ?_
      refine g_callV_i hC hR ⟨Nat.zero_le _, Nat.zero_le _⟩ mwX8_isThing miX8_isThing (ci := 8) rfl h_b (Nat.le_of_ble_eq_true rfl) mlX8_103 (fun _ hq => kX8_isThing hG h_b hq) (Nat.le_of_ble_eq_true rfl) rfl (st := []) rfl (Nat.le_of_ble_eq_true rfl) dX8_act_38 (fun q5 => ?_)
      refine g_if_ne hC dX8_act_41 ?_ ?_
      · refine g_iconst hC dX8_act_44 ic_0 ?_
        exact g_iret_iV hC hT dX8_act_45
      · refine g_aload_n hC dX8_act_46 (j := 1) rfl rfl ?_
        refine g_getR hC fr_8_11 h_b (b := b + 73) rfl dX8_act_47 flX8_67 ?_
        refine g_aload_n hC dX8_act_50 (j := 1) rfl rfl ?_
        refine g_getR hC fr_8_0 h_b (b := b + 1) rfl dX8_act_51 flX8_10 ?_
        refine g_getR hC fr_1_0 (gx_8_0 hG h_b) (b := b + 2) rfl dX8_act_54 flX8_81 ?_
        refine g_getR hC fr_2_3 (gx_1_0 hG (gx_8_0 hG h_b)) (b := b + 3) rfl dX8_act_57 flX8_87 ?_
        refine g_iload hC dX8_act_60 (j := 0) rfl ?_
        refine g_ialdV hC (gx_2_3 hG (gx_1_0 hG (gx_8_0 hG h_b))) (gl_2_3 hG (gx_1_0 hG (gx_8_0 hG h_b))) dX8_act_62 (fun t6 => ?_)
        refine g_iload hC dX8_act_63 (j := 0) rfl ?_
        refine g_aload_n hC dX8_act_65 (j := 1) rfl rfl ?_
        refine g_getR hC fr_8_0 h_b (b := b + 1) rfl dX8_act_66 flX8_10 ?_
        refine g_getR hC fr_1_0 (gx_8_0 hG h_b) (b := b + 2) rfl dX8_act_69 flX8_81 ?_
        refine g_getR hC fr_2_6 (gx_1_0 hG (gx_8_0 hG h_b)) (b := b + 6) rfl dX8_act_72 flX8_96 ?_
        refine g_iload hC dX8_act_75 (j := 0) rfl ?_
        refine g_ialdV hC (gx_2_6 hG (gx_1_0 hG (gx_8_0 hG h_b))) (gl_2_6 hG (gx_1_0 hG (gx_8_0 hG h_b))) dX8_act_77 (fun t7 => ?_)
        refine g_callV_vV hC hR ⟨Nat.zero_le _, Nat.zero_le _⟩ mwX0_become miX0_become (ci := 0) rfl (gx_8_11 hG h_b) (Nat.le_of_ble_eq_true rfl) mlX8_335 (fun _ hq => kX0_become hG (gx_8_11 hG h_b) hq) (Nat.le_of_ble_eq_true rfl) rfl (st := []) rfl (Nat.le_of_ble_eq_true rfl) dX8_act_78 (fun q8 => ?_)
        refine g_aload_n hC dX8_act_81 (j := 1) rfl rfl ?_
        refine g_getR hC fr_8_11 h_b (b := b + 73) rfl dX8_act_82 flX8_67 ?_
        refine g_iload_n hC dX8_act_85 (j := 3) rfl rfl ?_
        refine g_iload_n hC dX8_act_86 (j := 4) rfl rfl ?_
        refine g_callV_iV hC hR ⟨Nat.zero_le _, Nat.zero_le _⟩ mwX0_doAct miX0_doAct (ci := 0) rfl (gx_8_11 hG h_b) (Nat.le_of_ble_eq_true rfl) mlX8_339 (fun _ hq => kX0_doAct hG (gx_8_11 hG h_b) hq) (Nat.le_of_ble_eq_true rfl) rfl (st := []) rfl (Nat.le_of_ble_eq_true rfl) dX8_act_87 (fun q9 => ?_)
        exact g_iret_iV hC hT dX8_act_90
def pX8_trace (V : V2) (b : Nat) (a1 : Int32) : Option (Int32) :=
  (pX8_within a1 0 ((V (b + 73) 1) - 1)).bind fun q1 =>
  if q1 = 0 then (some (-3))
  else ((ldI 30 (V (b + 74)) a1).bind fun t2 =>
  some t2)
set_option maxHeartbeats 4000000 in
set_option maxRecDepth 100000 in
theorem kX8_trace {l : Launch} {D : Dx} {G : G2} {V : V2} {R : R2} {b : Nat} {a1 : Int32} (hG : GX G) (h_b : own G b 18) {o : Int32} (hf : pX8_trace V b a1 = some o) : Con l yX8_trace cX8_trace 2 (some .int) (rmN 1 0 0) D G V R [.ref b, .int a1] (some (.int o), V, R, G, 0, 0) := by
  refine Con.mk RX8 (by decide) rfl (Nat.le_of_ble_eq_true rfl) (fun C _ hR hT _ _ hL hC hnm => ?_)
  revert hf
  unfold pX8_trace
  refine g_iload_n hC dX8_trace_0 (j := 1) rfl rfl ?_
  refine g_iconst hC dX8_trace_1 ic_0 ?_
  refine g_aload_n hC dX8_trace_2 (j := 0) rfl rfl ?_
  refine g_getR hC fr_8_11 h_b (b := b + 73) rfl dX8_trace_3 flX8_67 ?_
  refine g_getI hC fi_0_1 (gx_8_11 hG h_b) dX8_trace_6 flX8_342 ?_
  refine g_iconst hC dX8_trace_9 ic_1 ?_
  refine g_isub hC dX8_trace_10 ?_
  refine g_callS_i hC hR ⟨Nat.zero_le _, Nat.zero_le _⟩ mwX8_within ms_X8_within mlX8_77 (fun _ hq => kX8_within  hq) (Nat.le_of_ble_eq_true rfl) rfl (st := []) rfl (Nat.le_of_ble_eq_true rfl) dX8_trace_11 (fun q1 => ?_)
  refine g_if_eq hC dX8_trace_14 ?_ ?_
  · refine g_bipush hC dX8_trace_29 bc_m3 ?_
    exact g_iret_i hC hT dX8_trace_31
  · refine g_aload_n hC dX8_trace_17 (j := 0) rfl rfl ?_
    refine g_getR hC fr_8_11 h_b (b := b + 73) rfl dX8_trace_18 flX8_67 ?_
    refine g_getR hC fr_0_0 (gx_8_11 hG h_b) (b := b + 74) rfl dX8_trace_21 flX8_345 ?_
    refine g_iload_n hC dX8_trace_24 (j := 1) rfl rfl ?_
    refine g_ialdV hC (gx_0_0 hG (gx_8_11 hG h_b)) (gl_0_0 hG (gx_8_11 hG h_b)) dX8_trace_25 (fun t2 => ?_)
    refine g_goto hC dX8_trace_26 ?_
    exact g_iret_i hC hT dX8_trace_31
def pX8_many (V : V2) (b : Nat) (a1 : Int32) : Option (Int32) :=
  if a1 = 0 then (some (V (b + 2) 1))
  else (if a1 = 1 then (some (V (b + 1) 8))
  else (if a1 = 2 then ((pJ6_bitCount_0f7a4 (V (b + 2) 2)).bind fun q3 =>
  some q3)
  else (if a1 = 3 then (some (V (b + 11) 0))
  else (if a1 = 4 then (some (V b 7))
  else (if a1 = 5 then (some (V (b + 65) 1))
  else (if a1 = 6 then (some (V (b + 73) 1))
  else (some (-1))))))))
set_option maxHeartbeats 4000000 in
set_option maxRecDepth 100000 in
theorem kX8_many {l : Launch} {D : Dx} {G : G2} {V : V2} {R : R2} {b : Nat} {a1 : Int32} (hG : GX G) (h_b : own G b 18) {o : Int32} (hf : pX8_many V b a1 = some o) : Con l yX8_many cX8_many 2 (some .int) (rmN 1 0 0) D G V R [.ref b, .int a1] (some (.int o), V, R, G, 0, 0) := by
  refine Con.mk RX8 (by decide) rfl (Nat.le_of_ble_eq_true rfl) (fun C _ hR hT _ _ hL hC hnm => ?_)
  revert hf
  unfold pX8_many
  refine g_iload_n hC dX8_many_0 (j := 1) rfl rfl ?_
  refine g_tsw hC 0 (43) (tgt := 44) dX8_many_1 (by decide) rfl ?_ (fun hn1 => ?_)
  · refine g_aload_n hC dX8_many_44 (j := 0) rfl rfl ?_
    refine g_getR hC fr_8_0 h_b (b := b + 1) rfl dX8_many_45 flX8_10 ?_
    refine g_getR hC fr_1_0 (gx_8_0 hG h_b) (b := b + 2) rfl dX8_many_48 flX8_81 ?_
    refine g_getI hC fi_2_1 (gx_1_0 hG (gx_8_0 hG h_b)) dX8_many_51 flX8_84 ?_
    exact g_iret_i hC hT dX8_many_54
  refine g_tsw hC 1 (54) (tgt := 55) dX8_many_1 (by decide) rfl ?_ (fun hn2 => ?_)
  · refine g_aload_n hC dX8_many_55 (j := 0) rfl rfl ?_
    refine g_getR hC fr_8_0 h_b (b := b + 1) rfl dX8_many_56 flX8_10 ?_
    refine g_getI hC fi_1_8 (gx_8_0 hG h_b) dX8_many_59 flX8_201 ?_
    exact g_iret_i hC hT dX8_many_62
  refine g_tsw hC 2 (62) (tgt := 63) dX8_many_1 (by decide) rfl ?_ (fun hn4 => ?_)
  · refine g_aload_n hC dX8_many_63 (j := 0) rfl rfl ?_
    refine g_getR hC fr_8_0 h_b (b := b + 1) rfl dX8_many_64 flX8_10 ?_
    refine g_getR hC fr_1_0 (gx_8_0 hG h_b) (b := b + 2) rfl dX8_many_67 flX8_81 ?_
    refine g_getI hC fi_2_2 (gx_1_0 hG (gx_8_0 hG h_b)) dX8_many_70 flX8_154 ?_
    refine g_callS_i hC hR ⟨Nat.zero_le _, Nat.zero_le _⟩ mwJ6_bitCount_0f7a4 ms_J6_bitCount_0f7a4 mlX8_348 (fun _ hq => kJ6_bitCount_0f7a4  hq) (Nat.le_of_ble_eq_true rfl) rfl (st := []) rfl (Nat.le_of_ble_eq_true rfl) dX8_many_73 (fun q3 => ?_)
    exact g_iret_i hC hT dX8_many_76
  refine g_tsw hC 3 (76) (tgt := 77) dX8_many_1 (by decide) rfl ?_ (fun hn5 => ?_)
  · refine g_aload_n hC dX8_many_77 (j := 0) rfl rfl ?_
    refine g_getR hC fr_8_0 h_b (b := b + 1) rfl dX8_many_78 flX8_10 ?_
    refine g_getR hC fr_1_9 (gx_8_0 hG h_b) (b := b + 11) rfl dX8_many_81 flX8_261 ?_
    refine g_getI hC fi_3_0 (gx_1_9 hG (gx_8_0 hG h_b)) dX8_many_84 flX8_271 ?_
    exact g_iret_i hC hT dX8_many_87
  refine g_tsw hC 4 (87) (tgt := 88) dX8_many_1 (by decide) rfl ?_ (fun hn6 => ?_)
  · refine g_aload_n hC dX8_many_88 (j := 0) rfl rfl ?_
    refine g_getI hC fi_8_7 h_b dX8_many_89 flX8_48 ?_
    exact g_iret_i hC hT dX8_many_92
  refine g_tsw hC 5 (92) (tgt := 93) dX8_many_1 (by decide) rfl ?_ (fun hn7 => ?_)
  · refine g_aload_n hC dX8_many_93 (j := 0) rfl rfl ?_
    refine g_getR hC fr_8_5 h_b (b := b + 65) rfl dX8_many_94 flX8_40 ?_
    refine g_getI hC fi_5_1 (gx_8_5 hG h_b) dX8_many_97 flX8_351 ?_
    exact g_iret_i hC hT dX8_many_100
  refine g_tsw hC 6 (100) (tgt := 101) dX8_many_1 (by decide) rfl ?_ (fun hn8 => ?_)
  · refine g_aload_n hC dX8_many_101 (j := 0) rfl rfl ?_
    refine g_getR hC fr_8_11 h_b (b := b + 73) rfl dX8_many_102 flX8_67 ?_
    refine g_getI hC fi_0_1 (gx_8_11 hG h_b) dX8_many_105 flX8_342 ?_
    exact g_iret_i hC hT dX8_many_108
  refine g_tswd hC (tgt := 109) dX8_many_1 (by have := And.intro trivial trivial; have := lv_neT (a := 0) hn1 (by decide); have := lv_neT (a := 1) hn2 (by decide); have := lv_neT (a := 2) hn4 (by decide); have := lv_neT (a := 3) hn5 (by decide); have := lv_neT (a := 4) hn6 (by decide); have := lv_neT (a := 5) hn7 (by decide); have := lv_neT (a := 6) hn8 (by decide); omega) rfl ?_
  refine g_iconst hC dX8_many_109 ic_m1 ?_
  exact g_iret_i hC hT dX8_many_110
def lX1_takeRules_7 (G : G2) (b : Nat) (a1 : Nat) (a2 : Int32) : Nat → R2 → Int32 → Option (R2)
  | 0, _, _ => none
  | f2 + 1, S3, x4 =>
    if a2 ≤ x4 then (some S3)
    else ((ldR (G.2.2.1 a1) (S3 a1) x4).bind fun q5 =>
    if okQ G q5 14 then (
    (stR 8 S3 (b + 9) x4 q5).bind fun S6 =>
    letv (x4 + 1) fun x8 =>
    lX1_takeRules_7 G b a1 a2 f2 S6 x8) else none)
def pX1_takeRules (n : Nat) (G : G2) (V : V2) (R : R2) (b : Nat) (a1 : Nat) (a2 : Int32) : Option (V2 × R2) :=
  letv (up2 V b 8 a2) fun U1 =>
  (lX1_takeRules_7 G b a1 a2 n R 0).bind fun w9 =>
  some (U1, w9)
set_option maxHeartbeats 4000000 in
set_option maxRecDepth 100000 in
theorem wX1_takeRules_7 {C : Cx} (hC : CxOK C cX1_takeRules RX1 none) (hL : C.2.2.2.2 = 4) {G : G2} {b : Nat} {a1 : Nat} {a2 : Int32} {U1 : V2} (hG : GX G) (h_b : own G b 11) (h_a1 : own G a1 2) {o : R2} (hX : Go C 27 [] [] U1 o G 0 0) : ∀ (f : Nat) (S3 : R2) (x4 : Int32), lX1_takeRules_7 G b a1 a2 f S3 x4 = some o → Go C 7 [(0, .ref b), (1, .ref a1), (2, .int a2), (3, .int x4)] [] U1 S3 G 0 0 := by
  intro f
  induction f with
  | zero => intro _ _ hf; exact absurd hf (by unfold lX1_takeRules_7; exact fun z => nomatch z)
  | succ f2 ih =>
    intro S3 x4
    unfold lX1_takeRules_7
    refine g_iload_n hC dX1_takeRules_7 (j := 3) rfl rfl ?_
    refine g_iload_n hC dX1_takeRules_8 (j := 2) rfl rfl ?_
    refine g_icmp_ge hC dX1_takeRules_9 ?_ ?_
    · refine g_sub [] rfl ?_
      exact fun e => by cases e; exact hX
    · refine g_aload_n hC dX1_takeRules_12 (j := 0) rfl rfl ?_
      refine g_getR hC fr_1_7 h_b (b := b + 9) rfl dX1_takeRules_13 flX1_40 ?_
      refine g_iload_n hC dX1_takeRules_16 (j := 3) rfl rfl ?_
      refine g_aload_n hC dX1_takeRules_17 (j := 1) rfl rfl ?_
      refine g_iload_n hC dX1_takeRules_18 (j := 3) rfl rfl ?_
      refine g_aaldV hC (by decide) h_a1 rfl dX1_takeRules_19 (fun q5 => ?_)
      refine g_guardb (fun hz7 => ?_)
      refine g_aastV hC (x := q5) (ci := 4) ⟨Nat.le_of_ble_eq_true rfl, Nat.le_of_ble_eq_true rfl⟩ rfl rfl (Nat.le_of_ble_eq_true rfl) hz7 (gx_1_7 hG h_b) (gl_1_7 hG h_b) dX1_takeRules_20 (fun S6 => ?_)
      refine g_iincL hC (n0 := 4) (j := 3) (lv' := fun x8 => [(3, .int x8), (0, .ref b), (1, .ref a1), (2, .int a2)]) dX1_takeRules_21 rfl ic_1 (Nat.le_of_ble_eq_true rfl) hL (fun _ => rfl) (fun x8 => ?_)
      refine g_goto hC dX1_takeRules_24 ?_
      refine g_sub [1, 2, 3, 0] rfl ?_
      exact ih S6 x8
set_option maxHeartbeats 4000000 in
set_option maxRecDepth 100000 in
theorem kX1_takeRules {l : Launch} {D : Dx} {G : G2} {V : V2} {R : R2} {n : Nat} {b : Nat} {a1 : Nat} {a2 : Int32} (hG : GX G) (h_b : own G b 11) (h_a1 : own G a1 2) {o : V2 × R2} (hf : pX1_takeRules n G V R b a1 a2 = some o) : Con l yX1_takeRules cX1_takeRules 4 none (rmN 0 0 0) D G V R [.ref b, .ref a1, .int a2] (none, o.1, o.2, G, 0, 0) := by
  refine Con.mk RX1 (by decide) rfl (Nat.le_of_ble_eq_true rfl) (fun C _ hR hT _ _ hL hC hnm => ?_)
  revert hf
  unfold pX1_takeRules
  refine g_aload_n hC dX1_takeRules_0 (j := 0) rfl rfl ?_
  refine g_iload_n hC dX1_takeRules_1 (j := 2) rfl rfl ?_
  refine g_putIL hC fp_1_8 h_b dX1_takeRules_2 flX1_44 (fun U1 => ?_)
  refine g_iconst hC dX1_takeRules_5 ic_0 ?_
  refine g_istore_n hC (n0 := 4) (lv' := [(3, .int 0), (0, .ref b), (1, .ref a1), (2, .int a2)]) dX1_takeRules_6 rfl (Nat.le_of_ble_eq_true rfl) hL rfl ?_
  refine g_sub [1, 2, 3, 0] rfl ?_
  refine g_bind (J := fun w9 => Go C 27 [] [] U1 w9 G 0 0) (fun w9 hJ => wX1_takeRules_7 hC hL hG h_b h_a1 hJ n R 0) (fun w9 => ?_)
  exact g_vret_vR hC hT dX1_takeRules_27
def pX3_copy (V : V2) (b : Nat) (a1 : Nat) : Option (V2) :=
  letv (up2 V b 0 (V a1 0)) fun U1 =>
  (cpyV 6 6 U1 (a1 + 1) 0 (b + 1) 0 6).bind fun U2 =>
  (cpyV 6 6 U2 (a1 + 2) 0 (b + 2) 0 6).bind fun U3 =>
  (cpyV 6 6 U3 (a1 + 3) 0 (b + 3) 0 6).bind fun U4 =>
  (cpyV 6 6 U4 (a1 + 4) 0 (b + 4) 0 6).bind fun U5 =>
  some U5
set_option maxHeartbeats 4000000 in
set_option maxRecDepth 100000 in
theorem kX3_copy {l : Launch} {D : Dx} {G : G2} {V : V2} {R : R2} {b : Nat} {a1 : Nat} (hG : GX G) (h_b : own G b 13) (h_a1 : own G a1 13) {o : V2} (hf : pX3_copy V b a1 = some o) : Con l yX3_copy cX3_copy 2 none (rmN 1 0 0) D G V R [.ref b, .ref a1] (none, o, R, G, 0, 0) := by
  refine Con.mk RX3 (by decide) rfl (Nat.le_of_ble_eq_true rfl) (fun C _ hR hT _ _ hL hC hnm => ?_)
  revert hf
  unfold pX3_copy
  refine g_aload_n hC dX3_copy_0 (j := 0) rfl rfl ?_
  refine g_aload_n hC dX3_copy_1 (j := 1) rfl rfl ?_
  refine g_getI hC fi_3_0 h_a1 dX3_copy_2 flX3_9 ?_
  refine g_putIL hC fp_3_0 h_b dX3_copy_5 flX3_9 (fun U1 => ?_)
  refine g_aload_n hC dX3_copy_8 (j := 1) rfl rfl ?_
  refine g_getR hC fr_3_1 h_a1 (b := a1 + 1) rfl dX3_copy_9 flX3_15 ?_
  refine g_iconst hC dX3_copy_12 ic_0 ?_
  refine g_aload_n hC dX3_copy_13 (j := 0) rfl rfl ?_
  refine g_getR hC fr_3_1 h_b (b := b + 1) rfl dX3_copy_14 flX3_15 ?_
  refine g_iconst hC dX3_copy_17 ic_0 ?_
  refine g_bipush hC dX3_copy_18 bc_6 ?_
  refine g_acpy hC hR (Nat.le_of_ble_eq_true rfl) (gx_3_1 hG h_a1) (gx_3_1 hG h_b) (gl_3_1 hG h_a1) (gl_3_1 hG h_b) dX3_copy_20 mlX3_43 (Nat.le_of_ble_eq_true rfl) (fun U2 => ?_)
  refine g_aload_n hC dX3_copy_23 (j := 1) rfl rfl ?_
  refine g_getR hC fr_3_2 h_a1 (b := a1 + 2) rfl dX3_copy_24 flX3_19 ?_
  refine g_iconst hC dX3_copy_27 ic_0 ?_
  refine g_aload_n hC dX3_copy_28 (j := 0) rfl rfl ?_
  refine g_getR hC fr_3_2 h_b (b := b + 2) rfl dX3_copy_29 flX3_19 ?_
  refine g_iconst hC dX3_copy_32 ic_0 ?_
  refine g_bipush hC dX3_copy_33 bc_6 ?_
  refine g_acpy hC hR (Nat.le_of_ble_eq_true rfl) (gx_3_2 hG h_a1) (gx_3_2 hG h_b) (gl_3_2 hG h_a1) (gl_3_2 hG h_b) dX3_copy_35 mlX3_43 (Nat.le_of_ble_eq_true rfl) (fun U3 => ?_)
  refine g_aload_n hC dX3_copy_38 (j := 1) rfl rfl ?_
  refine g_getR hC fr_3_3 h_a1 (b := a1 + 3) rfl dX3_copy_39 flX3_22 ?_
  refine g_iconst hC dX3_copy_42 ic_0 ?_
  refine g_aload_n hC dX3_copy_43 (j := 0) rfl rfl ?_
  refine g_getR hC fr_3_3 h_b (b := b + 3) rfl dX3_copy_44 flX3_22 ?_
  refine g_iconst hC dX3_copy_47 ic_0 ?_
  refine g_bipush hC dX3_copy_48 bc_6 ?_
  refine g_acpy hC hR (Nat.le_of_ble_eq_true rfl) (gx_3_3 hG h_a1) (gx_3_3 hG h_b) (gl_3_3 hG h_a1) (gl_3_3 hG h_b) dX3_copy_50 mlX3_43 (Nat.le_of_ble_eq_true rfl) (fun U4 => ?_)
  refine g_aload_n hC dX3_copy_53 (j := 1) rfl rfl ?_
  refine g_getR hC fr_3_4 h_a1 (b := a1 + 4) rfl dX3_copy_54 flX3_25 ?_
  refine g_iconst hC dX3_copy_57 ic_0 ?_
  refine g_aload_n hC dX3_copy_58 (j := 0) rfl rfl ?_
  refine g_getR hC fr_3_4 h_b (b := b + 4) rfl dX3_copy_59 flX3_25 ?_
  refine g_iconst hC dX3_copy_62 ic_0 ?_
  refine g_bipush hC dX3_copy_63 bc_6 ?_
  refine g_acpy hC hR (Nat.le_of_ble_eq_true rfl) (gx_3_4 hG h_a1) (gx_3_4 hG h_b) (gl_3_4 hG h_a1) (gl_3_4 hG h_b) dX3_copy_65 mlX3_43 (Nat.le_of_ble_eq_true rfl) (fun U5 => ?_)
  exact g_vret_vV hC hT dX3_copy_68
def pX1_copy (n : Nat) (G : G2) (V : V2) (R : R2) (b : Nat) (a1 : Nat) : Option (V2 × R2) :=
  (pX2_copy V (b + 1) (a1 + 1)).bind fun q1 =>
  letv (up2 q1 b 1 (q1 a1 1)) fun U2 =>
  letv (up2 U2 b 2 (U2 a1 2)) fun U3 =>
  letv (up2 U3 b 3 (U3 a1 3)) fun U4 =>
  (cpyV 16 16 U4 (a1 + 6) 0 (b + 6) 0 16).bind fun U5 =>
  (cpyV 6 6 U5 (a1 + 7) 0 (b + 7) 0 6).bind fun U6 =>
  (cpyV 6 6 U6 (a1 + 8) 0 (b + 8) 0 6).bind fun U7 =>
  (pX1_takeRules n G U7 R b (a1 + 9) (U7 a1 8)).bind fun q8 =>
  (pX3_copy q8.1 (b + 10) (a1 + 10)).bind fun q9 =>
  some (q9, q8.2)
set_option maxHeartbeats 4000000 in
set_option maxRecDepth 100000 in
theorem kX1_copy {l : Launch} {D : Dx} {G : G2} {V : V2} {R : R2} {n : Nat} {b : Nat} {a1 : Nat} (hG : GX G) (h_b : own G b 11) (h_a1 : own G a1 11) {o : V2 × R2} (hf : pX1_copy n G V R b a1 = some o) : Con l yX1_copy cX1_copy 2 none (rmN 2 0 0) D G V R [.ref b, .ref a1] (none, o.1, o.2, G, 0, 0) := by
  refine Con.mk RX1 (by decide) rfl (Nat.le_of_ble_eq_true rfl) (fun C _ hR hT _ _ hL hC hnm => ?_)
  revert hf
  unfold pX1_copy
  refine g_aload_n hC dX1_copy_0 (j := 0) rfl rfl ?_
  refine g_getR hC fr_1_0 h_b (b := b + 1) rfl dX1_copy_1 flX1_12 ?_
  refine g_aload_n hC dX1_copy_4 (j := 1) rfl rfl ?_
  refine g_getR hC fr_1_0 h_a1 (b := a1 + 1) rfl dX1_copy_5 flX1_12 ?_
  refine g_callV_vV hC hR ⟨Nat.zero_le _, Nat.zero_le _⟩ mwX2_copy miX2_copy (ci := 2) rfl (gx_1_0 hG h_b) (Nat.le_of_ble_eq_true rfl) mlX1_60 (fun _ hq => kX2_copy hG (gx_1_0 hG h_b) (gx_1_0 hG h_a1) hq) (Nat.le_of_ble_eq_true rfl) rfl (st := []) rfl (Nat.le_of_ble_eq_true rfl) dX1_copy_8 (fun q1 => ?_)
  refine g_aload_n hC dX1_copy_11 (j := 0) rfl rfl ?_
  refine g_aload_n hC dX1_copy_12 (j := 1) rfl rfl ?_
  refine g_getI hC fi_1_1 h_a1 dX1_copy_13 flX1_18 ?_
  refine g_putIL hC fp_1_1 h_b dX1_copy_16 flX1_18 (fun U2 => ?_)
  refine g_aload_n hC dX1_copy_19 (j := 0) rfl rfl ?_
  refine g_aload_n hC dX1_copy_20 (j := 1) rfl rfl ?_
  refine g_getI hC fi_1_2 h_a1 dX1_copy_21 flX1_22 ?_
  refine g_putIL hC fp_1_2 h_b dX1_copy_24 flX1_22 (fun U3 => ?_)
  refine g_aload_n hC dX1_copy_27 (j := 0) rfl rfl ?_
  refine g_aload_n hC dX1_copy_28 (j := 1) rfl rfl ?_
  refine g_getI hC fi_1_3 h_a1 dX1_copy_29 flX1_25 ?_
  refine g_putIL hC fp_1_3 h_b dX1_copy_32 flX1_25 (fun U4 => ?_)
  refine g_aload_n hC dX1_copy_35 (j := 1) rfl rfl ?_
  refine g_getR hC fr_1_4 h_a1 (b := a1 + 6) rfl dX1_copy_36 flX1_28 ?_
  refine g_iconst hC dX1_copy_39 ic_0 ?_
  refine g_aload_n hC dX1_copy_40 (j := 0) rfl rfl ?_
  refine g_getR hC fr_1_4 h_b (b := b + 6) rfl dX1_copy_41 flX1_28 ?_
  refine g_iconst hC dX1_copy_44 ic_0 ?_
  refine g_bipush hC dX1_copy_45 bc_16 ?_
  refine g_acpy hC hR (Nat.le_of_ble_eq_true rfl) (gx_1_4 hG h_a1) (gx_1_4 hG h_b) (gl_1_4 hG h_a1) (gl_1_4 hG h_b) dX1_copy_47 mlX1_64 (Nat.le_of_ble_eq_true rfl) (fun U5 => ?_)
  refine g_aload_n hC dX1_copy_50 (j := 1) rfl rfl ?_
  refine g_getR hC fr_1_5 h_a1 (b := a1 + 7) rfl dX1_copy_51 flX1_32 ?_
  refine g_iconst hC dX1_copy_54 ic_0 ?_
  refine g_aload_n hC dX1_copy_55 (j := 0) rfl rfl ?_
  refine g_getR hC fr_1_5 h_b (b := b + 7) rfl dX1_copy_56 flX1_32 ?_
  refine g_iconst hC dX1_copy_59 ic_0 ?_
  refine g_bipush hC dX1_copy_60 bc_6 ?_
  refine g_acpy hC hR (Nat.le_of_ble_eq_true rfl) (gx_1_5 hG h_a1) (gx_1_5 hG h_b) (gl_1_5 hG h_a1) (gl_1_5 hG h_b) dX1_copy_62 mlX1_64 (Nat.le_of_ble_eq_true rfl) (fun U6 => ?_)
  refine g_aload_n hC dX1_copy_65 (j := 1) rfl rfl ?_
  refine g_getR hC fr_1_6 h_a1 (b := a1 + 8) rfl dX1_copy_66 flX1_35 ?_
  refine g_iconst hC dX1_copy_69 ic_0 ?_
  refine g_aload_n hC dX1_copy_70 (j := 0) rfl rfl ?_
  refine g_getR hC fr_1_6 h_b (b := b + 8) rfl dX1_copy_71 flX1_35 ?_
  refine g_iconst hC dX1_copy_74 ic_0 ?_
  refine g_bipush hC dX1_copy_75 bc_6 ?_
  refine g_acpy hC hR (Nat.le_of_ble_eq_true rfl) (gx_1_6 hG h_a1) (gx_1_6 hG h_b) (gl_1_6 hG h_a1) (gl_1_6 hG h_b) dX1_copy_77 mlX1_64 (Nat.le_of_ble_eq_true rfl) (fun U7 => ?_)
  refine g_aload_n hC dX1_copy_80 (j := 0) rfl rfl ?_
  refine g_aload_n hC dX1_copy_81 (j := 1) rfl rfl ?_
  refine g_getR hC fr_1_7 h_a1 (b := a1 + 9) rfl dX1_copy_82 flX1_40 ?_
  refine g_aload_n hC dX1_copy_85 (j := 1) rfl rfl ?_
  refine g_getI hC fi_1_8 h_a1 dX1_copy_86 flX1_44 ?_
  refine g_callV_vR hC hR ⟨Nat.zero_le _, Nat.zero_le _⟩ mwX1_takeRules miX1_takeRules (ci := 1) rfl h_b (Nat.le_of_ble_eq_true rfl) mlX1_70 (fun _ hq => kX1_takeRules hG h_b (gx_1_7 hG h_a1) hq) (Nat.le_of_ble_eq_true rfl) rfl (st := []) rfl (Nat.le_of_ble_eq_true rfl) dX1_copy_89 (fun q8 => ?_)
  refine g_aload_n hC dX1_copy_92 (j := 0) rfl rfl ?_
  refine g_getR hC fr_1_9 h_b (b := b + 10) rfl dX1_copy_93 flX1_50 ?_
  refine g_aload_n hC dX1_copy_96 (j := 1) rfl rfl ?_
  refine g_getR hC fr_1_9 h_a1 (b := a1 + 10) rfl dX1_copy_97 flX1_50 ?_
  refine g_callV_vV hC hR ⟨Nat.zero_le _, Nat.zero_le _⟩ mwX3_copy miX3_copy (ci := 3) rfl (gx_1_9 hG h_b) (Nat.le_of_ble_eq_true rfl) mlX1_74 (fun _ hq => kX3_copy hG (gx_1_9 hG h_b) (gx_1_9 hG h_a1) hq) (Nat.le_of_ble_eq_true rfl) rfl (st := []) rfl (Nat.le_of_ble_eq_true rfl) dX1_copy_100 (fun q9 => ?_)
  exact g_vret_vR hC hT dX1_copy_103
def pX8_keep (n : Nat) (G : G2) (V : V2) (R : R2) (b : Nat) : Option (Int32 × V2 × R2) :=
  (pX1_copy n G V R (b + 16) (b + 1)).bind fun q1 =>
  letv (up2 q1.1 b 2 1) fun U2 =>
  some (1, U2, q1.2)
set_option maxHeartbeats 4000000 in
set_option maxRecDepth 100000 in
theorem kX8_keep {l : Launch} {D : Dx} {G : G2} {V : V2} {R : R2} {n : Nat} {b : Nat} (hG : GX G) (h_b : own G b 18) {o : Int32 × V2 × R2} (hf : pX8_keep n G V R b = some o) : Con l yX8_keep cX8_keep 1 (some .int) (rmN 3 0 0) D G V R [.ref b] (some (.int o.1), o.2.1, o.2.2, G, 0, 0) := by
  refine Con.mk RX8 (by decide) rfl (Nat.le_of_ble_eq_true rfl) (fun C _ hR hT _ _ hL hC hnm => ?_)
  revert hf
  unfold pX8_keep
  refine g_aload_n hC dX8_keep_0 (j := 0) rfl rfl ?_
  refine g_getR hC fr_8_1 h_b (b := b + 16) rfl dX8_keep_1 flX8_16 ?_
  refine g_aload_n hC dX8_keep_4 (j := 0) rfl rfl ?_
  refine g_getR hC fr_8_0 h_b (b := b + 1) rfl dX8_keep_5 flX8_10 ?_
  refine g_callV_vR hC hR ⟨Nat.zero_le _, Nat.zero_le _⟩ mwX1_copy miX1_copy (ci := 1) rfl (gx_8_1 hG h_b) (Nat.le_of_ble_eq_true rfl) mlX8_354 (fun _ hq => kX1_copy hG (gx_8_1 hG h_b) (gx_8_0 hG h_b) hq) (Nat.le_of_ble_eq_true rfl) rfl (st := []) rfl (Nat.le_of_ble_eq_true rfl) dX8_keep_8 (fun q1 => ?_)
  refine g_aload_n hC dX8_keep_11 (j := 0) rfl rfl ?_
  refine g_iconst hC dX8_keep_12 ic_1 ?_
  refine g_putZL hC fp_8_2 h_b rfl dX8_keep_13 flX8_19 (fun U2 => ?_)
  refine g_iconst hC dX8_keep_16 ic_1 ?_
  exact g_iret_iR hC hT dX8_keep_17
def pX8_again (n : Nat) (G : G2) (V : V2) (R : R2) (b : Nat) : Option (Int32 × V2 × R2) :=
  if (V b 2) = 0 then (some ((-3), V, R))
  else ((pX1_copy n G V R (b + 1) (b + 16)).bind fun q1 =>
  some (q1.1 (b + 2) 1, q1.1, q1.2))
set_option maxHeartbeats 4000000 in
set_option maxRecDepth 100000 in
theorem kX8_again {l : Launch} {D : Dx} {G : G2} {V : V2} {R : R2} {n : Nat} {b : Nat} (hG : GX G) (h_b : own G b 18) {o : Int32 × V2 × R2} (hf : pX8_again n G V R b = some o) : Con l yX8_again cX8_again 1 (some .int) (rmN 3 0 0) D G V R [.ref b] (some (.int o.1), o.2.1, o.2.2, G, 0, 0) := by
  refine Con.mk RX8 (by decide) rfl (Nat.le_of_ble_eq_true rfl) (fun C _ hR hT _ _ hL hC hnm => ?_)
  revert hf
  unfold pX8_again
  refine g_aload_n hC dX8_again_0 (j := 0) rfl rfl ?_
  refine g_getI hC fi_8_2 h_b dX8_again_1 flX8_19 ?_
  refine g_if_ne hC dX8_again_4 ?_ ?_
  · refine g_bipush hC dX8_again_7 bc_m3 ?_
    exact g_iret_iR hC hT dX8_again_9
  · refine g_aload_n hC dX8_again_10 (j := 0) rfl rfl ?_
    refine g_getR hC fr_8_0 h_b (b := b + 1) rfl dX8_again_11 flX8_10 ?_
    refine g_aload_n hC dX8_again_14 (j := 0) rfl rfl ?_
    refine g_getR hC fr_8_1 h_b (b := b + 16) rfl dX8_again_15 flX8_16 ?_
    refine g_callV_vR hC hR ⟨Nat.zero_le _, Nat.zero_le _⟩ mwX1_copy miX1_copy (ci := 1) rfl (gx_8_0 hG h_b) (Nat.le_of_ble_eq_true rfl) mlX8_354 (fun _ hq => kX1_copy hG (gx_8_0 hG h_b) (gx_8_1 hG h_b) hq) (Nat.le_of_ble_eq_true rfl) rfl (st := []) rfl (Nat.le_of_ble_eq_true rfl) dX8_again_18 (fun q1 => ?_)
    refine g_aload_n hC dX8_again_21 (j := 0) rfl rfl ?_
    refine g_getR hC fr_8_0 h_b (b := b + 1) rfl dX8_again_22 flX8_10 ?_
    refine g_getR hC fr_1_0 (gx_8_0 hG h_b) (b := b + 2) rfl dX8_again_25 flX8_81 ?_
    refine g_getI hC fi_2_1 (gx_1_0 hG (gx_8_0 hG h_b)) dX8_again_28 flX8_84 ?_
    exact g_iret_iR hC hT dX8_again_31
