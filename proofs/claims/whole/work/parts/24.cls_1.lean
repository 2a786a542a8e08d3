def pX8_within (a1 : Int32) (a2 : Int32) (a3 : Int32) : Option (Int32) :=
  if a1 < a2 then (some 0)
  else (if a3 < a1 then (some 0)
  else (some 1))
set_option maxHeartbeats 4000000 in
set_option maxRecDepth 100000 in
theorem kX8_within {l : Launch} {D : Dx} {G : G2} {V : V2} {R : R2} {a1 : Int32} {a2 : Int32} {a3 : Int32}  {o : Int32} (hf : pX8_within a1 a2 a3 = some o) : Con l yX8_within cX8_within 3 (some .boolean) (rmN 0 0 0) D G V R [.int a1, .int a2, .int a3] (some (.int o), V, R, G, 0, 0) := by
  refine Con.mk RX8 (by decide) rfl (Nat.le_of_ble_eq_true rfl) (fun C _ hR hT _ _ hL hC hnm => ?_)
  revert hf
  unfold pX8_within
  refine g_iload_n hC dX8_within_0 (j := 0) rfl rfl ?_
  refine g_iload_n hC dX8_within_1 (j := 1) rfl rfl ?_
  refine g_icmp_lt hC dX8_within_2 ?_ ?_
  · refine g_iconst hC dX8_within_14 ic_0 ?_
    exact g_zret_i hC rfl hT dX8_within_15
  · refine g_iload_n hC dX8_within_5 (j := 0) rfl rfl ?_
    refine g_iload_n hC dX8_within_6 (j := 2) rfl rfl ?_
    refine g_icmp_gt hC dX8_within_7 ?_ ?_
    · refine g_iconst hC dX8_within_14 ic_0 ?_
      exact g_zret_i hC rfl hT dX8_within_15
    · refine g_iconst hC dX8_within_10 ic_1 ?_
      refine g_goto hC dX8_within_11 ?_
      exact g_zret_i hC rfl hT dX8_within_15
def pX2_setFlat (V : V2) (b : Nat) (a1 : Int32) (a2 : Int32) : Option (V2) :=
  letv ((if a2 = 0 then ((V b 2) &&& ((1 <<< (a1 &&& 31)) ^^^ (-1)))
  else ((V b 2) ||| (1 <<< (a1 &&& 31))) : Int32)) fun j1 =>
  letv (up2 V b 2 j1) fun U2 =>
  some U2
set_option maxHeartbeats 4000000 in
set_option maxRecDepth 100000 in
theorem kX2_setFlat {l : Launch} {D : Dx} {G : G2} {V : V2} {R : R2} {b : Nat} {a1 : Int32} {a2 : Int32} (hG : GX G) (h_b : own G b 12) {o : V2} (hf : pX2_setFlat V b a1 a2 = some o) : Con l yX2_setFlat cX2_setFlat 3 none (rmN 0 0 0) D G V R [.ref b, .int a1, .int a2] (none, o, R, G, 0, 0) := by
  refine Con.mk RX2 (by decide) rfl (Nat.le_of_ble_eq_true rfl) (fun C _ hR hT _ _ hL hC hnm => ?_)
  revert hf
  unfold pX2_setFlat
  refine g_aload_n hC dX2_setFlat_0 (j := 0) rfl rfl ?_
  refine g_iload_n hC dX2_setFlat_1 (j := 2) rfl rfl ?_
  refine g_letJ (J := fun j1 => Go C 26 [] [.int j1, .ref b] V R G 0 0) (fun j1 hJ => ?_) (fun j1 => ?_)
  · refine g_if_eq hC dX2_setFlat_2 ?_ ?_
    · refine g_aload_n hC dX2_setFlat_16 (j := 0) rfl rfl ?_
      refine g_getI hC fi_2_2 h_b dX2_setFlat_17 flX2_18 ?_
      refine g_iconst hC dX2_setFlat_20 ic_1 ?_
      refine g_iload_n hC dX2_setFlat_21 (j := 1) rfl rfl ?_
      refine g_ishl hC dX2_setFlat_22 ?_
      refine g_iconst hC dX2_setFlat_23 ic_m1 ?_
      refine g_ixor hC dX2_setFlat_24 ?_
      refine g_iand hC dX2_setFlat_25 ?_
      refine g_sub [] rfl ?_
      exact fun e => by cases e; exact hJ
    · refine g_aload_n hC dX2_setFlat_5 (j := 0) rfl rfl ?_
      refine g_getI hC fi_2_2 h_b dX2_setFlat_6 flX2_18 ?_
      refine g_iconst hC dX2_setFlat_9 ic_1 ?_
      refine g_iload_n hC dX2_setFlat_10 (j := 1) rfl rfl ?_
      refine g_ishl hC dX2_setFlat_11 ?_
      refine g_ior hC dX2_setFlat_12 ?_
      refine g_goto hC dX2_setFlat_13 ?_
      refine g_sub [] rfl ?_
      exact fun e => by cases e; exact hJ
  · refine g_putIL hC fp_2_2 h_b dX2_setFlat_26 flX2_18 (fun U2 => ?_)
    exact g_vret_vV hC hT dX2_setFlat_29
def pX8_thing (V : V2) (b : Nat) (a1 : Int32) (a2 : Int32) (a3 : Int32) (a4 : Int32) : Option (Int32 × V2) :=
  (pX8_within a1 1 5).bind fun q1 =>
  if q1 = 0 then (some ((-1), V))
  else ((pX8_within a2 0 99).bind fun q2 =>
  if q2 = 0 then (some ((-1), V))
  else ((pX8_within a3 0 9).bind fun q3 =>
  if q3 = 0 then (some ((-1), V))
  else ((pX8_within a4 0 5).bind fun q4 =>
  if q4 = 0 then (some ((-1), V))
  else (if (V (b + 2) 1) < (6 : Int32) then (letv (V (b + 2) 1) fun x5 =>
  letv (up2 V (b + 2) 1 (x5 + 1)) fun U6 =>
  (stI 6 U6 (b + 3) x5 a1).bind fun U7 =>
  (stI 6 U7 (b + 4) x5 a2).bind fun U8 =>
  (stI 6 U8 (b + 5) x5 a3).bind fun U9 =>
  (stI 6 U9 (b + 6) x5 a4).bind fun U10 =>
  (pX2_setFlat U10 (b + 2) x5 0).bind fun q11 =>
  some (x5, q11))
  else (some ((-2), V))))))
set_option maxHeartbeats 4000000 in
set_option maxRecDepth 100000 in
theorem kX8_thing {l : Launch} {D : Dx} {G : G2} {V : V2} {R : R2} {b : Nat} {a1 : Int32} {a2 : Int32} {a3 : Int32} {a4 : Int32} (hG : GX G) (h_b : own G b 18) {o : Int32 × V2} (hf : pX8_thing V b a1 a2 a3 a4 = some o) : Con l yX8_thing cX8_thing 7 (some .int) (rmN 1 0 0) D G V R [.ref b, .int a1, .int a2, .int a3, .int a4] (some (.int o.1), o.2, R, G, 0, 0) := by
  refine Con.mk RX8 (by decide) rfl (Nat.le_of_ble_eq_true rfl) (fun C _ hR hT _ _ hL hC hnm => ?_)
  revert hf
  unfold pX8_thing
  refine g_iload_n hC dX8_thing_0 (j := 1) rfl rfl ?_
  refine g_iconst hC dX8_thing_1 ic_1 ?_
  refine g_iconst hC dX8_thing_2 ic_5 ?_
  refine g_callS_i hC hR ⟨Nat.zero_le _, Nat.zero_le _⟩ mwX8_within ms_X8_within mlX8_77 (fun _ hq => kX8_within  hq) (Nat.le_of_ble_eq_true rfl) rfl (st := []) rfl (Nat.le_of_ble_eq_true rfl) dX8_thing_3 (fun q1 => ?_)
  refine g_if_eq hC dX8_thing_6 ?_ ?_
  · refine g_iconst hC dX8_thing_39 ic_m1 ?_
    exact g_iret_iV hC hT dX8_thing_40
  · refine g_iload_n hC dX8_thing_9 (j := 2) rfl rfl ?_
    refine g_iconst hC dX8_thing_10 ic_0 ?_
    refine g_bipush hC dX8_thing_11 bc_99 ?_
    refine g_callS_i hC hR ⟨Nat.zero_le _, Nat.zero_le _⟩ mwX8_within ms_X8_within mlX8_77 (fun _ hq => kX8_within  hq) (Nat.le_of_ble_eq_true rfl) rfl (st := []) rfl (Nat.le_of_ble_eq_true rfl) dX8_thing_13 (fun q2 => ?_)
    refine g_if_eq hC dX8_thing_16 ?_ ?_
    · refine g_iconst hC dX8_thing_39 ic_m1 ?_
      exact g_iret_iV hC hT dX8_thing_40
    · refine g_iload_n hC dX8_thing_19 (j := 3) rfl rfl ?_
      refine g_iconst hC dX8_thing_20 ic_0 ?_
      refine g_bipush hC dX8_thing_21 bc_9 ?_
      refine g_callS_i hC hR ⟨Nat.zero_le _, Nat.zero_le _⟩ mwX8_within ms_X8_within mlX8_77 (fun _ hq => kX8_within  hq) (Nat.le_of_ble_eq_true rfl) rfl (st := []) rfl (Nat.le_of_ble_eq_true rfl) dX8_thing_23 (fun q3 => ?_)
      refine g_if_eq hC dX8_thing_26 ?_ ?_
      · refine g_iconst hC dX8_thing_39 ic_m1 ?_
        exact g_iret_iV hC hT dX8_thing_40
      · refine g_iload hC dX8_thing_29 (j := 4) rfl ?_
        refine g_iconst hC dX8_thing_31 ic_0 ?_
        refine g_iconst hC dX8_thing_32 ic_5 ?_
        refine g_callS_i hC hR ⟨Nat.zero_le _, Nat.zero_le _⟩ mwX8_within ms_X8_within mlX8_77 (fun _ hq => kX8_within  hq) (Nat.le_of_ble_eq_true rfl) rfl (st := []) rfl (Nat.le_of_ble_eq_true rfl) dX8_thing_33 (fun q4 => ?_)
        refine g_if_ne hC dX8_thing_36 ?_ ?_
        · refine g_iconst hC dX8_thing_39 ic_m1 ?_
          exact g_iret_iV hC hT dX8_thing_40
        · refine g_aload_n hC dX8_thing_41 (j := 0) rfl rfl ?_
          refine g_getR hC fr_8_0 h_b (b := b + 1) rfl dX8_thing_42 flX8_10 ?_
          refine g_getR hC fr_1_0 (gx_8_0 hG h_b) (b := b + 2) rfl dX8_thing_45 flX8_81 ?_
          refine g_astore hC (n0 := 7) (lv' := [(5, .ref (b + 2)), (0, .ref b), (1, .int a1), (2, .int a2), (3, .int a3), (4, .int a4)]) dX8_thing_48 (Nat.le_of_ble_eq_true rfl) hL rfl ?_
          refine g_aload hC dX8_thing_50 (j := 0) rfl ?_
          refine g_getI hC fi_2_1 (gx_1_0 hG (gx_8_0 hG h_b)) dX8_thing_52 flX8_84 ?_
          refine g_bipush hC dX8_thing_55 bc_6 ?_
          refine g_icmp_lt hC dX8_thing_57 ?_ ?_
          · refine g_aload hC dX8_thing_63 (j := 0) rfl ?_
            refine g_getI hC fi_2_1 (gx_1_0 hG (gx_8_0 hG h_b)) dX8_thing_65 flX8_84 ?_
            refine g_istoreL hC (n0 := 7) (lv' := fun x5 => [(6, .int x5), (5, .ref (b + 2)), (0, .ref b), (1, .int a1), (2, .int a2), (3, .int a3), (4, .int a4)]) dX8_thing_68 (Nat.le_of_ble_eq_true rfl) hL (fun _ => rfl) (fun x5 => ?_)
            refine g_aload hC dX8_thing_70 (j := 1) rfl ?_
            refine g_iload hC dX8_thing_72 (j := 0) rfl ?_
            refine g_iconst hC dX8_thing_74 ic_1 ?_
            refine g_iadd hC dX8_thing_75 ?_
            refine g_putIL hC fp_2_1 (gx_1_0 hG (gx_8_0 hG h_b)) dX8_thing_76 flX8_84 (fun U6 => ?_)
            refine g_aload hC dX8_thing_79 (j := 1) rfl ?_
            refine g_getR hC fr_2_3 (gx_1_0 hG (gx_8_0 hG h_b)) (b := b + 3) rfl dX8_thing_81 flX8_87 ?_
            refine g_iload hC dX8_thing_84 (j := 0) rfl ?_
            refine g_iload_n hC dX8_thing_86 (j := 3) rfl rfl ?_
            refine g_iastV hC (gx_2_3 hG (gx_1_0 hG (gx_8_0 hG h_b))) (gl_2_3 hG (gx_1_0 hG (gx_8_0 hG h_b))) dX8_thing_87 (fun U7 => ?_)
            refine g_aload hC dX8_thing_88 (j := 1) rfl ?_
            refine g_getR hC fr_2_4 (gx_1_0 hG (gx_8_0 hG h_b)) (b := b + 4) rfl dX8_thing_90 flX8_90 ?_
            refine g_iload hC dX8_thing_93 (j := 0) rfl ?_
            refine g_iload_n hC dX8_thing_95 (j := 4) rfl rfl ?_
            refine g_iastV hC (gx_2_4 hG (gx_1_0 hG (gx_8_0 hG h_b))) (gl_2_4 hG (gx_1_0 hG (gx_8_0 hG h_b))) dX8_thing_96 (fun U8 => ?_)
            refine g_aload hC dX8_thing_97 (j := 1) rfl ?_
            refine g_getR hC fr_2_5 (gx_1_0 hG (gx_8_0 hG h_b)) (b := b + 5) rfl dX8_thing_99 flX8_93 ?_
            refine g_iload hC dX8_thing_102 (j := 0) rfl ?_
            refine g_iload_n hC dX8_thing_104 (j := 5) rfl rfl ?_
            refine g_iastV hC (gx_2_5 hG (gx_1_0 hG (gx_8_0 hG h_b))) (gl_2_5 hG (gx_1_0 hG (gx_8_0 hG h_b))) dX8_thing_105 (fun U9 => ?_)
            refine g_aload hC dX8_thing_106 (j := 1) rfl ?_
            refine g_getR hC fr_2_6 (gx_1_0 hG (gx_8_0 hG h_b)) (b := b + 6) rfl dX8_thing_108 flX8_96 ?_
            refine g_iload hC dX8_thing_111 (j := 0) rfl ?_
            refine g_iload hC dX8_thing_113 (j := 6) rfl ?_
            refine g_iastV hC (gx_2_6 hG (gx_1_0 hG (gx_8_0 hG h_b))) (gl_2_6 hG (gx_1_0 hG (gx_8_0 hG h_b))) dX8_thing_115 (fun U10 => ?_)
            refine g_aload hC dX8_thing_116 (j := 1) rfl ?_
            refine g_iload hC dX8_thing_118 (j := 0) rfl ?_
            refine g_iconst hC dX8_thing_120 ic_0 ?_
            refine g_callV_vV hC hR ⟨Nat.zero_le _, Nat.zero_le _⟩ mwX2_setFlat miX2_setFlat (ci := 2) rfl (gx_1_0 hG (gx_8_0 hG h_b)) (Nat.le_of_ble_eq_true rfl) mlX8_99 (fun _ hq => kX2_setFlat hG (gx_1_0 hG (gx_8_0 hG h_b)) hq) (Nat.le_of_ble_eq_true rfl) rfl (st := []) rfl (Nat.le_of_ble_eq_true rfl) dX8_thing_121 (fun q11 => ?_)
            refine g_iload hC dX8_thing_124 (j := 0) rfl ?_
            exact g_iret_iV hC hT dX8_thing_126
          · refine g_bipush hC dX8_thing_60 bc_m2 ?_
            exact g_iret_iV hC hT dX8_thing_62
def pX8_isThing (V : V2) (b : Nat) (a1 : Int32) : Option (Int32) :=
  (pX8_within a1 0 ((V (b + 2) 1) - 1)).bind fun q1 =>
  if isb q1 then some q1 else none
set_option maxHeartbeats 4000000 in
set_option maxRecDepth 100000 in
theorem kX8_isThing {l : Launch} {D : Dx} {G : G2} {V : V2} {R : R2} {b : Nat} {a1 : Int32} (hG : GX G) (h_b : own G b 18) {o : Int32} (hf : pX8_isThing V b a1 = some o) : Con l yX8_isThing cX8_isThing 2 (some .boolean) (rmN 1 0 0) D G V R [.ref b, .int a1] (some (.int o), V, R, G, 0, 0) := by
  refine Con.mk RX8 (by decide) rfl (Nat.le_of_ble_eq_true rfl) (fun C _ hR hT _ _ hL hC hnm => ?_)
  revert hf
  unfold pX8_isThing
  refine g_iload_n hC dX8_isThing_0 (j := 1) rfl rfl ?_
  refine g_iconst hC dX8_isThing_1 ic_0 ?_
  refine g_aload_n hC dX8_isThing_2 (j := 0) rfl rfl ?_
  refine g_getR hC fr_8_0 h_b (b := b + 1) rfl dX8_isThing_3 flX8_10 ?_
  refine g_getR hC fr_1_0 (gx_8_0 hG h_b) (b := b + 2) rfl dX8_isThing_6 flX8_81 ?_
  refine g_getI hC fi_2_1 (gx_1_0 hG (gx_8_0 hG h_b)) dX8_isThing_9 flX8_84 ?_
  refine g_iconst hC dX8_isThing_12 ic_1 ?_
  refine g_isub hC dX8_isThing_13 ?_
  refine g_callS_i hC hR ⟨Nat.zero_le _, Nat.zero_le _⟩ mwX8_within ms_X8_within mlX8_77 (fun _ hq => kX8_within  hq) (Nat.le_of_ble_eq_true rfl) rfl (st := []) rfl (Nat.le_of_ble_eq_true rfl) dX8_isThing_14 (fun q1 => ?_)
  refine g_guardb (fun hz2 => ?_)
  exact g_zret_i hC hz2 hT dX8_isThing_17
def pX2_isFlat (V : V2) (b : Nat) (a1 : Int32) : Option (Int32) :=
  if (((V b 2) >>> (a1 &&& 31)) &&& 1) = (1 : Int32) then (some 1)
  else (some 0)
set_option maxHeartbeats 4000000 in
set_option maxRecDepth 100000 in
theorem kX2_isFlat {l : Launch} {D : Dx} {G : G2} {V : V2} {R : R2} {b : Nat} {a1 : Int32} (hG : GX G) (h_b : own G b 12) {o : Int32} (hf : pX2_isFlat V b a1 = some o) : Con l yX2_isFlat cX2_isFlat 2 (some .boolean) (rmN 0 0 0) D G V R [.ref b, .int a1] (some (.int o), V, R, G, 0, 0) := by
  refine Con.mk RX2 (by decide) rfl (Nat.le_of_ble_eq_true rfl) (fun C _ hR hT _ _ hL hC hnm => ?_)
  revert hf
  unfold pX2_isFlat
  refine g_aload_n hC dX2_isFlat_0 (j := 0) rfl rfl ?_
  refine g_getI hC fi_2_2 h_b dX2_isFlat_1 flX2_18 ?_
  refine g_iload_n hC dX2_isFlat_4 (j := 1) rfl rfl ?_
  refine g_ishr hC dX2_isFlat_5 ?_
  refine g_iconst hC dX2_isFlat_6 ic_1 ?_
  refine g_iand hC dX2_isFlat_7 ?_
  refine g_iconst hC dX2_isFlat_8 ic_1 ?_
  refine g_icmp_ne hC dX2_isFlat_9 ?_ ?_
  · refine g_iconst hC dX2_isFlat_12 ic_1 ?_
    refine g_goto hC dX2_isFlat_13 ?_
    exact g_zret_i hC rfl hT dX2_isFlat_17
  · refine g_iconst hC dX2_isFlat_16 ic_0 ?_
    exact g_zret_i hC rfl hT dX2_isFlat_17
def pX1_ironAt (V : V2) (b : Nat) (a1 : Int32) : Option (Int32) :=
  if a1 < 0 then (some 0)
  else (if (16 : Int32) ≤ a1 then (some 0)
  else ((ldI 16 (V (b + 6)) a1).bind fun t1 =>
  some t1))
set_option maxHeartbeats 4000000 in
set_option maxRecDepth 100000 in
theorem kX1_ironAt {l : Launch} {D : Dx} {G : G2} {V : V2} {R : R2} {b : Nat} {a1 : Int32} (hG : GX G) (h_b : own G b 11) {o : Int32} (hf : pX1_ironAt V b a1 = some o) : Con l yX1_ironAt cX1_ironAt 2 (some .int) (rmN 0 0 0) D G V R [.ref b, .int a1] (some (.int o), V, R, G, 0, 0) := by
  refine Con.mk RX1 (by decide) rfl (Nat.le_of_ble_eq_true rfl) (fun C _ hR hT _ _ hL hC hnm => ?_)
  revert hf
  unfold pX1_ironAt
  refine g_iload_n hC dX1_ironAt_0 (j := 1) rfl rfl ?_
  refine g_if_lt hC dX1_ironAt_1 ?_ ?_
  · refine g_iconst hC dX1_ironAt_19 ic_0 ?_
    exact g_iret_i hC hT dX1_ironAt_20
  · refine g_iload_n hC dX1_ironAt_4 (j := 1) rfl rfl ?_
    refine g_bipush hC dX1_ironAt_5 bc_16 ?_
    refine g_icmp_ge hC dX1_ironAt_7 ?_ ?_
    · refine g_iconst hC dX1_ironAt_19 ic_0 ?_
      exact g_iret_i hC hT dX1_ironAt_20
    · refine g_aload_n hC dX1_ironAt_10 (j := 0) rfl rfl ?_
      refine g_getR hC fr_1_4 h_b (b := b + 6) rfl dX1_ironAt_11 flX1_28 ?_
      refine g_iload_n hC dX1_ironAt_14 (j := 1) rfl rfl ?_
      refine g_ialdV hC (gx_1_4 hG h_b) (gl_1_4 hG h_b) dX1_ironAt_15 (fun t1 => ?_)
      refine g_goto hC dX1_ironAt_16 ?_
      exact g_iret_i hC hT dX1_ironAt_20
def pX1_sighNow (V : V2) (b : Nat) (a1 : Nat) : Option (Int32) :=
  (pX1_ironAt V b (V a1 0)).bind fun q1 =>
  some (jrem q1 4)
set_option maxHeartbeats 4000000 in
set_option maxRecDepth 100000 in
theorem kX1_sighNow {l : Launch} {D : Dx} {G : G2} {V : V2} {R : R2} {b : Nat} {a1 : Nat} (hG : GX G) (h_b : own G b 11) (h_a1 : own G a1 12) {o : Int32} (hf : pX1_sighNow V b a1 = some o) : Con l yX1_sighNow cX1_sighNow 2 (some .int) (rmN 1 0 0) D G V R [.ref b, .ref a1] (some (.int o), V, R, G, 0, 0) := by
  refine Con.mk RX1 (by decide) rfl (Nat.le_of_ble_eq_true rfl) (fun C _ hR hT _ _ hL hC hnm => ?_)
  revert hf
  unfold pX1_sighNow
  refine g_aload_n hC dX1_sighNow_0 (j := 0) rfl rfl ?_
  refine g_aload_n hC dX1_sighNow_1 (j := 1) rfl rfl ?_
  refine g_getI hC fi_2_0 h_a1 dX1_sighNow_2 flX1_77 ?_
  refine g_callV_i hC hR ⟨Nat.zero_le _, Nat.zero_le _⟩ mwX1_ironAt miX1_ironAt (ci := 1) rfl h_b (Nat.le_of_ble_eq_true rfl) mlX1_80 (fun _ hq => kX1_ironAt hG h_b hq) (Nat.le_of_ble_eq_true rfl) rfl (st := []) rfl (Nat.le_of_ble_eq_true rfl) dX1_sighNow_5 (fun q1 => ?_)
  refine g_iconst hC dX1_sighNow_8 ic_4 ?_
  refine g_iremC hC dX1_sighNow_9 nzi_4 ?_
  exact g_iret_i hC hT dX1_sighNow_10
def pX8_swelling (a1 : Int32) (a2 : Int32) (a3 : Int32) (a4 : Int32) : Option (Int32) :=
  letv (1 + a3) fun x1 =>
  if a1 = 1 then (some 0)
  else (if a1 = 2 then (some (2 * x1))
  else (if a1 = 3 then (some (jmax 0 ((2 * x1) - 3)))
  else (if a1 = 4 then (some (jrem a4 3))
  else (if a1 = 5 then (some ((jrem a4 3) + a2))
  else (some x1)))))
set_option maxHeartbeats 4000000 in
set_option maxRecDepth 100000 in
theorem kX8_swelling {l : Launch} {D : Dx} {G : G2} {V : V2} {R : R2} {a1 : Int32} {a2 : Int32} {a3 : Int32} {a4 : Int32}  {o : Int32} (hf : pX8_swelling a1 a2 a3 a4 = some o) : Con l yX8_swelling cX8_swelling 5 (some .int) (rmN 1 0 0) D G V R [.int a1, .int a2, .int a3, .int a4] (some (.int o), V, R, G, 0, 0) := by
  refine Con.mk RX8 (by decide) rfl (Nat.le_of_ble_eq_true rfl) (fun C _ hR hT _ _ hL hC hnm => ?_)
  revert hf
  unfold pX8_swelling
  refine g_iconst hC dX8_swelling_0 ic_1 ?_
  refine g_iload_n hC dX8_swelling_1 (j := 2) rfl rfl ?_
  refine g_iadd hC dX8_swelling_2 ?_
  refine g_istoreL hC (n0 := 5) (lv' := fun x1 => [(4, .int x1), (0, .int a1), (1, .int a2), (2, .int a3), (3, .int a4)]) dX8_swelling_3 (Nat.le_of_ble_eq_true rfl) hL (fun _ => rfl) (fun x1 => ?_)
  refine g_iload_n hC dX8_swelling_5 (j := 1) rfl rfl ?_
  refine g_tsw hC 1 (34) (tgt := 40) dX8_swelling_6 (by decide) rfl ?_ (fun hn2 => ?_)
  · refine g_iconst hC dX8_swelling_40 ic_0 ?_
    exact g_iret_i hC hT dX8_swelling_41
  refine g_tsw hC 2 (36) (tgt := 42) dX8_swelling_6 (by decide) rfl ?_ (fun hn3 => ?_)
  · refine g_iconst hC dX8_swelling_42 ic_2 ?_
    refine g_iload hC dX8_swelling_43 (j := 0) rfl ?_
    refine g_imul hC dX8_swelling_45 ?_
    exact g_iret_i hC hT dX8_swelling_46
  refine g_tsw hC 3 (41) (tgt := 47) dX8_swelling_6 (by decide) rfl ?_ (fun hn4 => ?_)
  · refine g_iconst hC dX8_swelling_47 ic_0 ?_
    refine g_iconst hC dX8_swelling_48 ic_2 ?_
    refine g_iload hC dX8_swelling_49 (j := 0) rfl ?_
    refine g_imul hC dX8_swelling_51 ?_
    refine g_iconst hC dX8_swelling_52 ic_3 ?_
    refine g_isub hC dX8_swelling_53 ?_
    refine g_mmax hC hR (Nat.le_of_ble_eq_true rfl) ⟨Nat.le_refl _, Nat.le_refl _⟩ dX8_swelling_54 mlX8_361 (st := []) (Nat.le_of_ble_eq_true rfl) ?_
    exact g_iret_i hC hT dX8_swelling_57
  refine g_tsw hC 4 (52) (tgt := 58) dX8_swelling_6 (by decide) rfl ?_ (fun hn5 => ?_)
  · refine g_iload_n hC dX8_swelling_58 (j := 4) rfl rfl ?_
    refine g_iconst hC dX8_swelling_59 ic_3 ?_
    refine g_iremC hC dX8_swelling_60 nzi_3 ?_
    exact g_iret_i hC hT dX8_swelling_61
  refine g_tsw hC 5 (56) (tgt := 62) dX8_swelling_6 (by decide) rfl ?_ (fun hn6 => ?_)
  · refine g_iload_n hC dX8_swelling_62 (j := 4) rfl rfl ?_
    refine g_iconst hC dX8_swelling_63 ic_3 ?_
    refine g_iremC hC dX8_swelling_64 nzi_3 ?_
    refine g_iload_n hC dX8_swelling_65 (j := 2) rfl rfl ?_
    refine g_iadd hC dX8_swelling_66 ?_
    exact g_iret_i hC hT dX8_swelling_67
  refine g_tswd hC (tgt := 68) dX8_swelling_6 (by have := And.intro trivial trivial; have := lv_neT (a := 1) hn2 (by decide); have := lv_neT (a := 2) hn3 (by decide); have := lv_neT (a := 3) hn4 (by decide); have := lv_neT (a := 4) hn5 (by decide); have := lv_neT (a := 5) hn6 (by decide); omega) rfl ?_
  refine g_iload hC dX8_swelling_68 (j := 0) rfl ?_
  exact g_iret_i hC hT dX8_swelling_70
def pX1_swells (V : V2) (b : Nat) (a1 : Nat) (a2 : Int32) (a3 : Int32) : Option (Int32) :=
  (ldI 6 (V (a1 + 1)) a2).bind fun t1 =>
  (pX8_swelling t1 a2 a3 (V a1 0)).bind fun q2 =>
  (ldI 6 (V (a1 + 4)) a2).bind fun t3 =>
  (ldI 6 (V (b + 8)) t3).bind fun t4 =>
  some (jmax 0 (q2 - (t4 / 3)))
set_option maxHeartbeats 4000000 in
set_option maxRecDepth 100000 in
theorem kX1_swells {l : Launch} {D : Dx} {G : G2} {V : V2} {R : R2} {b : Nat} {a1 : Nat} {a2 : Int32} {a3 : Int32} (hG : GX G) (h_b : own G b 11) (h_a1 : own G a1 12) {o : Int32} (hf : pX1_swells V b a1 a2 a3 = some o) : Con l yX1_swells cX1_swells 5 (some .int) (rmN 2 0 0) D G V R [.ref b, .ref a1, .int a2, .int a3] (some (.int o), V, R, G, 0, 0) := by
  refine Con.mk RX1 (by decide) rfl (Nat.le_of_ble_eq_true rfl) (fun C _ hR hT _ _ hL hC hnm => ?_)
  revert hf
  unfold pX1_swells
  refine g_aload_n hC dX1_swells_0 (j := 1) rfl rfl ?_
  refine g_getR hC fr_2_3 h_a1 (b := a1 + 1) rfl dX1_swells_1 flX1_84 ?_
  refine g_iload_n hC dX1_swells_4 (j := 2) rfl rfl ?_
  refine g_ialdV hC (gx_2_3 hG h_a1) (gl_2_3 hG h_a1) dX1_swells_5 (fun t1 => ?_)
  refine g_iload_n hC dX1_swells_6 (j := 2) rfl rfl ?_
  refine g_iload_n hC dX1_swells_7 (j := 3) rfl rfl ?_
  refine g_aload_n hC dX1_swells_8 (j := 1) rfl rfl ?_
  refine g_getI hC fi_2_0 h_a1 dX1_swells_9 flX1_77 ?_
  refine g_callSN_i hC hR ⟨Nat.zero_le _, Nat.zero_le _⟩ mwX8_swelling ms_X8_swelling mlX1_87 (fun _ hq => kX8_swelling  hq) (Nat.le_of_ble_eq_true rfl) rfl (st := []) rfl (Nat.le_of_ble_eq_true rfl) dX1_swells_12 (fun q2 => ?_)
  refine g_istore hC (n0 := 5) (lv' := [(4, .int q2), (0, .ref b), (1, .ref a1), (2, .int a2), (3, .int a3)]) dX1_swells_15 (Nat.le_of_ble_eq_true rfl) hL rfl ?_
  refine g_iconst hC dX1_swells_17 ic_0 ?_
  refine g_iload hC dX1_swells_18 (j := 0) rfl ?_
  refine g_aload_n hC dX1_swells_20 (j := 1) rfl rfl ?_
  refine g_getR hC fr_1_6 h_b (b := b + 8) rfl dX1_swells_21 flX1_35 ?_
  refine g_aload_n hC dX1_swells_24 (j := 2) rfl rfl ?_
  refine g_getR hC fr_2_6 h_a1 (b := a1 + 4) rfl dX1_swells_25 flX1_91 ?_
  refine g_iload_n hC dX1_swells_28 (j := 3) rfl rfl ?_
  refine g_ialdV hC (gx_2_6 hG h_a1) (gl_2_6 hG h_a1) dX1_swells_29 (fun t3 => ?_)
  refine g_ialdV hC (gx_1_6 hG h_b) (gl_1_6 hG h_b) dX1_swells_30 (fun t4 => ?_)
  refine g_iconst hC dX1_swells_31 ic_3 ?_
  refine g_idivC hC dX1_swells_32 nzi_3 ?_
  refine g_isub hC dX1_swells_33 ?_
  refine g_mmax hC hR (Nat.le_of_ble_eq_true rfl) ⟨Nat.le_refl _, Nat.le_refl _⟩ dX1_swells_34 mlX1_94 (st := []) (Nat.le_of_ble_eq_true rfl) ?_
  exact g_iret_i hC hT dX1_swells_37
def pX8_needing (a1 : Int32) (a2 : Int32) (a3 : Int32) : Option (Int32) :=
  letv ((a2 / 6) + a3) fun x1 =>
  if a1 = 1 then (some 30)
  else (if a1 = 2 then (some (x1 + 4))
  else (if a1 = 3 then (some (((x1 + 4) / 2) + 1))
  else (if a1 = 4 then (some (x1 / 2))
  else (if a1 = 5 then (some ((x1 / 2) + (a3 / 2)))
  else (some x1)))))
set_option maxHeartbeats 4000000 in
set_option maxRecDepth 100000 in
theorem kX8_needing {l : Launch} {D : Dx} {G : G2} {V : V2} {R : R2} {a1 : Int32} {a2 : Int32} {a3 : Int32}  {o : Int32} (hf : pX8_needing a1 a2 a3 = some o) : Con l yX8_needing cX8_needing 4 (some .int) (rmN 0 0 0) D G V R [.int a1, .int a2, .int a3] (some (.int o), V, R, G, 0, 0) := by
  refine Con.mk RX8 (by decide) rfl (Nat.le_of_ble_eq_true rfl) (fun C _ hR hT _ _ hL hC hnm => ?_)
  revert hf
  unfold pX8_needing
  refine g_iload_n hC dX8_needing_0 (j := 1) rfl rfl ?_
  refine g_bipush hC dX8_needing_1 bc_6 ?_
  refine g_idivC hC dX8_needing_3 nzi_6 ?_
  refine g_iload_n hC dX8_needing_4 (j := 2) rfl rfl ?_
  refine g_iadd hC dX8_needing_5 ?_
  refine g_istore_nL hC (n0 := 4) (lv' := fun x1 => [(3, .int x1), (0, .int a1), (1, .int a2), (2, .int a3)]) dX8_needing_6 rfl (Nat.le_of_ble_eq_true rfl) hL (fun _ => rfl) (fun x1 => ?_)
  refine g_iload_n hC dX8_needing_7 (j := 1) rfl rfl ?_
  refine g_tsw hC 1 (36) (tgt := 44) dX8_needing_8 (by decide) rfl ?_ (fun hn2 => ?_)
  · refine g_bipush hC dX8_needing_44 bc_30 ?_
    exact g_iret_i hC hT dX8_needing_46
  refine g_tsw hC 2 (39) (tgt := 47) dX8_needing_8 (by decide) rfl ?_ (fun hn3 => ?_)
  · refine g_iload_n hC dX8_needing_47 (j := 0) rfl rfl ?_
    refine g_iconst hC dX8_needing_48 ic_4 ?_
    refine g_iadd hC dX8_needing_49 ?_
    exact g_iret_i hC hT dX8_needing_50
  refine g_tsw hC 3 (43) (tgt := 51) dX8_needing_8 (by decide) rfl ?_ (fun hn4 => ?_)
  · refine g_iload_n hC dX8_needing_51 (j := 0) rfl rfl ?_
    refine g_iconst hC dX8_needing_52 ic_4 ?_
    refine g_iadd hC dX8_needing_53 ?_
    refine g_iconst hC dX8_needing_54 ic_2 ?_
    refine g_idivC hC dX8_needing_55 nzi_2 ?_
    refine g_iconst hC dX8_needing_56 ic_1 ?_
    refine g_iadd hC dX8_needing_57 ?_
    exact g_iret_i hC hT dX8_needing_58
  refine g_tsw hC 4 (51) (tgt := 59) dX8_needing_8 (by decide) rfl ?_ (fun hn5 => ?_)
  · refine g_iload_n hC dX8_needing_59 (j := 0) rfl rfl ?_
    refine g_iconst hC dX8_needing_60 ic_2 ?_
    refine g_idivC hC dX8_needing_61 nzi_2 ?_
    exact g_iret_i hC hT dX8_needing_62
  refine g_tsw hC 5 (55) (tgt := 63) dX8_needing_8 (by decide) rfl ?_ (fun hn6 => ?_)
  · refine g_iload_n hC dX8_needing_63 (j := 0) rfl rfl ?_
    refine g_iconst hC dX8_needing_64 ic_2 ?_
    refine g_idivC hC dX8_needing_65 nzi_2 ?_
    refine g_iload_n hC dX8_needing_66 (j := 3) rfl rfl ?_
    refine g_iconst hC dX8_needing_67 ic_2 ?_
    refine g_idivC hC dX8_needing_68 nzi_2 ?_
    refine g_iadd hC dX8_needing_69 ?_
    exact g_iret_i hC hT dX8_needing_70
  refine g_tswd hC (tgt := 71) dX8_needing_8 (by have := And.intro trivial trivial; have := lv_neT (a := 1) hn2 (by decide); have := lv_neT (a := 2) hn3 (by decide); have := lv_neT (a := 3) hn4 (by decide); have := lv_neT (a := 4) hn5 (by decide); have := lv_neT (a := 5) hn6 (by decide); omega) rfl ?_
  refine g_iload_n hC dX8_needing_71 (j := 0) rfl rfl ?_
  exact g_iret_i hC hT dX8_needing_72
def pX1_steamNow (V : V2) (b : Nat) (a1 : Nat) : Option (Int32) :=
  (pX1_ironAt V b (V a1 0)).bind fun q1 =>
  some (q1 / 4)
set_option maxHeartbeats 4000000 in
set_option maxRecDepth 100000 in
theorem kX1_steamNow {l : Launch} {D : Dx} {G : G2} {V : V2} {R : R2} {b : Nat} {a1 : Nat} (hG : GX G) (h_b : own G b 11) (h_a1 : own G a1 12) {o : Int32} (hf : pX1_steamNow V b a1 = some o) : Con l yX1_steamNow cX1_steamNow 2 (some .int) (rmN 1 0 0) D G V R [.ref b, .ref a1] (some (.int o), V, R, G, 0, 0) := by
  refine Con.mk RX1 (by decide) rfl (Nat.le_of_ble_eq_true rfl) (fun C _ hR hT _ _ hL hC hnm => ?_)
  revert hf
  unfold pX1_steamNow
  refine g_aload_n hC dX1_steamNow_0 (j := 0) rfl rfl ?_
  refine g_aload_n hC dX1_steamNow_1 (j := 1) rfl rfl ?_
  refine g_getI hC fi_2_0 h_a1 dX1_steamNow_2 flX1_77 ?_
  refine g_callV_i hC hR ⟨Nat.zero_le _, Nat.zero_le _⟩ mwX1_ironAt miX1_ironAt (ci := 1) rfl h_b (Nat.le_of_ble_eq_true rfl) mlX1_80 (fun _ hq => kX1_ironAt hG h_b hq) (Nat.le_of_ble_eq_true rfl) rfl (st := []) rfl (Nat.le_of_ble_eq_true rfl) dX1_steamNow_5 (fun q1 => ?_)
  refine g_iconst hC dX1_steamNow_8 ic_4 ?_
  refine g_idivC hC dX1_steamNow_9 nzi_4 ?_
  exact g_iret_i hC hT dX1_steamNow_10
def lX2_flatOn_4 (V : V2) (b : Nat) (a1 : Int32) : Nat → Int32 → Int32 → Option (Int32)
  | 0, _, _ => none
  | f1 + 1, x2, x3 =>
    if (V b 1) ≤ x3 then (some x2)
    else ((pX2_isFlat V b x3).bind fun q4 =>
    if q4 = 0 then (letv (x3 + 1) fun x5 =>
    lX2_flatOn_4 V b a1 f1 x2 x5)
    else ((ldI 6 (V (b + 4)) x3).bind fun t6 =>
    if t6 = a1 then (letv (x2 + 1) fun x7 =>
    letv (x3 + 1) fun x8 =>
    lX2_flatOn_4 V b a1 f1 x7 x8)
    else (letv (x3 + 1) fun x9 =>
    lX2_flatOn_4 V b a1 f1 x2 x9)))
def pX2_flatOn (n : Nat) (V : V2) (b : Nat) (a1 : Int32) : Option (Int32) :=
  (lX2_flatOn_4 V b a1 n 0 0).bind fun w10 =>
  some w10
set_option maxHeartbeats 4000000 in
set_option maxRecDepth 100000 in
theorem wX2_flatOn_4 {C : Cx} (hC : CxOK C cX2_flatOn RX2 (some .int)) (hL : C.2.2.2.2 = 4) {G : G2} {V : V2} {R : R2} {b : Nat} {a1 : Int32} (hG : GX G) (h_b : own G b 12) (hR : C.1.2.2.2.1 = rmN 1 0 0) {o : Int32} (hX : Go C 39 [(2, .int o)] [] V R G 0 0) : ∀ (f : Nat) (x2 : Int32) (x3 : Int32), lX2_flatOn_4 V b a1 f x2 x3 = some o → Go C 4 [(0, .ref b), (1, .int a1), (2, .int x2), (3, .int x3)] [] V R G 0 0 := by
  intro f
  induction f with
  | zero => intro _ _ hf; exact absurd hf (by unfold lX2_flatOn_4; exact fun z => nomatch z)
  | succ f1 ih =>
    intro x2 x3
    unfold lX2_flatOn_4
    refine g_iload_n hC dX2_flatOn_4 (j := 3) rfl rfl ?_
    refine g_aload_n hC dX2_flatOn_5 (j := 0) rfl rfl ?_
    refine g_getI hC fi_2_1 h_b dX2_flatOn_6 flX2_15 ?_
    refine g_icmp_ge hC dX2_flatOn_9 ?_ ?_
    · refine g_sub [2] rfl ?_
      exact fun e => by cases e; exact hX
    · refine g_aload_n hC dX2_flatOn_12 (j := 0) rfl rfl ?_
      refine g_iload_n hC dX2_flatOn_13 (j := 3) rfl rfl ?_
      refine g_callV_i hC hR ⟨Nat.zero_le _, Nat.zero_le _⟩ mwX2_isFlat miX2_isFlat (ci := 2) rfl h_b (Nat.le_of_ble_eq_true rfl) mlX2_53 (fun _ hq => kX2_isFlat hG h_b hq) (Nat.le_of_ble_eq_true rfl) rfl (st := []) rfl (Nat.le_of_ble_eq_true rfl) dX2_flatOn_14 (fun q4 => ?_)
      refine g_if_eq hC dX2_flatOn_17 ?_ ?_
      · refine g_iincL hC (n0 := 4) (j := 3) (lv' := fun x5 => [(3, .int x5), (0, .ref b), (1, .int a1), (2, .int x2)]) dX2_flatOn_33 rfl ic_1 (Nat.le_of_ble_eq_true rfl) hL (fun _ => rfl) (fun x5 => ?_)
        refine g_goto hC dX2_flatOn_36 ?_
        refine g_sub [1, 2, 3, 0] rfl ?_
        exact ih x2 x5
      · refine g_aload_n hC dX2_flatOn_20 (j := 0) rfl rfl ?_
        refine g_getR hC fr_2_6 h_b (b := b + 4) rfl dX2_flatOn_21 flX2_31 ?_
        refine g_iload_n hC dX2_flatOn_24 (j := 3) rfl rfl ?_
        refine g_ialdV hC (gx_2_6 hG h_b) (gl_2_6 hG h_b) dX2_flatOn_25 (fun t6 => ?_)
        refine g_iload_n hC dX2_flatOn_26 (j := 1) rfl rfl ?_
        refine g_icmp_ne hC dX2_flatOn_27 ?_ ?_
        · refine g_iincL hC (n0 := 4) (j := 2) (lv' := fun x7 => [(2, .int x7), (0, .ref b), (1, .int a1), (3, .int x3)]) dX2_flatOn_30 rfl ic_1 (Nat.le_of_ble_eq_true rfl) hL (fun _ => rfl) (fun x7 => ?_)
          refine g_iincL hC (n0 := 4) (j := 3) (lv' := fun x8 => [(3, .int x8), (2, .int x7), (0, .ref b), (1, .int a1)]) dX2_flatOn_33 rfl ic_1 (Nat.le_of_ble_eq_true rfl) hL (fun _ => rfl) (fun x8 => ?_)
          refine g_goto hC dX2_flatOn_36 ?_
          refine g_sub [2, 3, 1, 0] rfl ?_
          exact ih x7 x8
        · refine g_iincL hC (n0 := 4) (j := 3) (lv' := fun x9 => [(3, .int x9), (0, .ref b), (1, .int a1), (2, .int x2)]) dX2_flatOn_33 rfl ic_1 (Nat.le_of_ble_eq_true rfl) hL (fun _ => rfl) (fun x9 => ?_)
          refine g_goto hC dX2_flatOn_36 ?_
          refine g_sub [1, 2, 3, 0] rfl ?_
          exact ih x2 x9
set_option maxHeartbeats 4000000 in
set_option maxRecDepth 100000 in
theorem kX2_flatOn {l : Launch} {D : Dx} {G : G2} {V : V2} {R : R2} {n : Nat} {b : Nat} {a1 : Int32} (hG : GX G) (h_b : own G b 12) {o : Int32} (hf : pX2_flatOn n V b a1 = some o) : Con l yX2_flatOn cX2_flatOn 4 (some .int) (rmN 1 0 0) D G V R [.ref b, .int a1] (some (.int o), V, R, G, 0, 0) := by
  refine Con.mk RX2 (by decide) rfl (Nat.le_of_ble_eq_true rfl) (fun C _ hR hT _ _ hL hC hnm => ?_)
  revert hf
  unfold pX2_flatOn
  refine g_iconst hC dX2_flatOn_0 ic_0 ?_
  refine g_istore_n hC (n0 := 4) (lv' := [(2, .int 0), (0, .ref b), (1, .int a1)]) dX2_flatOn_1 rfl (Nat.le_of_ble_eq_true rfl) hL rfl ?_
  refine g_iconst hC dX2_flatOn_2 ic_0 ?_
  refine g_istore_n hC (n0 := 4) (lv' := [(3, .int 0), (2, .int 0), (0, .ref b), (1, .int a1)]) dX2_flatOn_3 rfl (Nat.le_of_ble_eq_true rfl) hL rfl ?_
  refine g_sub [2, 3, 1, 0] rfl ?_
  refine g_bind (J := fun w10 => Go C 39 [(2, .int w10)] [] V R G 0 0) (fun w10 hJ => wX2_flatOn_4 hC hL hG h_b hR hJ n 0 0) (fun w10 => ?_)
  refine g_iload_n hC dX2_flatOn_39 (j := 0) rfl rfl ?_
  exact g_iret_i hC hT dX2_flatOn_40
def pX1_pays (n : Nat) (V : V2) (b : Nat) (a1 : Nat) (a2 : Int32) (a3 : Int32) : Option (Int32) :=
  (pX2_isFlat V a1 a2).bind fun q1 =>
  if q1 = 0 then ((ldI 6 (V (a1 + 4)) a2).bind fun t2 =>
  (ldI 6 (V (b + 7)) t2).bind fun t3 =>
  (pX2_flatOn n V a1 t2).bind fun q4 =>
  letv (((4 * a3) + t3) + (2 * q4)) fun x5 =>
  (ldI 6 (V (a1 + 1)) a2).bind fun t6 =>
  (ldI 6 (V (a1 + 2)) a2).bind fun t7 =>
  (ldI 6 (V (a1 + 3)) a2).bind fun t8 =>
  (pX8_needing t6 t7 t8).bind fun q9 =>
  if x5 < q9 then (some 0)
  else ((ldI 6 (V (a1 + 2)) a2).bind fun t10 =>
  some (4 + (t10 / 12))))
  else (some 0)
set_option maxHeartbeats 4000000 in
set_option maxRecDepth 100000 in
theorem kX1_pays {l : Launch} {D : Dx} {G : G2} {V : V2} {R : R2} {n : Nat} {b : Nat} {a1 : Nat} {a2 : Int32} {a3 : Int32} (hG : GX G) (h_b : own G b 11) (h_a1 : own G a1 12) {o : Int32} (hf : pX1_pays n V b a1 a2 a3 = some o) : Con l yX1_pays cX1_pays 6 (some .int) (rmN 2 0 0) D G V R [.ref b, .ref a1, .int a2, .int a3] (some (.int o), V, R, G, 0, 0) := by
  refine Con.mk RX1 (by decide) rfl (Nat.le_of_ble_eq_true rfl) (fun C _ hR hT _ _ hL hC hnm => ?_)
  revert hf
  unfold pX1_pays
  refine g_aload_n hC dX1_pays_0 (j := 1) rfl rfl ?_
  refine g_iload_n hC dX1_pays_1 (j := 2) rfl rfl ?_
  refine g_callV_i hC hR ⟨Nat.zero_le _, Nat.zero_le _⟩ mwX2_isFlat miX2_isFlat (ci := 2) rfl h_a1 (Nat.le_of_ble_eq_true rfl) mlX1_100 (fun _ hq => kX2_isFlat hG h_a1 hq) (Nat.le_of_ble_eq_true rfl) rfl (st := []) rfl (Nat.le_of_ble_eq_true rfl) dX1_pays_2 (fun q1 => ?_)
  refine g_if_eq hC dX1_pays_5 ?_ ?_
  · refine g_aload_n hC dX1_pays_10 (j := 1) rfl rfl ?_
    refine g_getR hC fr_2_6 h_a1 (b := a1 + 4) rfl dX1_pays_11 flX1_91 ?_
    refine g_iload_n hC dX1_pays_14 (j := 2) rfl rfl ?_
    refine g_ialdV hC (gx_2_6 hG h_a1) (gl_2_6 hG h_a1) dX1_pays_15 (fun t2 => ?_)
    refine g_istore hC (n0 := 6) (lv' := [(4, .int t2), (0, .ref b), (1, .ref a1), (2, .int a2), (3, .int a3)]) dX1_pays_16 (Nat.le_of_ble_eq_true rfl) hL rfl ?_
    refine g_iconst hC dX1_pays_18 ic_4 ?_
    refine g_iload_n hC dX1_pays_19 (j := 4) rfl rfl ?_
    refine g_imul hC dX1_pays_20 ?_
    refine g_aload_n hC dX1_pays_21 (j := 1) rfl rfl ?_
    refine g_getR hC fr_1_5 h_b (b := b + 7) rfl dX1_pays_22 flX1_32 ?_
    refine g_iload hC dX1_pays_25 (j := 0) rfl ?_
    refine g_ialdV hC (gx_1_5 hG h_b) (gl_1_5 hG h_b) dX1_pays_27 (fun t3 => ?_)
    refine g_iadd hC dX1_pays_28 ?_
    refine g_iconst hC dX1_pays_29 ic_2 ?_
    refine g_aload_n hC dX1_pays_30 (j := 2) rfl rfl ?_
    refine g_iload hC dX1_pays_31 (j := 0) rfl ?_
    refine g_callV_i hC hR ⟨Nat.zero_le _, Nat.zero_le _⟩ mwX2_flatOn miX2_flatOn (ci := 2) rfl h_a1 (Nat.le_of_ble_eq_true rfl) mlX1_104 (fun _ hq => kX2_flatOn hG h_a1 hq) (Nat.le_of_ble_eq_true rfl) rfl (st := [.int 2, .int ((4 * a3) + t3)]) rfl (Nat.le_of_ble_eq_true rfl) dX1_pays_33 (fun q4 => ?_)
    refine g_imul hC dX1_pays_36 ?_
    refine g_iadd hC dX1_pays_37 ?_
    refine g_istoreL hC (n0 := 6) (lv' := fun x5 => [(5, .int x5), (4, .int t2), (0, .ref b), (1, .ref a1), (2, .int a2), (3, .int a3)]) dX1_pays_38 (Nat.le_of_ble_eq_true rfl) hL (fun _ => rfl) (fun x5 => ?_)
    refine g_iload hC dX1_pays_40 (j := 0) rfl ?_
    refine g_aload_n hC dX1_pays_42 (j := 3) rfl rfl ?_
    refine g_getR hC fr_2_3 h_a1 (b := a1 + 1) rfl dX1_pays_43 flX1_84 ?_
    refine g_iload_n hC dX1_pays_46 (j := 4) rfl rfl ?_
    refine g_ialdV hC (gx_2_3 hG h_a1) (gl_2_3 hG h_a1) dX1_pays_47 (fun t6 => ?_)
    refine g_aload_n hC dX1_pays_48 (j := 3) rfl rfl ?_
    refine g_getR hC fr_2_4 h_a1 (b := a1 + 2) rfl dX1_pays_49 flX1_107 ?_
    refine g_iload_n hC dX1_pays_52 (j := 4) rfl rfl ?_
    refine g_ialdV hC (gx_2_4 hG h_a1) (gl_2_4 hG h_a1) dX1_pays_53 (fun t7 => ?_)
    refine g_aload_n hC dX1_pays_54 (j := 3) rfl rfl ?_
    refine g_getR hC fr_2_5 h_a1 (b := a1 + 3) rfl dX1_pays_55 flX1_110 ?_
    refine g_iload_n hC dX1_pays_58 (j := 4) rfl rfl ?_
    refine g_ialdV hC (gx_2_5 hG h_a1) (gl_2_5 hG h_a1) dX1_pays_59 (fun t8 => ?_)
    refine g_callSN_i hC hR ⟨Nat.zero_le _, Nat.zero_le _⟩ mwX8_needing ms_X8_needing mlX1_113 (fun _ hq => kX8_needing  hq) (Nat.le_of_ble_eq_true rfl) rfl (st := [.int x5]) rfl (Nat.le_of_ble_eq_true rfl) dX1_pays_60 (fun q9 => ?_)
    refine g_icmp_lt hC dX1_pays_63 ?_ ?_
    · refine g_iconst hC dX1_pays_80 ic_0 ?_
      exact g_iret_i hC hT dX1_pays_81
    · refine g_iconst hC dX1_pays_66 ic_4 ?_
      refine g_aload_n hC dX1_pays_67 (j := 3) rfl rfl ?_
      refine g_getR hC fr_2_4 h_a1 (b := a1 + 2) rfl dX1_pays_68 flX1_107 ?_
      refine g_iload_n hC dX1_pays_71 (j := 4) rfl rfl ?_
      refine g_ialdV hC (gx_2_4 hG h_a1) (gl_2_4 hG h_a1) dX1_pays_72 (fun t10 => ?_)
      refine g_bipush hC dX1_pays_73 bc_12 ?_
      refine g_idivC hC dX1_pays_75 nzi_12 ?_
      refine g_iadd hC dX1_pays_76 ?_
      refine g_goto hC dX1_pays_77 ?_
      exact g_iret_i hC hT dX1_pays_81
  · refine g_iconst hC dX1_pays_8 ic_0 ?_
    exact g_iret_i hC hT dX1_pays_9
def lX8_isOrIsUnder_4 (a2 : Int32) : Nat → Int32 → Int32 → (Unit → Option (Int32)) → Option (Int32)
  | 0, _, _, _ => none
  | f1 + 1, x2, x3, K =>
    if (nI 6) ≤ x3 then (K ())
    else ((pX8_within x2 0 ((nI 6) - 1)).bind fun q4 =>
    if q4 = 0 then (K ())
    else (if x2 = a2 then (some 1)
    else ((ldI 6 (fun j => abvT.getD j 0) x2).bind fun t5 =>
    letv (x3 + 1) fun x6 =>
    lX8_isOrIsUnder_4 a2 f1 t5 x6 K)))
def pX8_isOrIsUnder (n : Nat) (V : V2) (a1 : Int32) (a2 : Int32) : Option (Int32) :=
  lX8_isOrIsUnder_4 a2 n a1 0 (fun _ =>
  some 0)
set_option maxHeartbeats 4000000 in
set_option maxRecDepth 100000 in
theorem wX8_isOrIsUnder_4 {C : Cx} (hC : CxOK C cX8_isOrIsUnder RX8 (some .boolean)) (hL : C.2.2.2.2 = 4) {G : G2} {V : V2} {R : R2} {a2 : Int32} (hR : C.1.2.2.2.1 = rmN 1 0 0) {o : Int32} (hT : C.2.1 = (some (.int o), V, R, G, 0, 0)) {K : Unit → Option (Int32)} (hX : ∀ (_ : Unit), K () = some o → Go C 45 [] [] V R G 0 0) : ∀ (f : Nat) (x2 : Int32) (x3 : Int32), lX8_isOrIsUnder_4 a2 f x2 x3 K = some o → Go C 4 [(1, .int a2), (2, .int x2), (3, .int x3)] [] V R G 0 0 := by
  intro f
  induction f with
  | zero => intro _ _ hf; exact absurd hf (by unfold lX8_isOrIsUnder_4; exact fun z => nomatch z)
  | succ f1 ih =>
    intro x2 x3
    unfold lX8_isOrIsUnder_4
    refine g_iload_n hC dX8_isOrIsUnder_4 (j := 2) rfl rfl ?_
    refine g_getS0 hC dX8_isOrIsUnder_5 flX8_358 ?_
    refine g_alenT hC hC.2.2.2.2.2.1.2.1.2.1 dX8_isOrIsUnder_8 ?_
    refine g_icmp_ge hC dX8_isOrIsUnder_9 ?_ ?_
    · refine g_sub [] rfl ?_
      exact hX ()
    · refine g_iload_n hC dX8_isOrIsUnder_12 (j := 1) rfl rfl ?_
      refine g_iconst hC dX8_isOrIsUnder_13 ic_0 ?_
      refine g_getS0 hC dX8_isOrIsUnder_14 flX8_358 ?_
      refine g_alenT hC hC.2.2.2.2.2.1.2.1.2.1 dX8_isOrIsUnder_17 ?_
      refine g_iconst hC dX8_isOrIsUnder_18 ic_1 ?_
      refine g_isub hC dX8_isOrIsUnder_19 ?_
      refine g_callS_i hC hR ⟨Nat.zero_le _, Nat.zero_le _⟩ mwX8_within ms_X8_within mlX8_77 (fun _ hq => kX8_within  hq) (Nat.le_of_ble_eq_true rfl) rfl (st := []) rfl (Nat.le_of_ble_eq_true rfl) dX8_isOrIsUnder_20 (fun q4 => ?_)
      refine g_if_eq hC dX8_isOrIsUnder_23 ?_ ?_
      · refine g_sub [] rfl ?_
        exact hX ()
      · refine g_iload_n hC dX8_isOrIsUnder_26 (j := 1) rfl rfl ?_
        refine g_iload_n hC dX8_isOrIsUnder_27 (j := 0) rfl rfl ?_
        refine g_icmp_ne hC dX8_isOrIsUnder_28 ?_ ?_
        · refine g_iconst hC dX8_isOrIsUnder_31 ic_1 ?_
          exact g_zret_i hC rfl hT dX8_isOrIsUnder_32
        · refine g_getS0 hC dX8_isOrIsUnder_33 flX8_358 ?_
          refine g_iload_n hC dX8_isOrIsUnder_36 (j := 1) rfl rfl ?_
          refine g_ialdT hC hC.2.2.2.2.2.1.2.1.2.1 (Nat.le_of_ble_eq_true rfl) dX8_isOrIsUnder_37 (fun t5 => ?_)
          refine g_istore_n hC (n0 := 4) (lv' := [(2, .int t5), (1, .int a2), (3, .int x3)]) dX8_isOrIsUnder_38 rfl (Nat.le_of_ble_eq_true rfl) hL rfl ?_
          refine g_iincL hC (n0 := 4) (j := 2) (lv' := fun x6 => [(3, .int x6), (2, .int t5), (1, .int a2)]) dX8_isOrIsUnder_39 rfl ic_1 (Nat.le_of_ble_eq_true rfl) hL (fun _ => rfl) (fun x6 => ?_)
          refine g_goto hC dX8_isOrIsUnder_42 ?_
          refine g_sub [2, 1, 0] rfl ?_
          exact ih t5 x6
set_option maxHeartbeats 4000000 in
set_option maxRecDepth 100000 in
theorem kX8_isOrIsUnder {l : Launch} {D : Dx} {G : G2} {V : V2} {R : R2} {n : Nat} {a1 : Int32} {a2 : Int32}  {o : Int32} (hf : pX8_isOrIsUnder n V a1 a2 = some o) : Con l yX8_isOrIsUnder cX8_isOrIsUnder 4 (some .boolean) (rmN 1 0 0) D G V R [.int a1, .int a2] (some (.int o), V, R, G, 0, 0) := by
  refine Con.mk RX8 (by decide) rfl (Nat.le_of_ble_eq_true rfl) (fun C _ hR hT _ _ hL hC hnm => ?_)
  revert hf
  unfold pX8_isOrIsUnder
  refine g_iload_n hC dX8_isOrIsUnder_0 (j := 0) rfl rfl ?_
  refine g_istore_n hC (n0 := 4) (lv' := [(2, .int a1), (0, .int a1), (1, .int a2)]) dX8_isOrIsUnder_1 rfl (Nat.le_of_ble_eq_true rfl) hL rfl ?_
  refine g_iconst hC dX8_isOrIsUnder_2 ic_0 ?_
  refine g_istore_n hC (n0 := 4) (lv' := [(3, .int 0), (2, .int a1), (0, .int a1), (1, .int a2)]) dX8_isOrIsUnder_3 rfl (Nat.le_of_ble_eq_true rfl) hL rfl ?_
  refine g_sub [3, 1, 0] rfl ?_
  refine wX8_isOrIsUnder_4 hC hL hR hT (fun _ => ?_) n a1 0
  refine g_iconst hC dX8_isOrIsUnder_45 ic_0 ?_
  exact g_zret_i hC rfl hT dX8_isOrIsUnder_46
def pX4_valueOf (V : V2) (a1 : Int32) (a2 : Nat) (a3 : Int32) (a4 : Int32) : Option (Int32) :=
  letv (a1 - 10000) fun x1 =>
  if x1 = 0 then (some (V a2 0))
  else (if x1 = 1 then ((ldI 6 (V (a2 + 2)) a3).bind fun t3 =>
  some t3)
  else (if x1 = 2 then ((ldI 6 (V (a2 + 3)) a3).bind fun t5 =>
  some t5)
  else (if x1 = 3 then (some a4)
  else (if x1 = 4 then (some a3)
  else (some a1)))))
set_option maxHeartbeats 4000000 in
set_option maxRecDepth 100000 in
theorem kX4_valueOf {l : Launch} {D : Dx} {G : G2} {V : V2} {R : R2} {a1 : Int32} {a2 : Nat} {a3 : Int32} {a4 : Int32} (hG : GX G) (h_a2 : own G a2 12) {o : Int32} (hf : pX4_valueOf V a1 a2 a3 a4 = some o) : Con l yX4_valueOf cX4_valueOf 4 (some .int) (rmN 0 0 0) D G V R [.int a1, .ref a2, .int a3, .int a4] (some (.int o), V, R, G, 0, 0) := by
  refine Con.mk RX4 (by decide) rfl (Nat.le_of_ble_eq_true rfl) (fun C _ hR hT _ _ hL hC hnm => ?_)
  revert hf
  unfold pX4_valueOf
  refine g_iload_n hC dX4_valueOf_0 (j := 0) rfl rfl ?_
  refine g_sipush hC dX4_valueOf_1 sc_10000 ?_
  refine g_isub hC dX4_valueOf_4 ?_
  refine g_letv (X := fun x1 => Go C 5 [(0, .int a1), (1, .ref a2), (2, .int a3), (3, .int a4)] [.int x1] V R G 0 0) (fun x1 => ?_)
  refine g_tsw hC 0 (35) (tgt := 40) dX4_valueOf_5 (by decide) rfl ?_ (fun hn2 => ?_)
  · refine g_aload_n hC dX4_valueOf_40 (j := 1) rfl rfl ?_
    refine g_getI hC fi_2_0 h_a2 dX4_valueOf_41 flX4_28 ?_
    exact g_iret_i hC hT dX4_valueOf_44
  refine g_tsw hC 1 (40) (tgt := 45) dX4_valueOf_5 (by decide) rfl ?_ (fun hn4 => ?_)
  · refine g_aload_n hC dX4_valueOf_45 (j := 1) rfl rfl ?_
    refine g_getR hC fr_2_4 h_a2 (b := a2 + 2) rfl dX4_valueOf_46 flX4_33 ?_
    refine g_iload_n hC dX4_valueOf_49 (j := 2) rfl rfl ?_
    refine g_ialdV hC (gx_2_4 hG h_a2) (gl_2_4 hG h_a2) dX4_valueOf_50 (fun t3 => ?_)
    exact g_iret_i hC hT dX4_valueOf_51
  refine g_tsw hC 2 (47) (tgt := 52) dX4_valueOf_5 (by decide) rfl ?_ (fun hn6 => ?_)
  · refine g_aload_n hC dX4_valueOf_52 (j := 1) rfl rfl ?_
    refine g_getR hC fr_2_5 h_a2 (b := a2 + 3) rfl dX4_valueOf_53 flX4_36 ?_
    refine g_iload_n hC dX4_valueOf_56 (j := 2) rfl rfl ?_
    refine g_ialdV hC (gx_2_5 hG h_a2) (gl_2_5 hG h_a2) dX4_valueOf_57 (fun t5 => ?_)
    exact g_iret_i hC hT dX4_valueOf_58
  refine g_tsw hC 3 (54) (tgt := 59) dX4_valueOf_5 (by decide) rfl ?_ (fun hn7 => ?_)
  · refine g_iload_n hC dX4_valueOf_59 (j := 3) rfl rfl ?_
    exact g_iret_i hC hT dX4_valueOf_60
  refine g_tsw hC 4 (56) (tgt := 61) dX4_valueOf_5 (by decide) rfl ?_ (fun hn8 => ?_)
  · refine g_iload_n hC dX4_valueOf_61 (j := 2) rfl rfl ?_
    exact g_iret_i hC hT dX4_valueOf_62
  refine g_tswd hC (tgt := 63) dX4_valueOf_5 (by have := And.intro trivial trivial; have := lv_neT (a := 0) hn2 (by decide); have := lv_neT (a := 1) hn4 (by decide); have := lv_neT (a := 2) hn6 (by decide); have := lv_neT (a := 3) hn7 (by decide); have := lv_neT (a := 4) hn8 (by decide); omega) rfl ?_
  refine g_iload_n hC dX4_valueOf_63 (j := 0) rfl rfl ?_
  exact g_iret_i hC hT dX4_valueOf_64
def pX4_compares (a1 : Int32) (a2 : Int32) (a3 : Int32) : Option (Int32) :=
  if a1 = 0 then (if a3 ≤ a2 then (some 0)
  else (some 1))
  else (if a1 = 1 then (if a2 = a3 then (some 1)
  else (some 0))
  else (if a2 ≤ a3 then (some 0)
  else (some 1)))
set_option maxHeartbeats 4000000 in
set_option maxRecDepth 100000 in
theorem kX4_compares {l : Launch} {D : Dx} {G : G2} {V : V2} {R : R2} {a1 : Int32} {a2 : Int32} {a3 : Int32}  {o : Int32} (hf : pX4_compares a1 a2 a3 = some o) : Con l yX4_compares cX4_compares 3 (some .boolean) (rmN 0 0 0) D G V R [.int a1, .int a2, .int a3] (some (.int o), V, R, G, 0, 0) := by
  refine Con.mk RX4 (by decide) rfl (Nat.le_of_ble_eq_true rfl) (fun C _ hR hT _ _ hL hC hnm => ?_)
  revert hf
  unfold pX4_compares
  refine g_iload_n hC dX4_compares_0 (j := 0) rfl rfl ?_
  refine g_lsw hC 0 (27) (tgt := 28) dX4_compares_1 (by decide) (by decide) rfl ?_ (fun hn1 => ?_)
  · refine g_iload_n hC dX4_compares_28 (j := 1) rfl rfl ?_
    refine g_iload_n hC dX4_compares_29 (j := 2) rfl rfl ?_
    refine g_icmp_ge hC dX4_compares_30 ?_ ?_
    · refine g_iconst hC dX4_compares_37 ic_0 ?_
      exact g_zret_i hC rfl hT dX4_compares_38
    · refine g_iconst hC dX4_compares_33 ic_1 ?_
      refine g_goto hC dX4_compares_34 ?_
      exact g_zret_i hC rfl hT dX4_compares_38
  refine g_lsw hC 1 (38) (tgt := 39) dX4_compares_1 (by decide) (by decide) rfl ?_ (fun hn2 => ?_)
  · refine g_iload_n hC dX4_compares_39 (j := 1) rfl rfl ?_
    refine g_iload_n hC dX4_compares_40 (j := 2) rfl rfl ?_
    refine g_icmp_ne hC dX4_compares_41 ?_ ?_
    · refine g_iconst hC dX4_compares_44 ic_1 ?_
      refine g_goto hC dX4_compares_45 ?_
      exact g_zret_i hC rfl hT dX4_compares_49
    · refine g_iconst hC dX4_compares_48 ic_0 ?_
      exact g_zret_i hC rfl hT dX4_compares_49
  refine g_lswd hC (tgt := 50) dX4_compares_1 (by decide) (by rw [lv_osw hn1 (by decide)]; rw [lv_osw hn2 (by decide)]; rfl) rfl ?_
  refine g_iload_n hC dX4_compares_50 (j := 1) rfl rfl ?_
  refine g_iload_n hC dX4_compares_51 (j := 2) rfl rfl ?_
  refine g_icmp_le hC dX4_compares_52 ?_ ?_
  · refine g_iconst hC dX4_compares_59 ic_0 ?_
    exact g_zret_i hC rfl hT dX4_compares_60
  · refine g_iconst hC dX4_compares_55 ic_1 ?_
    refine g_goto hC dX4_compares_56 ?_
    exact g_zret_i hC rfl hT dX4_compares_60
def lX4_holds_6 (G : G2) (V : V2) (b : Nat) (a1 : Nat) (a2 : Int32) (a3 : Int32) : Nat → Int32 → Int32 → Option (Int32)
  | 0, _, _ => none
  | f1 + 1, x2, x3 =>
    if (nI (G.2.2.1 (b + 1))) ≤ (x3 + 2) then (some x2)
    else (letv (x2 &&& 1) fun x4 =>
    (ldI (G.2.2.1 (b + 1)) (V (b + 1)) x3).bind fun t5 =>
    if t5 = 3 then (letv ((x2 >>> (1 &&& 31)) &&& (x4 ||| (-2))) fun x6 =>
    letv (x3 + 3) fun x7 =>
    lX4_holds_6 G V b a1 a2 a3 f1 x6 x7)
    else (if t5 = 4 then (letv ((x2 >>> (1 &&& 31)) ||| x4) fun x9 =>
    letv (x3 + 3) fun x10 =>
    lX4_holds_6 G V b a1 a2 a3 f1 x9 x10)
    else (if t5 = 5 then (letv (x2 ^^^ 1) fun x12 =>
    letv (x3 + 3) fun x13 =>
    lX4_holds_6 G V b a1 a2 a3 f1 x12 x13)
    else ((ldI (G.2.2.1 (b + 1)) (V (b + 1)) (x3 + 1)).bind fun t15 =>
    (pX4_valueOf V t15 a1 a2 a3).bind fun q16 =>
    (ldI (G.2.2.1 (b + 1)) (V (b + 1)) (x3 + 2)).bind fun t17 =>
    (pX4_valueOf V t17 a1 a2 a3).bind fun q18 =>
    (ldI (G.2.2.1 (b + 1)) (V (b + 1)) x3).bind fun t19 =>
    (pX4_compares t19 q16 q18).bind fun q20 =>
    if q20 = 0 then (letv ((x2 <<< (1 &&& 31)) ||| 0) fun x21 =>
    letv (x3 + 3) fun x22 =>
    lX4_holds_6 G V b a1 a2 a3 f1 x21 x22)
    else (letv ((x2 <<< (1 &&& 31)) ||| 1) fun x23 =>
    letv (x3 + 3) fun x24 =>
    lX4_holds_6 G V b a1 a2 a3 f1 x23 x24)))))
def pX4_holds (n : Nat) (G : G2) (V : V2) (b : Nat) (a1 : Nat) (a2 : Int32) (a3 : Int32) : Option (Int32) :=
  (lX4_holds_6 G V b a1 a2 a3 n 1 0).bind fun w25 =>
  if (w25 &&& 1) = (1 : Int32) then (some 1)
  else (some 0)
set_option maxHeartbeats 4000000 in
set_option maxRecDepth 100000 in
theorem wX4_holds_6 {C : Cx} (hC : CxOK C cX4_holds RX4 (some .boolean)) (hL : C.2.2.2.2 = 9) {G : G2} {V : V2} {R : R2} {b : Nat} {a1 : Nat} {a2 : Int32} {a3 : Int32} (hG : GX G) (h_b : own G b 14) (h_a1 : own G a1 12) (hR : C.1.2.2.2.1 = rmN 1 0 0) {o : Int32} (hX : Go C 161 [(4, .int o)] [] V R G 0 0) : ∀ (f : Nat) (x2 : Int32) (x3 : Int32), lX4_holds_6 G V b a1 a2 a3 f x2 x3 = some o → Go C 6 [(0, .ref b), (1, .ref a1), (2, .int a2), (3, .int a3), (4, .int x2), (5, .int x3)] [] V R G 0 0 := by
  intro f
  induction f with
  | zero => intro _ _ hf; exact absurd hf (by unfold lX4_holds_6; exact fun z => nomatch z)
  | succ f1 ih =>
    intro x2 x3
    unfold lX4_holds_6
    refine g_iload hC dX4_holds_6 (j := 5) rfl ?_
    refine g_iconst hC dX4_holds_8 ic_2 ?_
    refine g_iadd hC dX4_holds_9 ?_
    refine g_aload_n hC dX4_holds_10 (j := 0) rfl rfl ?_
    refine g_getR hC fr_4_2 h_b (b := b + 1) rfl dX4_holds_11 flX4_16 ?_
    refine g_alenV hC (gx_4_2 hG h_b) rfl dX4_holds_14 ?_
    refine g_icmp_ge hC dX4_holds_15 ?_ ?_
    · refine g_sub [4] rfl ?_
      exact fun e => by cases e; exact hX
    · refine g_iload hC dX4_holds_18 (j := 4) rfl ?_
      refine g_iconst hC dX4_holds_20 ic_1 ?_
      refine g_iand hC dX4_holds_21 ?_
      refine g_istoreL hC (n0 := 9) (lv' := fun x4 => [(6, .int x4), (0, .ref b), (1, .ref a1), (2, .int a2), (3, .int a3), (4, .int x2), (5, .int x3)]) dX4_holds_22 (Nat.le_of_ble_eq_true rfl) hL (fun _ => rfl) (fun x4 => ?_)
      refine g_aload_n hC dX4_holds_24 (j := 1) rfl rfl ?_
      refine g_getR hC fr_4_2 h_b (b := b + 1) rfl dX4_holds_25 flX4_16 ?_
      refine g_iload hC dX4_holds_28 (j := 6) rfl ?_
      refine g_ialdV hC (gx_4_2 hG h_b) rfl dX4_holds_30 (fun t5 => ?_)
      refine g_tsw hC 3 (25) (tgt := 56) dX4_holds_31 (by decide) rfl ?_ (fun hn8 => ?_)
      · refine g_iload hC dX4_holds_56 (j := 5) rfl ?_
        refine g_iconst hC dX4_holds_58 ic_1 ?_
        refine g_ishr hC dX4_holds_59 ?_
        refine g_iload hC dX4_holds_60 (j := 0) rfl ?_
        refine g_bipush hC dX4_holds_62 bc_m2 ?_
        refine g_ior hC dX4_holds_64 ?_
        refine g_iand hC dX4_holds_65 ?_
        refine g_istoreL hC (n0 := 9) (lv' := fun x6 => [(4, .int x6), (6, .int x4), (0, .ref b), (1, .ref a1), (2, .int a2), (3, .int a3), (5, .int x3)]) dX4_holds_66 (Nat.le_of_ble_eq_true rfl) hL (fun _ => rfl) (fun x6 => ?_)
        refine g_goto hC dX4_holds_68 ?_
        refine g_iincL hC (n0 := 9) (j := 6) (lv' := fun x7 => [(5, .int x7), (4, .int x6), (6, .int x4), (0, .ref b), (1, .ref a1), (2, .int a2), (3, .int a3)]) dX4_holds_155 rfl ic_3 (Nat.le_of_ble_eq_true rfl) hL (fun _ => rfl) (fun x7 => ?_)
        refine g_goto hC dX4_holds_158 ?_
        refine g_sub [3, 4, 5, 6, 1, 0] rfl ?_
        exact ih x6 x7
      refine g_tsw hC 4 (40) (tgt := 71) dX4_holds_31 (by decide) rfl ?_ (fun hn11 => ?_)
      · refine g_iload hC dX4_holds_71 (j := 5) rfl ?_
        refine g_iconst hC dX4_holds_73 ic_1 ?_
        refine g_ishr hC dX4_holds_74 ?_
        refine g_iload hC dX4_holds_75 (j := 0) rfl ?_
        refine g_ior hC dX4_holds_77 ?_
        refine g_istoreL hC (n0 := 9) (lv' := fun x9 => [(4, .int x9), (6, .int x4), (0, .ref b), (1, .ref a1), (2, .int a2), (3, .int a3), (5, .int x3)]) dX4_holds_78 (Nat.le_of_ble_eq_true rfl) hL (fun _ => rfl) (fun x9 => ?_)
        refine g_goto hC dX4_holds_80 ?_
        refine g_iincL hC (n0 := 9) (j := 6) (lv' := fun x10 => [(5, .int x10), (4, .int x9), (6, .int x4), (0, .ref b), (1, .ref a1), (2, .int a2), (3, .int a3)]) dX4_holds_155 rfl ic_3 (Nat.le_of_ble_eq_true rfl) hL (fun _ => rfl) (fun x10 => ?_)
        refine g_goto hC dX4_holds_158 ?_
        refine g_sub [3, 4, 5, 6, 1, 0] rfl ?_
        exact ih x9 x10
      refine g_tsw hC 5 (52) (tgt := 83) dX4_holds_31 (by decide) rfl ?_ (fun hn14 => ?_)
      · refine g_iload hC dX4_holds_83 (j := 5) rfl ?_
        refine g_iconst hC dX4_holds_85 ic_1 ?_
        refine g_ixor hC dX4_holds_86 ?_
        refine g_istoreL hC (n0 := 9) (lv' := fun x12 => [(4, .int x12), (6, .int x4), (0, .ref b), (1, .ref a1), (2, .int a2), (3, .int a3), (5, .int x3)]) dX4_holds_87 (Nat.le_of_ble_eq_true rfl) hL (fun _ => rfl) (fun x12 => ?_)
        refine g_goto hC dX4_holds_89 ?_
        refine g_iincL hC (n0 := 9) (j := 6) (lv' := fun x13 => [(5, .int x13), (4, .int x12), (6, .int x4), (0, .ref b), (1, .ref a1), (2, .int a2), (3, .int a3)]) dX4_holds_155 rfl ic_3 (Nat.le_of_ble_eq_true rfl) hL (fun _ => rfl) (fun x13 => ?_)
        refine g_goto hC dX4_holds_158 ?_
        refine g_sub [3, 4, 5, 6, 1, 0] rfl ?_
        exact ih x12 x13
      refine g_tswd hC (tgt := 92) dX4_holds_31 (by have := And.intro trivial trivial; have := lv_neT (a := 3) hn8 (by decide); have := lv_neT (a := 4) hn11 (by decide); have := lv_neT (a := 5) hn14 (by decide); omega) rfl ?_
      refine g_aload_n hC dX4_holds_92 (j := 1) rfl rfl ?_
      refine g_getR hC fr_4_2 h_b (b := b + 1) rfl dX4_holds_93 flX4_16 ?_
      refine g_iload hC dX4_holds_96 (j := 6) rfl ?_
      refine g_iconst hC dX4_holds_98 ic_1 ?_
      refine g_iadd hC dX4_holds_99 ?_
      refine g_ialdV hC (gx_4_2 hG h_b) rfl dX4_holds_100 (fun t15 => ?_)
      refine g_aload_n hC dX4_holds_101 (j := 2) rfl rfl ?_
      refine g_iload_n hC dX4_holds_102 (j := 3) rfl rfl ?_
      refine g_iload_n hC dX4_holds_103 (j := 4) rfl rfl ?_
      refine g_callS_i hC hR ⟨Nat.zero_le _, Nat.zero_le _⟩ mwX4_valueOf ms_X4_valueOf mlX4_20 (fun _ hq => kX4_valueOf hG h_a1 hq) (Nat.le_of_ble_eq_true rfl) rfl (st := []) rfl (Nat.le_of_ble_eq_true rfl) dX4_holds_104 (fun q16 => ?_)
      refine g_istore hC (n0 := 9) (lv' := [(7, .int q16), (6, .int x4), (0, .ref b), (1, .ref a1), (2, .int a2), (3, .int a3), (4, .int x2), (5, .int x3)]) dX4_holds_107 (Nat.le_of_ble_eq_true rfl) hL rfl ?_
      refine g_aload_n hC dX4_holds_109 (j := 2) rfl rfl ?_
      refine g_getR hC fr_4_2 h_b (b := b + 1) rfl dX4_holds_110 flX4_16 ?_
      refine g_iload hC dX4_holds_113 (j := 7) rfl ?_
      refine g_iconst hC dX4_holds_115 ic_2 ?_
      refine g_iadd hC dX4_holds_116 ?_
      refine g_ialdV hC (gx_4_2 hG h_b) rfl dX4_holds_117 (fun t17 => ?_)
      refine g_aload_n hC dX4_holds_118 (j := 3) rfl rfl ?_
      refine g_iload_n hC dX4_holds_119 (j := 4) rfl rfl ?_
      refine g_iload_n hC dX4_holds_120 (j := 5) rfl rfl ?_
      refine g_callS_i hC hR ⟨Nat.zero_le _, Nat.zero_le _⟩ mwX4_valueOf ms_X4_valueOf mlX4_20 (fun _ hq => kX4_valueOf hG h_a1 hq) (Nat.le_of_ble_eq_true rfl) rfl (st := []) rfl (Nat.le_of_ble_eq_true rfl) dX4_holds_121 (fun q18 => ?_)
      refine g_istore hC (n0 := 9) (lv' := [(8, .int q18), (7, .int q16), (6, .int x4), (0, .ref b), (1, .ref a1), (2, .int a2), (3, .int a3), (4, .int x2), (5, .int x3)]) dX4_holds_124 (Nat.le_of_ble_eq_true rfl) hL rfl ?_
      refine g_iload hC dX4_holds_126 (j := 7) rfl ?_
      refine g_iconst hC dX4_holds_128 ic_1 ?_
      refine g_ishl hC dX4_holds_129 ?_
      refine g_aload_n hC dX4_holds_130 (j := 3) rfl rfl ?_
      refine g_getR hC fr_4_2 h_b (b := b + 1) rfl dX4_holds_131 flX4_16 ?_
      refine g_iload hC dX4_holds_134 (j := 8) rfl ?_
      refine g_ialdV hC (gx_4_2 hG h_b) rfl dX4_holds_136 (fun t19 => ?_)
      refine g_iload hC dX4_holds_137 (j := 1) rfl ?_
      refine g_iload hC dX4_holds_139 (j := 0) rfl ?_
      refine g_callS_i hC hR ⟨Nat.zero_le _, Nat.zero_le _⟩ mwX4_compares ms_X4_compares mlX4_24 (fun _ hq => kX4_compares  hq) (Nat.le_of_ble_eq_true rfl) rfl (st := [.int (x2 <<< (1 &&& 31))]) rfl (Nat.le_of_ble_eq_true rfl) dX4_holds_141 (fun q20 => ?_)
      refine g_if_eq hC dX4_holds_144 ?_ ?_
      · refine g_iconst hC dX4_holds_151 ic_0 ?_
        refine g_ior hC dX4_holds_152 ?_
        refine g_istoreL hC (n0 := 9) (lv' := fun x21 => [(4, .int x21), (8, .int q18), (7, .int q16), (6, .int x4), (0, .ref b), (1, .ref a1), (2, .int a2), (3, .int a3), (5, .int x3)]) dX4_holds_153 (Nat.le_of_ble_eq_true rfl) hL (fun _ => rfl) (fun x21 => ?_)
        refine g_iincL hC (n0 := 9) (j := 8) (lv' := fun x22 => [(5, .int x22), (4, .int x21), (8, .int q18), (7, .int q16), (6, .int x4), (0, .ref b), (1, .ref a1), (2, .int a2), (3, .int a3)]) dX4_holds_155 rfl ic_3 (Nat.le_of_ble_eq_true rfl) hL (fun _ => rfl) (fun x22 => ?_)
        refine g_goto hC dX4_holds_158 ?_
        refine g_sub [5, 6, 7, 8, 1, 0] rfl ?_
        exact ih x21 x22
      · refine g_iconst hC dX4_holds_147 ic_1 ?_
        refine g_goto hC dX4_holds_148 ?_
        refine g_ior hC dX4_holds_152 ?_
        refine g_istoreL hC (n0 := 9) (lv' := fun x23 => [(4, .int x23), (8, .int q18), (7, .int q16), (6, .int x4), (0, .ref b), (1, .ref a1), (2, .int a2), (3, .int a3), (5, .int x3)]) dX4_holds_153 (Nat.le_of_ble_eq_true rfl) hL (fun _ => rfl) (fun x23 => ?_)
        refine g_iincL hC (n0 := 9) (j := 8) (lv' := fun x24 => [(5, .int x24), (4, .int x23), (8, .int q18), (7, .int q16), (6, .int x4), (0, .ref b), (1, .ref a1), (2, .int a2), (3, .int a3)]) dX4_holds_155 rfl ic_3 (Nat.le_of_ble_eq_true rfl) hL (fun _ => rfl) (fun x24 => ?_)
        refine g_goto hC dX4_holds_158 ?_
        refine g_sub [5, 6, 7, 8, 1, 0] rfl ?_
        exact ih x23 x24
set_option maxHeartbeats 4000000 in
set_option maxRecDepth 100000 in
theorem kX4_holds {l : Launch} {D : Dx} {G : G2} {V : V2} {R : R2} {n : Nat} {b : Nat} {a1 : Nat} {a2 : Int32} {a3 : Int32} (hG : GX G) (h_b : own G b 14) (h_a1 : own G a1 12) {o : Int32} (hf : pX4_holds n G V b a1 a2 a3 = some o) : Con l yX4_holds cX4_holds 9 (some .boolean) (rmN 1 0 0) D G V R [.ref b, .ref a1, .int a2, .int a3] (some (.int o), V, R, G, 0, 0) := by
  refine Con.mk RX4 (by decide) rfl (Nat.le_of_ble_eq_true rfl) (fun C _ hR hT _ _ hL hC hnm => ?_)
  revert hf
  unfold pX4_holds
  refine g_iconst hC dX4_holds_0 ic_1 ?_
  refine g_istore hC (n0 := 9) (lv' := [(4, .int 1), (0, .ref b), (1, .ref a1), (2, .int a2), (3, .int a3)]) dX4_holds_1 (Nat.le_of_ble_eq_true rfl) hL rfl ?_
  refine g_iconst hC dX4_holds_3 ic_0 ?_
  refine g_istore hC (n0 := 9) (lv' := [(5, .int 0), (4, .int 1), (0, .ref b), (1, .ref a1), (2, .int a2), (3, .int a3)]) dX4_holds_4 (Nat.le_of_ble_eq_true rfl) hL rfl ?_
  refine g_sub [2, 3, 4, 5, 1, 0] rfl ?_
  refine g_bind (J := fun w25 => Go C 161 [(4, .int w25)] [] V R G 0 0) (fun w25 hJ => wX4_holds_6 hC hL hG h_b h_a1 hR hJ n 1 0) (fun w25 => ?_)
  refine g_iload hC dX4_holds_161 (j := 0) rfl ?_
  refine g_iconst hC dX4_holds_163 ic_1 ?_
  refine g_iand hC dX4_holds_164 ?_
  refine g_iconst hC dX4_holds_165 ic_1 ?_
  refine g_icmp_ne hC dX4_holds_166 ?_ ?_
  · refine g_iconst hC dX4_holds_169 ic_1 ?_
    refine g_goto hC dX4_holds_170 ?_
    exact g_zret_i hC rfl hT dX4_holds_174
  · refine g_iconst hC dX4_holds_173 ic_0 ?_
    exact g_zret_i hC rfl hT dX4_holds_174
def lX1_will_3 (n : Nat) (G : G2) (V : V2) (R : R2) (b : Nat) (a1 : Nat) (a2 : Int32) (a3 : Int32) : Nat → Int32 → (Unit → Option (Int32)) → Option (Int32)
  | 0, _, _ => none
  | f1 + 1, x2, K =>
    if (V b 8) ≤ x2 then (K ())
    else ((ldR 8 (R (b + 9)) x2).bind fun q3 =>
    ocase q3 (letv (x2 + 1) fun x6 =>
    lX1_will_3 n G V R b a1 a2 a3 f1 x6 K) fun y4 => if ownB G y4 14 then ((ldI 6 (V (a1 + 1)) a2).bind fun t7 =>
    (pX8_isOrIsUnder n V t7 (V y4 0)).bind fun q8 =>
    if q8 = 0 then (letv (x2 + 1) fun x9 =>
    lX1_will_3 n G V R b a1 a2 a3 f1 x9 K)
    else ((pX4_holds n G V y4 a1 a2 a3).bind fun q10 =>
    if q10 = 0 then (letv (x2 + 1) fun x11 =>
    lX1_will_3 n G V R b a1 a2 a3 f1 x11 K)
    else (some (V y4 1)))) else none)
def pX1_will (n : Nat) (G : G2) (V : V2) (R : R2) (b : Nat) (a1 : Nat) (a2 : Int32) (a3 : Int32) : Option (Int32) :=
  lX1_will_3 n G V R b a1 a2 a3 n 0 (fun _ =>
  some 0)
set_option maxHeartbeats 4000000 in
set_option maxRecDepth 100000 in
theorem wX1_will_3 {C : Cx} (hC : CxOK C cX1_will RX1 (some .int)) (hL : C.2.2.2.2 = 6) {n : Nat} {G : G2} {V : V2} {R : R2} {b : Nat} {a1 : Nat} {a2 : Int32} {a3 : Int32} (hG : GX G) (h_b : own G b 11) (h_a1 : own G a1 12) (hR : C.1.2.2.2.1 = rmN 2 0 0) {o : Int32} (hT : C.2.1 = (some (.int o), V, R, G, 0, 0)) {K : Unit → Option (Int32)} (hX : ∀ (_ : Unit), K () = some o → Go C 66 [] [] V R G 0 0) : ∀ (f : Nat) (x2 : Int32), lX1_will_3 n G V R b a1 a2 a3 f x2 K = some o → Go C 3 [(0, .ref b), (1, .ref a1), (2, .int a2), (3, .int a3), (4, .int x2)] [] V R G 0 0 := by
  intro f
  induction f with
  | zero => intro _ hf; exact absurd hf (by unfold lX1_will_3; exact fun z => nomatch z)
  | succ f1 ih =>
    intro x2
    unfold lX1_will_3
    refine g_iload hC dX1_will_3 (j := 4) rfl ?_
    refine g_aload_n hC dX1_will_5 (j := 0) rfl rfl ?_
    refine g_getI hC fi_1_8 h_b dX1_will_6 flX1_44 ?_
    refine g_icmp_ge hC dX1_will_9 ?_ ?_
    · refine g_sub [] rfl ?_
      exact hX ()
    · refine g_aload_n hC dX1_will_12 (j := 0) rfl rfl ?_
      refine g_getR hC fr_1_7 h_b (b := b + 9) rfl dX1_will_13 flX1_40 ?_
      refine g_iload hC dX1_will_16 (j := 4) rfl ?_
      refine g_aaldV hC (by decide) (gx_1_7 hG h_b) (gl_1_7 hG h_b) dX1_will_18 (fun q3 => ?_)
      refine g_astoreq hC (n0 := 6) (lv' := [(5, va_rf q3), (0, .ref b), (1, .ref a1), (2, .int a2), (3, .int a3), (4, .int x2)]) dX1_will_19 (Nat.le_of_ble_eq_true rfl) hL rfl ?_
      refine g_aloadq hC dX1_will_21 (j := 0) rfl ?_
      cases q3 with
      | none =>
        refine g_onone ?_
        refine g_ifnull_yes hC dX1_will_23 ?_
        refine g_iincL hC (n0 := 6) (j := 5) (lv' := fun x6 => [(4, .int x6), (5, va_rf none), (0, .ref b), (1, .ref a1), (2, .int a2), (3, .int a3)]) dX1_will_60 rfl ic_1 (Nat.le_of_ble_eq_true rfl) hL (fun _ => rfl) (fun x6 => ?_)
        refine g_goto hC dX1_will_63 ?_
        refine g_sub [2, 3, 4, 5, 0] rfl ?_
        exact ih x6
      | some y4 =>
        refine g_osome ?_
        refine g_guard (fun hy5 => ?_)
        refine g_ifnull_no hC dX1_will_23 ?_
        refine g_aload_n hC dX1_will_26 (j := 2) rfl rfl ?_
        refine g_getR hC fr_2_3 h_a1 (b := a1 + 1) rfl dX1_will_27 flX1_84 ?_
        refine g_iload_n hC dX1_will_30 (j := 3) rfl rfl ?_
        refine g_ialdV hC (gx_2_3 hG h_a1) (gl_2_3 hG h_a1) dX1_will_31 (fun t7 => ?_)
        refine g_aload hC dX1_will_32 (j := 0) rfl ?_
        refine g_getI hC fi_4_0 hy5 dX1_will_34 flX1_117 ?_
        refine g_callSN_i hC hR ⟨Nat.zero_le _, Nat.zero_le _⟩ mwX8_isOrIsUnder ms_X8_isOrIsUnder mlX1_119 (fun _ hq => kX8_isOrIsUnder  hq) (Nat.le_of_ble_eq_true rfl) rfl (st := []) rfl (Nat.le_of_ble_eq_true rfl) dX1_will_37 (fun q8 => ?_)
        refine g_if_eq hC dX1_will_40 ?_ ?_
        · refine g_iincL hC (n0 := 6) (j := 5) (lv' := fun x9 => [(4, .int x9), (5, .ref y4), (0, .ref b), (1, .ref a1), (2, .int a2), (3, .int a3)]) dX1_will_60 rfl ic_1 (Nat.le_of_ble_eq_true rfl) hL (fun _ => rfl) (fun x9 => ?_)
          refine g_goto hC dX1_will_63 ?_
          refine g_sub [2, 3, 4, 5, 0] rfl ?_
          exact ih x9
        · refine g_aload hC dX1_will_43 (j := 0) rfl ?_
          refine g_aload_n hC dX1_will_45 (j := 2) rfl rfl ?_
          refine g_iload_n hC dX1_will_46 (j := 3) rfl rfl ?_
          refine g_iload_n hC dX1_will_47 (j := 4) rfl rfl ?_
          refine g_callV_i hC hR ⟨Nat.zero_le _, Nat.zero_le _⟩ mwX4_holds miX4_holds (ci := 4) rfl hy5 (Nat.le_of_ble_eq_true rfl) mlX1_123 (fun _ hq => kX4_holds hG hy5 h_a1 hq) (Nat.le_of_ble_eq_true rfl) rfl (st := []) rfl (Nat.le_of_ble_eq_true rfl) dX1_will_48 (fun q10 => ?_)
          refine g_if_eq hC dX1_will_51 ?_ ?_
          · refine g_iincL hC (n0 := 6) (j := 5) (lv' := fun x11 => [(4, .int x11), (5, .ref y4), (0, .ref b), (1, .ref a1), (2, .int a2), (3, .int a3)]) dX1_will_60 rfl ic_1 (Nat.le_of_ble_eq_true rfl) hL (fun _ => rfl) (fun x11 => ?_)
            refine g_goto hC dX1_will_63 ?_
            refine g_sub [2, 3, 4, 5, 0] rfl ?_
            exact ih x11
          · refine g_aload hC dX1_will_54 (j := 0) rfl ?_
            refine g_getI hC fi_4_1 hy5 dX1_will_56 flX1_127 ?_
            exact g_iret_i hC hT dX1_will_59
set_option maxHeartbeats 4000000 in
set_option maxRecDepth 100000 in
theorem kX1_will {l : Launch} {D : Dx} {G : G2} {V : V2} {R : R2} {n : Nat} {b : Nat} {a1 : Nat} {a2 : Int32} {a3 : Int32} (hG : GX G) (h_b : own G b 11) (h_a1 : own G a1 12) {o : Int32} (hf : pX1_will n G V R b a1 a2 a3 = some o) : Con l yX1_will cX1_will 6 (some .int) (rmN 2 0 0) D G V R [.ref b, .ref a1, .int a2, .int a3] (some (.int o), V, R, G, 0, 0) := by
  refine Con.mk RX1 (by decide) rfl (Nat.le_of_ble_eq_true rfl) (fun C _ hR hT _ _ hL hC hnm => ?_)
  revert hf
  unfold pX1_will
  refine g_iconst hC dX1_will_0 ic_0 ?_
  refine g_istore hC (n0 := 6) (lv' := [(4, .int 0), (0, .ref b), (1, .ref a1), (2, .int a2), (3, .int a3)]) dX1_will_1 (Nat.le_of_ble_eq_true rfl) hL rfl ?_
  refine g_sub [1, 2, 3, 4, 0] rfl ?_
  refine wX1_will_3 hC hL hG h_b h_a1 hR hT (fun _ => ?_) n 0
  refine g_iconst hC dX1_will_66 ic_0 ?_
  exact g_iret_i hC hT dX1_will_67
def pX1_mayBePressed (n : Nat) (G : G2) (V : V2) (R : R2) (b : Nat) (a1 : Nat) (a2 : Int32) (a3 : Int32) : Option (Int32) :=
  (pX1_pays n V b a1 a2 a3).bind fun q1 =>
  if q1 ≤ 0 then (some 0)
  else ((pX1_will n G V R b a1 a2 a3).bind fun q2 =>
  if q2 = 0 then (some 1)
  else (some 0))
set_option maxHeartbeats 4000000 in
set_option maxRecDepth 100000 in
theorem kX1_mayBePressed {l : Launch} {D : Dx} {G : G2} {V : V2} {R : R2} {n : Nat} {b : Nat} {a1 : Nat} {a2 : Int32} {a3 : Int32} (hG : GX G) (h_b : own G b 11) (h_a1 : own G a1 12) {o : Int32} (hf : pX1_mayBePressed n G V R b a1 a2 a3 = some o) : Con l yX1_mayBePressed cX1_mayBePressed 4 (some .boolean) (rmN 3 0 0) D G V R [.ref b, .ref a1, .int a2, .int a3] (some (.int o), V, R, G, 0, 0) := by
  refine Con.mk RX1 (by decide) rfl (Nat.le_of_ble_eq_true rfl) (fun C _ hR hT _ _ hL hC hnm => ?_)
  revert hf
  unfold pX1_mayBePressed
  refine g_aload_n hC dX1_mayBePressed_0 (j := 0) rfl rfl ?_
  refine g_aload_n hC dX1_mayBePressed_1 (j := 1) rfl rfl ?_
  refine g_iload_n hC dX1_mayBePressed_2 (j := 2) rfl rfl ?_
  refine g_iload_n hC dX1_mayBePressed_3 (j := 3) rfl rfl ?_
  refine g_callV_i hC hR ⟨Nat.zero_le _, Nat.zero_le _⟩ mwX1_pays miX1_pays (ci := 1) rfl h_b (Nat.le_of_ble_eq_true rfl) mlX1_130 (fun _ hq => kX1_pays hG h_b h_a1 hq) (Nat.le_of_ble_eq_true rfl) rfl (st := []) rfl (Nat.le_of_ble_eq_true rfl) dX1_mayBePressed_4 (fun q1 => ?_)
  refine g_if_le hC dX1_mayBePressed_7 ?_ ?_
  · refine g_iconst hC dX1_mayBePressed_24 ic_0 ?_
    exact g_zret_i hC rfl hT dX1_mayBePressed_25
  · refine g_aload_n hC dX1_mayBePressed_10 (j := 0) rfl rfl ?_
    refine g_aload_n hC dX1_mayBePressed_11 (j := 1) rfl rfl ?_
    refine g_iload_n hC dX1_mayBePressed_12 (j := 2) rfl rfl ?_
    refine g_iload_n hC dX1_mayBePressed_13 (j := 3) rfl rfl ?_
    refine g_callV_i hC hR ⟨Nat.zero_le _, Nat.zero_le _⟩ mwX1_will miX1_will (ci := 1) rfl h_b (Nat.le_of_ble_eq_true rfl) mlX1_134 (fun _ hq => kX1_will hG h_b h_a1 hq) (Nat.le_of_ble_eq_true rfl) rfl (st := []) rfl (Nat.le_of_ble_eq_true rfl) dX1_mayBePressed_14 (fun q2 => ?_)
    refine g_if_ne hC dX1_mayBePressed_17 ?_ ?_
    · refine g_iconst hC dX1_mayBePressed_20 ic_1 ?_
      refine g_goto hC dX1_mayBePressed_21 ?_
      exact g_zret_i hC rfl hT dX1_mayBePressed_25
    · refine g_iconst hC dX1_mayBePressed_24 ic_0 ?_
      exact g_zret_i hC rfl hT dX1_mayBePressed_25
def pX8_thingOf (n : Nat) (G : G2) (V : V2) (R : R2) (b : Nat) (a1 : Int32) (a2 : Int32) : Option (Int32) :=
  (pX8_isThing V b a1).bind fun q1 =>
  if q1 = 0 then (some (-1))
  else (if a2 = 0 then ((ldI 6 (V (b + 3)) a1).bind fun t2 =>
  some t2)
  else (if a2 = 1 then ((ldI 6 (V (b + 4)) a1).bind fun t4 =>
  some t4)
  else (if a2 = 2 then ((ldI 6 (V (b + 5)) a1).bind fun t6 =>
  some t6)
  else (if a2 = 3 then ((ldI 6 (V (b + 6)) a1).bind fun t8 =>
  some t8)
  else (if a2 = 4 then ((pX2_isFlat V (b + 2) a1).bind fun q10 =>
  if q10 = 0 then (some 0)
  else (some 1))
  else (if a2 = 5 then ((pX1_sighNow V (b + 1) (b + 2)).bind fun q12 =>
  (pX1_swells V (b + 1) (b + 2) a1 q12).bind fun q13 =>
  some q13)
  else (if a2 = 6 then ((ldI 6 (V (b + 3)) a1).bind fun t15 =>
  (ldI 6 (V (b + 4)) a1).bind fun t16 =>
  (ldI 6 (V (b + 5)) a1).bind fun t17 =>
  (pX8_needing t15 t16 t17).bind fun q18 =>
  some q18)
  else (if a2 = 7 then ((pX1_steamNow V (b + 1) (b + 2)).bind fun q20 =>
  (pX1_pays n V (b + 1) (b + 2) a1 q20).bind fun q21 =>
  some q21)
  else (if a2 = 8 then ((pX1_steamNow V (b + 1) (b + 2)).bind fun q23 =>
  (pX1_mayBePressed n G V R (b + 1) (b + 2) a1 q23).bind fun q24 =>
  if q24 = 0 then (some 0)
  else (some 1))
  else (if a2 = 9 then ((pX1_steamNow V (b + 1) (b + 2)).bind fun q26 =>
  (pX1_will n G V R (b + 1) (b + 2) a1 q26).bind fun q27 =>
  some q27)
  else (some (-1))))))))))))
set_option maxHeartbeats 4000000 in
set_option maxRecDepth 100000 in
theorem kX8_thingOf {l : Launch} {D : Dx} {G : G2} {V : V2} {R : R2} {n : Nat} {b : Nat} {a1 : Int32} {a2 : Int32} (hG : GX G) (h_b : own G b 18) {o : Int32} (hf : pX8_thingOf n G V R b a1 a2 = some o) : Con l yX8_thingOf cX8_thingOf 4 (some .int) (rmN 4 0 0) D G V R [.ref b, .int a1, .int a2] (some (.int o), V, R, G, 0, 0) := by
  refine Con.mk RX8 (by decide) rfl (Nat.le_of_ble_eq_true rfl) (fun C _ hR hT _ _ hL hC hnm => ?_)
  revert hf
  unfold pX8_thingOf
  refine g_aload_n hC dX8_thingOf_0 (j := 0) rfl rfl ?_
  refine g_iload_n hC dX8_thingOf_1 (j := 1) rfl rfl ?_
  refine g_callV_i hC hR ⟨Nat.zero_le _, Nat.zero_le _⟩ mwX8_isThing miX8_isThing (ci := 8) rfl h_b (Nat.le_of_ble_eq_true rfl) mlX8_103 (fun _ hq => kX8_isThing hG h_b hq) (Nat.le_of_ble_eq_true rfl) rfl (st := []) rfl (Nat.le_of_ble_eq_true rfl) dX8_thingOf_2 (fun q1 => ?_)
  refine g_if_ne hC dX8_thingOf_5 ?_ ?_
  · refine g_iconst hC dX8_thingOf_8 ic_m1 ?_
    exact g_iret_i hC hT dX8_thingOf_9
  · refine g_aload_n hC dX8_thingOf_10 (j := 0) rfl rfl ?_
    refine g_getR hC fr_8_0 h_b (b := b + 1) rfl dX8_thingOf_11 flX8_10 ?_
    refine g_getR hC fr_1_0 (gx_8_0 hG h_b) (b := b + 2) rfl dX8_thingOf_14 flX8_81 ?_
    refine g_astore_n hC (n0 := 4) (lv' := [(3, .ref (b + 2)), (0, .ref b), (1, .int a1), (2, .int a2)]) dX8_thingOf_17 rfl (Nat.le_of_ble_eq_true rfl) hL rfl ?_
    refine g_iload_n hC dX8_thingOf_18 (j := 3) rfl rfl ?_
    refine g_tsw hC 0 (53) (tgt := 72) dX8_thingOf_19 (by decide) rfl ?_ (fun hn3 => ?_)
    · refine g_aload_n hC dX8_thingOf_72 (j := 0) rfl rfl ?_
      refine g_getR hC fr_2_3 (gx_1_0 hG (gx_8_0 hG h_b)) (b := b + 3) rfl dX8_thingOf_73 flX8_87 ?_
      refine g_iload_n hC dX8_thingOf_76 (j := 2) rfl rfl ?_
      refine g_ialdV hC (gx_2_3 hG (gx_1_0 hG (gx_8_0 hG h_b))) (gl_2_3 hG (gx_1_0 hG (gx_8_0 hG h_b))) dX8_thingOf_77 (fun t2 => ?_)
      exact g_iret_i hC hT dX8_thingOf_78
    refine g_tsw hC 1 (60) (tgt := 79) dX8_thingOf_19 (by decide) rfl ?_ (fun hn5 => ?_)
    · refine g_aload_n hC dX8_thingOf_79 (j := 0) rfl rfl ?_
      refine g_getR hC fr_2_4 (gx_1_0 hG (gx_8_0 hG h_b)) (b := b + 4) rfl dX8_thingOf_80 flX8_90 ?_
      refine g_iload_n hC dX8_thingOf_83 (j := 2) rfl rfl ?_
      refine g_ialdV hC (gx_2_4 hG (gx_1_0 hG (gx_8_0 hG h_b))) (gl_2_4 hG (gx_1_0 hG (gx_8_0 hG h_b))) dX8_thingOf_84 (fun t4 => ?_)
      exact g_iret_i hC hT dX8_thingOf_85
    refine g_tsw hC 2 (67) (tgt := 86) dX8_thingOf_19 (by decide) rfl ?_ (fun hn7 => ?_)
    · refine g_aload_n hC dX8_thingOf_86 (j := 0) rfl rfl ?_
      refine g_getR hC fr_2_5 (gx_1_0 hG (gx_8_0 hG h_b)) (b := b + 5) rfl dX8_thingOf_87 flX8_93 ?_
      refine g_iload_n hC dX8_thingOf_90 (j := 2) rfl rfl ?_
      refine g_ialdV hC (gx_2_5 hG (gx_1_0 hG (gx_8_0 hG h_b))) (gl_2_5 hG (gx_1_0 hG (gx_8_0 hG h_b))) dX8_thingOf_91 (fun t6 => ?_)
      exact g_iret_i hC hT dX8_thingOf_92
    refine g_tsw hC 3 (74) (tgt := 93) dX8_thingOf_19 (by decide) rfl ?_ (fun hn9 => ?_)
    · refine g_aload_n hC dX8_thingOf_93 (j := 0) rfl rfl ?_
      refine g_getR hC fr_2_6 (gx_1_0 hG (gx_8_0 hG h_b)) (b := b + 6) rfl dX8_thingOf_94 flX8_96 ?_
      refine g_iload_n hC dX8_thingOf_97 (j := 2) rfl rfl ?_
      refine g_ialdV hC (gx_2_6 hG (gx_1_0 hG (gx_8_0 hG h_b))) (gl_2_6 hG (gx_1_0 hG (gx_8_0 hG h_b))) dX8_thingOf_98 (fun t8 => ?_)
      exact g_iret_i hC hT dX8_thingOf_99
    refine g_tsw hC 4 (81) (tgt := 100) dX8_thingOf_19 (by decide) rfl ?_ (fun hn11 => ?_)
    · refine g_aload_n hC dX8_thingOf_100 (j := 0) rfl rfl ?_
      refine g_iload_n hC dX8_thingOf_101 (j := 2) rfl rfl ?_
      refine g_callV_i hC hR ⟨Nat.zero_le _, Nat.zero_le _⟩ mwX2_isFlat miX2_isFlat (ci := 2) rfl (gx_1_0 hG (gx_8_0 hG h_b)) (Nat.le_of_ble_eq_true rfl) mlX8_107 (fun _ hq => kX2_isFlat hG (gx_1_0 hG (gx_8_0 hG h_b)) hq) (Nat.le_of_ble_eq_true rfl) rfl (st := []) rfl (Nat.le_of_ble_eq_true rfl) dX8_thingOf_102 (fun q10 => ?_)
      refine g_if_eq hC dX8_thingOf_105 ?_ ?_
      · refine g_iconst hC dX8_thingOf_112 ic_0 ?_
        exact g_iret_i hC hT dX8_thingOf_113
      · refine g_iconst hC dX8_thingOf_108 ic_1 ?_
        refine g_goto hC dX8_thingOf_109 ?_
        exact g_iret_i hC hT dX8_thingOf_113
    refine g_tsw hC 5 (95) (tgt := 114) dX8_thingOf_19 (by decide) rfl ?_ (fun hn14 => ?_)
    · refine g_aload_n hC dX8_thingOf_114 (j := 1) rfl rfl ?_
      refine g_getR hC fr_8_0 h_b (b := b + 1) rfl dX8_thingOf_115 flX8_10 ?_
      refine g_aload_n hC dX8_thingOf_118 (j := 0) rfl rfl ?_
      refine g_iload_n hC dX8_thingOf_119 (j := 2) rfl rfl ?_
      refine g_aload_n hC dX8_thingOf_120 (j := 1) rfl rfl ?_
      refine g_getR hC fr_8_0 h_b (b := b + 1) rfl dX8_thingOf_121 flX8_10 ?_
      refine g_aload_n hC dX8_thingOf_124 (j := 0) rfl rfl ?_
      refine g_callV_i hC hR ⟨Nat.zero_le _, Nat.zero_le _⟩ mwX1_sighNow miX1_sighNow (ci := 1) rfl (gx_8_0 hG h_b) (Nat.le_of_ble_eq_true rfl) mlX8_110 (fun _ hq => kX1_sighNow hG (gx_8_0 hG h_b) (gx_1_0 hG (gx_8_0 hG h_b)) hq) (Nat.le_of_ble_eq_true rfl) rfl (st := [.int a1, .ref (b + 2), .ref (b + 1)]) rfl (Nat.le_of_ble_eq_true rfl) dX8_thingOf_125 (fun q12 => ?_)
      refine g_callV_i hC hR ⟨Nat.zero_le _, Nat.zero_le _⟩ mwX1_swells miX1_swells (ci := 1) rfl (gx_8_0 hG h_b) (Nat.le_of_ble_eq_true rfl) mlX8_114 (fun _ hq => kX1_swells hG (gx_8_0 hG h_b) (gx_1_0 hG (gx_8_0 hG h_b)) hq) (Nat.le_of_ble_eq_true rfl) rfl (st := []) rfl (Nat.le_of_ble_eq_true rfl) dX8_thingOf_128 (fun q13 => ?_)
      exact g_iret_i hC hT dX8_thingOf_131
    refine g_tsw hC 6 (113) (tgt := 132) dX8_thingOf_19 (by decide) rfl ?_ (fun hn19 => ?_)
    · refine g_aload_n hC dX8_thingOf_132 (j := 0) rfl rfl ?_
      refine g_getR hC fr_2_3 (gx_1_0 hG (gx_8_0 hG h_b)) (b := b + 3) rfl dX8_thingOf_133 flX8_87 ?_
      refine g_iload_n hC dX8_thingOf_136 (j := 2) rfl rfl ?_
      refine g_ialdV hC (gx_2_3 hG (gx_1_0 hG (gx_8_0 hG h_b))) (gl_2_3 hG (gx_1_0 hG (gx_8_0 hG h_b))) dX8_thingOf_137 (fun t15 => ?_)
      refine g_aload_n hC dX8_thingOf_138 (j := 0) rfl rfl ?_
      refine g_getR hC fr_2_4 (gx_1_0 hG (gx_8_0 hG h_b)) (b := b + 4) rfl dX8_thingOf_139 flX8_90 ?_
      refine g_iload_n hC dX8_thingOf_142 (j := 2) rfl rfl ?_
      refine g_ialdV hC (gx_2_4 hG (gx_1_0 hG (gx_8_0 hG h_b))) (gl_2_4 hG (gx_1_0 hG (gx_8_0 hG h_b))) dX8_thingOf_143 (fun t16 => ?_)
      refine g_aload_n hC dX8_thingOf_144 (j := 0) rfl rfl ?_
      refine g_getR hC fr_2_5 (gx_1_0 hG (gx_8_0 hG h_b)) (b := b + 5) rfl dX8_thingOf_145 flX8_93 ?_
      refine g_iload_n hC dX8_thingOf_148 (j := 2) rfl rfl ?_
      refine g_ialdV hC (gx_2_5 hG (gx_1_0 hG (gx_8_0 hG h_b))) (gl_2_5 hG (gx_1_0 hG (gx_8_0 hG h_b))) dX8_thingOf_149 (fun t17 => ?_)
      refine g_callS_i hC hR ⟨Nat.zero_le _, Nat.zero_le _⟩ mwX8_needing ms_X8_needing mlX8_118 (fun _ hq => kX8_needing  hq) (Nat.le_of_ble_eq_true rfl) rfl (st := []) rfl (Nat.le_of_ble_eq_true rfl) dX8_thingOf_150 (fun q18 => ?_)
      exact g_iret_i hC hT dX8_thingOf_153
    refine g_tsw hC 7 (135) (tgt := 154) dX8_thingOf_19 (by decide) rfl ?_ (fun hn22 => ?_)
    · refine g_aload_n hC dX8_thingOf_154 (j := 1) rfl rfl ?_
      refine g_getR hC fr_8_0 h_b (b := b + 1) rfl dX8_thingOf_155 flX8_10 ?_
      refine g_aload_n hC dX8_thingOf_158 (j := 0) rfl rfl ?_
      refine g_iload_n hC dX8_thingOf_159 (j := 2) rfl rfl ?_
      refine g_aload_n hC dX8_thingOf_160 (j := 1) rfl rfl ?_
      refine g_getR hC fr_8_0 h_b (b := b + 1) rfl dX8_thingOf_161 flX8_10 ?_
      refine g_aload_n hC dX8_thingOf_164 (j := 0) rfl rfl ?_
      refine g_callV_i hC hR ⟨Nat.zero_le _, Nat.zero_le _⟩ mwX1_steamNow miX1_steamNow (ci := 1) rfl (gx_8_0 hG h_b) (Nat.le_of_ble_eq_true rfl) mlX8_122 (fun _ hq => kX1_steamNow hG (gx_8_0 hG h_b) (gx_1_0 hG (gx_8_0 hG h_b)) hq) (Nat.le_of_ble_eq_true rfl) rfl (st := [.int a1, .ref (b + 2), .ref (b + 1)]) rfl (Nat.le_of_ble_eq_true rfl) dX8_thingOf_165 (fun q20 => ?_)
      refine g_callV_i hC hR ⟨Nat.zero_le _, Nat.zero_le _⟩ mwX1_pays miX1_pays (ci := 1) rfl (gx_8_0 hG h_b) (Nat.le_of_ble_eq_true rfl) mlX8_125 (fun _ hq => kX1_pays hG (gx_8_0 hG h_b) (gx_1_0 hG (gx_8_0 hG h_b)) hq) (Nat.le_of_ble_eq_true rfl) rfl (st := []) rfl (Nat.le_of_ble_eq_true rfl) dX8_thingOf_168 (fun q21 => ?_)
      exact g_iret_i hC hT dX8_thingOf_171
    refine g_tsw hC 8 (153) (tgt := 172) dX8_thingOf_19 (by decide) rfl ?_ (fun hn25 => ?_)
    · refine g_aload_n hC dX8_thingOf_172 (j := 1) rfl rfl ?_
      refine g_getR hC fr_8_0 h_b (b := b + 1) rfl dX8_thingOf_173 flX8_10 ?_
      refine g_aload_n hC dX8_thingOf_176 (j := 0) rfl rfl ?_
      refine g_iload_n hC dX8_thingOf_177 (j := 2) rfl rfl ?_
      refine g_aload_n hC dX8_thingOf_178 (j := 1) rfl rfl ?_
      refine g_getR hC fr_8_0 h_b (b := b + 1) rfl dX8_thingOf_179 flX8_10 ?_
      refine g_aload_n hC dX8_thingOf_182 (j := 0) rfl rfl ?_
      refine g_callV_i hC hR ⟨Nat.zero_le _, Nat.zero_le _⟩ mwX1_steamNow miX1_steamNow (ci := 1) rfl (gx_8_0 hG h_b) (Nat.le_of_ble_eq_true rfl) mlX8_122 (fun _ hq => kX1_steamNow hG (gx_8_0 hG h_b) (gx_1_0 hG (gx_8_0 hG h_b)) hq) (Nat.le_of_ble_eq_true rfl) rfl (st := [.int a1, .ref (b + 2), .ref (b + 1)]) rfl (Nat.le_of_ble_eq_true rfl) dX8_thingOf_183 (fun q23 => ?_)
      refine g_callV_i hC hR ⟨Nat.zero_le _, Nat.zero_le _⟩ mwX1_mayBePressed miX1_mayBePressed (ci := 1) rfl (gx_8_0 hG h_b) (Nat.le_of_ble_eq_true rfl) mlX8_128 (fun _ hq => kX1_mayBePressed hG (gx_8_0 hG h_b) (gx_1_0 hG (gx_8_0 hG h_b)) hq) (Nat.le_of_ble_eq_true rfl) rfl (st := []) rfl (Nat.le_of_ble_eq_true rfl) dX8_thingOf_186 (fun q24 => ?_)
      refine g_if_eq hC dX8_thingOf_189 ?_ ?_
      · refine g_iconst hC dX8_thingOf_196 ic_0 ?_
        exact g_iret_i hC hT dX8_thingOf_197
      · refine g_iconst hC dX8_thingOf_192 ic_1 ?_
        refine g_goto hC dX8_thingOf_193 ?_
        exact g_iret_i hC hT dX8_thingOf_197
    refine g_tsw hC 9 (179) (tgt := 198) dX8_thingOf_19 (by decide) rfl ?_ (fun hn28 => ?_)
    · refine g_aload_n hC dX8_thingOf_198 (j := 1) rfl rfl ?_
      refine g_getR hC fr_8_0 h_b (b := b + 1) rfl dX8_thingOf_199 flX8_10 ?_
      refine g_aload_n hC dX8_thingOf_202 (j := 0) rfl rfl ?_
      refine g_iload_n hC dX8_thingOf_203 (j := 2) rfl rfl ?_
      refine g_aload_n hC dX8_thingOf_204 (j := 1) rfl rfl ?_
      refine g_getR hC fr_8_0 h_b (b := b + 1) rfl dX8_thingOf_205 flX8_10 ?_
      refine g_aload_n hC dX8_thingOf_208 (j := 0) rfl rfl ?_
      refine g_callV_i hC hR ⟨Nat.zero_le _, Nat.zero_le _⟩ mwX1_steamNow miX1_steamNow (ci := 1) rfl (gx_8_0 hG h_b) (Nat.le_of_ble_eq_true rfl) mlX8_122 (fun _ hq => kX1_steamNow hG (gx_8_0 hG h_b) (gx_1_0 hG (gx_8_0 hG h_b)) hq) (Nat.le_of_ble_eq_true rfl) rfl (st := [.int a1, .ref (b + 2), .ref (b + 1)]) rfl (Nat.le_of_ble_eq_true rfl) dX8_thingOf_209 (fun q26 => ?_)
      refine g_callV_i hC hR ⟨Nat.zero_le _, Nat.zero_le _⟩ mwX1_will miX1_will (ci := 1) rfl (gx_8_0 hG h_b) (Nat.le_of_ble_eq_true rfl) mlX8_132 (fun _ hq => kX1_will hG (gx_8_0 hG h_b) (gx_1_0 hG (gx_8_0 hG h_b)) hq) (Nat.le_of_ble_eq_true rfl) rfl (st := []) rfl (Nat.le_of_ble_eq_true rfl) dX8_thingOf_212 (fun q27 => ?_)
      exact g_iret_i hC hT dX8_thingOf_215
    refine g_tswd hC (tgt := 216) dX8_thingOf_19 (by have := And.intro trivial trivial; have := lv_neT (a := 0) hn3 (by decide); have := lv_neT (a := 1) hn5 (by decide); have := lv_neT (a := 2) hn7 (by decide); have := lv_neT (a := 3) hn9 (by decide); have := lv_neT (a := 4) hn11 (by decide); have := lv_neT (a := 5) hn14 (by decide); have := lv_neT (a := 6) hn19 (by decide); have := lv_neT (a := 7) hn22 (by decide); have := lv_neT (a := 8) hn25 (by decide); have := lv_neT (a := 9) hn28 (by decide); omega) rfl ?_
    refine g_iconst hC dX8_thingOf_216 ic_m1 ?_
    exact g_iret_i hC hT dX8_thingOf_217
def pX8_putWithin (G : G2) (V : V2) (a1 : Nat) (a2 : Int32) (a3 : Int32) (a4 : Int32) : Option (Int32 × V2) :=
  (pX8_within a2 0 ((nI (G.2.2.1 a1)) - 1)).bind fun q1 =>
  if q1 = 0 then (some ((-1), V))
  else ((pX8_within a3 0 a4).bind fun q2 =>
  if q2 = 0 then (some ((-1), V))
  else ((ldI (G.2.2.1 a1) (V a1) a2).bind fun t3 =>
  (stI (G.2.2.1 a1) V a1 a2 a3).bind fun U4 =>
  some (t3, U4)))
set_option maxHeartbeats 4000000 in
set_option maxRecDepth 100000 in
theorem kX8_putWithin {l : Launch} {D : Dx} {G : G2} {V : V2} {R : R2} {a1 : Nat} {a2 : Int32} {a3 : Int32} {a4 : Int32} (hG : GX G) (h_a1 : own G a1 1) {o : Int32 × V2} (hf : pX8_putWithin G V a1 a2 a3 a4 = some o) : Con l yX8_putWithin cX8_putWithin 5 (some .int) (rmN 1 0 0) D G V R [.ref a1, .int a2, .int a3, .int a4] (some (.int o.1), o.2, R, G, 0, 0) := by
  refine Con.mk RX8 (by decide) rfl (Nat.le_of_ble_eq_true rfl) (fun C _ hR hT _ _ hL hC hnm => ?_)
  revert hf
  unfold pX8_putWithin
  refine g_iload_n hC dX8_putWithin_0 (j := 1) rfl rfl ?_
  refine g_iconst hC dX8_putWithin_1 ic_0 ?_
  refine g_aload_n hC dX8_putWithin_2 (j := 0) rfl rfl ?_
  refine g_alenV hC h_a1 rfl dX8_putWithin_3 ?_
  refine g_iconst hC dX8_putWithin_4 ic_1 ?_
  refine g_isub hC dX8_putWithin_5 ?_
  refine g_callS_i hC hR ⟨Nat.zero_le _, Nat.zero_le _⟩ mwX8_within ms_X8_within mlX8_77 (fun _ hq => kX8_within  hq) (Nat.le_of_ble_eq_true rfl) rfl (st := []) rfl (Nat.le_of_ble_eq_true rfl) dX8_putWithin_6 (fun q1 => ?_)
  refine g_if_eq hC dX8_putWithin_9 ?_ ?_
  · refine g_iconst hC dX8_putWithin_21 ic_m1 ?_
    exact g_iret_iV hC hT dX8_putWithin_22
  · refine g_iload_n hC dX8_putWithin_12 (j := 2) rfl rfl ?_
    refine g_iconst hC dX8_putWithin_13 ic_0 ?_
    refine g_iload_n hC dX8_putWithin_14 (j := 3) rfl rfl ?_
    refine g_callS_i hC hR ⟨Nat.zero_le _, Nat.zero_le _⟩ mwX8_within ms_X8_within mlX8_77 (fun _ hq => kX8_within  hq) (Nat.le_of_ble_eq_true rfl) rfl (st := []) rfl (Nat.le_of_ble_eq_true rfl) dX8_putWithin_15 (fun q2 => ?_)
    refine g_if_ne hC dX8_putWithin_18 ?_ ?_
    · refine g_iconst hC dX8_putWithin_21 ic_m1 ?_
      exact g_iret_iV hC hT dX8_putWithin_22
    · refine g_aload_n hC dX8_putWithin_23 (j := 0) rfl rfl ?_
      refine g_iload_n hC dX8_putWithin_24 (j := 1) rfl rfl ?_
      refine g_ialdV hC h_a1 rfl dX8_putWithin_25 (fun t3 => ?_)
      refine g_istore hC (n0 := 5) (lv' := [(4, .int t3), (0, .ref a1), (1, .int a2), (2, .int a3), (3, .int a4)]) dX8_putWithin_26 (Nat.le_of_ble_eq_true rfl) hL rfl ?_
      refine g_aload_n hC dX8_putWithin_28 (j := 1) rfl rfl ?_
      refine g_iload_n hC dX8_putWithin_29 (j := 2) rfl rfl ?_
      refine g_iload_n hC dX8_putWithin_30 (j := 3) rfl rfl ?_
      refine g_iastV hC h_a1 rfl dX8_putWithin_31 (fun U4 => ?_)
      refine g_iload hC dX8_putWithin_32 (j := 0) rfl ?_
      exact g_iret_iV hC hT dX8_putWithin_34
def pX8_change (G : G2) (V : V2) (b : Nat) (a1 : Int32) (a2 : Int32) (a3 : Int32) : Option (Int32 × V2) :=
  (pX8_isThing V b a1).bind fun q1 =>
  if q1 = 0 then (some ((-1), V))
  else (if a2 = 1 then ((pX8_putWithin G V (b + 4) a1 a3 99).bind fun q2 =>
  some (q2.1, q2.2))
  else (if a2 = 2 then ((pX8_putWithin G V (b + 5) a1 a3 9).bind fun q4 =>
  some (q4.1, q4.2))
  else (if a2 = 3 then ((pX8_putWithin G V (b + 6) a1 a3 5).bind fun q6 =>
  some (q6.1, q6.2))
  else (if a2 = 4 then ((pX8_within a3 0 1).bind fun q8 =>
  if q8 = 0 then (some ((-1), V))
  else ((pX2_isFlat V (b + 2) a1).bind fun q9 =>
  letv ((if q9 = 0 then (0)
  else (1) : Int32)) fun j10 =>
  letv ((if a3 = (1 : Int32) then (1)
  else (0) : Int32)) fun j11 =>
  (pX2_setFlat V (b + 2) a1 j11).bind fun q12 =>
  some (j10, q12)))
  else (some ((-1), V))))))
set_option maxHeartbeats 4000000 in
set_option maxRecDepth 100000 in
theorem kX8_change {l : Launch} {D : Dx} {G : G2} {V : V2} {R : R2} {b : Nat} {a1 : Int32} {a2 : Int32} {a3 : Int32} (hG : GX G) (h_b : own G b 18) {o : Int32 × V2} (hf : pX8_change G V b a1 a2 a3 = some o) : Con l yX8_change cX8_change 6 (some .int) (rmN 2 0 0) D G V R [.ref b, .int a1, .int a2, .int a3] (some (.int o.1), o.2, R, G, 0, 0) := by
  refine Con.mk RX8 (by decide) rfl (Nat.le_of_ble_eq_true rfl) (fun C _ hR hT _ _ hL hC hnm => ?_)
  revert hf
  unfold pX8_change
  refine g_aload_n hC dX8_change_0 (j := 0) rfl rfl ?_
  refine g_iload_n hC dX8_change_1 (j := 1) rfl rfl ?_
  refine g_callV_i hC hR ⟨Nat.zero_le _, Nat.zero_le _⟩ mwX8_isThing miX8_isThing (ci := 8) rfl h_b (Nat.le_of_ble_eq_true rfl) mlX8_103 (fun _ hq => kX8_isThing hG h_b hq) (Nat.le_of_ble_eq_true rfl) rfl (st := []) rfl (Nat.le_of_ble_eq_true rfl) dX8_change_2 (fun q1 => ?_)
  refine g_if_ne hC dX8_change_5 ?_ ?_
  · refine g_iconst hC dX8_change_8 ic_m1 ?_
    exact g_iret_iV hC hT dX8_change_9
  · refine g_aload_n hC dX8_change_10 (j := 0) rfl rfl ?_
    refine g_getR hC fr_8_0 h_b (b := b + 1) rfl dX8_change_11 flX8_10 ?_
    refine g_getR hC fr_1_0 (gx_8_0 hG h_b) (b := b + 2) rfl dX8_change_14 flX8_81 ?_
    refine g_astore hC (n0 := 6) (lv' := [(4, .ref (b + 2)), (0, .ref b), (1, .int a1), (2, .int a2), (3, .int a3)]) dX8_change_17 (Nat.le_of_ble_eq_true rfl) hL rfl ?_
    refine g_iload_n hC dX8_change_19 (j := 3) rfl rfl ?_
    refine g_tsw hC 1 (32) (tgt := 52) dX8_change_20 (by decide) rfl ?_ (fun hn3 => ?_)
    · refine g_aload hC dX8_change_52 (j := 0) rfl ?_
      refine g_getR hC fr_2_4 (gx_1_0 hG (gx_8_0 hG h_b)) (b := b + 4) rfl dX8_change_54 flX8_90 ?_
      refine g_iload_n hC dX8_change_57 (j := 2) rfl rfl ?_
      refine g_iload_n hC dX8_change_58 (j := 4) rfl rfl ?_
      refine g_bipush hC dX8_change_59 bc_99 ?_
      refine g_callS_iV hC hR ⟨Nat.zero_le _, Nat.zero_le _⟩ mwX8_putWithin ms_X8_putWithin mlX8_135 (fun _ hq => kX8_putWithin hG (gx_2_4 hG (gx_1_0 hG (gx_8_0 hG h_b))) hq) (Nat.le_of_ble_eq_true rfl) rfl (st := []) rfl (Nat.le_of_ble_eq_true rfl) dX8_change_61 (fun q2 => ?_)
      exact g_iret_iV hC hT dX8_change_64
    refine g_tsw hC 2 (45) (tgt := 65) dX8_change_20 (by decide) rfl ?_ (fun hn5 => ?_)
    · refine g_aload hC dX8_change_65 (j := 0) rfl ?_
      refine g_getR hC fr_2_5 (gx_1_0 hG (gx_8_0 hG h_b)) (b := b + 5) rfl dX8_change_67 flX8_93 ?_
      refine g_iload_n hC dX8_change_70 (j := 2) rfl rfl ?_
      refine g_iload_n hC dX8_change_71 (j := 4) rfl rfl ?_
      refine g_bipush hC dX8_change_72 bc_9 ?_
      refine g_callS_iV hC hR ⟨Nat.zero_le _, Nat.zero_le _⟩ mwX8_putWithin ms_X8_putWithin mlX8_135 (fun _ hq => kX8_putWithin hG (gx_2_5 hG (gx_1_0 hG (gx_8_0 hG h_b))) hq) (Nat.le_of_ble_eq_true rfl) rfl (st := []) rfl (Nat.le_of_ble_eq_true rfl) dX8_change_74 (fun q4 => ?_)
      exact g_iret_iV hC hT dX8_change_77
    refine g_tsw hC 3 (58) (tgt := 78) dX8_change_20 (by decide) rfl ?_ (fun hn7 => ?_)
    · refine g_aload hC dX8_change_78 (j := 0) rfl ?_
      refine g_getR hC fr_2_6 (gx_1_0 hG (gx_8_0 hG h_b)) (b := b + 6) rfl dX8_change_80 flX8_96 ?_
      refine g_iload_n hC dX8_change_83 (j := 2) rfl rfl ?_
      refine g_iload_n hC dX8_change_84 (j := 4) rfl rfl ?_
      refine g_iconst hC dX8_change_85 ic_5 ?_
      refine g_callS_iV hC hR ⟨Nat.zero_le _, Nat.zero_le _⟩ mwX8_putWithin ms_X8_putWithin mlX8_135 (fun _ hq => kX8_putWithin hG (gx_2_6 hG (gx_1_0 hG (gx_8_0 hG h_b))) hq) (Nat.le_of_ble_eq_true rfl) rfl (st := []) rfl (Nat.le_of_ble_eq_true rfl) dX8_change_86 (fun q6 => ?_)
      exact g_iret_iV hC hT dX8_change_89
    refine g_tsw hC 4 (70) (tgt := 90) dX8_change_20 (by decide) rfl ?_ (fun hn13 => ?_)
    · refine g_iload_n hC dX8_change_90 (j := 4) rfl rfl ?_
      refine g_iconst hC dX8_change_91 ic_0 ?_
      refine g_iconst hC dX8_change_92 ic_1 ?_
      refine g_callS_i hC hR ⟨Nat.zero_le _, Nat.zero_le _⟩ mwX8_within ms_X8_within mlX8_77 (fun _ hq => kX8_within  hq) (Nat.le_of_ble_eq_true rfl) rfl (st := []) rfl (Nat.le_of_ble_eq_true rfl) dX8_change_93 (fun q8 => ?_)
      refine g_if_ne hC dX8_change_96 ?_ ?_
      · refine g_iconst hC dX8_change_99 ic_m1 ?_
        exact g_iret_iV hC hT dX8_change_100
      · refine g_aload hC dX8_change_101 (j := 0) rfl ?_
        refine g_iload_n hC dX8_change_103 (j := 2) rfl rfl ?_
        refine g_callV_i hC hR ⟨Nat.zero_le _, Nat.zero_le _⟩ mwX2_isFlat miX2_isFlat (ci := 2) rfl (gx_1_0 hG (gx_8_0 hG h_b)) (Nat.le_of_ble_eq_true rfl) mlX8_107 (fun _ hq => kX2_isFlat hG (gx_1_0 hG (gx_8_0 hG h_b)) hq) (Nat.le_of_ble_eq_true rfl) rfl (st := []) rfl (Nat.le_of_ble_eq_true rfl) dX8_change_104 (fun q9 => ?_)
        refine g_letJ (J := fun j10 => Go C 115 [(1, .int a1), (3, .int a3), (4, .ref (b + 2))] [.int j10] V R G 0 0) (fun j10 hJ => ?_) (fun j10 => ?_)
        · refine g_if_eq hC dX8_change_107 ?_ ?_
          · refine g_iconst hC dX8_change_114 ic_0 ?_
            refine g_sub [2, 4, 0] rfl ?_
            exact fun e => by cases e; exact hJ
          · refine g_iconst hC dX8_change_110 ic_1 ?_
            refine g_goto hC dX8_change_111 ?_
            refine g_sub [2, 4, 0] rfl ?_
            exact fun e => by cases e; exact hJ
        · refine g_istore hC (n0 := 6) (lv' := [(5, .int j10), (1, .int a1), (3, .int a3), (4, .ref (b + 2))]) dX8_change_115 (Nat.le_of_ble_eq_true rfl) hL rfl ?_
          refine g_aload hC dX8_change_117 (j := 3) rfl ?_
          refine g_iload_n hC dX8_change_119 (j := 1) rfl rfl ?_
          refine g_iload_n hC dX8_change_120 (j := 2) rfl rfl ?_
          refine g_iconst hC dX8_change_121 ic_1 ?_
          refine g_letJ (J := fun j11 => Go C 130 [(5, .int j10)] [.int j11, .int a1, .ref (b + 2)] V R G 0 0) (fun j11 hJ => ?_) (fun j11 => ?_)
          · refine g_icmp_ne hC dX8_change_122 ?_ ?_
            · refine g_iconst hC dX8_change_125 ic_1 ?_
              refine g_goto hC dX8_change_126 ?_
              refine g_sub [0] rfl ?_
              exact fun e => by cases e; exact hJ
            · refine g_iconst hC dX8_change_129 ic_0 ?_
              refine g_sub [0] rfl ?_
              exact fun e => by cases e; exact hJ
          · refine g_callV_vV hC hR ⟨Nat.zero_le _, Nat.zero_le _⟩ mwX2_setFlat miX2_setFlat (ci := 2) rfl (gx_1_0 hG (gx_8_0 hG h_b)) (Nat.le_of_ble_eq_true rfl) mlX8_99 (fun _ hq => kX2_setFlat hG (gx_1_0 hG (gx_8_0 hG h_b)) hq) (Nat.le_of_ble_eq_true rfl) rfl (st := []) rfl (Nat.le_of_ble_eq_true rfl) dX8_change_130 (fun q12 => ?_)
            refine g_iload hC dX8_change_133 (j := 0) rfl ?_
            exact g_iret_iV hC hT dX8_change_135
    refine g_tswd hC (tgt := 136) dX8_change_20 (by have := And.intro trivial trivial; have := lv_neT (a := 1) hn3 (by decide); have := lv_neT (a := 2) hn5 (by decide); have := lv_neT (a := 3) hn7 (by decide); have := lv_neT (a := 4) hn13 (by decide); omega) rfl ?_
    refine g_iconst hC dX8_change_136 ic_m1 ?_
    exact g_iret_iV hC hT dX8_change_137
def pX8_remake (G : G2) (V : V2) (b : Nat) (a1 : Int32) (a2 : Int32) : Option (Int32 × V2) :=
  (pX8_isThing V b a1).bind fun q1 =>
  if q1 = 0 then (some ((-1), V))
  else ((pX8_within a2 1 5).bind fun q2 =>
  if q2 = 0 then (some ((-1), V))
  else ((pX8_putWithin G V (b + 3) a1 a2 5).bind fun q3 =>
  some (q3.1, q3.2)))
set_option maxHeartbeats 4000000 in
set_option maxRecDepth 100000 in
theorem kX8_remake {l : Launch} {D : Dx} {G : G2} {V : V2} {R : R2} {b : Nat} {a1 : Int32} {a2 : Int32} (hG : GX G) (h_b : own G b 18) {o : Int32 × V2} (hf : pX8_remake G V b a1 a2 = some o) : Con l yX8_remake cX8_remake 3 (some .int) (rmN 2 0 0) D G V R [.ref b, .int a1, .int a2] (some (.int o.1), o.2, R, G, 0, 0) := by
  refine Con.mk RX8 (by decide) rfl (Nat.le_of_ble_eq_true rfl) (fun C _ hR hT _ _ hL hC hnm => ?_)
  revert hf
  unfold pX8_remake
  refine g_aload_n hC dX8_remake_0 (j := 0) rfl rfl ?_
  refine g_iload_n hC dX8_remake_1 (j := 1) rfl rfl ?_
  refine g_callV_i hC hR ⟨Nat.zero_le _, Nat.zero_le _⟩ mwX8_isThing miX8_isThing (ci := 8) rfl h_b (Nat.le_of_ble_eq_true rfl) mlX8_103 (fun _ hq => kX8_isThing hG h_b hq) (Nat.le_of_ble_eq_true rfl) rfl (st := []) rfl (Nat.le_of_ble_eq_true rfl) dX8_remake_2 (fun q1 => ?_)
  refine g_if_eq hC dX8_remake_5 ?_ ?_
  · refine g_iconst hC dX8_remake_17 ic_m1 ?_
    exact g_iret_iV hC hT dX8_remake_18
  · refine g_iload_n hC dX8_remake_8 (j := 2) rfl rfl ?_
    refine g_iconst hC dX8_remake_9 ic_1 ?_
    refine g_iconst hC dX8_remake_10 ic_5 ?_
    refine g_callS_i hC hR ⟨Nat.zero_le _, Nat.zero_le _⟩ mwX8_within ms_X8_within mlX8_77 (fun _ hq => kX8_within  hq) (Nat.le_of_ble_eq_true rfl) rfl (st := []) rfl (Nat.le_of_ble_eq_true rfl) dX8_remake_11 (fun q2 => ?_)
    refine g_if_ne hC dX8_remake_14 ?_ ?_
    · refine g_iconst hC dX8_remake_17 ic_m1 ?_
      exact g_iret_iV hC hT dX8_remake_18
    · refine g_aload_n hC dX8_remake_19 (j := 0) rfl rfl ?_
      refine g_getR hC fr_8_0 h_b (b := b + 1) rfl dX8_remake_20 flX8_10 ?_
      refine g_getR hC fr_1_0 (gx_8_0 hG h_b) (b := b + 2) rfl dX8_remake_23 flX8_81 ?_
      refine g_getR hC fr_2_3 (gx_1_0 hG (gx_8_0 hG h_b)) (b := b + 3) rfl dX8_remake_26 flX8_87 ?_
      refine g_iload_n hC dX8_remake_29 (j := 1) rfl rfl ?_
      refine g_iload_n hC dX8_remake_30 (j := 2) rfl rfl ?_
      refine g_iconst hC dX8_remake_31 ic_5 ?_
      refine g_callS_iV hC hR ⟨Nat.zero_le _, Nat.zero_le _⟩ mwX8_putWithin ms_X8_putWithin mlX8_135 (fun _ hq => kX8_putWithin hG (gx_2_3 hG (gx_1_0 hG (gx_8_0 hG h_b))) hq) (Nat.le_of_ble_eq_true rfl) rfl (st := []) rfl (Nat.le_of_ble_eq_true rfl) dX8_remake_32 (fun q3 => ?_)
      exact g_iret_iV hC hT dX8_remake_35
def pX8_iron (G : G2) (V : V2) (b : Nat) (a1 : Int32) (a2 : Int32) : Option (Int32 × V2) :=
  (pX8_putWithin G V (b + 7) a1 a2 15).bind fun q1 =>
  some (q1.1, q1.2)
set_option maxHeartbeats 4000000 in
set_option maxRecDepth 100000 in
theorem kX8_iron {l : Launch} {D : Dx} {G : G2} {V : V2} {R : R2} {b : Nat} {a1 : Int32} {a2 : Int32} (hG : GX G) (h_b : own G b 18) {o : Int32 × V2} (hf : pX8_iron G V b a1 a2 = some o) : Con l yX8_iron cX8_iron 3 (some .int) (rmN 2 0 0) D G V R [.ref b, .int a1, .int a2] (some (.int o.1), o.2, R, G, 0, 0) := by
  refine Con.mk RX8 (by decide) rfl (Nat.le_of_ble_eq_true rfl) (fun C _ hR hT _ _ hL hC hnm => ?_)
  revert hf
  unfold pX8_iron
  refine g_aload_n hC dX8_iron_0 (j := 0) rfl rfl ?_
  refine g_getR hC fr_8_0 h_b (b := b + 1) rfl dX8_iron_1 flX8_10 ?_
  refine g_getR hC fr_1_4 (gx_8_0 hG h_b) (b := b + 7) rfl dX8_iron_4 flX8_139 ?_
  refine g_iload_n hC dX8_iron_7 (j := 1) rfl rfl ?_
  refine g_iload_n hC dX8_iron_8 (j := 2) rfl rfl ?_
  refine g_bipush hC dX8_iron_9 bc_15 ?_
  refine g_callS_iV hC hR ⟨Nat.zero_le _, Nat.zero_le _⟩ mwX8_putWithin ms_X8_putWithin mlX8_135 (fun _ hq => kX8_putWithin hG (gx_1_4 hG (gx_8_0 hG h_b)) hq) (Nat.le_of_ble_eq_true rfl) rfl (st := []) rfl (Nat.le_of_ble_eq_true rfl) dX8_iron_11 (fun q1 => ?_)
  exact g_iret_iV hC hT dX8_iron_14
def pX8_board (G : G2) (V : V2) (b : Nat) (a1 : Int32) (a2 : Int32) (a3 : Int32) : Option (Int32 × V2) :=
  if a2 = 0 then ((pX8_putWithin G V (b + 8) a1 a3 9).bind fun q1 =>
  some (q1.1, q1.2))
  else (if a2 = 1 then ((pX8_putWithin G V (b + 9) a1 a3 9).bind fun q3 =>
  some (q3.1, q3.2))
  else (some ((-1), V)))
set_option maxHeartbeats 4000000 in
set_option maxRecDepth 100000 in
theorem kX8_board {l : Launch} {D : Dx} {G : G2} {V : V2} {R : R2} {b : Nat} {a1 : Int32} {a2 : Int32} {a3 : Int32} (hG : GX G) (h_b : own G b 18) {o : Int32 × V2} (hf : pX8_board G V b a1 a2 a3 = some o) : Con l yX8_board cX8_board 4 (some .int) (rmN 2 0 0) D G V R [.ref b, .int a1, .int a2, .int a3] (some (.int o.1), o.2, R, G, 0, 0) := by
  refine Con.mk RX8 (by decide) rfl (Nat.le_of_ble_eq_true rfl) (fun C _ hR hT _ _ hL hC hnm => ?_)
  revert hf
  unfold pX8_board
  refine g_iload_n hC dX8_board_0 (j := 2) rfl rfl ?_
  refine g_lsw hC 0 (27) (tgt := 28) dX8_board_1 (by decide) (by decide) rfl ?_ (fun hn2 => ?_)
  · refine g_aload_n hC dX8_board_28 (j := 0) rfl rfl ?_
    refine g_getR hC fr_8_0 h_b (b := b + 1) rfl dX8_board_29 flX8_10 ?_
    refine g_getR hC fr_1_5 (gx_8_0 hG h_b) (b := b + 8) rfl dX8_board_32 flX8_142 ?_
    refine g_iload_n hC dX8_board_35 (j := 1) rfl rfl ?_
    refine g_iload_n hC dX8_board_36 (j := 3) rfl rfl ?_
    refine g_bipush hC dX8_board_37 bc_9 ?_
    refine g_callS_iV hC hR ⟨Nat.zero_le _, Nat.zero_le _⟩ mwX8_putWithin ms_X8_putWithin mlX8_135 (fun _ hq => kX8_putWithin hG (gx_1_5 hG (gx_8_0 hG h_b)) hq) (Nat.le_of_ble_eq_true rfl) rfl (st := []) rfl (Nat.le_of_ble_eq_true rfl) dX8_board_39 (fun q1 => ?_)
    exact g_iret_iV hC hT dX8_board_42
  refine g_lsw hC 1 (42) (tgt := 43) dX8_board_1 (by decide) (by decide) rfl ?_ (fun hn4 => ?_)
  · refine g_aload_n hC dX8_board_43 (j := 0) rfl rfl ?_
    refine g_getR hC fr_8_0 h_b (b := b + 1) rfl dX8_board_44 flX8_10 ?_
    refine g_getR hC fr_1_6 (gx_8_0 hG h_b) (b := b + 9) rfl dX8_board_47 flX8_145 ?_
    refine g_iload_n hC dX8_board_50 (j := 1) rfl rfl ?_
    refine g_iload_n hC dX8_board_51 (j := 3) rfl rfl ?_
    refine g_bipush hC dX8_board_52 bc_9 ?_
    refine g_callS_iV hC hR ⟨Nat.zero_le _, Nat.zero_le _⟩ mwX8_putWithin ms_X8_putWithin mlX8_135 (fun _ hq => kX8_putWithin hG (gx_1_6 hG (gx_8_0 hG h_b)) hq) (Nat.le_of_ble_eq_true rfl) rfl (st := []) rfl (Nat.le_of_ble_eq_true rfl) dX8_board_54 (fun q3 => ?_)
    exact g_iret_iV hC hT dX8_board_57
  refine g_lswd hC (tgt := 58) dX8_board_1 (by decide) (by rw [lv_osw hn2 (by decide)]; rw [lv_osw hn4 (by decide)]; rfl) rfl ?_
  refine g_iconst hC dX8_board_58 ic_m1 ?_
  exact g_iret_iV hC hT dX8_board_59
def pX8_boardOf (V : V2) (b : Nat) (a1 : Int32) (a2 : Int32) : Option (Int32) :=
  (pX8_within a1 0 5).bind fun q1 =>
  if q1 = 0 then (some (-1))
  else (if a2 = 0 then ((ldI 6 (V (b + 8)) a1).bind fun t2 =>
  some t2)
  else (if a2 = 1 then ((ldI 6 (V (b + 9)) a1).bind fun t4 =>
  some t4)
  else (some (-1))))
set_option maxHeartbeats 4000000 in
set_option maxRecDepth 100000 in
theorem kX8_boardOf {l : Launch} {D : Dx} {G : G2} {V : V2} {R : R2} {b : Nat} {a1 : Int32} {a2 : Int32} (hG : GX G) (h_b : own G b 18) {o : Int32} (hf : pX8_boardOf V b a1 a2 = some o) : Con l yX8_boardOf cX8_boardOf 3 (some .int) (rmN 1 0 0) D G V R [.ref b, .int a1, .int a2] (some (.int o), V, R, G, 0, 0) := by
  refine Con.mk RX8 (by decide) rfl (Nat.le_of_ble_eq_true rfl) (fun C _ hR hT _ _ hL hC hnm => ?_)
  revert hf
  unfold pX8_boardOf
  refine g_iload_n hC dX8_boardOf_0 (j := 1) rfl rfl ?_
  refine g_iconst hC dX8_boardOf_1 ic_0 ?_
  refine g_iconst hC dX8_boardOf_2 ic_5 ?_
  refine g_callS_i hC hR ⟨Nat.zero_le _, Nat.zero_le _⟩ mwX8_within ms_X8_within mlX8_77 (fun _ hq => kX8_within  hq) (Nat.le_of_ble_eq_true rfl) rfl (st := []) rfl (Nat.le_of_ble_eq_true rfl) dX8_boardOf_3 (fun q1 => ?_)
  refine g_if_ne hC dX8_boardOf_6 ?_ ?_
  · refine g_iconst hC dX8_boardOf_9 ic_m1 ?_
    exact g_iret_i hC hT dX8_boardOf_10
  · refine g_iload_n hC dX8_boardOf_11 (j := 2) rfl rfl ?_
    refine g_lsw hC 0 (28) (tgt := 40) dX8_boardOf_12 (by decide) (by decide) rfl ?_ (fun hn3 => ?_)
    · refine g_aload_n hC dX8_boardOf_40 (j := 0) rfl rfl ?_
      refine g_getR hC fr_8_0 h_b (b := b + 1) rfl dX8_boardOf_41 flX8_10 ?_
      refine g_getR hC fr_1_5 (gx_8_0 hG h_b) (b := b + 8) rfl dX8_boardOf_44 flX8_142 ?_
      refine g_iload_n hC dX8_boardOf_47 (j := 1) rfl rfl ?_
      refine g_ialdV hC (gx_1_5 hG (gx_8_0 hG h_b)) (gl_1_5 hG (gx_8_0 hG h_b)) dX8_boardOf_48 (fun t2 => ?_)
      exact g_iret_i hC hT dX8_boardOf_49
    refine g_lsw hC 1 (38) (tgt := 50) dX8_boardOf_12 (by decide) (by decide) rfl ?_ (fun hn5 => ?_)
    · refine g_aload_n hC dX8_boardOf_50 (j := 0) rfl rfl ?_
      refine g_getR hC fr_8_0 h_b (b := b + 1) rfl dX8_boardOf_51 flX8_10 ?_
      refine g_getR hC fr_1_6 (gx_8_0 hG h_b) (b := b + 9) rfl dX8_boardOf_54 flX8_145 ?_
      refine g_iload_n hC dX8_boardOf_57 (j := 1) rfl rfl ?_
      refine g_ialdV hC (gx_1_6 hG (gx_8_0 hG h_b)) (gl_1_6 hG (gx_8_0 hG h_b)) dX8_boardOf_58 (fun t4 => ?_)
      exact g_iret_i hC hT dX8_boardOf_59
    refine g_lswd hC (tgt := 60) dX8_boardOf_12 (by decide) (by rw [lv_osw hn3 (by decide)]; rw [lv_osw hn5 (by decide)]; rfl) rfl ?_
    refine g_iconst hC dX8_boardOf_60 ic_m1 ?_
    exact g_iret_i hC hT dX8_boardOf_61
def pX8_ends (V : V2) (b : Nat) (a1 : Int32) : Option (Int32 × V2) :=
  (pX8_within a1 1 16).bind fun q1 =>
  if q1 = 0 then (some ((-1), V))
  else (if (V (b + 2) 0) ≤ a1 then (letv (V (b + 1) 1) fun x2 =>
  letv (up2 V (b + 1) 1 a1) fun U3 =>
  some (x2, U3))
  else (some ((-4), V)))
set_option maxHeartbeats 4000000 in
set_option maxRecDepth 100000 in
theorem kX8_ends {l : Launch} {D : Dx} {G : G2} {V : V2} {R : R2} {b : Nat} {a1 : Int32} (hG : GX G) (h_b : own G b 18) {o : Int32 × V2} (hf : pX8_ends V b a1 = some o) : Con l yX8_ends cX8_ends 3 (some .int) (rmN 1 0 0) D G V R [.ref b, .int a1] (some (.int o.1), o.2, R, G, 0, 0) := by
  refine Con.mk RX8 (by decide) rfl (Nat.le_of_ble_eq_true rfl) (fun C _ hR hT _ _ hL hC hnm => ?_)
  revert hf
  unfold pX8_ends
  refine g_iload_n hC dX8_ends_0 (j := 1) rfl rfl ?_
  refine g_iconst hC dX8_ends_1 ic_1 ?_
  refine g_bipush hC dX8_ends_2 bc_16 ?_
  refine g_callS_i hC hR ⟨Nat.zero_le _, Nat.zero_le _⟩ mwX8_within ms_X8_within mlX8_77 (fun _ hq => kX8_within  hq) (Nat.le_of_ble_eq_true rfl) rfl (st := []) rfl (Nat.le_of_ble_eq_true rfl) dX8_ends_4 (fun q1 => ?_)
  refine g_if_ne hC dX8_ends_7 ?_ ?_
  · refine g_iconst hC dX8_ends_10 ic_m1 ?_
    exact g_iret_iV hC hT dX8_ends_11
  · refine g_iload_n hC dX8_ends_12 (j := 1) rfl rfl ?_
    refine g_aload_n hC dX8_ends_13 (j := 0) rfl rfl ?_
    refine g_getR hC fr_8_0 h_b (b := b + 1) rfl dX8_ends_14 flX8_10 ?_
    refine g_getR hC fr_1_0 (gx_8_0 hG h_b) (b := b + 2) rfl dX8_ends_17 flX8_81 ?_
    refine g_getI hC fi_2_0 (gx_1_0 hG (gx_8_0 hG h_b)) dX8_ends_20 flX8_148 ?_
    refine g_icmp_ge hC dX8_ends_23 ?_ ?_
    · refine g_aload_n hC dX8_ends_29 (j := 0) rfl rfl ?_
      refine g_getR hC fr_8_0 h_b (b := b + 1) rfl dX8_ends_30 flX8_10 ?_
      refine g_getI hC fi_1_1 (gx_8_0 hG h_b) dX8_ends_33 flX8_151 ?_
      refine g_istore_nL hC (n0 := 3) (lv' := fun x2 => [(2, .int x2), (0, .ref b), (1, .int a1)]) dX8_ends_36 rfl (Nat.le_of_ble_eq_true rfl) hL (fun _ => rfl) (fun x2 => ?_)
      refine g_aload_n hC dX8_ends_37 (j := 1) rfl rfl ?_
      refine g_getR hC fr_8_0 h_b (b := b + 1) rfl dX8_ends_38 flX8_10 ?_
      refine g_iload_n hC dX8_ends_41 (j := 2) rfl rfl ?_
      refine g_putIL hC fp_1_1 (gx_8_0 hG h_b) dX8_ends_42 flX8_151 (fun U3 => ?_)
      refine g_iload_n hC dX8_ends_45 (j := 0) rfl rfl ?_
      exact g_iret_iV hC hT dX8_ends_46
    · refine g_bipush hC dX8_ends_26 bc_m4 ?_
      exact g_iret_iV hC hT dX8_ends_28
def pX8_anew (V : V2) (b : Nat) : Option (Int32 × V2) :=
  letv (V (b + 2) 0) fun x1 =>
  letv (up2 V (b + 2) 0 0) fun U2 =>
  letv (up2 U2 (b + 2) 2 0) fun U3 =>
  letv (up2 U3 (b + 1) 2 0) fun U4 =>
  some (x1, U4)
set_option maxHeartbeats 4000000 in
set_option maxRecDepth 100000 in
theorem kX8_anew {l : Launch} {D : Dx} {G : G2} {V : V2} {R : R2} {b : Nat} (hG : GX G) (h_b : own G b 18) {o : Int32 × V2} (hf : pX8_anew V b = some o) : Con l yX8_anew cX8_anew 2 (some .int) (rmN 0 0 0) D G V R [.ref b] (some (.int o.1), o.2, R, G, 0, 0) := by
  refine Con.mk RX8 (by decide) rfl (Nat.le_of_ble_eq_true rfl) (fun C _ hR hT _ _ hL hC hnm => ?_)
  revert hf
  unfold pX8_anew
  refine g_aload_n hC dX8_anew_0 (j := 0) rfl rfl ?_
  refine g_getR hC fr_8_0 h_b (b := b + 1) rfl dX8_anew_1 flX8_10 ?_
  refine g_getR hC fr_1_0 (gx_8_0 hG h_b) (b := b + 2) rfl dX8_anew_4 flX8_81 ?_
  refine g_getI hC fi_2_0 (gx_1_0 hG (gx_8_0 hG h_b)) dX8_anew_7 flX8_148 ?_
  refine g_istore_nL hC (n0 := 2) (lv' := fun x1 => [(1, .int x1), (0, .ref b)]) dX8_anew_10 rfl (Nat.le_of_ble_eq_true rfl) hL (fun _ => rfl) (fun x1 => ?_)
  refine g_aload_n hC dX8_anew_11 (j := 1) rfl rfl ?_
  refine g_getR hC fr_8_0 h_b (b := b + 1) rfl dX8_anew_12 flX8_10 ?_
  refine g_getR hC fr_1_0 (gx_8_0 hG h_b) (b := b + 2) rfl dX8_anew_15 flX8_81 ?_
  refine g_iconst hC dX8_anew_18 ic_0 ?_
  refine g_putIL hC fp_2_0 (gx_1_0 hG (gx_8_0 hG h_b)) dX8_anew_19 flX8_148 (fun U2 => ?_)
  refine g_aload_n hC dX8_anew_22 (j := 1) rfl rfl ?_
  refine g_getR hC fr_8_0 h_b (b := b + 1) rfl dX8_anew_23 flX8_10 ?_
  refine g_getR hC fr_1_0 (gx_8_0 hG h_b) (b := b + 2) rfl dX8_anew_26 flX8_81 ?_
  refine g_iconst hC dX8_anew_29 ic_0 ?_
  refine g_putIL hC fp_2_2 (gx_1_0 hG (gx_8_0 hG h_b)) dX8_anew_30 flX8_154 (fun U3 => ?_)
  refine g_aload_n hC dX8_anew_33 (j := 1) rfl rfl ?_
  refine g_getR hC fr_8_0 h_b (b := b + 1) rfl dX8_anew_34 flX8_10 ?_
  refine g_iconst hC dX8_anew_37 ic_0 ?_
  refine g_putIL hC fp_1_2 (gx_8_0 hG h_b) dX8_anew_38 flX8_157 (fun U4 => ?_)
  refine g_iload_n hC dX8_anew_41 (j := 0) rfl rfl ?_
  exact g_iret_iV hC hT dX8_anew_42
def pX1_isOver (V : V2) (b : Nat) (a1 : Nat) : Option (Int32) :=
  if (V a1 0) < (V b 1) then (some 0)
  else (some 1)
set_option maxHeartbeats 4000000 in
set_option maxRecDepth 100000 in
theorem kX1_isOver {l : Launch} {D : Dx} {G : G2} {V : V2} {R : R2} {b : Nat} {a1 : Nat} (hG : GX G) (h_b : own G b 11) (h_a1 : own G a1 12) {o : Int32} (hf : pX1_isOver V b a1 = some o) : Con l yX1_isOver cX1_isOver 2 (some .boolean) (rmN 0 0 0) D G V R [.ref b, .ref a1] (some (.int o), V, R, G, 0, 0) := by
  refine Con.mk RX1 (by decide) rfl (Nat.le_of_ble_eq_true rfl) (fun C _ hR hT _ _ hL hC hnm => ?_)
  revert hf
  unfold pX1_isOver
  refine g_aload_n hC dX1_isOver_0 (j := 1) rfl rfl ?_
  refine g_getI hC fi_2_0 h_a1 dX1_isOver_1 flX1_77 ?_
  refine g_aload_n hC dX1_isOver_4 (j := 0) rfl rfl ?_
  refine g_getI hC fi_1_1 h_b dX1_isOver_5 flX1_18 ?_
  refine g_icmp_lt hC dX1_isOver_8 ?_ ?_
  · refine g_iconst hC dX1_isOver_15 ic_0 ?_
    exact g_zret_i hC rfl hT dX1_isOver_16
  · refine g_iconst hC dX1_isOver_11 ic_1 ?_
    refine g_goto hC dX1_isOver_12 ?_
    exact g_zret_i hC rfl hT dX1_isOver_16
def lX2_bulkOfAll_4 (V : V2) (b : Nat) : Nat → Int32 → Int32 → Option (Int32)
  | 0, _, _ => none
  | f1 + 1, x2, x3 =>
    if (V b 1) ≤ x3 then (some x2)
    else ((ldI 6 (V (b + 2)) x3).bind fun t4 =>
    letv (x2 + t4) fun x5 =>
    letv (x3 + 1) fun x6 =>
    lX2_bulkOfAll_4 V b f1 x5 x6)
def pX2_bulkOfAll (n : Nat) (V : V2) (b : Nat) : Option (Int32) :=
  (lX2_bulkOfAll_4 V b n 0 0).bind fun w7 =>
  some w7
set_option maxHeartbeats 4000000 in
set_option maxRecDepth 100000 in
theorem wX2_bulkOfAll_4 {C : Cx} (hC : CxOK C cX2_bulkOfAll RX2 (some .int)) (hL : C.2.2.2.2 = 3) {G : G2} {V : V2} {R : R2} {b : Nat} (hG : GX G) (h_b : own G b 12) {o : Int32} (hX : Go C 27 [(1, .int o)] [] V R G 0 0) : ∀ (f : Nat) (x2 : Int32) (x3 : Int32), lX2_bulkOfAll_4 V b f x2 x3 = some o → Go C 4 [(0, .ref b), (1, .int x2), (2, .int x3)] [] V R G 0 0 := by
  intro f
  induction f with
  | zero => intro _ _ hf; exact absurd hf (by unfold lX2_bulkOfAll_4; exact fun z => nomatch z)
  | succ f1 ih =>
    intro x2 x3
    unfold lX2_bulkOfAll_4
    refine g_iload_n hC dX2_bulkOfAll_4 (j := 2) rfl rfl ?_
    refine g_aload_n hC dX2_bulkOfAll_5 (j := 0) rfl rfl ?_
    refine g_getI hC fi_2_1 h_b dX2_bulkOfAll_6 flX2_15 ?_
    refine g_icmp_ge hC dX2_bulkOfAll_9 ?_ ?_
    · refine g_sub [1] rfl ?_
      exact fun e => by cases e; exact hX
    · refine g_iload_n hC dX2_bulkOfAll_12 (j := 1) rfl rfl ?_
      refine g_aload_n hC dX2_bulkOfAll_13 (j := 0) rfl rfl ?_
      refine g_getR hC fr_2_4 h_b (b := b + 2) rfl dX2_bulkOfAll_14 flX2_25 ?_
      refine g_iload_n hC dX2_bulkOfAll_17 (j := 2) rfl rfl ?_
      refine g_ialdV hC (gx_2_4 hG h_b) (gl_2_4 hG h_b) dX2_bulkOfAll_18 (fun t4 => ?_)
      refine g_iadd hC dX2_bulkOfAll_19 ?_
      refine g_istore_nL hC (n0 := 3) (lv' := fun x5 => [(1, .int x5), (0, .ref b), (2, .int x3)]) dX2_bulkOfAll_20 rfl (Nat.le_of_ble_eq_true rfl) hL (fun _ => rfl) (fun x5 => ?_)
      refine g_iincL hC (n0 := 3) (j := 2) (lv' := fun x6 => [(2, .int x6), (1, .int x5), (0, .ref b)]) dX2_bulkOfAll_21 rfl ic_1 (Nat.le_of_ble_eq_true rfl) hL (fun _ => rfl) (fun x6 => ?_)
      refine g_goto hC dX2_bulkOfAll_24 ?_
      refine g_sub [2, 1, 0] rfl ?_
      exact ih x5 x6
set_option maxHeartbeats 4000000 in
set_option maxRecDepth 100000 in
theorem kX2_bulkOfAll {l : Launch} {D : Dx} {G : G2} {V : V2} {R : R2} {n : Nat} {b : Nat} (hG : GX G) (h_b : own G b 12) {o : Int32} (hf : pX2_bulkOfAll n V b = some o) : Con l yX2_bulkOfAll cX2_bulkOfAll 3 (some .int) (rmN 0 0 0) D G V R [.ref b] (some (.int o), V, R, G, 0, 0) := by
  refine Con.mk RX2 (by decide) rfl (Nat.le_of_ble_eq_true rfl) (fun C _ hR hT _ _ hL hC hnm => ?_)
  revert hf
  unfold pX2_bulkOfAll
  refine g_iconst hC dX2_bulkOfAll_0 ic_0 ?_
  refine g_istore_n hC (n0 := 3) (lv' := [(1, .int 0), (0, .ref b)]) dX2_bulkOfAll_1 rfl (Nat.le_of_ble_eq_true rfl) hL rfl ?_
  refine g_iconst hC dX2_bulkOfAll_2 ic_0 ?_
  refine g_istore_n hC (n0 := 3) (lv' := [(2, .int 0), (1, .int 0), (0, .ref b)]) dX2_bulkOfAll_3 rfl (Nat.le_of_ble_eq_true rfl) hL rfl ?_
  refine g_sub [2, 1, 0] rfl ?_
  refine g_bind (J := fun w7 => Go C 27 [(1, .int w7)] [] V R G 0 0) (fun w7 hJ => wX2_bulkOfAll_4 hC hL hG h_b hJ n 0 0) (fun w7 => ?_)
  refine g_iload_n hC dX2_bulkOfAll_27 (j := 0) rfl rfl ?_
  exact g_iret_i hC hT dX2_bulkOfAll_28
