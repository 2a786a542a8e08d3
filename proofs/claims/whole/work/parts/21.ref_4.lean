def lX9_findsFits_14 (n : Nat) (b : Nat) (a1 : Int32) : Nat → V2 → Int32 → Option (V2)
  | 0, _, _ => none
  | f3 + 1, U4, x5 =>
    if (600 : Int32) ≤ x5 then (some U4)
    else ((pX9_lies n U4 b (x5 / 100) (jrem (x5 / 10) 10) ((jrem x5 10) * 9)).bind fun q6 =>
    (pX9_isFit n q6 b a1).bind fun q7 =>
    if q7 = 0 then (letv (x5 + 1) fun x8 =>
    lX9_findsFits_14 n b a1 f3 q6 x8)
    else (letv ((if (q6 b 24) = 0 then (x5)
    else (q6 b 25) : Int32)) fun j9 =>
    letv (up2 q6 b 25 j9) fun U10 =>
    letv (up2 U10 b 24 ((U10 b 24) + 1)) fun U11 =>
    letv (x5 + 1) fun x12 =>
    lX9_findsFits_14 n b a1 f3 U11 x12))
def pX9_findsFits (n : Nat) (V : V2) (b : Nat) (a1 : Int32) : Option (V2) :=
  letv (up2 V b 24 0) fun U1 =>
  letv (up2 U1 b 25 (-3)) fun U2 =>
  (lX9_findsFits_14 n b a1 n U2 100).bind fun w13 =>
  some w13
set_option maxHeartbeats 4000000 in
set_option maxRecDepth 100000 in
theorem wX9_findsFits_14 {C : Cx} (hC : CxOK C cX9_findsFits RX9 none) (hL : C.2.2.2.2 = 3) {n : Nat} {G : G2} {R : R2} {b : Nat} {a1 : Int32} (hG : GX G) (h_b : own G b 19) (hR : C.1.2.2.2.1 = rmN 3 0 0) {o : V2} (hX : Go C 86 [] [] o R G 0 0) : ∀ (f : Nat) (U4 : V2) (x5 : Int32), lX9_findsFits_14 n b a1 f U4 x5 = some o → Go C 14 [(0, .ref b), (1, .int a1), (2, .int x5)] [] U4 R G 0 0 := by
  intro f
  induction f with
  | zero => intro _ _ hf; exact absurd hf (by unfold lX9_findsFits_14; exact fun z => nomatch z)
  | succ f3 ih =>
    intro U4 x5
    unfold lX9_findsFits_14
    refine g_iload_n hC dX9_findsFits_14 (j := 2) rfl rfl ?_
    refine g_sipush hC dX9_findsFits_15 sc_600 ?_
    refine g_icmp_ge hC dX9_findsFits_18 ?_ ?_
    · refine g_sub [] rfl ?_
      exact fun e => by cases e; exact hX
    · refine g_aload_n hC dX9_findsFits_21 (j := 0) rfl rfl ?_
      refine g_iload_n hC dX9_findsFits_22 (j := 2) rfl rfl ?_
      refine g_bipush hC dX9_findsFits_23 bc_100 ?_
      refine g_idivC hC dX9_findsFits_25 nzi_100 ?_
      refine g_iload_n hC dX9_findsFits_26 (j := 2) rfl rfl ?_
      refine g_bipush hC dX9_findsFits_27 bc_10 ?_
      refine g_idivC hC dX9_findsFits_29 nzi_10 ?_
      refine g_bipush hC dX9_findsFits_30 bc_10 ?_
      refine g_iremC hC dX9_findsFits_32 nzi_10 ?_
      refine g_iload_n hC dX9_findsFits_33 (j := 2) rfl rfl ?_
      refine g_bipush hC dX9_findsFits_34 bc_10 ?_
      refine g_iremC hC dX9_findsFits_36 nzi_10 ?_
      refine g_bipush hC dX9_findsFits_37 bc_9 ?_
      refine g_imul hC dX9_findsFits_39 ?_
      refine g_callV_vV hC hR ⟨Nat.zero_le _, Nat.zero_le _⟩ mwX9_lies miX9_lies (ci := 9) rfl h_b (Nat.le_of_ble_eq_true rfl) mlX9_323 (fun _ hq => kX9_lies hG h_b hq) (Nat.le_of_ble_eq_true rfl) rfl (st := []) rfl (Nat.le_of_ble_eq_true rfl) dX9_findsFits_40 (fun q6 => ?_)
      refine g_aload_n hC dX9_findsFits_43 (j := 0) rfl rfl ?_
      refine g_iload_n hC dX9_findsFits_44 (j := 1) rfl rfl ?_
      refine g_callV_i hC hR ⟨Nat.zero_le _, Nat.zero_le _⟩ mwX9_isFit miX9_isFit (ci := 9) rfl h_b (Nat.le_of_ble_eq_true rfl) mlX9_326 (fun _ hq => kX9_isFit hG h_b hq) (Nat.le_of_ble_eq_true rfl) rfl (st := []) rfl (Nat.le_of_ble_eq_true rfl) dX9_findsFits_45 (fun q7 => ?_)
      refine g_if_eq hC dX9_findsFits_48 ?_ ?_
      · refine g_iincL hC (n0 := 3) (j := 2) (lv' := fun x8 => [(2, .int x8), (0, .ref b), (1, .int a1)]) dX9_findsFits_80 rfl ic_1 (Nat.le_of_ble_eq_true rfl) hL (fun _ => rfl) (fun x8 => ?_)
        refine g_goto hC dX9_findsFits_83 ?_
        refine g_sub [1, 2, 0] rfl ?_
        exact ih q6 x8
      · refine g_aload_n hC dX9_findsFits_51 (j := 0) rfl rfl ?_
        refine g_aload_n hC dX9_findsFits_52 (j := 0) rfl rfl ?_
        refine g_getI hC fi_9_24 h_b dX9_findsFits_53 flX9_317 ?_
        refine g_letJ (J := fun j9 => Go C 67 [(0, .ref b), (1, .int a1), (2, .int x5)] [.int j9, .ref b] q6 R G 0 0) (fun j9 hJ => ?_) (fun j9 => ?_)
        · refine g_if_ne hC dX9_findsFits_56 ?_ ?_
          · refine g_iload_n hC dX9_findsFits_59 (j := 2) rfl rfl ?_
            refine g_goto hC dX9_findsFits_60 ?_
            exact fun e => by cases e; exact hJ
          · refine g_aload_n hC dX9_findsFits_63 (j := 0) rfl rfl ?_
            refine g_getI hC fi_9_25 h_b dX9_findsFits_64 flX9_320 ?_
            exact fun e => by cases e; exact hJ
        · refine g_putIL hC fp_9_25 h_b dX9_findsFits_67 flX9_320 (fun U10 => ?_)
          refine g_aload_n hC dX9_findsFits_70 (j := 0) rfl rfl ?_
          refine g_dup hC dX9_findsFits_71 rfl ?_
          refine g_getI hC fi_9_24 h_b dX9_findsFits_72 flX9_317 ?_
          refine g_iconst hC dX9_findsFits_75 ic_1 ?_
          refine g_iadd hC dX9_findsFits_76 ?_
          refine g_putIL hC fp_9_24 h_b dX9_findsFits_77 flX9_317 (fun U11 => ?_)
          refine g_iincL hC (n0 := 3) (j := 2) (lv' := fun x12 => [(2, .int x12), (0, .ref b), (1, .int a1)]) dX9_findsFits_80 rfl ic_1 (Nat.le_of_ble_eq_true rfl) hL (fun _ => rfl) (fun x12 => ?_)
          refine g_goto hC dX9_findsFits_83 ?_
          refine g_sub [1, 2, 0] rfl ?_
          exact ih U11 x12
set_option maxHeartbeats 4000000 in
set_option maxRecDepth 100000 in
theorem kX9_findsFits {l : Launch} {D : Dx} {G : G2} {V : V2} {R : R2} {n : Nat} {b : Nat} {a1 : Int32} (hG : GX G) (h_b : own G b 19) {o : V2} (hf : pX9_findsFits n V b a1 = some o) : Con l yX9_findsFits cX9_findsFits 3 none (rmN 3 0 0) D G V R [.ref b, .int a1] (none, o, R, G, 0, 0) := by
  refine Con.mk RX9 (by decide) rfl (Nat.le_of_ble_eq_true rfl) (fun C _ hR hT _ _ hL hC hnm => ?_)
  revert hf
  unfold pX9_findsFits
  refine g_aload_n hC dX9_findsFits_0 (j := 0) rfl rfl ?_
  refine g_iconst hC dX9_findsFits_1 ic_0 ?_
  refine g_putIL hC fp_9_24 h_b dX9_findsFits_2 flX9_317 (fun U1 => ?_)
  refine g_aload_n hC dX9_findsFits_5 (j := 0) rfl rfl ?_
  refine g_bipush hC dX9_findsFits_6 bc_m3 ?_
  refine g_putIL hC fp_9_25 h_b dX9_findsFits_8 flX9_320 (fun U2 => ?_)
  refine g_bipush hC dX9_findsFits_11 bc_100 ?_
  refine g_istore_n hC (n0 := 3) (lv' := [(2, .int 100), (0, .ref b), (1, .int a1)]) dX9_findsFits_13 rfl (Nat.le_of_ble_eq_true rfl) hL rfl ?_
  refine g_sub [1, 2, 0] rfl ?_
  refine g_bind (J := fun w13 => Go C 86 [] [] w13 R G 0 0) (fun w13 hJ => wX9_findsFits_14 hC hL hG h_b hR hJ n U2 100) (fun w13 => ?_)
  exact g_vret_vV hC hT dX9_findsFits_86
def pX9_lone (n : Nat) (V : V2) (b : Nat) (a1 : Int32) : Option (Int32 × V2) :=
  (pX9_isIn a1.toInt64 0 3).bind fun q1 =>
  if q1 = 0 then (some ((-1), V))
  else ((pX9_findsFits n V b (-1)).bind fun q2 =>
  letv (fun (u4 : Unit) => (if a1 = 0 then (some (q2 b 24, q2))
  else (some ((-3), q2)))) fun j3 =>
  if a1 = 0 then (j3 ())
  else (if (q2 b 24) = 0 then (j3 ())
  else (if a1 = (1 : Int32) then (some ((q2 b 25) / 100, q2))
  else (if a1 = (2 : Int32) then (some (jrem ((q2 b 25) / 10) 10, q2))
  else (some ((jrem (q2 b 25) 10) * 9, q2))))))
set_option maxHeartbeats 4000000 in
set_option maxRecDepth 100000 in
theorem kX9_lone {l : Launch} {D : Dx} {G : G2} {V : V2} {R : R2} {n : Nat} {b : Nat} {a1 : Int32} (hG : GX G) (h_b : own G b 19) {o : Int32 × V2} (hf : pX9_lone n V b a1 = some o) : Con l yX9_lone cX9_lone 2 (some .int) (rmN 4 0 0) D G V R [.ref b, .int a1] (some (.int o.1), o.2, R, G, 0, 0) := by
  refine Con.mk RX9 (by decide) rfl (Nat.le_of_ble_eq_true rfl) (fun C _ hR hT _ _ hL hC hnm => ?_)
  revert hf
  unfold pX9_lone
  refine g_iload_n hC dX9_lone_0 (j := 1) rfl rfl ?_
  refine g_i2l hC dX9_lone_1 ?_
  refine g_lconst hC dX9_lone_2 lc_0 ?_
  refine g_ldc2 hC dX9_lone_3 clX9_306 ?_
  refine g_callS_i hC hR ⟨Nat.zero_le _, Nat.zero_le _⟩ mwX9_isIn ms_X9_isIn mlX9_63 (fun _ hq => kX9_isIn  hq) (Nat.le_of_ble_eq_true rfl) rfl (st := []) rfl (Nat.le_of_ble_eq_true rfl) dX9_lone_6 (fun q1 => ?_)
  refine g_if_ne hC dX9_lone_9 ?_ ?_
  · refine g_iconst hC dX9_lone_12 ic_m1 ?_
    exact g_iret_iV hC hT dX9_lone_13
  · refine g_aload_n hC dX9_lone_14 (j := 0) rfl rfl ?_
    refine g_iconst hC dX9_lone_15 ic_m1 ?_
    refine g_callV_vV hC hR ⟨Nat.zero_le _, Nat.zero_le _⟩ mwX9_findsFits miX9_findsFits (ci := 9) rfl h_b (Nat.le_of_ble_eq_true rfl) mlX9_329 (fun _ hq => kX9_findsFits hG h_b hq) (Nat.le_of_ble_eq_true rfl) rfl (st := []) rfl (Nat.le_of_ble_eq_true rfl) dX9_lone_16 (fun q2 => ?_)
    refine g_iload_n hC dX9_lone_19 (j := 1) rfl rfl ?_
    refine g_jn (J := fun j3 => ∀ (u4 : Unit), j3 u4 = some o → Go C 30 [(0, .ref b), (1, .int a1)] [] q2 R G 0 0) (fun u4 => ?_) (fun j3 hJ => ?_)
    · refine g_iload_n hC dX9_lone_30 (j := 1) rfl rfl ?_
      refine g_if_ne hC dX9_lone_31 ?_ ?_
      · refine g_aload_n hC dX9_lone_34 (j := 0) rfl rfl ?_
        refine g_getI hC fi_9_24 h_b dX9_lone_35 flX9_317 ?_
        refine g_goto hC dX9_lone_38 ?_
        exact g_iret_iV hC hT dX9_lone_43
      · refine g_bipush hC dX9_lone_41 bc_m3 ?_
        exact g_iret_iV hC hT dX9_lone_43
    · refine g_if_eq hC dX9_lone_20 ?_ ?_
      · exact hJ ()
      · refine g_aload_n hC dX9_lone_23 (j := 0) rfl rfl ?_
        refine g_getI hC fi_9_24 h_b dX9_lone_24 flX9_317 ?_
        refine g_if_ne hC dX9_lone_27 ?_ ?_
        · exact hJ ()
        · refine g_iload_n hC dX9_lone_44 (j := 1) rfl rfl ?_
          refine g_iconst hC dX9_lone_45 ic_1 ?_
          refine g_icmp_ne hC dX9_lone_46 ?_ ?_
          · refine g_aload_n hC dX9_lone_49 (j := 0) rfl rfl ?_
            refine g_getI hC fi_9_25 h_b dX9_lone_50 flX9_320 ?_
            refine g_bipush hC dX9_lone_53 bc_100 ?_
            refine g_idivC hC dX9_lone_55 nzi_100 ?_
            refine g_goto hC dX9_lone_56 ?_
            exact g_iret_iV hC hT dX9_lone_87
          · refine g_iload_n hC dX9_lone_59 (j := 1) rfl rfl ?_
            refine g_iconst hC dX9_lone_60 ic_2 ?_
            refine g_icmp_ne hC dX9_lone_61 ?_ ?_
            · refine g_aload_n hC dX9_lone_64 (j := 0) rfl rfl ?_
              refine g_getI hC fi_9_25 h_b dX9_lone_65 flX9_320 ?_
              refine g_bipush hC dX9_lone_68 bc_10 ?_
              refine g_idivC hC dX9_lone_70 nzi_10 ?_
              refine g_bipush hC dX9_lone_71 bc_10 ?_
              refine g_iremC hC dX9_lone_73 nzi_10 ?_
              refine g_goto hC dX9_lone_74 ?_
              exact g_iret_iV hC hT dX9_lone_87
            · refine g_aload_n hC dX9_lone_77 (j := 0) rfl rfl ?_
              refine g_getI hC fi_9_25 h_b dX9_lone_78 flX9_320 ?_
              refine g_bipush hC dX9_lone_81 bc_10 ?_
              refine g_iremC hC dX9_lone_83 nzi_10 ?_
              refine g_bipush hC dX9_lone_84 bc_9 ?_
              refine g_imul hC dX9_lone_86 ?_
              exact g_iret_iV hC hT dX9_lone_87
def lX9_liar_23 (n : Nat) (b : Nat) (j2 : Int32) : Nat → V2 → Int32 → Int32 → Option (V2 × Int32)
  | 0, _, _, _ => none
  | f3 + 1, U4, x5, x6 =>
    (ldI 572 (U4 (b + 1)) 6).bind fun t7 =>
    if t7 ≤ x6 then (some (U4, x5))
    else (if j2 = 0 then (some (U4, x5))
    else (if 0 ≤ x5 then (some (U4, x5))
    else ((pX9_findsFits n U4 b x6).bind fun q8 =>
    if (q8 b 24) ≤ 0 then (letv (x6 + 1) fun x9 =>
    lX9_liar_23 n b j2 f3 q8 (-3) x9)
    else (letv (x6 + 1) fun x10 =>
    lX9_liar_23 n b j2 f3 q8 x6 x10))))
def pX9_liar (n : Nat) (V : V2) (b : Nat) : Option (Int32 × V2) :=
  (pX9_findsFits n V b (-1)).bind fun q1 =>
  letv ((if (q1 b 24) = 0 then (1)
  else (0) : Int32)) fun j2 =>
  (lX9_liar_23 n b j2 n q1 (-3) 0).bind fun w11 =>
  some (w11.2, w11.1)
set_option maxHeartbeats 4000000 in
set_option maxRecDepth 100000 in
theorem wX9_liar_23 {C : Cx} (hC : CxOK C cX9_liar RX9 (some .int)) (hL : C.2.2.2.2 = 4) {n : Nat} {G : G2} {R : R2} {b : Nat} {j2 : Int32} (hG : GX G) (h_b : own G b 19) (hR : C.1.2.2.2.1 = rmN 4 0 0) {o : V2 × Int32} (hX : Go C 67 [(1, .int o.2)] [] o.1 R G 0 0) : ∀ (f : Nat) (U4 : V2) (x5 : Int32) (x6 : Int32), lX9_liar_23 n b j2 f U4 x5 x6 = some o → Go C 23 [(0, .ref b), (1, .int x5), (2, .int j2), (3, .int x6)] [] U4 R G 0 0 := by
  intro f
  induction f with
  | zero => intro _ _ _ hf; exact absurd hf (by unfold lX9_liar_23; exact fun z => nomatch z)
  | succ f3 ih =>
    intro U4 x5 x6
    unfold lX9_liar_23
    refine g_iload_n hC dX9_liar_23 (j := 3) rfl rfl ?_
    refine g_aload_n hC dX9_liar_24 (j := 0) rfl rfl ?_
    refine g_getR hC fr_9_0 h_b (b := b + 1) rfl dX9_liar_25 flX9_7 ?_
    refine g_bipush hC dX9_liar_28 bc_6 ?_
    refine g_ialdV hC (gx_9_0 hG h_b) (gl_9_0 hG h_b) dX9_liar_30 (fun t7 => ?_)
    refine g_icmp_ge hC dX9_liar_31 ?_ ?_
    · refine g_sub [1] rfl ?_
      exact fun e => by cases e; exact hX
    · refine g_iload_n hC dX9_liar_34 (j := 2) rfl rfl ?_
      refine g_if_eq hC dX9_liar_35 ?_ ?_
      · refine g_sub [1] rfl ?_
        exact fun e => by cases e; exact hX
      · refine g_iload_n hC dX9_liar_38 (j := 1) rfl rfl ?_
        refine g_if_ge hC dX9_liar_39 ?_ ?_
        · refine g_sub [1] rfl ?_
          exact fun e => by cases e; exact hX
        · refine g_aload_n hC dX9_liar_42 (j := 0) rfl rfl ?_
          refine g_iload_n hC dX9_liar_43 (j := 3) rfl rfl ?_
          refine g_callV_vV hC hR ⟨Nat.zero_le _, Nat.zero_le _⟩ mwX9_findsFits miX9_findsFits (ci := 9) rfl h_b (Nat.le_of_ble_eq_true rfl) mlX9_329 (fun _ hq => kX9_findsFits hG h_b hq) (Nat.le_of_ble_eq_true rfl) rfl (st := []) rfl (Nat.le_of_ble_eq_true rfl) dX9_liar_44 (fun q8 => ?_)
          refine g_aload_n hC dX9_liar_47 (j := 0) rfl rfl ?_
          refine g_getI hC fi_9_24 h_b dX9_liar_48 flX9_317 ?_
          refine g_if_le hC dX9_liar_51 ?_ ?_
          · refine g_bipush hC dX9_liar_58 bc_m3 ?_
            refine g_istore_n hC (n0 := 4) (lv' := [(1, .int (-3)), (0, .ref b), (2, .int j2), (3, .int x6)]) dX9_liar_60 rfl (Nat.le_of_ble_eq_true rfl) hL rfl ?_
            refine g_iincL hC (n0 := 4) (j := 3) (lv' := fun x9 => [(3, .int x9), (1, .int (-3)), (0, .ref b), (2, .int j2)]) dX9_liar_61 rfl ic_1 (Nat.le_of_ble_eq_true rfl) hL (fun _ => rfl) (fun x9 => ?_)
            refine g_goto hC dX9_liar_64 ?_
            refine g_sub [2, 1, 3, 0] rfl ?_
            exact ih q8 (-3) x9
          · refine g_iload_n hC dX9_liar_54 (j := 3) rfl rfl ?_
            refine g_goto hC dX9_liar_55 ?_
            refine g_istore_n hC (n0 := 4) (lv' := [(1, .int x6), (0, .ref b), (2, .int j2), (3, .int x6)]) dX9_liar_60 rfl (Nat.le_of_ble_eq_true rfl) hL rfl ?_
            refine g_iincL hC (n0 := 4) (j := 3) (lv' := fun x10 => [(3, .int x10), (1, .int x6), (0, .ref b), (2, .int j2)]) dX9_liar_61 rfl ic_1 (Nat.le_of_ble_eq_true rfl) hL (fun _ => rfl) (fun x10 => ?_)
            refine g_goto hC dX9_liar_64 ?_
            refine g_sub [2, 1, 3, 0] rfl ?_
            exact ih q8 x6 x10
set_option maxHeartbeats 4000000 in
set_option maxRecDepth 100000 in
theorem kX9_liar {l : Launch} {D : Dx} {G : G2} {V : V2} {R : R2} {n : Nat} {b : Nat} (hG : GX G) (h_b : own G b 19) {o : Int32 × V2} (hf : pX9_liar n V b = some o) : Con l yX9_liar cX9_liar 4 (some .int) (rmN 4 0 0) D G V R [.ref b] (some (.int o.1), o.2, R, G, 0, 0) := by
  refine Con.mk RX9 (by decide) rfl (Nat.le_of_ble_eq_true rfl) (fun C _ hR hT _ _ hL hC hnm => ?_)
  revert hf
  unfold pX9_liar
  refine g_aload_n hC dX9_liar_0 (j := 0) rfl rfl ?_
  refine g_iconst hC dX9_liar_1 ic_m1 ?_
  refine g_callV_vV hC hR ⟨Nat.zero_le _, Nat.zero_le _⟩ mwX9_findsFits miX9_findsFits (ci := 9) rfl h_b (Nat.le_of_ble_eq_true rfl) mlX9_329 (fun _ hq => kX9_findsFits hG h_b hq) (Nat.le_of_ble_eq_true rfl) rfl (st := []) rfl (Nat.le_of_ble_eq_true rfl) dX9_liar_2 (fun q1 => ?_)
  refine g_bipush hC dX9_liar_5 bc_m3 ?_
  refine g_istore_n hC (n0 := 4) (lv' := [(1, .int (-3)), (0, .ref b)]) dX9_liar_7 rfl (Nat.le_of_ble_eq_true rfl) hL rfl ?_
  refine g_aload_n hC dX9_liar_8 (j := 1) rfl rfl ?_
  refine g_getI hC fi_9_24 h_b dX9_liar_9 flX9_317 ?_
  refine g_letJ (J := fun j2 => Go C 20 [(0, .ref b), (1, .int (-3))] [.int j2] q1 R G 0 0) (fun j2 hJ => ?_) (fun j2 => ?_)
  · refine g_if_ne hC dX9_liar_12 ?_ ?_
    · refine g_iconst hC dX9_liar_15 ic_1 ?_
      refine g_goto hC dX9_liar_16 ?_
      refine g_sub [1, 0] rfl ?_
      exact fun e => by cases e; exact hJ
    · refine g_iconst hC dX9_liar_19 ic_0 ?_
      refine g_sub [1, 0] rfl ?_
      exact fun e => by cases e; exact hJ
  · refine g_istore_n hC (n0 := 4) (lv' := [(2, .int j2), (0, .ref b), (1, .int (-3))]) dX9_liar_20 rfl (Nat.le_of_ble_eq_true rfl) hL rfl ?_
    refine g_iconst hC dX9_liar_21 ic_0 ?_
    refine g_istore_n hC (n0 := 4) (lv' := [(3, .int 0), (2, .int j2), (0, .ref b), (1, .int (-3))]) dX9_liar_22 rfl (Nat.le_of_ble_eq_true rfl) hL rfl ?_
    refine g_sub [2, 3, 1, 0] rfl ?_
    refine g_bind (J := fun w11 => Go C 67 [(1, .int w11.2)] [] w11.1 R G 0 0) (fun w11 hJ => wX9_liar_23 hC hL hG h_b hR hJ n q1 (-3) 0) (fun w11 => ?_)
    refine g_iload_n hC dX9_liar_67 (j := 0) rfl rfl ?_
    exact g_iret_iV hC hT dX9_liar_68
def pX9_seed (V : V2) (b : Nat) (a1 : Int32) : Option (Int32 × V2) :=
  (pX9_becomes V b 4 a1).bind fun q1 =>
  some (q1.1, q1.2)
set_option maxHeartbeats 4000000 in
set_option maxRecDepth 100000 in
theorem kX9_seed {l : Launch} {D : Dx} {G : G2} {V : V2} {R : R2} {b : Nat} {a1 : Int32} (hG : GX G) (h_b : own G b 19) {o : Int32 × V2} (hf : pX9_seed V b a1 = some o) : Con l yX9_seed cX9_seed 2 (some .int) (rmN 1 0 0) D G V R [.ref b, .int a1] (some (.int o.1), o.2, R, G, 0, 0) := by
  refine Con.mk RX9 (by decide) rfl (Nat.le_of_ble_eq_true rfl) (fun C _ hR hT _ _ hL hC hnm => ?_)
  revert hf
  unfold pX9_seed
  refine g_aload_n hC dX9_seed_0 (j := 0) rfl rfl ?_
  refine g_iconst hC dX9_seed_1 ic_4 ?_
  refine g_iload_n hC dX9_seed_2 (j := 1) rfl rfl ?_
  refine g_callV_iV hC hR ⟨Nat.zero_le _, Nat.zero_le _⟩ mwX9_becomes miX9_becomes (ci := 9) rfl h_b (Nat.le_of_ble_eq_true rfl) mlX9_134 (fun _ hq => kX9_becomes hG h_b hq) (Nat.le_of_ble_eq_true rfl) rfl (st := []) rfl (Nat.le_of_ble_eq_true rfl) dX9_seed_3 (fun q1 => ?_)
  exact g_iret_iV hC hT dX9_seed_6
def pX9_goesByLot (n : Nat) (V : V2) (b : Nat) : Option (Int32 × V2) :=
  (ldI 572 (V (b + 1)) 4).bind fun t1 =>
  (stI 572 V (b + 1) 4 ((t1 * 1103515245) + 12345)).bind fun U2 =>
  (ldI 572 (U2 (b + 1)) 4).bind fun t3 =>
  (ldI 572 (U2 (b + 1)) 0).bind fun t4 =>
  (rmI (jushr t3 16) (t4 + 1)).bind fun t5 =>
  (pX9_goesWith n U2 b t5).bind fun q6 =>
  some (q6.1, q6.2)
set_option maxHeartbeats 4000000 in
set_option maxRecDepth 100000 in
theorem kX9_goesByLot {l : Launch} {D : Dx} {G : G2} {V : V2} {R : R2} {n : Nat} {b : Nat} (hG : GX G) (h_b : own G b 19) {o : Int32 × V2} (hf : pX9_goesByLot n V b = some o) : Con l yX9_goesByLot cX9_goesByLot 1 (some .int) (rmN 5 0 0) D G V R [.ref b] (some (.int o.1), o.2, R, G, 0, 0) := by
  refine Con.mk RX9 (by decide) rfl (Nat.le_of_ble_eq_true rfl) (fun C _ hR hT _ _ hL hC hnm => ?_)
  revert hf
  unfold pX9_goesByLot
  refine g_aload_n hC dX9_goesByLot_0 (j := 0) rfl rfl ?_
  refine g_getR hC fr_9_0 h_b (b := b + 1) rfl dX9_goesByLot_1 flX9_7 ?_
  refine g_iconst hC dX9_goesByLot_4 ic_4 ?_
  refine g_aload_n hC dX9_goesByLot_5 (j := 0) rfl rfl ?_
  refine g_getR hC fr_9_0 h_b (b := b + 1) rfl dX9_goesByLot_6 flX9_7 ?_
  refine g_iconst hC dX9_goesByLot_9 ic_4 ?_
  refine g_ialdV hC (gx_9_0 hG h_b) (gl_9_0 hG h_b) dX9_goesByLot_10 (fun t1 => ?_)
  refine g_ldcw hC dX9_goesByLot_11 clX9_332 ?_
  refine g_imul hC dX9_goesByLot_14 ?_
  refine g_sipush hC dX9_goesByLot_15 sc_12345 ?_
  refine g_iadd hC dX9_goesByLot_18 ?_
  refine g_iastV hC (gx_9_0 hG h_b) (gl_9_0 hG h_b) dX9_goesByLot_19 (fun U2 => ?_)
  refine g_aload_n hC dX9_goesByLot_20 (j := 0) rfl rfl ?_
  refine g_aload_n hC dX9_goesByLot_21 (j := 0) rfl rfl ?_
  refine g_getR hC fr_9_0 h_b (b := b + 1) rfl dX9_goesByLot_22 flX9_7 ?_
  refine g_iconst hC dX9_goesByLot_25 ic_4 ?_
  refine g_ialdV hC (gx_9_0 hG h_b) (gl_9_0 hG h_b) dX9_goesByLot_26 (fun t3 => ?_)
  refine g_bipush hC dX9_goesByLot_27 bc_16 ?_
  refine g_iushr hC dX9_goesByLot_29 ?_
  refine g_aload_n hC dX9_goesByLot_30 (j := 0) rfl rfl ?_
  refine g_getR hC fr_9_0 h_b (b := b + 1) rfl dX9_goesByLot_31 flX9_7 ?_
  refine g_iconst hC dX9_goesByLot_34 ic_0 ?_
  refine g_ialdV hC (gx_9_0 hG h_b) (gl_9_0 hG h_b) dX9_goesByLot_35 (fun t4 => ?_)
  refine g_iconst hC dX9_goesByLot_36 ic_1 ?_
  refine g_iadd hC dX9_goesByLot_37 ?_
  refine g_rmI hC dX9_goesByLot_38 (fun t5 => ?_)
  refine g_callV_iV hC hR ⟨Nat.zero_le _, Nat.zero_le _⟩ mwX9_goesWith miX9_goesWith (ci := 9) rfl h_b (Nat.le_of_ble_eq_true rfl) mlX9_255 (fun _ hq => kX9_goesWith hG h_b hq) (Nat.le_of_ble_eq_true rfl) rfl (st := []) rfl (Nat.le_of_ble_eq_true rfl) dX9_goesByLot_39 (fun q6 => ?_)
  exact g_iret_iV hC hT dX9_goesByLot_42
def pX9_lot (n : Nat) (V : V2) (b : Nat) : Option (Int32 × V2) :=
  (pX9_isOver V b).bind fun q1 =>
  if q1 = 0 then ((pX9_goesByLot n V b).bind fun q2 =>
  some (q2.1, q2.2))
  else (some ((-4), V))
set_option maxHeartbeats 4000000 in
set_option maxRecDepth 100000 in
theorem kX9_lot {l : Launch} {D : Dx} {G : G2} {V : V2} {R : R2} {n : Nat} {b : Nat} (hG : GX G) (h_b : own G b 19) {o : Int32 × V2} (hf : pX9_lot n V b = some o) : Con l yX9_lot cX9_lot 1 (some .int) (rmN 6 0 0) D G V R [.ref b] (some (.int o.1), o.2, R, G, 0, 0) := by
  refine Con.mk RX9 (by decide) rfl (Nat.le_of_ble_eq_true rfl) (fun C _ hR hT _ _ hL hC hnm => ?_)
  revert hf
  unfold pX9_lot
  refine g_aload_n hC dX9_lot_0 (j := 0) rfl rfl ?_
  refine g_callV_i hC hR ⟨Nat.zero_le _, Nat.zero_le _⟩ mwX9_isOver miX9_isOver (ci := 9) rfl h_b (Nat.le_of_ble_eq_true rfl) mlX9_141 (fun _ hq => kX9_isOver hG h_b hq) (Nat.le_of_ble_eq_true rfl) rfl (st := []) rfl (Nat.le_of_ble_eq_true rfl) dX9_lot_1 (fun q1 => ?_)
  refine g_if_eq hC dX9_lot_4 ?_ ?_
  · refine g_aload_n hC dX9_lot_12 (j := 0) rfl rfl ?_
    refine g_callV_iV hC hR ⟨Nat.zero_le _, Nat.zero_le _⟩ mwX9_goesByLot miX9_goesByLot (ci := 9) rfl h_b (Nat.le_of_ble_eq_true rfl) mlX9_333 (fun _ hq => kX9_goesByLot hG h_b hq) (Nat.le_of_ble_eq_true rfl) rfl (st := []) rfl (Nat.le_of_ble_eq_true rfl) dX9_lot_13 (fun q2 => ?_)
    exact g_iret_iV hC hT dX9_lot_16
  · refine g_bipush hC dX9_lot_7 bc_m4 ?_
    refine g_goto hC dX9_lot_9 ?_
    exact g_iret_iV hC hT dX9_lot_16
def lX9_times_80 (n : Nat) (b : Nat) : Nat → V2 → Int32 → Option (V2 × Int32)
  | 0, _, _ => none
  | f13 + 1, U14, x15 =>
    (pX9_isOver U14 b).bind fun q16 =>
    if q16 = 0 then ((pX9_goesByLot n U14 b).bind fun q17 =>
    letv (x15 + q17.1) fun x18 =>
    lX9_times_80 n b f13 q17.2 x18)
    else (some (U14, x15))
def lX9_times_36 (n : Nat) (b : Nat) (a1 : Int32) (a2 : Int32) : Nat → V2 → Int32 → Int32 → Option (V2 × Int32)
  | 0, _, _, _ => none
  | f4 + 1, U5, x6, x7 =>
    if a1 ≤ x7 then (some (U5, x6))
    else ((ldI 572 (U5 (b + 1)) 4).bind fun t8 =>
    (pX9_laysBack n U5 b 0).bind fun q9 =>
    ((if x7 = 0 then ((ldI 572 (q9 (b + 1)) 4).bind fun t11 =>
    some t11)
    else (some t8) : Option (Int32))).bind fun j10 =>
    (stI 572 q9 (b + 1) 4 j10).bind fun U12 =>
    (lX9_times_80 n b n U12 0).bind fun w19 =>
    if w19.2 < a2 then (letv (x6 + 0) fun x20 =>
    letv (x7 + 1) fun x21 =>
    lX9_times_36 n b a1 a2 f4 w19.1 x20 x21)
    else (letv (x6 + 1) fun x22 =>
    letv (x7 + 1) fun x23 =>
    lX9_times_36 n b a1 a2 f4 w19.1 x22 x23))
def pX9_times (n : Nat) (V : V2) (b : Nat) (a1 : Int32) (a2 : Int32) : Option (Int32 × V2) :=
  (pX9_isIn a1.toInt64 1 40).bind fun q1 =>
  if q1 = 0 then (some ((-1), V))
  else ((pX9_isIn a2.toInt64 0 999).bind fun q2 =>
  if q2 = 0 then (some ((-1), V))
  else ((pX9_laysAside n V b 0).bind fun q3 =>
  (lX9_times_36 n b a1 a2 n q3 0 0).bind fun w24 =>
  (pX9_laysBack n w24.1 b 0).bind fun q25 =>
  some (w24.2, q25)))
set_option maxHeartbeats 4000000 in
set_option maxRecDepth 100000 in
theorem wX9_times_80 {C : Cx} (hC : CxOK C cX9_times RX9 (some .int)) (hL : C.2.2.2.2 = 7) {n : Nat} {G : G2} {R : R2} {b : Nat} {a1 : Int32} {a2 : Int32} {x6 : Int32} {x7 : Int32} (hG : GX G) (h_b : own G b 19) (hR : C.1.2.2.2.1 = rmN 6 0 0) {o : V2 × Int32} (hX : Go C 99 [(0, .ref b), (1, .int a1), (2, .int a2), (3, .int x6), (4, .int x7), (6, .int o.2)] [] o.1 R G 0 0) : ∀ (f : Nat) (U14 : V2) (x15 : Int32), lX9_times_80 n b f U14 x15 = some o → Go C 80 [(0, .ref b), (1, .int a1), (2, .int a2), (3, .int x6), (4, .int x7), (6, .int x15)] [] U14 R G 0 0 := by
  intro f
  induction f with
  | zero => intro _ _ hf; exact absurd hf (by unfold lX9_times_80; exact fun z => nomatch z)
  | succ f13 ih =>
    intro U14 x15
    unfold lX9_times_80
    refine g_aload_n hC dX9_times_80 (j := 0) rfl rfl ?_
    refine g_callV_i hC hR ⟨Nat.zero_le _, Nat.zero_le _⟩ mwX9_isOver miX9_isOver (ci := 9) rfl h_b (Nat.le_of_ble_eq_true rfl) mlX9_141 (fun _ hq => kX9_isOver hG h_b hq) (Nat.le_of_ble_eq_true rfl) rfl (st := []) rfl (Nat.le_of_ble_eq_true rfl) dX9_times_81 (fun q16 => ?_)
    refine g_if_ne hC dX9_times_84 ?_ ?_
    · refine g_iload hC dX9_times_87 (j := 5) rfl ?_
      refine g_aload_n hC dX9_times_89 (j := 0) rfl rfl ?_
      refine g_callV_iV hC hR ⟨Nat.zero_le _, Nat.zero_le _⟩ mwX9_goesByLot miX9_goesByLot (ci := 9) rfl h_b (Nat.le_of_ble_eq_true rfl) mlX9_333 (fun _ hq => kX9_goesByLot hG h_b hq) (Nat.le_of_ble_eq_true rfl) rfl (st := [.int x15]) rfl (Nat.le_of_ble_eq_true rfl) dX9_times_90 (fun q17 => ?_)
      refine g_iadd hC dX9_times_93 ?_
      refine g_istoreL hC (n0 := 7) (lv' := fun x18 => [(6, .int x18), (0, .ref b), (1, .int a1), (2, .int a2), (3, .int x6), (4, .int x7)]) dX9_times_94 (Nat.le_of_ble_eq_true rfl) hL (fun _ => rfl) (fun x18 => ?_)
      refine g_goto hC dX9_times_96 ?_
      refine g_sub [1, 2, 3, 4, 5, 0] rfl ?_
      exact ih q17.2 x18
    · exact fun e => by cases e; exact hX
set_option maxHeartbeats 4000000 in
set_option maxRecDepth 100000 in
theorem wX9_times_36 {C : Cx} (hC : CxOK C cX9_times RX9 (some .int)) (hL : C.2.2.2.2 = 7) {n : Nat} {G : G2} {R : R2} {b : Nat} {a1 : Int32} {a2 : Int32} (hG : GX G) (h_b : own G b 19) (hR : C.1.2.2.2.1 = rmN 6 0 0) {o : V2 × Int32} (hX : Go C 119 [(0, .ref b), (3, .int o.2)] [] o.1 R G 0 0) : ∀ (f : Nat) (U5 : V2) (x6 : Int32) (x7 : Int32), lX9_times_36 n b a1 a2 f U5 x6 x7 = some o → Go C 36 [(0, .ref b), (1, .int a1), (2, .int a2), (3, .int x6), (4, .int x7)] [] U5 R G 0 0 := by
  intro f
  induction f with
  | zero => intro _ _ _ hf; exact absurd hf (by unfold lX9_times_36; exact fun z => nomatch z)
  | succ f4 ih =>
    intro U5 x6 x7
    unfold lX9_times_36
    refine g_iload hC dX9_times_36 (j := 4) rfl ?_
    refine g_iload_n hC dX9_times_38 (j := 1) rfl rfl ?_
    refine g_icmp_ge hC dX9_times_39 ?_ ?_
    · refine g_sub [0, 3] rfl ?_
      exact fun e => by cases e; exact hX
    · refine g_aload_n hC dX9_times_42 (j := 0) rfl rfl ?_
      refine g_getR hC fr_9_0 h_b (b := b + 1) rfl dX9_times_43 flX9_7 ?_
      refine g_iconst hC dX9_times_46 ic_4 ?_
      refine g_ialdV hC (gx_9_0 hG h_b) (gl_9_0 hG h_b) dX9_times_47 (fun t8 => ?_)
      refine g_istore hC (n0 := 7) (lv' := [(5, .int t8), (0, .ref b), (1, .int a1), (2, .int a2), (3, .int x6), (4, .int x7)]) dX9_times_48 (Nat.le_of_ble_eq_true rfl) hL rfl ?_
      refine g_aload_n hC dX9_times_50 (j := 1) rfl rfl ?_
      refine g_iconst hC dX9_times_51 ic_0 ?_
      refine g_callV_vV hC hR ⟨Nat.zero_le _, Nat.zero_le _⟩ mwX9_laysBack miX9_laysBack (ci := 9) rfl h_b (Nat.le_of_ble_eq_true rfl) mlX9_262 (fun _ hq => kX9_laysBack hG h_b hq) (Nat.le_of_ble_eq_true rfl) rfl (st := []) rfl (Nat.le_of_ble_eq_true rfl) dX9_times_52 (fun q9 => ?_)
      refine g_aload_n hC dX9_times_55 (j := 1) rfl rfl ?_
      refine g_getR hC fr_9_0 h_b (b := b + 1) rfl dX9_times_56 flX9_7 ?_
      refine g_iconst hC dX9_times_59 ic_4 ?_
      refine g_iload hC dX9_times_60 (j := 5) rfl ?_
      refine g_bind (J := fun j10 => Go C 76 [(0, .ref b), (1, .int a1), (2, .int a2), (3, .int x6), (4, .int x7)] [.int j10, .int 4, .ref (b + 1)] q9 R G 0 0) (fun j10 hJ => ?_) (fun j10 => ?_)
      · refine g_if_ne hC dX9_times_62 ?_ ?_
        · refine g_aload_n hC dX9_times_65 (j := 1) rfl rfl ?_
          refine g_getR hC fr_9_0 h_b (b := b + 1) rfl dX9_times_66 flX9_7 ?_
          refine g_iconst hC dX9_times_69 ic_4 ?_
          refine g_ialdV hC (gx_9_0 hG h_b) (gl_9_0 hG h_b) dX9_times_70 (fun t11 => ?_)
          refine g_goto hC dX9_times_71 ?_
          refine g_sub [1, 2, 3, 4, 5] rfl ?_
          exact fun e => by cases e; exact hJ
        · refine g_iload hC dX9_times_74 (j := 0) rfl ?_
          refine g_sub [1, 2, 3, 4, 5] rfl ?_
          exact fun e => by cases e; exact hJ
      · refine g_iastV hC (gx_9_0 hG h_b) (gl_9_0 hG h_b) dX9_times_76 (fun U12 => ?_)
        refine g_iconst hC dX9_times_77 ic_0 ?_
        refine g_istore hC (n0 := 7) (lv' := [(6, .int 0), (0, .ref b), (1, .int a1), (2, .int a2), (3, .int x6), (4, .int x7)]) dX9_times_78 (Nat.le_of_ble_eq_true rfl) hL rfl ?_
        refine g_sub [1, 2, 3, 4, 5, 0] rfl ?_
        refine g_bind (J := fun w19 => Go C 99 [(0, .ref b), (1, .int a1), (2, .int a2), (3, .int x6), (4, .int x7), (6, .int w19.2)] [] w19.1 R G 0 0) (fun w19 hJ => wX9_times_80 hC hL hG h_b hR hJ n U12 0) (fun w19 => ?_)
        refine g_iload_n hC dX9_times_99 (j := 3) rfl rfl ?_
        refine g_iload hC dX9_times_100 (j := 5) rfl ?_
        refine g_iload_n hC dX9_times_102 (j := 2) rfl rfl ?_
        refine g_icmp_lt hC dX9_times_103 ?_ ?_
        · refine g_iconst hC dX9_times_110 ic_0 ?_
          refine g_iadd hC dX9_times_111 ?_
          refine g_istore_nL hC (n0 := 7) (lv' := fun x20 => [(3, .int x20), (0, .ref b), (1, .int a1), (2, .int a2), (4, .int x7), (6, .int w19.2)]) dX9_times_112 rfl (Nat.le_of_ble_eq_true rfl) hL (fun _ => rfl) (fun x20 => ?_)
          refine g_iincL hC (n0 := 7) (j := 4) (lv' := fun x21 => [(4, .int x21), (3, .int x20), (0, .ref b), (1, .int a1), (2, .int a2), (6, .int w19.2)]) dX9_times_113 rfl ic_1 (Nat.le_of_ble_eq_true rfl) hL (fun _ => rfl) (fun x21 => ?_)
          refine g_goto hC dX9_times_116 ?_
          refine g_sub [2, 3, 4, 1, 0] rfl ?_
          exact ih w19.1 x20 x21
        · refine g_iconst hC dX9_times_106 ic_1 ?_
          refine g_goto hC dX9_times_107 ?_
          refine g_iadd hC dX9_times_111 ?_
          refine g_istore_nL hC (n0 := 7) (lv' := fun x22 => [(3, .int x22), (0, .ref b), (1, .int a1), (2, .int a2), (4, .int x7), (6, .int w19.2)]) dX9_times_112 rfl (Nat.le_of_ble_eq_true rfl) hL (fun _ => rfl) (fun x22 => ?_)
          refine g_iincL hC (n0 := 7) (j := 4) (lv' := fun x23 => [(4, .int x23), (3, .int x22), (0, .ref b), (1, .int a1), (2, .int a2), (6, .int w19.2)]) dX9_times_113 rfl ic_1 (Nat.le_of_ble_eq_true rfl) hL (fun _ => rfl) (fun x23 => ?_)
          refine g_goto hC dX9_times_116 ?_
          refine g_sub [2, 3, 4, 1, 0] rfl ?_
          exact ih w19.1 x22 x23
set_option maxHeartbeats 4000000 in
set_option maxRecDepth 100000 in
theorem kX9_times {l : Launch} {D : Dx} {G : G2} {V : V2} {R : R2} {n : Nat} {b : Nat} {a1 : Int32} {a2 : Int32} (hG : GX G) (h_b : own G b 19) {o : Int32 × V2} (hf : pX9_times n V b a1 a2 = some o) : Con l yX9_times cX9_times 7 (some .int) (rmN 6 0 0) D G V R [.ref b, .int a1, .int a2] (some (.int o.1), o.2, R, G, 0, 0) := by
  refine Con.mk RX9 (by decide) rfl (Nat.le_of_ble_eq_true rfl) (fun C _ hR hT _ _ hL hC hnm => ?_)
  revert hf
  unfold pX9_times
  refine g_iload_n hC dX9_times_0 (j := 1) rfl rfl ?_
  refine g_i2l hC dX9_times_1 ?_
  refine g_lconst hC dX9_times_2 lc_1 ?_
  refine g_ldc2 hC dX9_times_3 clX9_336 ?_
  refine g_callS_i hC hR ⟨Nat.zero_le _, Nat.zero_le _⟩ mwX9_isIn ms_X9_isIn mlX9_63 (fun _ hq => kX9_isIn  hq) (Nat.le_of_ble_eq_true rfl) rfl (st := []) rfl (Nat.le_of_ble_eq_true rfl) dX9_times_6 (fun q1 => ?_)
  refine g_if_eq hC dX9_times_9 ?_ ?_
  · refine g_iconst hC dX9_times_24 ic_m1 ?_
    exact g_iret_iV hC hT dX9_times_25
  · refine g_iload_n hC dX9_times_12 (j := 2) rfl rfl ?_
    refine g_i2l hC dX9_times_13 ?_
    refine g_lconst hC dX9_times_14 lc_0 ?_
    refine g_ldc2 hC dX9_times_15 clX9_338 ?_
    refine g_callS_i hC hR ⟨Nat.zero_le _, Nat.zero_le _⟩ mwX9_isIn ms_X9_isIn mlX9_63 (fun _ hq => kX9_isIn  hq) (Nat.le_of_ble_eq_true rfl) rfl (st := []) rfl (Nat.le_of_ble_eq_true rfl) dX9_times_18 (fun q2 => ?_)
    refine g_if_ne hC dX9_times_21 ?_ ?_
    · refine g_iconst hC dX9_times_24 ic_m1 ?_
      exact g_iret_iV hC hT dX9_times_25
    · refine g_aload_n hC dX9_times_26 (j := 0) rfl rfl ?_
      refine g_iconst hC dX9_times_27 ic_0 ?_
      refine g_callV_vV hC hR ⟨Nat.zero_le _, Nat.zero_le _⟩ mwX9_laysAside miX9_laysAside (ci := 9) rfl h_b (Nat.le_of_ble_eq_true rfl) mlX9_258 (fun _ hq => kX9_laysAside hG h_b hq) (Nat.le_of_ble_eq_true rfl) rfl (st := []) rfl (Nat.le_of_ble_eq_true rfl) dX9_times_28 (fun q3 => ?_)
      refine g_iconst hC dX9_times_31 ic_0 ?_
      refine g_istore_n hC (n0 := 7) (lv' := [(3, .int 0), (0, .ref b), (1, .int a1), (2, .int a2)]) dX9_times_32 rfl (Nat.le_of_ble_eq_true rfl) hL rfl ?_
      refine g_iconst hC dX9_times_33 ic_0 ?_
      refine g_istore hC (n0 := 7) (lv' := [(4, .int 0), (3, .int 0), (0, .ref b), (1, .int a1), (2, .int a2)]) dX9_times_34 (Nat.le_of_ble_eq_true rfl) hL rfl ?_
      refine g_sub [2, 3, 4, 1, 0] rfl ?_
      refine g_bind (J := fun w24 => Go C 119 [(0, .ref b), (3, .int w24.2)] [] w24.1 R G 0 0) (fun w24 hJ => wX9_times_36 hC hL hG h_b hR hJ n q3 0 0) (fun w24 => ?_)
      refine g_aload_n hC dX9_times_119 (j := 0) rfl rfl ?_
      refine g_iconst hC dX9_times_120 ic_0 ?_
      refine g_callV_vV hC hR ⟨Nat.zero_le _, Nat.zero_le _⟩ mwX9_laysBack miX9_laysBack (ci := 9) rfl h_b (Nat.le_of_ble_eq_true rfl) mlX9_262 (fun _ hq => kX9_laysBack hG h_b hq) (Nat.le_of_ble_eq_true rfl) rfl (st := []) rfl (Nat.le_of_ble_eq_true rfl) dX9_times_121 (fun q25 => ?_)
      refine g_iload_n hC dX9_times_124 (j := 1) rfl rfl ?_
      exact g_iret_iV hC hT dX9_times_125
def lX9_prove_22 (n : Nat) (b : Nat) : Nat → V2 → Int32 → Option (V2)
  | 0, _, _ => none
  | f4 + 1, U5, x6 =>
    if (U5 b 17) ≤ x6 then (some U5)
    else ((ldI 4 (U5 (b + 7)) x6).bind fun t7 =>
    (stI 12 U5 (b + 10) (3 * x6) t7).bind fun U8 =>
    (ldI 4 (U8 (b + 7)) x6).bind fun t9 =>
    (pX9_goesWith n U8 b t9).bind fun q10 =>
    (stI 12 q10.2 (b + 10) ((3 * x6) + 1) q10.1).bind fun U11 =>
    (pX9_flatOnes n U11 b).bind fun q12 =>
    (stI 12 U11 (b + 10) ((3 * x6) + 2) q12).bind fun U13 =>
    letv (x6 + 1) fun x14 =>
    lX9_prove_22 n b f4 U13 x14)
def pX9_prove (n : Nat) (V : V2) (b : Nat) (a1 : Int32) : Option (Int32 × V2) :=
  (pX9_isLong a1).bind fun q1 =>
  if q1 = 0 then (some ((-1), V))
  else ((pX9_findsPlans n V b a1 0).bind fun q2 =>
  (pX9_laysAside n q2 b 0).bind fun q3 =>
  (lX9_prove_22 n b n q3 0).bind fun w15 =>
  (pX9_laysBack n w15 b 0).bind fun q16 =>
  letv (up2 q16 b 27 (q16 b 17)) fun U17 =>
  some (U17 b 27, U17))
set_option maxHeartbeats 4000000 in
set_option maxRecDepth 100000 in
theorem wX9_prove_22 {C : Cx} (hC : CxOK C cX9_prove RX9 (some .int)) (hL : C.2.2.2.2 = 3) {n : Nat} {G : G2} {R : R2} {b : Nat} (hG : GX G) (h_b : own G b 19) (hR : C.1.2.2.2.1 = rmN 13 0 0) {o : V2} (hX : Go C 84 [(0, .ref b)] [] o R G 0 0) : ∀ (f : Nat) (U5 : V2) (x6 : Int32), lX9_prove_22 n b f U5 x6 = some o → Go C 22 [(0, .ref b), (2, .int x6)] [] U5 R G 0 0 := by
  intro f
  induction f with
  | zero => intro _ _ hf; exact absurd hf (by unfold lX9_prove_22; exact fun z => nomatch z)
  | succ f4 ih =>
    intro U5 x6
    unfold lX9_prove_22
    refine g_iload_n hC dX9_prove_22 (j := 1) rfl rfl ?_
    refine g_aload_n hC dX9_prove_23 (j := 0) rfl rfl ?_
    refine g_getI hC fi_9_17 h_b dX9_prove_24 flX9_283 ?_
    refine g_icmp_ge hC dX9_prove_27 ?_ ?_
    · refine g_sub [0] rfl ?_
      exact fun e => by cases e; exact hX
    · refine g_aload_n hC dX9_prove_30 (j := 0) rfl rfl ?_
      refine g_getR hC fr_9_26 h_b (b := b + 10) rfl dX9_prove_31 flX9_37 ?_
      refine g_iconst hC dX9_prove_34 ic_3 ?_
      refine g_iload_n hC dX9_prove_35 (j := 1) rfl rfl ?_
      refine g_imul hC dX9_prove_36 ?_
      refine g_aload_n hC dX9_prove_37 (j := 0) rfl rfl ?_
      refine g_getR hC fr_9_14 h_b (b := b + 7) rfl dX9_prove_38 flX9_28 ?_
      refine g_iload_n hC dX9_prove_41 (j := 1) rfl rfl ?_
      refine g_ialdV hC (gx_9_14 hG h_b) (gl_9_14 hG h_b) dX9_prove_42 (fun t7 => ?_)
      refine g_iastV hC (gx_9_26 hG h_b) (gl_9_26 hG h_b) dX9_prove_43 (fun U8 => ?_)
      refine g_aload_n hC dX9_prove_44 (j := 0) rfl rfl ?_
      refine g_getR hC fr_9_26 h_b (b := b + 10) rfl dX9_prove_45 flX9_37 ?_
      refine g_iconst hC dX9_prove_48 ic_3 ?_
      refine g_iload_n hC dX9_prove_49 (j := 1) rfl rfl ?_
      refine g_imul hC dX9_prove_50 ?_
      refine g_iconst hC dX9_prove_51 ic_1 ?_
      refine g_iadd hC dX9_prove_52 ?_
      refine g_aload_n hC dX9_prove_53 (j := 0) rfl rfl ?_
      refine g_aload_n hC dX9_prove_54 (j := 0) rfl rfl ?_
      refine g_getR hC fr_9_14 h_b (b := b + 7) rfl dX9_prove_55 flX9_28 ?_
      refine g_iload_n hC dX9_prove_58 (j := 1) rfl rfl ?_
      refine g_ialdV hC (gx_9_14 hG h_b) (gl_9_14 hG h_b) dX9_prove_59 (fun t9 => ?_)
      refine g_callV_iV hC hR ⟨Nat.zero_le _, Nat.zero_le _⟩ mwX9_goesWith miX9_goesWith (ci := 9) rfl h_b (Nat.le_of_ble_eq_true rfl) mlX9_255 (fun _ hq => kX9_goesWith hG h_b hq) (Nat.le_of_ble_eq_true rfl) rfl (st := [.int ((3 * x6) + 1), .ref (b + 10)]) rfl (Nat.le_of_ble_eq_true rfl) dX9_prove_60 (fun q10 => ?_)
      refine g_iastV hC (gx_9_26 hG h_b) (gl_9_26 hG h_b) dX9_prove_63 (fun U11 => ?_)
      refine g_aload_n hC dX9_prove_64 (j := 0) rfl rfl ?_
      refine g_getR hC fr_9_26 h_b (b := b + 10) rfl dX9_prove_65 flX9_37 ?_
      refine g_iconst hC dX9_prove_68 ic_3 ?_
      refine g_iload_n hC dX9_prove_69 (j := 1) rfl rfl ?_
      refine g_imul hC dX9_prove_70 ?_
      refine g_iconst hC dX9_prove_71 ic_2 ?_
      refine g_iadd hC dX9_prove_72 ?_
      refine g_aload_n hC dX9_prove_73 (j := 0) rfl rfl ?_
      refine g_callV_i hC hR ⟨Nat.zero_le _, Nat.zero_le _⟩ mwX9_flatOnes miX9_flatOnes (ci := 9) rfl h_b (Nat.le_of_ble_eq_true rfl) mlX9_145 (fun _ hq => kX9_flatOnes hG h_b hq) (Nat.le_of_ble_eq_true rfl) rfl (st := [.int ((3 * x6) + 2), .ref (b + 10)]) rfl (Nat.le_of_ble_eq_true rfl) dX9_prove_74 (fun q12 => ?_)
      refine g_iastV hC (gx_9_26 hG h_b) (gl_9_26 hG h_b) dX9_prove_77 (fun U13 => ?_)
      refine g_iincL hC (n0 := 3) (j := 1) (lv' := fun x14 => [(2, .int x14), (0, .ref b)]) dX9_prove_78 rfl ic_1 (Nat.le_of_ble_eq_true rfl) hL (fun _ => rfl) (fun x14 => ?_)
      refine g_goto hC dX9_prove_81 ?_
      refine g_sub [1, 0] rfl ?_
      exact ih U13 x14
set_option maxHeartbeats 4000000 in
set_option maxRecDepth 100000 in
theorem kX9_prove {l : Launch} {D : Dx} {G : G2} {V : V2} {R : R2} {n : Nat} {b : Nat} {a1 : Int32} (hG : GX G) (h_b : own G b 19) {o : Int32 × V2} (hf : pX9_prove n V b a1 = some o) : Con l yX9_prove cX9_prove 3 (some .int) (rmN 13 0 0) D G V R [.ref b, .int a1] (some (.int o.1), o.2, R, G, 0, 0) := by
  refine Con.mk RX9 (by decide) rfl (Nat.le_of_ble_eq_true rfl) (fun C _ hR hT _ _ hL hC hnm => ?_)
  revert hf
  unfold pX9_prove
  refine g_iload_n hC dX9_prove_0 (j := 1) rfl rfl ?_
  refine g_callS_i hC hR ⟨Nat.zero_le _, Nat.zero_le _⟩ mwX9_isLong ms_X9_isLong mlX9_299 (fun _ hq => kX9_isLong  hq) (Nat.le_of_ble_eq_true rfl) rfl (st := []) rfl (Nat.le_of_ble_eq_true rfl) dX9_prove_1 (fun q1 => ?_)
  refine g_if_ne hC dX9_prove_4 ?_ ?_
  · refine g_iconst hC dX9_prove_7 ic_m1 ?_
    exact g_iret_iV hC hT dX9_prove_8
  · refine g_aload_n hC dX9_prove_9 (j := 0) rfl rfl ?_
    refine g_iload_n hC dX9_prove_10 (j := 1) rfl rfl ?_
    refine g_iconst hC dX9_prove_11 ic_0 ?_
    refine g_callV_vV hC hR ⟨Nat.zero_le _, Nat.zero_le _⟩ mwX9_findsPlans miX9_findsPlans (ci := 9) rfl h_b (Nat.le_of_ble_eq_true rfl) mlX9_302 (fun _ hq => kX9_findsPlans hG h_b hq) (Nat.le_of_ble_eq_true rfl) rfl (st := []) rfl (Nat.le_of_ble_eq_true rfl) dX9_prove_12 (fun q2 => ?_)
    refine g_aload_n hC dX9_prove_15 (j := 0) rfl rfl ?_
    refine g_iconst hC dX9_prove_16 ic_0 ?_
    refine g_callV_vV hC hR ⟨Nat.zero_le _, Nat.zero_le _⟩ mwX9_laysAside miX9_laysAside (ci := 9) rfl h_b (Nat.le_of_ble_eq_true rfl) mlX9_258 (fun _ hq => kX9_laysAside hG h_b hq) (Nat.le_of_ble_eq_true rfl) rfl (st := []) rfl (Nat.le_of_ble_eq_true rfl) dX9_prove_17 (fun q3 => ?_)
    refine g_iconst hC dX9_prove_20 ic_0 ?_
    refine g_istore_n hC (n0 := 3) (lv' := [(2, .int 0), (0, .ref b), (1, .int a1)]) dX9_prove_21 rfl (Nat.le_of_ble_eq_true rfl) hL rfl ?_
    refine g_sub [1, 0] rfl ?_
    refine g_bind (J := fun w15 => Go C 84 [(0, .ref b)] [] w15 R G 0 0) (fun w15 hJ => wX9_prove_22 hC hL hG h_b hR hJ n q3 0) (fun w15 => ?_)
    refine g_aload_n hC dX9_prove_84 (j := 0) rfl rfl ?_
    refine g_iconst hC dX9_prove_85 ic_0 ?_
    refine g_callV_vV hC hR ⟨Nat.zero_le _, Nat.zero_le _⟩ mwX9_laysBack miX9_laysBack (ci := 9) rfl h_b (Nat.le_of_ble_eq_true rfl) mlX9_262 (fun _ hq => kX9_laysBack hG h_b hq) (Nat.le_of_ble_eq_true rfl) rfl (st := []) rfl (Nat.le_of_ble_eq_true rfl) dX9_prove_86 (fun q16 => ?_)
    refine g_aload_n hC dX9_prove_89 (j := 0) rfl rfl ?_
    refine g_aload_n hC dX9_prove_90 (j := 0) rfl rfl ?_
    refine g_getI hC fi_9_17 h_b dX9_prove_91 flX9_283 ?_
    refine g_putIL hC fp_9_27 h_b dX9_prove_94 flX9_340 (fun U17 => ?_)
    refine g_aload_n hC dX9_prove_97 (j := 0) rfl rfl ?_
    refine g_getI hC fi_9_27 h_b dX9_prove_98 flX9_340 ?_
    exact g_iret_iV hC hT dX9_prove_101
def pX9_isRow (V : V2) (b : Nat) (a1 : Int32) (a2 : Int32) : Option (Int32) :=
  (pX9_isIn a1.toInt64 0 (((V b 27) - 1).toInt64)).bind fun q1 =>
  if q1 = 0 then (some 0)
  else ((pX9_isIn a2.toInt64 0 2).bind fun q2 =>
  if q2 = 0 then (some 0)
  else (some 1))
set_option maxHeartbeats 4000000 in
set_option maxRecDepth 100000 in
theorem kX9_isRow {l : Launch} {D : Dx} {G : G2} {V : V2} {R : R2} {b : Nat} {a1 : Int32} {a2 : Int32} (hG : GX G) (h_b : own G b 19) {o : Int32} (hf : pX9_isRow V b a1 a2 = some o) : Con l yX9_isRow cX9_isRow 3 (some .boolean) (rmN 1 0 0) D G V R [.ref b, .int a1, .int a2] (some (.int o), V, R, G, 0, 0) := by
  refine Con.mk RX9 (by decide) rfl (Nat.le_of_ble_eq_true rfl) (fun C _ hR hT _ _ hL hC hnm => ?_)
  revert hf
  unfold pX9_isRow
  refine g_iload_n hC dX9_isRow_0 (j := 1) rfl rfl ?_
  refine g_i2l hC dX9_isRow_1 ?_
  refine g_lconst hC dX9_isRow_2 lc_0 ?_
  refine g_aload_n hC dX9_isRow_3 (j := 0) rfl rfl ?_
  refine g_getI hC fi_9_27 h_b dX9_isRow_4 flX9_340 ?_
  refine g_iconst hC dX9_isRow_7 ic_1 ?_
  refine g_isub hC dX9_isRow_8 ?_
  refine g_i2l hC dX9_isRow_9 ?_
  refine g_callS_i hC hR ⟨Nat.zero_le _, Nat.zero_le _⟩ mwX9_isIn ms_X9_isIn mlX9_63 (fun _ hq => kX9_isIn  hq) (Nat.le_of_ble_eq_true rfl) rfl (st := []) rfl (Nat.le_of_ble_eq_true rfl) dX9_isRow_10 (fun q1 => ?_)
  refine g_if_eq hC dX9_isRow_13 ?_ ?_
  · refine g_iconst hC dX9_isRow_32 ic_0 ?_
    exact g_zret_i hC rfl hT dX9_isRow_33
  · refine g_iload_n hC dX9_isRow_16 (j := 2) rfl rfl ?_
    refine g_i2l hC dX9_isRow_17 ?_
    refine g_lconst hC dX9_isRow_18 lc_0 ?_
    refine g_ldc2 hC dX9_isRow_19 clX9_103 ?_
    refine g_callS_i hC hR ⟨Nat.zero_le _, Nat.zero_le _⟩ mwX9_isIn ms_X9_isIn mlX9_63 (fun _ hq => kX9_isIn  hq) (Nat.le_of_ble_eq_true rfl) rfl (st := []) rfl (Nat.le_of_ble_eq_true rfl) dX9_isRow_22 (fun q2 => ?_)
    refine g_if_eq hC dX9_isRow_25 ?_ ?_
    · refine g_iconst hC dX9_isRow_32 ic_0 ?_
      exact g_zret_i hC rfl hT dX9_isRow_33
    · refine g_iconst hC dX9_isRow_28 ic_1 ?_
      refine g_goto hC dX9_isRow_29 ?_
      exact g_zret_i hC rfl hT dX9_isRow_33
def pX9_row (V : V2) (b : Nat) (a1 : Int32) (a2 : Int32) : Option (Int32) :=
  (pX9_isRow V b a1 a2).bind fun q1 =>
  if q1 = 0 then (some (-9))
  else ((ldI 12 (V (b + 10)) ((3 * a1) + a2)).bind fun t2 =>
  some t2)
set_option maxHeartbeats 4000000 in
set_option maxRecDepth 100000 in
theorem kX9_row {l : Launch} {D : Dx} {G : G2} {V : V2} {R : R2} {b : Nat} {a1 : Int32} {a2 : Int32} (hG : GX G) (h_b : own G b 19) {o : Int32} (hf : pX9_row V b a1 a2 = some o) : Con l yX9_row cX9_row 3 (some .int) (rmN 2 0 0) D G V R [.ref b, .int a1, .int a2] (some (.int o), V, R, G, 0, 0) := by
  refine Con.mk RX9 (by decide) rfl (Nat.le_of_ble_eq_true rfl) (fun C _ hR hT _ _ hL hC hnm => ?_)
  revert hf
  unfold pX9_row
  refine g_aload_n hC dX9_row_0 (j := 0) rfl rfl ?_
  refine g_iload_n hC dX9_row_1 (j := 1) rfl rfl ?_
  refine g_iload_n hC dX9_row_2 (j := 2) rfl rfl ?_
  refine g_callV_i hC hR ⟨Nat.zero_le _, Nat.zero_le _⟩ mwX9_isRow miX9_isRow (ci := 9) rfl h_b (Nat.le_of_ble_eq_true rfl) mlX9_343 (fun _ hq => kX9_isRow hG h_b hq) (Nat.le_of_ble_eq_true rfl) rfl (st := []) rfl (Nat.le_of_ble_eq_true rfl) dX9_row_3 (fun q1 => ?_)
  refine g_if_eq hC dX9_row_6 ?_ ?_
  · refine g_bipush hC dX9_row_22 bc_m9 ?_
    exact g_iret_i hC hT dX9_row_24
  · refine g_aload_n hC dX9_row_9 (j := 0) rfl rfl ?_
    refine g_getR hC fr_9_26 h_b (b := b + 10) rfl dX9_row_10 flX9_37 ?_
    refine g_iconst hC dX9_row_13 ic_3 ?_
    refine g_iload_n hC dX9_row_14 (j := 1) rfl rfl ?_
    refine g_imul hC dX9_row_15 ?_
    refine g_iload_n hC dX9_row_16 (j := 2) rfl rfl ?_
    refine g_iadd hC dX9_row_17 ?_
    refine g_ialdV hC (gx_9_26 hG h_b) (gl_9_26 hG h_b) dX9_row_18 (fun t2 => ?_)
    refine g_goto hC dX9_row_19 ?_
    exact g_iret_i hC hT dX9_row_24
def pX9_alterRow (V : V2) (b : Nat) (a1 : Int32) (a2 : Int32) (a3 : Int32) : Option (Int32 × V2) :=
  (pX9_isRow V b a1 a2).bind fun q1 =>
  if q1 = 0 then (some ((-9), V))
  else ((ldI 12 (V (b + 10)) ((3 * a1) + a2)).bind fun t2 =>
  (stI 12 V (b + 10) ((3 * a1) + a2) a3).bind fun U3 =>
  some (t2, U3))
set_option maxHeartbeats 4000000 in
set_option maxRecDepth 100000 in
theorem kX9_alterRow {l : Launch} {D : Dx} {G : G2} {V : V2} {R : R2} {b : Nat} {a1 : Int32} {a2 : Int32} {a3 : Int32} (hG : GX G) (h_b : own G b 19) {o : Int32 × V2} (hf : pX9_alterRow V b a1 a2 a3 = some o) : Con l yX9_alterRow cX9_alterRow 5 (some .int) (rmN 2 0 0) D G V R [.ref b, .int a1, .int a2, .int a3] (some (.int o.1), o.2, R, G, 0, 0) := by
  refine Con.mk RX9 (by decide) rfl (Nat.le_of_ble_eq_true rfl) (fun C _ hR hT _ _ hL hC hnm => ?_)
  revert hf
  unfold pX9_alterRow
  refine g_aload_n hC dX9_alterRow_0 (j := 0) rfl rfl ?_
  refine g_iload_n hC dX9_alterRow_1 (j := 1) rfl rfl ?_
  refine g_iload_n hC dX9_alterRow_2 (j := 2) rfl rfl ?_
  refine g_callV_i hC hR ⟨Nat.zero_le _, Nat.zero_le _⟩ mwX9_isRow miX9_isRow (ci := 9) rfl h_b (Nat.le_of_ble_eq_true rfl) mlX9_343 (fun _ hq => kX9_isRow hG h_b hq) (Nat.le_of_ble_eq_true rfl) rfl (st := []) rfl (Nat.le_of_ble_eq_true rfl) dX9_alterRow_3 (fun q1 => ?_)
  refine g_if_ne hC dX9_alterRow_6 ?_ ?_
  · refine g_bipush hC dX9_alterRow_9 bc_m9 ?_
    exact g_iret_iV hC hT dX9_alterRow_11
  · refine g_aload_n hC dX9_alterRow_12 (j := 0) rfl rfl ?_
    refine g_getR hC fr_9_26 h_b (b := b + 10) rfl dX9_alterRow_13 flX9_37 ?_
    refine g_iconst hC dX9_alterRow_16 ic_3 ?_
    refine g_iload_n hC dX9_alterRow_17 (j := 1) rfl rfl ?_
    refine g_imul hC dX9_alterRow_18 ?_
    refine g_iload_n hC dX9_alterRow_19 (j := 2) rfl rfl ?_
    refine g_iadd hC dX9_alterRow_20 ?_
    refine g_ialdV hC (gx_9_26 hG h_b) (gl_9_26 hG h_b) dX9_alterRow_21 (fun t2 => ?_)
    refine g_istore hC (n0 := 5) (lv' := [(4, .int t2), (0, .ref b), (1, .int a1), (2, .int a2), (3, .int a3)]) dX9_alterRow_22 (Nat.le_of_ble_eq_true rfl) hL rfl ?_
    refine g_aload_n hC dX9_alterRow_24 (j := 1) rfl rfl ?_
    refine g_getR hC fr_9_26 h_b (b := b + 10) rfl dX9_alterRow_25 flX9_37 ?_
    refine g_iconst hC dX9_alterRow_28 ic_3 ?_
    refine g_iload_n hC dX9_alterRow_29 (j := 2) rfl rfl ?_
    refine g_imul hC dX9_alterRow_30 ?_
    refine g_iload_n hC dX9_alterRow_31 (j := 3) rfl rfl ?_
    refine g_iadd hC dX9_alterRow_32 ?_
    refine g_iload_n hC dX9_alterRow_33 (j := 4) rfl rfl ?_
    refine g_iastV hC (gx_9_26 hG h_b) (gl_9_26 hG h_b) dX9_alterRow_34 (fun U3 => ?_)
    refine g_iload hC dX9_alterRow_35 (j := 0) rfl ?_
    exact g_iret_iV hC hT dX9_alterRow_37
def pX9_isAct (V : V2) (b : Nat) (a1 : Int32) : Option (Int32) :=
  (ldI 572 (V (b + 1)) 0).bind fun t1 =>
  (pX9_isIn a1.toInt64 0 t1.toInt64).bind fun q2 =>
  if isb q2 then some q2 else none
set_option maxHeartbeats 4000000 in
set_option maxRecDepth 100000 in
theorem kX9_isAct {l : Launch} {D : Dx} {G : G2} {V : V2} {R : R2} {b : Nat} {a1 : Int32} (hG : GX G) (h_b : own G b 19) {o : Int32} (hf : pX9_isAct V b a1 = some o) : Con l yX9_isAct cX9_isAct 2 (some .boolean) (rmN 1 0 0) D G V R [.ref b, .int a1] (some (.int o), V, R, G, 0, 0) := by
  refine Con.mk RX9 (by decide) rfl (Nat.le_of_ble_eq_true rfl) (fun C _ hR hT _ _ hL hC hnm => ?_)
  revert hf
  unfold pX9_isAct
  refine g_iload_n hC dX9_isAct_0 (j := 1) rfl rfl ?_
  refine g_i2l hC dX9_isAct_1 ?_
  refine g_lconst hC dX9_isAct_2 lc_0 ?_
  refine g_aload_n hC dX9_isAct_3 (j := 0) rfl rfl ?_
  refine g_getR hC fr_9_0 h_b (b := b + 1) rfl dX9_isAct_4 flX9_7 ?_
  refine g_iconst hC dX9_isAct_7 ic_0 ?_
  refine g_ialdV hC (gx_9_0 hG h_b) (gl_9_0 hG h_b) dX9_isAct_8 (fun t1 => ?_)
  refine g_i2l hC dX9_isAct_9 ?_
  refine g_callS_i hC hR ⟨Nat.zero_le _, Nat.zero_le _⟩ mwX9_isIn ms_X9_isIn mlX9_63 (fun _ hq => kX9_isIn  hq) (Nat.le_of_ble_eq_true rfl) rfl (st := []) rfl (Nat.le_of_ble_eq_true rfl) dX9_isAct_10 (fun q2 => ?_)
  refine g_guardb (fun hz3 => ?_)
  exact g_zret_i hC hz3 hT dX9_isAct_13
def lX9_judge_9 (n : Nat) (b : Nat) : Nat → V2 → Int32 → Int32 → Option (V2 × Int32 × Int32)
  | 0, _, _, _ => none
  | f2 + 1, U3, x4, x5 =>
    if (U3 b 27) ≤ x4 then (some (U3, x4, x5))
    else (if x5 = 0 then (some (U3, x4, x5))
    else ((ldI 12 (U3 (b + 10)) (3 * x4)).bind fun t6 =>
    (pX9_isAct U3 b t6).bind fun q7 =>
    if q7 = 0 then (letv (x4 + 1) fun x8 =>
    lX9_judge_9 n b f2 U3 x8 0)
    else ((pX9_isOver U3 b).bind fun q9 =>
    if q9 = 0 then ((ldI 12 (U3 (b + 10)) (3 * x4)).bind fun t10 =>
    (pX9_goesWith n U3 b t10).bind fun q11 =>
    (ldI 12 (q11.2 (b + 10)) ((3 * x4) + 1)).bind fun t12 =>
    if q11.1 = t12 then ((pX9_flatOnes n q11.2 b).bind fun q13 =>
    (ldI 12 (q11.2 (b + 10)) ((3 * x4) + 2)).bind fun t14 =>
    if q13 = t14 then (letv (x4 + 1) fun x15 =>
    lX9_judge_9 n b f2 q11.2 x15 1)
    else (letv (x4 + 1) fun x16 =>
    lX9_judge_9 n b f2 q11.2 x16 0))
    else (letv (x4 + 1) fun x17 =>
    lX9_judge_9 n b f2 q11.2 x17 0))
    else (letv (x4 + 1) fun x18 =>
    lX9_judge_9 n b f2 U3 x18 0))))
def pX9_judge (n : Nat) (V : V2) (b : Nat) : Option (Int32 × V2) :=
  (pX9_laysAside n V b 0).bind fun q1 =>
  (lX9_judge_9 n b n q1 0 1).bind fun w19 =>
  (pX9_laysBack n w19.1 b 0).bind fun q20 =>
  if w19.2.2 = 0 then (some (w19.2.1, q20))
  else (some (0, q20))
set_option maxHeartbeats 4000000 in
set_option maxRecDepth 100000 in
theorem wX9_judge_9 {C : Cx} (hC : CxOK C cX9_judge RX9 (some .int)) (hL : C.2.2.2.2 = 3) {n : Nat} {G : G2} {R : R2} {b : Nat} (hG : GX G) (h_b : own G b 19) (hR : C.1.2.2.2.1 = rmN 5 0 0) {o : V2 × Int32 × Int32} (hX : Go C 97 [(0, .ref b), (1, .int o.2.1), (2, .int o.2.2)] [] o.1 R G 0 0) : ∀ (f : Nat) (U3 : V2) (x4 : Int32) (x5 : Int32), lX9_judge_9 n b f U3 x4 x5 = some o → Go C 9 [(0, .ref b), (1, .int x4), (2, .int x5)] [] U3 R G 0 0 := by
  intro f
  induction f with
  | zero => intro _ _ _ hf; exact absurd hf (by unfold lX9_judge_9; exact fun z => nomatch z)
  | succ f2 ih =>
    intro U3 x4 x5
    unfold lX9_judge_9
    refine g_iload_n hC dX9_judge_9 (j := 1) rfl rfl ?_
    refine g_aload_n hC dX9_judge_10 (j := 0) rfl rfl ?_
    refine g_getI hC fi_9_27 h_b dX9_judge_11 flX9_340 ?_
    refine g_icmp_ge hC dX9_judge_14 ?_ ?_
    · exact fun e => by cases e; exact hX
    · refine g_iload_n hC dX9_judge_17 (j := 2) rfl rfl ?_
      refine g_if_eq hC dX9_judge_18 ?_ ?_
      · exact fun e => by cases e; exact hX
      · refine g_aload_n hC dX9_judge_21 (j := 0) rfl rfl ?_
        refine g_aload_n hC dX9_judge_22 (j := 0) rfl rfl ?_
        refine g_getR hC fr_9_26 h_b (b := b + 10) rfl dX9_judge_23 flX9_37 ?_
        refine g_iconst hC dX9_judge_26 ic_3 ?_
        refine g_iload_n hC dX9_judge_27 (j := 1) rfl rfl ?_
        refine g_imul hC dX9_judge_28 ?_
        refine g_ialdV hC (gx_9_26 hG h_b) (gl_9_26 hG h_b) dX9_judge_29 (fun t6 => ?_)
        refine g_callV_i hC hR ⟨Nat.zero_le _, Nat.zero_le _⟩ mwX9_isAct miX9_isAct (ci := 9) rfl h_b (Nat.le_of_ble_eq_true rfl) mlX9_346 (fun _ hq => kX9_isAct hG h_b hq) (Nat.le_of_ble_eq_true rfl) rfl (st := []) rfl (Nat.le_of_ble_eq_true rfl) dX9_judge_30 (fun q7 => ?_)
        refine g_if_eq hC dX9_judge_33 ?_ ?_
        · refine g_iconst hC dX9_judge_89 ic_0 ?_
          refine g_istore_n hC (n0 := 3) (lv' := [(2, .int 0), (0, .ref b), (1, .int x4)]) dX9_judge_90 rfl (Nat.le_of_ble_eq_true rfl) hL rfl ?_
          refine g_iincL hC (n0 := 3) (j := 2) (lv' := fun x8 => [(1, .int x8), (2, .int 0), (0, .ref b)]) dX9_judge_91 rfl ic_1 (Nat.le_of_ble_eq_true rfl) hL (fun _ => rfl) (fun x8 => ?_)
          refine g_goto hC dX9_judge_94 ?_
          refine g_sub [2, 0, 1] rfl ?_
          exact ih U3 x8 0
        · refine g_aload_n hC dX9_judge_36 (j := 0) rfl rfl ?_
          refine g_callV_i hC hR ⟨Nat.zero_le _, Nat.zero_le _⟩ mwX9_isOver miX9_isOver (ci := 9) rfl h_b (Nat.le_of_ble_eq_true rfl) mlX9_141 (fun _ hq => kX9_isOver hG h_b hq) (Nat.le_of_ble_eq_true rfl) rfl (st := []) rfl (Nat.le_of_ble_eq_true rfl) dX9_judge_37 (fun q9 => ?_)
          refine g_if_ne hC dX9_judge_40 ?_ ?_
          · refine g_aload_n hC dX9_judge_43 (j := 0) rfl rfl ?_
            refine g_aload_n hC dX9_judge_44 (j := 0) rfl rfl ?_
            refine g_getR hC fr_9_26 h_b (b := b + 10) rfl dX9_judge_45 flX9_37 ?_
            refine g_iconst hC dX9_judge_48 ic_3 ?_
            refine g_iload_n hC dX9_judge_49 (j := 1) rfl rfl ?_
            refine g_imul hC dX9_judge_50 ?_
            refine g_ialdV hC (gx_9_26 hG h_b) (gl_9_26 hG h_b) dX9_judge_51 (fun t10 => ?_)
            refine g_callV_iV hC hR ⟨Nat.zero_le _, Nat.zero_le _⟩ mwX9_goesWith miX9_goesWith (ci := 9) rfl h_b (Nat.le_of_ble_eq_true rfl) mlX9_255 (fun _ hq => kX9_goesWith hG h_b hq) (Nat.le_of_ble_eq_true rfl) rfl (st := []) rfl (Nat.le_of_ble_eq_true rfl) dX9_judge_52 (fun q11 => ?_)
            refine g_aload_n hC dX9_judge_55 (j := 0) rfl rfl ?_
            refine g_getR hC fr_9_26 h_b (b := b + 10) rfl dX9_judge_56 flX9_37 ?_
            refine g_iconst hC dX9_judge_59 ic_3 ?_
            refine g_iload_n hC dX9_judge_60 (j := 1) rfl rfl ?_
            refine g_imul hC dX9_judge_61 ?_
            refine g_iconst hC dX9_judge_62 ic_1 ?_
            refine g_iadd hC dX9_judge_63 ?_
            refine g_ialdV hC (gx_9_26 hG h_b) (gl_9_26 hG h_b) dX9_judge_64 (fun t12 => ?_)
            refine g_icmp_ne hC dX9_judge_65 ?_ ?_
            · refine g_aload_n hC dX9_judge_68 (j := 0) rfl rfl ?_
              refine g_callV_i hC hR ⟨Nat.zero_le _, Nat.zero_le _⟩ mwX9_flatOnes miX9_flatOnes (ci := 9) rfl h_b (Nat.le_of_ble_eq_true rfl) mlX9_145 (fun _ hq => kX9_flatOnes hG h_b hq) (Nat.le_of_ble_eq_true rfl) rfl (st := []) rfl (Nat.le_of_ble_eq_true rfl) dX9_judge_69 (fun q13 => ?_)
              refine g_aload_n hC dX9_judge_72 (j := 0) rfl rfl ?_
              refine g_getR hC fr_9_26 h_b (b := b + 10) rfl dX9_judge_73 flX9_37 ?_
              refine g_iconst hC dX9_judge_76 ic_3 ?_
              refine g_iload_n hC dX9_judge_77 (j := 1) rfl rfl ?_
              refine g_imul hC dX9_judge_78 ?_
              refine g_iconst hC dX9_judge_79 ic_2 ?_
              refine g_iadd hC dX9_judge_80 ?_
              refine g_ialdV hC (gx_9_26 hG h_b) (gl_9_26 hG h_b) dX9_judge_81 (fun t14 => ?_)
              refine g_icmp_ne hC dX9_judge_82 ?_ ?_
              · refine g_iconst hC dX9_judge_85 ic_1 ?_
                refine g_goto hC dX9_judge_86 ?_
                refine g_istore_n hC (n0 := 3) (lv' := [(2, .int 1), (0, .ref b), (1, .int x4)]) dX9_judge_90 rfl (Nat.le_of_ble_eq_true rfl) hL rfl ?_
                refine g_iincL hC (n0 := 3) (j := 2) (lv' := fun x15 => [(1, .int x15), (2, .int 1), (0, .ref b)]) dX9_judge_91 rfl ic_1 (Nat.le_of_ble_eq_true rfl) hL (fun _ => rfl) (fun x15 => ?_)
                refine g_goto hC dX9_judge_94 ?_
                refine g_sub [2, 0, 1] rfl ?_
                exact ih q11.2 x15 1
              · refine g_iconst hC dX9_judge_89 ic_0 ?_
                refine g_istore_n hC (n0 := 3) (lv' := [(2, .int 0), (0, .ref b), (1, .int x4)]) dX9_judge_90 rfl (Nat.le_of_ble_eq_true rfl) hL rfl ?_
                refine g_iincL hC (n0 := 3) (j := 2) (lv' := fun x16 => [(1, .int x16), (2, .int 0), (0, .ref b)]) dX9_judge_91 rfl ic_1 (Nat.le_of_ble_eq_true rfl) hL (fun _ => rfl) (fun x16 => ?_)
                refine g_goto hC dX9_judge_94 ?_
                refine g_sub [2, 0, 1] rfl ?_
                exact ih q11.2 x16 0
            · refine g_iconst hC dX9_judge_89 ic_0 ?_
              refine g_istore_n hC (n0 := 3) (lv' := [(2, .int 0), (0, .ref b), (1, .int x4)]) dX9_judge_90 rfl (Nat.le_of_ble_eq_true rfl) hL rfl ?_
              refine g_iincL hC (n0 := 3) (j := 2) (lv' := fun x17 => [(1, .int x17), (2, .int 0), (0, .ref b)]) dX9_judge_91 rfl ic_1 (Nat.le_of_ble_eq_true rfl) hL (fun _ => rfl) (fun x17 => ?_)
              refine g_goto hC dX9_judge_94 ?_
              refine g_sub [2, 0, 1] rfl ?_
              exact ih q11.2 x17 0
          · refine g_iconst hC dX9_judge_89 ic_0 ?_
            refine g_istore_n hC (n0 := 3) (lv' := [(2, .int 0), (0, .ref b), (1, .int x4)]) dX9_judge_90 rfl (Nat.le_of_ble_eq_true rfl) hL rfl ?_
            refine g_iincL hC (n0 := 3) (j := 2) (lv' := fun x18 => [(1, .int x18), (2, .int 0), (0, .ref b)]) dX9_judge_91 rfl ic_1 (Nat.le_of_ble_eq_true rfl) hL (fun _ => rfl) (fun x18 => ?_)
            refine g_goto hC dX9_judge_94 ?_
            refine g_sub [2, 0, 1] rfl ?_
            exact ih U3 x18 0
set_option maxHeartbeats 4000000 in
set_option maxRecDepth 100000 in
theorem kX9_judge {l : Launch} {D : Dx} {G : G2} {V : V2} {R : R2} {n : Nat} {b : Nat} (hG : GX G) (h_b : own G b 19) {o : Int32 × V2} (hf : pX9_judge n V b = some o) : Con l yX9_judge cX9_judge 3 (some .int) (rmN 5 0 0) D G V R [.ref b] (some (.int o.1), o.2, R, G, 0, 0) := by
  refine Con.mk RX9 (by decide) rfl (Nat.le_of_ble_eq_true rfl) (fun C _ hR hT _ _ hL hC hnm => ?_)
  revert hf
  unfold pX9_judge
  refine g_aload_n hC dX9_judge_0 (j := 0) rfl rfl ?_
  refine g_iconst hC dX9_judge_1 ic_0 ?_
  refine g_callV_vV hC hR ⟨Nat.zero_le _, Nat.zero_le _⟩ mwX9_laysAside miX9_laysAside (ci := 9) rfl h_b (Nat.le_of_ble_eq_true rfl) mlX9_258 (fun _ hq => kX9_laysAside hG h_b hq) (Nat.le_of_ble_eq_true rfl) rfl (st := []) rfl (Nat.le_of_ble_eq_true rfl) dX9_judge_2 (fun q1 => ?_)
  refine g_iconst hC dX9_judge_5 ic_0 ?_
  refine g_istore_n hC (n0 := 3) (lv' := [(1, .int 0), (0, .ref b)]) dX9_judge_6 rfl (Nat.le_of_ble_eq_true rfl) hL rfl ?_
  refine g_iconst hC dX9_judge_7 ic_1 ?_
  refine g_istore_n hC (n0 := 3) (lv' := [(2, .int 1), (1, .int 0), (0, .ref b)]) dX9_judge_8 rfl (Nat.le_of_ble_eq_true rfl) hL rfl ?_
  refine g_sub [2, 1, 0] rfl ?_
  refine g_bind (J := fun w19 => Go C 97 [(0, .ref b), (1, .int w19.2.1), (2, .int w19.2.2)] [] w19.1 R G 0 0) (fun w19 hJ => wX9_judge_9 hC hL hG h_b hR hJ n q1 0 1) (fun w19 => ?_)
  refine g_aload_n hC dX9_judge_97 (j := 0) rfl rfl ?_
  refine g_iconst hC dX9_judge_98 ic_0 ?_
  refine g_callV_vV hC hR ⟨Nat.zero_le _, Nat.zero_le _⟩ mwX9_laysBack miX9_laysBack (ci := 9) rfl h_b (Nat.le_of_ble_eq_true rfl) mlX9_262 (fun _ hq => kX9_laysBack hG h_b hq) (Nat.le_of_ble_eq_true rfl) rfl (st := []) rfl (Nat.le_of_ble_eq_true rfl) dX9_judge_99 (fun q20 => ?_)
  refine g_iload_n hC dX9_judge_102 (j := 2) rfl rfl ?_
  refine g_if_eq hC dX9_judge_103 ?_ ?_
  · refine g_iload_n hC dX9_judge_110 (j := 1) rfl rfl ?_
    exact g_iret_iV hC hT dX9_judge_111
  · refine g_iconst hC dX9_judge_106 ic_0 ?_
    refine g_goto hC dX9_judge_107 ?_
    exact g_iret_iV hC hT dX9_judge_111
def pX9_isSheet (a1 : Int32) : Option (Int32) :=
  (pX9_isIn a1.toInt64 0 3).bind fun q1 =>
  if isb q1 then some q1 else none
set_option maxHeartbeats 4000000 in
set_option maxRecDepth 100000 in
theorem kX9_isSheet {l : Launch} {D : Dx} {G : G2} {V : V2} {R : R2} {a1 : Int32}  {o : Int32} (hf : pX9_isSheet a1 = some o) : Con l yX9_isSheet cX9_isSheet 1 (some .boolean) (rmN 1 0 0) D G V R [.int a1] (some (.int o), V, R, G, 0, 0) := by
  refine Con.mk RX9 (by decide) rfl (Nat.le_of_ble_eq_true rfl) (fun C _ hR hT _ _ hL hC hnm => ?_)
  revert hf
  unfold pX9_isSheet
  refine g_iload_n hC dX9_isSheet_0 (j := 0) rfl rfl ?_
  refine g_i2l hC dX9_isSheet_1 ?_
  refine g_lconst hC dX9_isSheet_2 lc_0 ?_
  refine g_ldc2 hC dX9_isSheet_3 clX9_306 ?_
  refine g_callS_i hC hR ⟨Nat.zero_le _, Nat.zero_le _⟩ mwX9_isIn ms_X9_isIn mlX9_63 (fun _ hq => kX9_isIn  hq) (Nat.le_of_ble_eq_true rfl) rfl (st := []) rfl (Nat.le_of_ble_eq_true rfl) dX9_isSheet_6 (fun q1 => ?_)
  refine g_guardb (fun hz2 => ?_)
  exact g_zret_i hC hz2 hT dX9_isSheet_9
def pX9_isShelf (a1 : Int32) : Option (Int32) :=
  (pX9_isIn a1.toInt64 0 3).bind fun q1 =>
  if isb q1 then some q1 else none
set_option maxHeartbeats 4000000 in
set_option maxRecDepth 100000 in
theorem kX9_isShelf {l : Launch} {D : Dx} {G : G2} {V : V2} {R : R2} {a1 : Int32}  {o : Int32} (hf : pX9_isShelf a1 = some o) : Con l yX9_isShelf cX9_isShelf 1 (some .boolean) (rmN 1 0 0) D G V R [.int a1] (some (.int o), V, R, G, 0, 0) := by
  refine Con.mk RX9 (by decide) rfl (Nat.le_of_ble_eq_true rfl) (fun C _ hR hT _ _ hL hC hnm => ?_)
  revert hf
  unfold pX9_isShelf
  refine g_iload_n hC dX9_isShelf_0 (j := 0) rfl rfl ?_
  refine g_i2l hC dX9_isShelf_1 ?_
  refine g_lconst hC dX9_isShelf_2 lc_0 ?_
  refine g_ldc2 hC dX9_isShelf_3 clX9_306 ?_
  refine g_callS_i hC hR ⟨Nat.zero_le _, Nat.zero_le _⟩ mwX9_isIn ms_X9_isIn mlX9_63 (fun _ hq => kX9_isIn  hq) (Nat.le_of_ble_eq_true rfl) rfl (st := []) rfl (Nat.le_of_ble_eq_true rfl) dX9_isShelf_6 (fun q1 => ?_)
  refine g_guardb (fun hz2 => ?_)
  exact g_zret_i hC hz2 hT dX9_isShelf_9
def lX9_sheet_69 (b : Nat) (a1 : Int32) : Nat → V2 → Int32 → Option (V2)
  | 0, _, _ => none
  | f10 + 1, U11, x12 =>
    if (40 : Int32) ≤ x12 then (some U11)
    else ((stI 160 U11 (b + 13) ((40 * a1) + x12) 0).bind fun U13 =>
    letv (x12 + 1) fun x14 =>
    lX9_sheet_69 b a1 f10 U13 x14)
def pX9_sheet (n : Nat) (V : V2) (b : Nat) (a1 : Int32) (a2 : Int32) (a3 : Int32) : Option (Int32 × V2) :=
  (pX9_isSheet a1).bind fun q1 =>
  if q1 = 0 then (some ((-1), V))
  else ((pX9_isIn a2.toInt64 (-1) 4).bind fun q2 =>
  if q2 = 0 then (some ((-1), V))
  else (letv (fun (u4 : Unit) => (letv (fun (u6 : Unit) => ((stI 4 V (b + 11) a1 a2).bind fun U7 =>
  letv ((if 0 ≤ a2 then (a3)
  else (0) : Int32)) fun j8 =>
  (stI 4 U7 (b + 12) a1 j8).bind fun U9 =>
  (lX9_sheet_69 b a1 n U9 0).bind fun w15 =>
  some (1, w15))) fun j5 =>
  if a2 < 0 then (j5 ())
  else (if 0 ≤ a3 then (j5 ())
  else (some ((-14), V))))) fun j3 =>
  if a2 < 0 then (j3 ())
  else (if a3 ≤ (40 : Int32) then (j3 ())
  else (some ((-1), V)))))
set_option maxHeartbeats 4000000 in
set_option maxRecDepth 100000 in
theorem wX9_sheet_69 {C : Cx} (hC : CxOK C cX9_sheet RX9 (some .int)) (hL : C.2.2.2.2 = 5) {G : G2} {R : R2} {b : Nat} {a1 : Int32} (hG : GX G) (h_b : own G b 19) {o : V2} (hX : Go C 95 [] [] o R G 0 0) : ∀ (f : Nat) (U11 : V2) (x12 : Int32), lX9_sheet_69 b a1 f U11 x12 = some o → Go C 69 [(0, .ref b), (1, .int a1), (4, .int x12)] [] U11 R G 0 0 := by
  intro f
  induction f with
  | zero => intro _ _ hf; exact absurd hf (by unfold lX9_sheet_69; exact fun z => nomatch z)
  | succ f10 ih =>
    intro U11 x12
    unfold lX9_sheet_69
    refine g_iload hC dX9_sheet_69 (j := 2) rfl ?_
    refine g_bipush hC dX9_sheet_71 bc_40 ?_
    refine g_icmp_ge hC dX9_sheet_73 ?_ ?_
    · refine g_sub [] rfl ?_
      exact fun e => by cases e; exact hX
    · refine g_aload_n hC dX9_sheet_76 (j := 0) rfl rfl ?_
      refine g_getR hC fr_9_30 h_b (b := b + 13) rfl dX9_sheet_77 flX9_46 ?_
      refine g_bipush hC dX9_sheet_80 bc_40 ?_
      refine g_iload_n hC dX9_sheet_82 (j := 1) rfl rfl ?_
      refine g_imul hC dX9_sheet_83 ?_
      refine g_iload hC dX9_sheet_84 (j := 2) rfl ?_
      refine g_iadd hC dX9_sheet_86 ?_
      refine g_iconst hC dX9_sheet_87 ic_0 ?_
      refine g_iastV hC (gx_9_30 hG h_b) (gl_9_30 hG h_b) dX9_sheet_88 (fun U13 => ?_)
      refine g_iincL hC (n0 := 5) (j := 2) (lv' := fun x14 => [(4, .int x14), (0, .ref b), (1, .int a1)]) dX9_sheet_89 rfl ic_1 (Nat.le_of_ble_eq_true rfl) hL (fun _ => rfl) (fun x14 => ?_)
      refine g_goto hC dX9_sheet_92 ?_
      refine g_sub [1, 2, 0] rfl ?_
      exact ih U13 x14
set_option maxHeartbeats 4000000 in
set_option maxRecDepth 100000 in
theorem kX9_sheet {l : Launch} {D : Dx} {G : G2} {V : V2} {R : R2} {n : Nat} {b : Nat} {a1 : Int32} {a2 : Int32} {a3 : Int32} (hG : GX G) (h_b : own G b 19) {o : Int32 × V2} (hf : pX9_sheet n V b a1 a2 a3 = some o) : Con l yX9_sheet cX9_sheet 5 (some .int) (rmN 2 0 0) D G V R [.ref b, .int a1, .int a2, .int a3] (some (.int o.1), o.2, R, G, 0, 0) := by
  refine Con.mk RX9 (by decide) rfl (Nat.le_of_ble_eq_true rfl) (fun C _ hR hT _ _ hL hC hnm => ?_)
  revert hf
  unfold pX9_sheet
  refine g_iload_n hC dX9_sheet_0 (j := 1) rfl rfl ?_
  refine g_callS_i hC hR ⟨Nat.zero_le _, Nat.zero_le _⟩ mwX9_isSheet ms_X9_isSheet mlX9_349 (fun _ hq => kX9_isSheet  hq) (Nat.le_of_ble_eq_true rfl) rfl (st := []) rfl (Nat.le_of_ble_eq_true rfl) dX9_sheet_1 (fun q1 => ?_)
  refine g_if_eq hC dX9_sheet_4 ?_ ?_
  · refine g_iconst hC dX9_sheet_31 ic_m1 ?_
    exact g_iret_iV hC hT dX9_sheet_32
  · refine g_iload_n hC dX9_sheet_7 (j := 2) rfl rfl ?_
    refine g_i2l hC dX9_sheet_8 ?_
    refine g_ldc2 hC dX9_sheet_9 clX9_352 ?_
    refine g_ldc2 hC dX9_sheet_12 clX9_129 ?_
    refine g_callS_i hC hR ⟨Nat.zero_le _, Nat.zero_le _⟩ mwX9_isIn ms_X9_isIn mlX9_63 (fun _ hq => kX9_isIn  hq) (Nat.le_of_ble_eq_true rfl) rfl (st := []) rfl (Nat.le_of_ble_eq_true rfl) dX9_sheet_15 (fun q2 => ?_)
    refine g_if_eq hC dX9_sheet_18 ?_ ?_
    · refine g_iconst hC dX9_sheet_31 ic_m1 ?_
      exact g_iret_iV hC hT dX9_sheet_32
    · refine g_iload_n hC dX9_sheet_21 (j := 2) rfl rfl ?_
      refine g_jn (J := fun j3 => ∀ (u4 : Unit), j3 u4 = some o → Go C 33 [(0, .ref b), (1, .int a1), (2, .int a2), (3, .int a3)] [] V R G 0 0) (fun u4 => ?_) (fun j3 hJ => ?_)
      · refine g_iload_n hC dX9_sheet_33 (j := 2) rfl rfl ?_
        refine g_jn (J := fun j5 => ∀ (u6 : Unit), j5 u6 = some o → Go C 44 [(0, .ref b), (1, .int a1), (2, .int a2), (3, .int a3)] [] V R G 0 0) (fun u6 => ?_) (fun j5 hJ => ?_)
        · refine g_aload_n hC dX9_sheet_44 (j := 0) rfl rfl ?_
          refine g_getR hC fr_9_28 h_b (b := b + 11) rfl dX9_sheet_45 flX9_40 ?_
          refine g_iload_n hC dX9_sheet_48 (j := 1) rfl rfl ?_
          refine g_iload_n hC dX9_sheet_49 (j := 2) rfl rfl ?_
          refine g_iastV hC (gx_9_28 hG h_b) (gl_9_28 hG h_b) dX9_sheet_50 (fun U7 => ?_)
          refine g_aload_n hC dX9_sheet_51 (j := 0) rfl rfl ?_
          refine g_getR hC fr_9_29 h_b (b := b + 12) rfl dX9_sheet_52 flX9_43 ?_
          refine g_iload_n hC dX9_sheet_55 (j := 1) rfl rfl ?_
          refine g_iload_n hC dX9_sheet_56 (j := 2) rfl rfl ?_
          refine g_letJ (J := fun j8 => Go C 65 [(0, .ref b), (1, .int a1)] [.int j8, .int a1, .ref (b + 12)] U7 R G 0 0) (fun j8 hJ => ?_) (fun j8 => ?_)
          · refine g_if_ge hC dX9_sheet_57 ?_ ?_
            · refine g_iload_n hC dX9_sheet_64 (j := 3) rfl rfl ?_
              refine g_sub [0, 1] rfl ?_
              exact fun e => by cases e; exact hJ
            · refine g_iconst hC dX9_sheet_60 ic_0 ?_
              refine g_goto hC dX9_sheet_61 ?_
              refine g_sub [0, 1] rfl ?_
              exact fun e => by cases e; exact hJ
          · refine g_iastV hC (gx_9_29 hG h_b) (gl_9_29 hG h_b) dX9_sheet_65 (fun U9 => ?_)
            refine g_iconst hC dX9_sheet_66 ic_0 ?_
            refine g_istore hC (n0 := 5) (lv' := [(4, .int 0), (0, .ref b), (1, .int a1)]) dX9_sheet_67 (Nat.le_of_ble_eq_true rfl) hL rfl ?_
            refine g_sub [1, 2, 0] rfl ?_
            refine g_bind (J := fun w15 => Go C 95 [] [] w15 R G 0 0) (fun w15 hJ => wX9_sheet_69 hC hL hG h_b hJ n U9 0) (fun w15 => ?_)
            refine g_iconst hC dX9_sheet_95 ic_1 ?_
            exact g_iret_iV hC hT dX9_sheet_96
        · refine g_if_lt hC dX9_sheet_34 ?_ ?_
          · exact hJ ()
          · refine g_iload_n hC dX9_sheet_37 (j := 3) rfl rfl ?_
            refine g_if_ge hC dX9_sheet_38 ?_ ?_
            · exact hJ ()
            · refine g_bipush hC dX9_sheet_41 bc_m14 ?_
              exact g_iret_iV hC hT dX9_sheet_43
      · refine g_if_lt hC dX9_sheet_22 ?_ ?_
        · exact hJ ()
        · refine g_iload_n hC dX9_sheet_25 (j := 3) rfl rfl ?_
          refine g_bipush hC dX9_sheet_26 bc_40 ?_
          refine g_icmp_le hC dX9_sheet_28 ?_ ?_
          · exact hJ ()
          · refine g_iconst hC dX9_sheet_31 ic_m1 ?_
            exact g_iret_iV hC hT dX9_sheet_32
def pX9_write (V : V2) (b : Nat) (a1 : Int32) (a2 : Int32) (a3 : Int32) : Option (Int32 × V2) :=
  (pX9_isSheet a1).bind fun q1 =>
  if q1 = 0 then (some ((-1), V))
  else ((ldI 4 (V (b + 11)) a1).bind fun t2 =>
  if 0 ≤ t2 then ((ldI 4 (V (b + 12)) a1).bind fun t3 =>
  (pX9_isIn a2.toInt64 0 ((t3 - 1).toInt64)).bind fun q4 =>
  if q4 = 0 then (some ((-12), V))
  else ((ldI 4 (V (b + 11)) a1).bind fun t5 =>
  ((if t5 = 0 then (some a3.toInt8.toInt32)
  else ((ldI 4 (V (b + 11)) a1).bind fun t7 =>
  if t7 = (1 : Int32) then (some a3.toInt16.toInt32)
  else ((ldI 4 (V (b + 11)) a1).bind fun t8 =>
  if t8 = (4 : Int32) then (if a3 = 0 then (some 0)
  else (some 1))
  else (some a3))) : Option (Int32))).bind fun j6 =>
  (stI 160 V (b + 13) ((40 * a1) + a2) j6).bind fun U9 =>
  some (1, U9)))
  else (some ((-11), V)))
set_option maxHeartbeats 4000000 in
set_option maxRecDepth 100000 in
theorem kX9_write {l : Launch} {D : Dx} {G : G2} {V : V2} {R : R2} {b : Nat} {a1 : Int32} {a2 : Int32} {a3 : Int32} (hG : GX G) (h_b : own G b 19) {o : Int32 × V2} (hf : pX9_write V b a1 a2 a3 = some o) : Con l yX9_write cX9_write 4 (some .int) (rmN 2 0 0) D G V R [.ref b, .int a1, .int a2, .int a3] (some (.int o.1), o.2, R, G, 0, 0) := by
  refine Con.mk RX9 (by decide) rfl (Nat.le_of_ble_eq_true rfl) (fun C _ hR hT _ _ hL hC hnm => ?_)
  revert hf
  unfold pX9_write
  refine g_iload_n hC dX9_write_0 (j := 1) rfl rfl ?_
  refine g_callS_i hC hR ⟨Nat.zero_le _, Nat.zero_le _⟩ mwX9_isSheet ms_X9_isSheet mlX9_349 (fun _ hq => kX9_isSheet  hq) (Nat.le_of_ble_eq_true rfl) rfl (st := []) rfl (Nat.le_of_ble_eq_true rfl) dX9_write_1 (fun q1 => ?_)
  refine g_if_ne hC dX9_write_4 ?_ ?_
  · refine g_iconst hC dX9_write_7 ic_m1 ?_
    exact g_iret_iV hC hT dX9_write_8
  · refine g_aload_n hC dX9_write_9 (j := 0) rfl rfl ?_
    refine g_getR hC fr_9_28 h_b (b := b + 11) rfl dX9_write_10 flX9_40 ?_
    refine g_iload_n hC dX9_write_13 (j := 1) rfl rfl ?_
    refine g_ialdV hC (gx_9_28 hG h_b) (gl_9_28 hG h_b) dX9_write_14 (fun t2 => ?_)
    refine g_if_ge hC dX9_write_15 ?_ ?_
    · refine g_iload_n hC dX9_write_21 (j := 2) rfl rfl ?_
      refine g_i2l hC dX9_write_22 ?_
      refine g_lconst hC dX9_write_23 lc_0 ?_
      refine g_aload_n hC dX9_write_24 (j := 0) rfl rfl ?_
      refine g_getR hC fr_9_29 h_b (b := b + 12) rfl dX9_write_25 flX9_43 ?_
      refine g_iload_n hC dX9_write_28 (j := 1) rfl rfl ?_
      refine g_ialdV hC (gx_9_29 hG h_b) (gl_9_29 hG h_b) dX9_write_29 (fun t3 => ?_)
      refine g_iconst hC dX9_write_30 ic_1 ?_
      refine g_isub hC dX9_write_31 ?_
      refine g_i2l hC dX9_write_32 ?_
      refine g_callS_i hC hR ⟨Nat.zero_le _, Nat.zero_le _⟩ mwX9_isIn ms_X9_isIn mlX9_63 (fun _ hq => kX9_isIn  hq) (Nat.le_of_ble_eq_true rfl) rfl (st := []) rfl (Nat.le_of_ble_eq_true rfl) dX9_write_33 (fun q4 => ?_)
      refine g_if_ne hC dX9_write_36 ?_ ?_
      · refine g_bipush hC dX9_write_39 bc_m12 ?_
        exact g_iret_iV hC hT dX9_write_41
      · refine g_aload_n hC dX9_write_42 (j := 0) rfl rfl ?_
        refine g_getR hC fr_9_30 h_b (b := b + 13) rfl dX9_write_43 flX9_46 ?_
        refine g_bipush hC dX9_write_46 bc_40 ?_
        refine g_iload_n hC dX9_write_48 (j := 1) rfl rfl ?_
        refine g_imul hC dX9_write_49 ?_
        refine g_iload_n hC dX9_write_50 (j := 2) rfl rfl ?_
        refine g_iadd hC dX9_write_51 ?_
        refine g_aload_n hC dX9_write_52 (j := 0) rfl rfl ?_
        refine g_getR hC fr_9_28 h_b (b := b + 11) rfl dX9_write_53 flX9_40 ?_
        refine g_iload_n hC dX9_write_56 (j := 1) rfl rfl ?_
        refine g_ialdV hC (gx_9_28 hG h_b) (gl_9_28 hG h_b) dX9_write_57 (fun t5 => ?_)
        refine g_bind (J := fun j6 => Go C 104 [] [.int j6, .int ((40 * a1) + a2), .ref (b + 13)] V R G 0 0) (fun j6 hJ => ?_) (fun j6 => ?_)
        · refine g_if_ne hC dX9_write_58 ?_ ?_
          · refine g_iload_n hC dX9_write_61 (j := 3) rfl rfl ?_
            refine g_i2b hC dX9_write_62 ?_
            refine g_goto hC dX9_write_63 ?_
            refine g_sub [] rfl ?_
            exact fun e => by cases e; exact hJ
          · refine g_aload_n hC dX9_write_66 (j := 0) rfl rfl ?_
            refine g_getR hC fr_9_28 h_b (b := b + 11) rfl dX9_write_67 flX9_40 ?_
            refine g_iload_n hC dX9_write_70 (j := 1) rfl rfl ?_
            refine g_ialdV hC (gx_9_28 hG h_b) (gl_9_28 hG h_b) dX9_write_71 (fun t7 => ?_)
            refine g_iconst hC dX9_write_72 ic_1 ?_
            refine g_icmp_ne hC dX9_write_73 ?_ ?_
            · refine g_iload_n hC dX9_write_76 (j := 3) rfl rfl ?_
              refine g_i2s hC dX9_write_77 ?_
              refine g_goto hC dX9_write_78 ?_
              refine g_sub [] rfl ?_
              exact fun e => by cases e; exact hJ
            · refine g_aload_n hC dX9_write_81 (j := 0) rfl rfl ?_
              refine g_getR hC fr_9_28 h_b (b := b + 11) rfl dX9_write_82 flX9_40 ?_
              refine g_iload_n hC dX9_write_85 (j := 1) rfl rfl ?_
              refine g_ialdV hC (gx_9_28 hG h_b) (gl_9_28 hG h_b) dX9_write_86 (fun t8 => ?_)
              refine g_iconst hC dX9_write_87 ic_4 ?_
              refine g_icmp_ne hC dX9_write_88 ?_ ?_
              · refine g_iload_n hC dX9_write_91 (j := 3) rfl rfl ?_
                refine g_if_ne hC dX9_write_92 ?_ ?_
                · refine g_iconst hC dX9_write_95 ic_0 ?_
                  refine g_goto hC dX9_write_96 ?_
                  refine g_sub [] rfl ?_
                  exact fun e => by cases e; exact hJ
                · refine g_iconst hC dX9_write_99 ic_1 ?_
                  refine g_goto hC dX9_write_100 ?_
                  refine g_sub [] rfl ?_
                  exact fun e => by cases e; exact hJ
              · refine g_iload_n hC dX9_write_103 (j := 3) rfl rfl ?_
                refine g_sub [] rfl ?_
                exact fun e => by cases e; exact hJ
        · refine g_iastV hC (gx_9_30 hG h_b) (gl_9_30 hG h_b) dX9_write_104 (fun U9 => ?_)
          refine g_iconst hC dX9_write_105 ic_1 ?_
          exact g_iret_iV hC hT dX9_write_106
    · refine g_bipush hC dX9_write_18 bc_m11 ?_
      exact g_iret_iV hC hT dX9_write_20
def pX9_lacks (V : V2) (b : Nat) (a1 : Int32) (a2 : Int32) : Option (Int32) :=
  (ldI 4 (V (b + 11)) a1).bind fun t1 =>
  if 0 ≤ t1 then ((ldI 4 (V (b + 11)) a1).bind fun t2 =>
  if t2 = a2 then (some 0)
  else (some (-13)))
  else (some (-11))
set_option maxHeartbeats 4000000 in
set_option maxRecDepth 100000 in
theorem kX9_lacks {l : Launch} {D : Dx} {G : G2} {V : V2} {R : R2} {b : Nat} {a1 : Int32} {a2 : Int32} (hG : GX G) (h_b : own G b 19) {o : Int32} (hf : pX9_lacks V b a1 a2 = some o) : Con l yX9_lacks cX9_lacks 3 (some .int) (rmN 0 0 0) D G V R [.ref b, .int a1, .int a2] (some (.int o), V, R, G, 0, 0) := by
  refine Con.mk RX9 (by decide) rfl (Nat.le_of_ble_eq_true rfl) (fun C _ hR hT _ _ hL hC hnm => ?_)
  revert hf
  unfold pX9_lacks
  refine g_aload_n hC dX9_lacks_0 (j := 0) rfl rfl ?_
  refine g_getR hC fr_9_28 h_b (b := b + 11) rfl dX9_lacks_1 flX9_40 ?_
  refine g_iload_n hC dX9_lacks_4 (j := 1) rfl rfl ?_
  refine g_ialdV hC (gx_9_28 hG h_b) (gl_9_28 hG h_b) dX9_lacks_5 (fun t1 => ?_)
  refine g_if_ge hC dX9_lacks_6 ?_ ?_
  · refine g_aload_n hC dX9_lacks_14 (j := 0) rfl rfl ?_
    refine g_getR hC fr_9_28 h_b (b := b + 11) rfl dX9_lacks_15 flX9_40 ?_
    refine g_iload_n hC dX9_lacks_18 (j := 1) rfl rfl ?_
    refine g_ialdV hC (gx_9_28 hG h_b) (gl_9_28 hG h_b) dX9_lacks_19 (fun t2 => ?_)
    refine g_iload_n hC dX9_lacks_20 (j := 2) rfl rfl ?_
    refine g_icmp_eq hC dX9_lacks_21 ?_ ?_
    · refine g_iconst hC dX9_lacks_29 ic_0 ?_
      exact g_iret_i hC hT dX9_lacks_30
    · refine g_bipush hC dX9_lacks_24 bc_m13 ?_
      refine g_goto hC dX9_lacks_26 ?_
      exact g_iret_i hC hT dX9_lacks_30
  · refine g_bipush hC dX9_lacks_9 bc_m11 ?_
    refine g_goto hC dX9_lacks_11 ?_
    exact g_iret_i hC hT dX9_lacks_30
def pX9_item (V : V2) (b : Nat) (a1 : Int32) (a2 : Int32) (a3 : Int32) : Option (Int32) :=
  (pX9_isSheet a1).bind fun q1 =>
  if q1 = 0 then (some (-1))
  else ((pX9_isIn a2.toInt64 0 4).bind fun q2 =>
  if q2 = 0 then (some (-1))
  else ((pX9_lacks V b a1 a2).bind fun q3 =>
  if q3 = 0 then ((ldI 4 (V (b + 12)) a1).bind fun t4 =>
  (pX9_isIn a3.toInt64 0 ((t4 - 1).toInt64)).bind fun q5 =>
  if q5 = 0 then (some (-12))
  else ((ldI 160 (V (b + 13)) ((40 * a1) + a3)).bind fun t6 =>
  some t6))
  else ((pX9_lacks V b a1 a2).bind fun q7 =>
  some q7)))
set_option maxHeartbeats 4000000 in
set_option maxRecDepth 100000 in
theorem kX9_item {l : Launch} {D : Dx} {G : G2} {V : V2} {R : R2} {b : Nat} {a1 : Int32} {a2 : Int32} {a3 : Int32} (hG : GX G) (h_b : own G b 19) {o : Int32} (hf : pX9_item V b a1 a2 a3 = some o) : Con l yX9_item cX9_item 4 (some .int) (rmN 2 0 0) D G V R [.ref b, .int a1, .int a2, .int a3] (some (.int o), V, R, G, 0, 0) := by
  refine Con.mk RX9 (by decide) rfl (Nat.le_of_ble_eq_true rfl) (fun C _ hR hT _ _ hL hC hnm => ?_)
  revert hf
  unfold pX9_item
  refine g_iload_n hC dX9_item_0 (j := 1) rfl rfl ?_
  refine g_callS_i hC hR ⟨Nat.zero_le _, Nat.zero_le _⟩ mwX9_isSheet ms_X9_isSheet mlX9_349 (fun _ hq => kX9_isSheet  hq) (Nat.le_of_ble_eq_true rfl) rfl (st := []) rfl (Nat.le_of_ble_eq_true rfl) dX9_item_1 (fun q1 => ?_)
  refine g_if_eq hC dX9_item_4 ?_ ?_
  · refine g_iconst hC dX9_item_19 ic_m1 ?_
    exact g_iret_i hC hT dX9_item_20
  · refine g_iload_n hC dX9_item_7 (j := 2) rfl rfl ?_
    refine g_i2l hC dX9_item_8 ?_
    refine g_lconst hC dX9_item_9 lc_0 ?_
    refine g_ldc2 hC dX9_item_10 clX9_129 ?_
    refine g_callS_i hC hR ⟨Nat.zero_le _, Nat.zero_le _⟩ mwX9_isIn ms_X9_isIn mlX9_63 (fun _ hq => kX9_isIn  hq) (Nat.le_of_ble_eq_true rfl) rfl (st := []) rfl (Nat.le_of_ble_eq_true rfl) dX9_item_13 (fun q2 => ?_)
    refine g_if_ne hC dX9_item_16 ?_ ?_
    · refine g_iconst hC dX9_item_19 ic_m1 ?_
      exact g_iret_i hC hT dX9_item_20
    · refine g_aload_n hC dX9_item_21 (j := 0) rfl rfl ?_
      refine g_iload_n hC dX9_item_22 (j := 1) rfl rfl ?_
      refine g_iload_n hC dX9_item_23 (j := 2) rfl rfl ?_
      refine g_callV_i hC hR ⟨Nat.zero_le _, Nat.zero_le _⟩ mwX9_lacks miX9_lacks (ci := 9) rfl h_b (Nat.le_of_ble_eq_true rfl) mlX9_354 (fun _ hq => kX9_lacks hG h_b hq) (Nat.le_of_ble_eq_true rfl) rfl (st := []) rfl (Nat.le_of_ble_eq_true rfl) dX9_item_24 (fun q3 => ?_)
      refine g_if_eq hC dX9_item_27 ?_ ?_
      · refine g_iload_n hC dX9_item_37 (j := 3) rfl rfl ?_
        refine g_i2l hC dX9_item_38 ?_
        refine g_lconst hC dX9_item_39 lc_0 ?_
        refine g_aload_n hC dX9_item_40 (j := 0) rfl rfl ?_
        refine g_getR hC fr_9_29 h_b (b := b + 12) rfl dX9_item_41 flX9_43 ?_
        refine g_iload_n hC dX9_item_44 (j := 1) rfl rfl ?_
        refine g_ialdV hC (gx_9_29 hG h_b) (gl_9_29 hG h_b) dX9_item_45 (fun t4 => ?_)
        refine g_iconst hC dX9_item_46 ic_1 ?_
        refine g_isub hC dX9_item_47 ?_
        refine g_i2l hC dX9_item_48 ?_
        refine g_callS_i hC hR ⟨Nat.zero_le _, Nat.zero_le _⟩ mwX9_isIn ms_X9_isIn mlX9_63 (fun _ hq => kX9_isIn  hq) (Nat.le_of_ble_eq_true rfl) rfl (st := []) rfl (Nat.le_of_ble_eq_true rfl) dX9_item_49 (fun q5 => ?_)
        refine g_if_eq hC dX9_item_52 ?_ ?_
        · refine g_bipush hC dX9_item_69 bc_m12 ?_
          exact g_iret_i hC hT dX9_item_71
        · refine g_aload_n hC dX9_item_55 (j := 0) rfl rfl ?_
          refine g_getR hC fr_9_30 h_b (b := b + 13) rfl dX9_item_56 flX9_46 ?_
          refine g_bipush hC dX9_item_59 bc_40 ?_
          refine g_iload_n hC dX9_item_61 (j := 1) rfl rfl ?_
          refine g_imul hC dX9_item_62 ?_
          refine g_iload_n hC dX9_item_63 (j := 3) rfl rfl ?_
          refine g_iadd hC dX9_item_64 ?_
          refine g_ialdV hC (gx_9_30 hG h_b) (gl_9_30 hG h_b) dX9_item_65 (fun t6 => ?_)
          refine g_goto hC dX9_item_66 ?_
          exact g_iret_i hC hT dX9_item_71
      · refine g_aload_n hC dX9_item_30 (j := 0) rfl rfl ?_
        refine g_iload_n hC dX9_item_31 (j := 1) rfl rfl ?_
        refine g_iload_n hC dX9_item_32 (j := 2) rfl rfl ?_
        refine g_callV_i hC hR ⟨Nat.zero_le _, Nat.zero_le _⟩ mwX9_lacks miX9_lacks (ci := 9) rfl h_b (Nat.le_of_ble_eq_true rfl) mlX9_354 (fun _ hq => kX9_lacks hG h_b hq) (Nat.le_of_ble_eq_true rfl) rfl (st := []) rfl (Nat.le_of_ble_eq_true rfl) dX9_item_33 (fun q7 => ?_)
        exact g_iret_i hC hT dX9_item_36
def lX9_goAll_43 (n : Nat) (b : Nat) (a1 : Int32) (a2 : Int32) (a3 : Int32) : Nat → V2 → Int32 → Int32 → (V2 → Int32 → Option (Int32 × V2)) → Option (Int32 × V2)
  | 0, _, _, _, _ => none
  | f4 + 1, U5, x6, x7, K =>
    if a3 ≤ x7 then (K U5 x6)
    else ((ldI 4 (U5 (b + 12)) a1).bind fun t8 =>
    (pX9_isIn (a2.toInt64 + x7.toInt64) 0 (t8.toInt64 - 1)).bind fun q9 =>
    if q9 = 0 then (some ((-12), U5))
    else ((ldI 160 (U5 (b + 13)) (((40 * a1) + a2) + x7)).bind fun t10 =>
    (pX9_isAct U5 b t10).bind fun q11 =>
    if q11 = 0 then (letv (x6 + 0) fun x12 =>
    letv (x7 + 1) fun x13 =>
    lX9_goAll_43 n b a1 a2 a3 f4 U5 x12 x13 K)
    else ((pX9_isOver U5 b).bind fun q14 =>
    if q14 = 0 then ((pX9_goesWith n U5 b t10).bind fun q15 =>
    letv (x6 + q15.1) fun x16 =>
    letv (x7 + 1) fun x17 =>
    lX9_goAll_43 n b a1 a2 a3 f4 q15.2 x16 x17 K)
    else (letv (x6 + 0) fun x18 =>
    letv (x7 + 1) fun x19 =>
    lX9_goAll_43 n b a1 a2 a3 f4 U5 x18 x19 K))))
def pX9_goAll (n : Nat) (V : V2) (b : Nat) (a1 : Int32) (a2 : Int32) (a3 : Int32) : Option (Int32 × V2) :=
  (pX9_isSheet a1).bind fun q1 =>
  if q1 = 0 then (some ((-1), V))
  else ((pX9_isIn a3.toInt64 0 20).bind fun q2 =>
  if q2 = 0 then (some ((-1), V))
  else ((pX9_lacks V b a1 0).bind fun q3 =>
  if q3 = 0 then (lX9_goAll_43 n b a1 a2 a3 n V 0 0 (fun w20 w21 =>
  some (w21, w20)))
  else ((pX9_lacks V b a1 0).bind fun q22 =>
  some (q22, V))))
set_option maxHeartbeats 4000000 in
set_option maxRecDepth 100000 in
theorem wX9_goAll_43 {C : Cx} (hC : CxOK C cX9_goAll RX9 (some .int)) (hL : C.2.2.2.2 = 7) {n : Nat} {G : G2} {R : R2} {b : Nat} {a1 : Int32} {a2 : Int32} {a3 : Int32} (hG : GX G) (h_b : own G b 19) (hR : C.1.2.2.2.1 = rmN 5 0 0) {o : Int32 × V2} (hT : C.2.1 = (some (.int o.1), o.2, R, G, 0, 0)) {K : V2 → Int32 → Option (Int32 × V2)} (hX : ∀ (y1 : V2) (y2 : Int32), K y1 y2 = some o → Go C 127 [(4, .int y2)] [] y1 R G 0 0) : ∀ (f : Nat) (U5 : V2) (x6 : Int32) (x7 : Int32), lX9_goAll_43 n b a1 a2 a3 f U5 x6 x7 K = some o → Go C 43 [(0, .ref b), (1, .int a1), (2, .int a2), (3, .int a3), (4, .int x6), (5, .int x7)] [] U5 R G 0 0 := by
  intro f
  induction f with
  | zero => intro _ _ _ hf; exact absurd hf (by unfold lX9_goAll_43; exact fun z => nomatch z)
  | succ f4 ih =>
    intro U5 x6 x7
    unfold lX9_goAll_43
    refine g_iload hC dX9_goAll_43 (j := 5) rfl ?_
    refine g_iload_n hC dX9_goAll_45 (j := 3) rfl rfl ?_
    refine g_icmp_ge hC dX9_goAll_46 ?_ ?_
    · refine g_sub [4] rfl ?_
      exact hX U5 x6
    · refine g_iload_n hC dX9_goAll_49 (j := 2) rfl rfl ?_
      refine g_i2l hC dX9_goAll_50 ?_
      refine g_iload hC dX9_goAll_51 (j := 5) rfl ?_
      refine g_i2l hC dX9_goAll_53 ?_
      refine g_ladd hC dX9_goAll_54 ?_
      refine g_lconst hC dX9_goAll_55 lc_0 ?_
      refine g_aload_n hC dX9_goAll_56 (j := 0) rfl rfl ?_
      refine g_getR hC fr_9_29 h_b (b := b + 12) rfl dX9_goAll_57 flX9_43 ?_
      refine g_iload_n hC dX9_goAll_60 (j := 1) rfl rfl ?_
      refine g_ialdV hC (gx_9_29 hG h_b) (gl_9_29 hG h_b) dX9_goAll_61 (fun t8 => ?_)
      refine g_i2l hC dX9_goAll_62 ?_
      refine g_lconst hC dX9_goAll_63 lc_1 ?_
      refine g_lsub hC dX9_goAll_64 ?_
      refine g_callS_i hC hR ⟨Nat.zero_le _, Nat.zero_le _⟩ mwX9_isIn ms_X9_isIn mlX9_63 (fun _ hq => kX9_isIn  hq) (Nat.le_of_ble_eq_true rfl) rfl (st := []) rfl (Nat.le_of_ble_eq_true rfl) dX9_goAll_65 (fun q9 => ?_)
      refine g_if_ne hC dX9_goAll_68 ?_ ?_
      · refine g_bipush hC dX9_goAll_71 bc_m12 ?_
        exact g_iret_iV hC hT dX9_goAll_73
      · refine g_aload_n hC dX9_goAll_74 (j := 0) rfl rfl ?_
        refine g_getR hC fr_9_30 h_b (b := b + 13) rfl dX9_goAll_75 flX9_46 ?_
        refine g_bipush hC dX9_goAll_78 bc_40 ?_
        refine g_iload_n hC dX9_goAll_80 (j := 1) rfl rfl ?_
        refine g_imul hC dX9_goAll_81 ?_
        refine g_iload_n hC dX9_goAll_82 (j := 2) rfl rfl ?_
        refine g_iadd hC dX9_goAll_83 ?_
        refine g_iload hC dX9_goAll_84 (j := 5) rfl ?_
        refine g_iadd hC dX9_goAll_86 ?_
        refine g_ialdV hC (gx_9_30 hG h_b) (gl_9_30 hG h_b) dX9_goAll_87 (fun t10 => ?_)
        refine g_istore hC (n0 := 7) (lv' := [(6, .int t10), (0, .ref b), (1, .int a1), (2, .int a2), (3, .int a3), (4, .int x6), (5, .int x7)]) dX9_goAll_88 (Nat.le_of_ble_eq_true rfl) hL rfl ?_
        refine g_iload hC dX9_goAll_90 (j := 5) rfl ?_
        refine g_aload_n hC dX9_goAll_92 (j := 1) rfl rfl ?_
        refine g_iload hC dX9_goAll_93 (j := 0) rfl ?_
        refine g_callV_i hC hR ⟨Nat.zero_le _, Nat.zero_le _⟩ mwX9_isAct miX9_isAct (ci := 9) rfl h_b (Nat.le_of_ble_eq_true rfl) mlX9_346 (fun _ hq => kX9_isAct hG h_b hq) (Nat.le_of_ble_eq_true rfl) rfl (st := [.int x6]) rfl (Nat.le_of_ble_eq_true rfl) dX9_goAll_95 (fun q11 => ?_)
        refine g_if_eq hC dX9_goAll_98 ?_ ?_
        · refine g_iconst hC dX9_goAll_117 ic_0 ?_
          refine g_iadd hC dX9_goAll_118 ?_
          refine g_istoreL hC (n0 := 7) (lv' := fun x12 => [(4, .int x12), (6, .int t10), (0, .ref b), (1, .int a1), (2, .int a2), (3, .int a3), (5, .int x7)]) dX9_goAll_119 (Nat.le_of_ble_eq_true rfl) hL (fun _ => rfl) (fun x12 => ?_)
          refine g_iincL hC (n0 := 7) (j := 6) (lv' := fun x13 => [(5, .int x13), (4, .int x12), (6, .int t10), (0, .ref b), (1, .int a1), (2, .int a2), (3, .int a3)]) dX9_goAll_121 rfl ic_1 (Nat.le_of_ble_eq_true rfl) hL (fun _ => rfl) (fun x13 => ?_)
          refine g_goto hC dX9_goAll_124 ?_
          refine g_sub [3, 4, 5, 6, 1, 0] rfl ?_
          exact ih U5 x12 x13
        · refine g_aload_n hC dX9_goAll_101 (j := 1) rfl rfl ?_
          refine g_callV_i hC hR ⟨Nat.zero_le _, Nat.zero_le _⟩ mwX9_isOver miX9_isOver (ci := 9) rfl h_b (Nat.le_of_ble_eq_true rfl) mlX9_141 (fun _ hq => kX9_isOver hG h_b hq) (Nat.le_of_ble_eq_true rfl) rfl (st := [.int x6]) rfl (Nat.le_of_ble_eq_true rfl) dX9_goAll_102 (fun q14 => ?_)
          refine g_if_ne hC dX9_goAll_105 ?_ ?_
          · refine g_aload_n hC dX9_goAll_108 (j := 1) rfl rfl ?_
            refine g_iload hC dX9_goAll_109 (j := 0) rfl ?_
            refine g_callV_iV hC hR ⟨Nat.zero_le _, Nat.zero_le _⟩ mwX9_goesWith miX9_goesWith (ci := 9) rfl h_b (Nat.le_of_ble_eq_true rfl) mlX9_255 (fun _ hq => kX9_goesWith hG h_b hq) (Nat.le_of_ble_eq_true rfl) rfl (st := [.int x6]) rfl (Nat.le_of_ble_eq_true rfl) dX9_goAll_111 (fun q15 => ?_)
            refine g_goto hC dX9_goAll_114 ?_
            refine g_iadd hC dX9_goAll_118 ?_
            refine g_istoreL hC (n0 := 7) (lv' := fun x16 => [(4, .int x16), (6, .int t10), (0, .ref b), (1, .int a1), (2, .int a2), (3, .int a3), (5, .int x7)]) dX9_goAll_119 (Nat.le_of_ble_eq_true rfl) hL (fun _ => rfl) (fun x16 => ?_)
            refine g_iincL hC (n0 := 7) (j := 6) (lv' := fun x17 => [(5, .int x17), (4, .int x16), (6, .int t10), (0, .ref b), (1, .int a1), (2, .int a2), (3, .int a3)]) dX9_goAll_121 rfl ic_1 (Nat.le_of_ble_eq_true rfl) hL (fun _ => rfl) (fun x17 => ?_)
            refine g_goto hC dX9_goAll_124 ?_
            refine g_sub [3, 4, 5, 6, 1, 0] rfl ?_
            exact ih q15.2 x16 x17
          · refine g_iconst hC dX9_goAll_117 ic_0 ?_
            refine g_iadd hC dX9_goAll_118 ?_
            refine g_istoreL hC (n0 := 7) (lv' := fun x18 => [(4, .int x18), (6, .int t10), (0, .ref b), (1, .int a1), (2, .int a2), (3, .int a3), (5, .int x7)]) dX9_goAll_119 (Nat.le_of_ble_eq_true rfl) hL (fun _ => rfl) (fun x18 => ?_)
            refine g_iincL hC (n0 := 7) (j := 6) (lv' := fun x19 => [(5, .int x19), (4, .int x18), (6, .int t10), (0, .ref b), (1, .int a1), (2, .int a2), (3, .int a3)]) dX9_goAll_121 rfl ic_1 (Nat.le_of_ble_eq_true rfl) hL (fun _ => rfl) (fun x19 => ?_)
            refine g_goto hC dX9_goAll_124 ?_
            refine g_sub [3, 4, 5, 6, 1, 0] rfl ?_
            exact ih U5 x18 x19
set_option maxHeartbeats 4000000 in
set_option maxRecDepth 100000 in
theorem kX9_goAll {l : Launch} {D : Dx} {G : G2} {V : V2} {R : R2} {n : Nat} {b : Nat} {a1 : Int32} {a2 : Int32} {a3 : Int32} (hG : GX G) (h_b : own G b 19) {o : Int32 × V2} (hf : pX9_goAll n V b a1 a2 a3 = some o) : Con l yX9_goAll cX9_goAll 7 (some .int) (rmN 5 0 0) D G V R [.ref b, .int a1, .int a2, .int a3] (some (.int o.1), o.2, R, G, 0, 0) := by
  refine Con.mk RX9 (by decide) rfl (Nat.le_of_ble_eq_true rfl) (fun C _ hR hT _ _ hL hC hnm => ?_)
  revert hf
  unfold pX9_goAll
  refine g_iload_n hC dX9_goAll_0 (j := 1) rfl rfl ?_
  refine g_callS_i hC hR ⟨Nat.zero_le _, Nat.zero_le _⟩ mwX9_isSheet ms_X9_isSheet mlX9_349 (fun _ hq => kX9_isSheet  hq) (Nat.le_of_ble_eq_true rfl) rfl (st := []) rfl (Nat.le_of_ble_eq_true rfl) dX9_goAll_1 (fun q1 => ?_)
  refine g_if_eq hC dX9_goAll_4 ?_ ?_
  · refine g_iconst hC dX9_goAll_19 ic_m1 ?_
    exact g_iret_iV hC hT dX9_goAll_20
  · refine g_iload_n hC dX9_goAll_7 (j := 3) rfl rfl ?_
    refine g_i2l hC dX9_goAll_8 ?_
    refine g_lconst hC dX9_goAll_9 lc_0 ?_
    refine g_ldc2 hC dX9_goAll_10 clX9_357 ?_
    refine g_callS_i hC hR ⟨Nat.zero_le _, Nat.zero_le _⟩ mwX9_isIn ms_X9_isIn mlX9_63 (fun _ hq => kX9_isIn  hq) (Nat.le_of_ble_eq_true rfl) rfl (st := []) rfl (Nat.le_of_ble_eq_true rfl) dX9_goAll_13 (fun q2 => ?_)
    refine g_if_ne hC dX9_goAll_16 ?_ ?_
    · refine g_iconst hC dX9_goAll_19 ic_m1 ?_
      exact g_iret_iV hC hT dX9_goAll_20
    · refine g_aload_n hC dX9_goAll_21 (j := 0) rfl rfl ?_
      refine g_iload_n hC dX9_goAll_22 (j := 1) rfl rfl ?_
      refine g_iconst hC dX9_goAll_23 ic_0 ?_
      refine g_callV_i hC hR ⟨Nat.zero_le _, Nat.zero_le _⟩ mwX9_lacks miX9_lacks (ci := 9) rfl h_b (Nat.le_of_ble_eq_true rfl) mlX9_354 (fun _ hq => kX9_lacks hG h_b hq) (Nat.le_of_ble_eq_true rfl) rfl (st := []) rfl (Nat.le_of_ble_eq_true rfl) dX9_goAll_24 (fun q3 => ?_)
      refine g_if_eq hC dX9_goAll_27 ?_ ?_
      · refine g_iconst hC dX9_goAll_37 ic_0 ?_
        refine g_istore hC (n0 := 7) (lv' := [(4, .int 0), (0, .ref b), (1, .int a1), (2, .int a2), (3, .int a3)]) dX9_goAll_38 (Nat.le_of_ble_eq_true rfl) hL rfl ?_
        refine g_iconst hC dX9_goAll_40 ic_0 ?_
        refine g_istore hC (n0 := 7) (lv' := [(5, .int 0), (4, .int 0), (0, .ref b), (1, .int a1), (2, .int a2), (3, .int a3)]) dX9_goAll_41 (Nat.le_of_ble_eq_true rfl) hL rfl ?_
        refine g_sub [2, 3, 4, 5, 1, 0] rfl ?_
        refine wX9_goAll_43 hC hL hG h_b hR hT (fun w20 w21 => ?_) n V 0 0
        refine g_iload hC dX9_goAll_127 (j := 0) rfl ?_
        exact g_iret_iV hC hT dX9_goAll_129
      · refine g_aload_n hC dX9_goAll_30 (j := 0) rfl rfl ?_
        refine g_iload_n hC dX9_goAll_31 (j := 1) rfl rfl ?_
        refine g_iconst hC dX9_goAll_32 ic_0 ?_
        refine g_callV_i hC hR ⟨Nat.zero_le _, Nat.zero_le _⟩ mwX9_lacks miX9_lacks (ci := 9) rfl h_b (Nat.le_of_ble_eq_true rfl) mlX9_354 (fun _ hq => kX9_lacks hG h_b hq) (Nat.le_of_ble_eq_true rfl) rfl (st := []) rfl (Nat.le_of_ble_eq_true rfl) dX9_goAll_33 (fun q22 => ?_)
        exact g_iret_iV hC hT dX9_goAll_36
def lX9_sumBy_6 (n : Nat) (b : Nat) (a1 : Int32) (a2 : Int32) (a3 : Int32) : Nat → V2 → Int32 → Int32 → (V2 → Int32 → Option (Int32 × V2)) → Option (Int32 × V2)
  | 0, _, _, _, _ => none
  | f1 + 1, U2, x3, x4, K =>
    if a3 ≤ x4 then (K U2 x3)
    else ((ldI 4 (U2 (b + 12)) a1).bind fun t5 =>
    (pX9_isIn (a2.toInt64 + x4.toInt64) 0 (t5.toInt64 - 1)).bind fun q6 =>
    if q6 = 0 then (some ((-12), U2))
    else ((ldI 160 (U2 (b + 13)) (((40 * a1) + a2) + x4)).bind fun t7 =>
    (pX9_isAct U2 b t7).bind fun q8 =>
    if q8 = 0 then (some ((-4), U2))
    else ((pX9_isOver U2 b).bind fun q9 =>
    if q9 = 0 then ((pX9_goesWith n U2 b t7).bind fun q10 =>
    letv (x3 + q10.1) fun x11 =>
    letv (x4 + 1) fun x12 =>
    lX9_sumBy_6 n b a1 a2 a3 f1 q10.2 x11 x12 K)
    else (some ((-4), U2)))))
def pX9_sumBy (n : Nat) (V : V2) (b : Nat) (a1 : Int32) (a2 : Int32) (a3 : Int32) : Option (Int32 × V2) :=
  lX9_sumBy_6 n b a1 a2 a3 n V 0 0 (fun w13 w14 =>
  some (w14, w13))
set_option maxHeartbeats 4000000 in
set_option maxRecDepth 100000 in
theorem wX9_sumBy_6 {C : Cx} (hC : CxOK C cX9_sumBy RX9 (some .int)) (hL : C.2.2.2.2 = 7) {n : Nat} {G : G2} {R : R2} {b : Nat} {a1 : Int32} {a2 : Int32} {a3 : Int32} (hG : GX G) (h_b : own G b 19) (hR : C.1.2.2.2.1 = rmN 5 0 0) {o : Int32 × V2} (hT : C.2.1 = (some (.int o.1), o.2, R, G, 0, 0)) {K : V2 → Int32 → Option (Int32 × V2)} (hX : ∀ (y1 : V2) (y2 : Int32), K y1 y2 = some o → Go C 89 [(4, .int y2)] [] y1 R G 0 0) : ∀ (f : Nat) (U2 : V2) (x3 : Int32) (x4 : Int32), lX9_sumBy_6 n b a1 a2 a3 f U2 x3 x4 K = some o → Go C 6 [(0, .ref b), (1, .int a1), (2, .int a2), (3, .int a3), (4, .int x3), (5, .int x4)] [] U2 R G 0 0 := by
  intro f
  induction f with
  | zero => intro _ _ _ hf; exact absurd hf (by unfold lX9_sumBy_6; exact fun z => nomatch z)
  | succ f1 ih =>
    intro U2 x3 x4
    unfold lX9_sumBy_6
    refine g_iload hC dX9_sumBy_6 (j := 5) rfl ?_
    refine g_iload_n hC dX9_sumBy_8 (j := 3) rfl rfl ?_
    refine g_icmp_ge hC dX9_sumBy_9 ?_ ?_
    · refine g_sub [4] rfl ?_
      exact hX U2 x3
    · refine g_iload_n hC dX9_sumBy_12 (j := 2) rfl rfl ?_
      refine g_i2l hC dX9_sumBy_13 ?_
      refine g_iload hC dX9_sumBy_14 (j := 5) rfl ?_
      refine g_i2l hC dX9_sumBy_16 ?_
      refine g_ladd hC dX9_sumBy_17 ?_
      refine g_lconst hC dX9_sumBy_18 lc_0 ?_
      refine g_aload_n hC dX9_sumBy_19 (j := 0) rfl rfl ?_
      refine g_getR hC fr_9_29 h_b (b := b + 12) rfl dX9_sumBy_20 flX9_43 ?_
      refine g_iload_n hC dX9_sumBy_23 (j := 1) rfl rfl ?_
      refine g_ialdV hC (gx_9_29 hG h_b) (gl_9_29 hG h_b) dX9_sumBy_24 (fun t5 => ?_)
      refine g_i2l hC dX9_sumBy_25 ?_
      refine g_lconst hC dX9_sumBy_26 lc_1 ?_
      refine g_lsub hC dX9_sumBy_27 ?_
      refine g_callS_i hC hR ⟨Nat.zero_le _, Nat.zero_le _⟩ mwX9_isIn ms_X9_isIn mlX9_63 (fun _ hq => kX9_isIn  hq) (Nat.le_of_ble_eq_true rfl) rfl (st := []) rfl (Nat.le_of_ble_eq_true rfl) dX9_sumBy_28 (fun q6 => ?_)
      refine g_if_ne hC dX9_sumBy_31 ?_ ?_
      · refine g_bipush hC dX9_sumBy_34 bc_m12 ?_
        exact g_iret_iV hC hT dX9_sumBy_36
      · refine g_aload_n hC dX9_sumBy_37 (j := 0) rfl rfl ?_
        refine g_getR hC fr_9_30 h_b (b := b + 13) rfl dX9_sumBy_38 flX9_46 ?_
        refine g_bipush hC dX9_sumBy_41 bc_40 ?_
        refine g_iload_n hC dX9_sumBy_43 (j := 1) rfl rfl ?_
        refine g_imul hC dX9_sumBy_44 ?_
        refine g_iload_n hC dX9_sumBy_45 (j := 2) rfl rfl ?_
        refine g_iadd hC dX9_sumBy_46 ?_
        refine g_iload hC dX9_sumBy_47 (j := 5) rfl ?_
        refine g_iadd hC dX9_sumBy_49 ?_
        refine g_ialdV hC (gx_9_30 hG h_b) (gl_9_30 hG h_b) dX9_sumBy_50 (fun t7 => ?_)
        refine g_istore hC (n0 := 7) (lv' := [(6, .int t7), (0, .ref b), (1, .int a1), (2, .int a2), (3, .int a3), (4, .int x3), (5, .int x4)]) dX9_sumBy_51 (Nat.le_of_ble_eq_true rfl) hL rfl ?_
        refine g_aload_n hC dX9_sumBy_53 (j := 1) rfl rfl ?_
        refine g_iload hC dX9_sumBy_54 (j := 0) rfl ?_
        refine g_callV_i hC hR ⟨Nat.zero_le _, Nat.zero_le _⟩ mwX9_isAct miX9_isAct (ci := 9) rfl h_b (Nat.le_of_ble_eq_true rfl) mlX9_346 (fun _ hq => kX9_isAct hG h_b hq) (Nat.le_of_ble_eq_true rfl) rfl (st := []) rfl (Nat.le_of_ble_eq_true rfl) dX9_sumBy_56 (fun q8 => ?_)
        refine g_if_eq hC dX9_sumBy_59 ?_ ?_
        · refine g_bipush hC dX9_sumBy_69 bc_m4 ?_
          exact g_iret_iV hC hT dX9_sumBy_71
        · refine g_aload_n hC dX9_sumBy_62 (j := 1) rfl rfl ?_
          refine g_callV_i hC hR ⟨Nat.zero_le _, Nat.zero_le _⟩ mwX9_isOver miX9_isOver (ci := 9) rfl h_b (Nat.le_of_ble_eq_true rfl) mlX9_141 (fun _ hq => kX9_isOver hG h_b hq) (Nat.le_of_ble_eq_true rfl) rfl (st := []) rfl (Nat.le_of_ble_eq_true rfl) dX9_sumBy_63 (fun q9 => ?_)
          refine g_if_eq hC dX9_sumBy_66 ?_ ?_
          · refine g_iload hC dX9_sumBy_72 (j := 5) rfl ?_
            refine g_aload_n hC dX9_sumBy_74 (j := 1) rfl rfl ?_
            refine g_iload hC dX9_sumBy_75 (j := 0) rfl ?_
            refine g_callV_iV hC hR ⟨Nat.zero_le _, Nat.zero_le _⟩ mwX9_goesWith miX9_goesWith (ci := 9) rfl h_b (Nat.le_of_ble_eq_true rfl) mlX9_255 (fun _ hq => kX9_goesWith hG h_b hq) (Nat.le_of_ble_eq_true rfl) rfl (st := [.int x3]) rfl (Nat.le_of_ble_eq_true rfl) dX9_sumBy_77 (fun q10 => ?_)
            refine g_iadd hC dX9_sumBy_80 ?_
            refine g_istoreL hC (n0 := 7) (lv' := fun x11 => [(4, .int x11), (6, .int t7), (0, .ref b), (1, .int a1), (2, .int a2), (3, .int a3), (5, .int x4)]) dX9_sumBy_81 (Nat.le_of_ble_eq_true rfl) hL (fun _ => rfl) (fun x11 => ?_)
            refine g_iincL hC (n0 := 7) (j := 6) (lv' := fun x12 => [(5, .int x12), (4, .int x11), (6, .int t7), (0, .ref b), (1, .int a1), (2, .int a2), (3, .int a3)]) dX9_sumBy_83 rfl ic_1 (Nat.le_of_ble_eq_true rfl) hL (fun _ => rfl) (fun x12 => ?_)
            refine g_goto hC dX9_sumBy_86 ?_
            refine g_sub [3, 4, 5, 6, 1, 0] rfl ?_
            exact ih q10.2 x11 x12
          · refine g_bipush hC dX9_sumBy_69 bc_m4 ?_
            exact g_iret_iV hC hT dX9_sumBy_71
set_option maxHeartbeats 4000000 in
set_option maxRecDepth 100000 in
theorem kX9_sumBy {l : Launch} {D : Dx} {G : G2} {V : V2} {R : R2} {n : Nat} {b : Nat} {a1 : Int32} {a2 : Int32} {a3 : Int32} (hG : GX G) (h_b : own G b 19) {o : Int32 × V2} (hf : pX9_sumBy n V b a1 a2 a3 = some o) : Con l yX9_sumBy cX9_sumBy 7 (some .int) (rmN 5 0 0) D G V R [.ref b, .int a1, .int a2, .int a3] (some (.int o.1), o.2, R, G, 0, 0) := by
  refine Con.mk RX9 (by decide) rfl (Nat.le_of_ble_eq_true rfl) (fun C _ hR hT _ _ hL hC hnm => ?_)
  revert hf
  unfold pX9_sumBy
  refine g_iconst hC dX9_sumBy_0 ic_0 ?_
  refine g_istore hC (n0 := 7) (lv' := [(4, .int 0), (0, .ref b), (1, .int a1), (2, .int a2), (3, .int a3)]) dX9_sumBy_1 (Nat.le_of_ble_eq_true rfl) hL rfl ?_
  refine g_iconst hC dX9_sumBy_3 ic_0 ?_
  refine g_istore hC (n0 := 7) (lv' := [(5, .int 0), (4, .int 0), (0, .ref b), (1, .int a1), (2, .int a2), (3, .int a3)]) dX9_sumBy_4 (Nat.le_of_ble_eq_true rfl) hL rfl ?_
  refine g_sub [2, 3, 4, 5, 1, 0] rfl ?_
  refine wX9_sumBy_6 hC hL hG h_b hR hT (fun w13 w14 => ?_) n V 0 0
  refine g_iload hC dX9_sumBy_89 (j := 0) rfl ?_
  exact g_iret_iV hC hT dX9_sumBy_91
def pX9_wouldBe (n : Nat) (V : V2) (b : Nat) (a1 : Int32) (a2 : Int32) (a3 : Int32) : Option (Int32 × V2) :=
  (pX9_isSheet a1).bind fun q1 =>
  if q1 = 0 then (some ((-1), V))
  else ((pX9_isIn a3.toInt64 0 20).bind fun q2 =>
  if q2 = 0 then (some ((-1), V))
  else ((pX9_lacks V b a1 0).bind fun q3 =>
  if q3 = 0 then ((pX9_laysAside n V b 0).bind fun q4 =>
  (pX9_sumBy n q4 b a1 a2 a3).bind fun q5 =>
  (pX9_laysBack n q5.2 b 0).bind fun q6 =>
  some (q5.1, q6))
  else ((pX9_lacks V b a1 0).bind fun q7 =>
  some (q7, V))))
set_option maxHeartbeats 4000000 in
set_option maxRecDepth 100000 in
theorem kX9_wouldBe {l : Launch} {D : Dx} {G : G2} {V : V2} {R : R2} {n : Nat} {b : Nat} {a1 : Int32} {a2 : Int32} {a3 : Int32} (hG : GX G) (h_b : own G b 19) {o : Int32 × V2} (hf : pX9_wouldBe n V b a1 a2 a3 = some o) : Con l yX9_wouldBe cX9_wouldBe 5 (some .int) (rmN 6 0 0) D G V R [.ref b, .int a1, .int a2, .int a3] (some (.int o.1), o.2, R, G, 0, 0) := by
  refine Con.mk RX9 (by decide) rfl (Nat.le_of_ble_eq_true rfl) (fun C _ hR hT _ _ hL hC hnm => ?_)
  revert hf
  unfold pX9_wouldBe
  refine g_iload_n hC dX9_wouldBe_0 (j := 1) rfl rfl ?_
  refine g_callS_i hC hR ⟨Nat.zero_le _, Nat.zero_le _⟩ mwX9_isSheet ms_X9_isSheet mlX9_349 (fun _ hq => kX9_isSheet  hq) (Nat.le_of_ble_eq_true rfl) rfl (st := []) rfl (Nat.le_of_ble_eq_true rfl) dX9_wouldBe_1 (fun q1 => ?_)
  refine g_if_eq hC dX9_wouldBe_4 ?_ ?_
  · refine g_iconst hC dX9_wouldBe_19 ic_m1 ?_
    exact g_iret_iV hC hT dX9_wouldBe_20
  · refine g_iload_n hC dX9_wouldBe_7 (j := 3) rfl rfl ?_
    refine g_i2l hC dX9_wouldBe_8 ?_
    refine g_lconst hC dX9_wouldBe_9 lc_0 ?_
    refine g_ldc2 hC dX9_wouldBe_10 clX9_357 ?_
    refine g_callS_i hC hR ⟨Nat.zero_le _, Nat.zero_le _⟩ mwX9_isIn ms_X9_isIn mlX9_63 (fun _ hq => kX9_isIn  hq) (Nat.le_of_ble_eq_true rfl) rfl (st := []) rfl (Nat.le_of_ble_eq_true rfl) dX9_wouldBe_13 (fun q2 => ?_)
    refine g_if_ne hC dX9_wouldBe_16 ?_ ?_
    · refine g_iconst hC dX9_wouldBe_19 ic_m1 ?_
      exact g_iret_iV hC hT dX9_wouldBe_20
    · refine g_aload_n hC dX9_wouldBe_21 (j := 0) rfl rfl ?_
      refine g_iload_n hC dX9_wouldBe_22 (j := 1) rfl rfl ?_
      refine g_iconst hC dX9_wouldBe_23 ic_0 ?_
      refine g_callV_i hC hR ⟨Nat.zero_le _, Nat.zero_le _⟩ mwX9_lacks miX9_lacks (ci := 9) rfl h_b (Nat.le_of_ble_eq_true rfl) mlX9_354 (fun _ hq => kX9_lacks hG h_b hq) (Nat.le_of_ble_eq_true rfl) rfl (st := []) rfl (Nat.le_of_ble_eq_true rfl) dX9_wouldBe_24 (fun q3 => ?_)
      refine g_if_eq hC dX9_wouldBe_27 ?_ ?_
      · refine g_aload_n hC dX9_wouldBe_37 (j := 0) rfl rfl ?_
        refine g_iconst hC dX9_wouldBe_38 ic_0 ?_
        refine g_callV_vV hC hR ⟨Nat.zero_le _, Nat.zero_le _⟩ mwX9_laysAside miX9_laysAside (ci := 9) rfl h_b (Nat.le_of_ble_eq_true rfl) mlX9_258 (fun _ hq => kX9_laysAside hG h_b hq) (Nat.le_of_ble_eq_true rfl) rfl (st := []) rfl (Nat.le_of_ble_eq_true rfl) dX9_wouldBe_39 (fun q4 => ?_)
        refine g_aload_n hC dX9_wouldBe_42 (j := 0) rfl rfl ?_
        refine g_iload_n hC dX9_wouldBe_43 (j := 1) rfl rfl ?_
        refine g_iload_n hC dX9_wouldBe_44 (j := 2) rfl rfl ?_
        refine g_iload_n hC dX9_wouldBe_45 (j := 3) rfl rfl ?_
        refine g_callV_iV hC hR ⟨Nat.zero_le _, Nat.zero_le _⟩ mwX9_sumBy miX9_sumBy (ci := 9) rfl h_b (Nat.le_of_ble_eq_true rfl) mlX9_359 (fun _ hq => kX9_sumBy hG h_b hq) (Nat.le_of_ble_eq_true rfl) rfl (st := []) rfl (Nat.le_of_ble_eq_true rfl) dX9_wouldBe_46 (fun q5 => ?_)
        refine g_istore hC (n0 := 5) (lv' := [(4, .int q5.1), (0, .ref b), (1, .int a1), (2, .int a2), (3, .int a3)]) dX9_wouldBe_49 (Nat.le_of_ble_eq_true rfl) hL rfl ?_
        refine g_aload_n hC dX9_wouldBe_51 (j := 1) rfl rfl ?_
        refine g_iconst hC dX9_wouldBe_52 ic_0 ?_
        refine g_callV_vV hC hR ⟨Nat.zero_le _, Nat.zero_le _⟩ mwX9_laysBack miX9_laysBack (ci := 9) rfl h_b (Nat.le_of_ble_eq_true rfl) mlX9_262 (fun _ hq => kX9_laysBack hG h_b hq) (Nat.le_of_ble_eq_true rfl) rfl (st := []) rfl (Nat.le_of_ble_eq_true rfl) dX9_wouldBe_53 (fun q6 => ?_)
        refine g_iload hC dX9_wouldBe_56 (j := 0) rfl ?_
        exact g_iret_iV hC hT dX9_wouldBe_58
      · refine g_aload_n hC dX9_wouldBe_30 (j := 0) rfl rfl ?_
        refine g_iload_n hC dX9_wouldBe_31 (j := 1) rfl rfl ?_
        refine g_iconst hC dX9_wouldBe_32 ic_0 ?_
        refine g_callV_i hC hR ⟨Nat.zero_le _, Nat.zero_le _⟩ mwX9_lacks miX9_lacks (ci := 9) rfl h_b (Nat.le_of_ble_eq_true rfl) mlX9_354 (fun _ hq => kX9_lacks hG h_b hq) (Nat.le_of_ble_eq_true rfl) rfl (st := []) rfl (Nat.le_of_ble_eq_true rfl) dX9_wouldBe_33 (fun q7 => ?_)
        exact g_iret_iV hC hT dX9_wouldBe_36
def pX9_shelf (V : V2) (b : Nat) (a1 : Int32) (a2 : Int32) (a3 : Int32) : Option (Int32 × V2) :=
  (pX9_isShelf a1).bind fun q1 =>
  if q1 = 0 then (some ((-1), V))
  else ((pX9_isIn a2.toInt64 0 2).bind fun q2 =>
  if q2 = 0 then (some ((-1), V))
  else (letv (fun (u4 : Unit) => (letv (fun (u6 : Unit) => (((if a2 = (1 : Int32) then ((ldI 4 (V (b + 11)) a3).bind fun t8 =>
  if t8 < 0 then (some 0)
  else (some 1))
  else (some 0) : Option (Int32))).bind fun j7 =>
  letv ((if a2 = 0 then (1)
  else (if j7 = 0 then (0)
  else (2)) : Int32)) fun j9 =>
  (stI 4 V (b + 14) a1 j9).bind fun U10 =>
  ((if a2 = 0 then (some a3)
  else (if j7 = 0 then (some 0)
  else ((ldI 4 (U10 (b + 11)) a3).bind fun t12 =>
  some t12)) : Option (Int32))).bind fun j11 =>
  (stI 4 U10 (b + 15) a1 j11).bind fun U13 =>
  ((if j7 = 0 then (some 0)
  else ((ldI 4 (U13 (b + 12)) a3).bind fun t15 =>
  some t15) : Option (Int32))).bind fun j14 =>
  (stI 4 U13 (b + 16) a1 j14).bind fun U16 =>
  some (1, U16))) fun j5 =>
  if a2 = (1 : Int32) then ((pX9_isSheet a3).bind fun q17 =>
  if q17 = 0 then (some ((-1), V))
  else (j5 ()))
  else (j5 ()))) fun j3 =>
  if a2 = 0 then ((pX9_isOne V b a3).bind fun q18 =>
  if q18 = 0 then (some ((-1), V))
  else (j3 ()))
  else (j3 ())))
set_option maxHeartbeats 4000000 in
set_option maxRecDepth 100000 in
theorem kX9_shelf {l : Launch} {D : Dx} {G : G2} {V : V2} {R : R2} {b : Nat} {a1 : Int32} {a2 : Int32} {a3 : Int32} (hG : GX G) (h_b : own G b 19) {o : Int32 × V2} (hf : pX9_shelf V b a1 a2 a3 = some o) : Con l yX9_shelf cX9_shelf 5 (some .int) (rmN 2 0 0) D G V R [.ref b, .int a1, .int a2, .int a3] (some (.int o.1), o.2, R, G, 0, 0) := by
  refine Con.mk RX9 (by decide) rfl (Nat.le_of_ble_eq_true rfl) (fun C _ hR hT _ _ hL hC hnm => ?_)
  revert hf
  unfold pX9_shelf
  refine g_iload_n hC dX9_shelf_0 (j := 1) rfl rfl ?_
  refine g_callS_i hC hR ⟨Nat.zero_le _, Nat.zero_le _⟩ mwX9_isShelf ms_X9_isShelf mlX9_362 (fun _ hq => kX9_isShelf  hq) (Nat.le_of_ble_eq_true rfl) rfl (st := []) rfl (Nat.le_of_ble_eq_true rfl) dX9_shelf_1 (fun q1 => ?_)
  refine g_if_eq hC dX9_shelf_4 ?_ ?_
  · refine g_iconst hC dX9_shelf_43 ic_m1 ?_
    exact g_iret_iV hC hT dX9_shelf_44
  · refine g_iload_n hC dX9_shelf_7 (j := 2) rfl rfl ?_
    refine g_i2l hC dX9_shelf_8 ?_
    refine g_lconst hC dX9_shelf_9 lc_0 ?_
    refine g_ldc2 hC dX9_shelf_10 clX9_103 ?_
    refine g_callS_i hC hR ⟨Nat.zero_le _, Nat.zero_le _⟩ mwX9_isIn ms_X9_isIn mlX9_63 (fun _ hq => kX9_isIn  hq) (Nat.le_of_ble_eq_true rfl) rfl (st := []) rfl (Nat.le_of_ble_eq_true rfl) dX9_shelf_13 (fun q2 => ?_)
    refine g_if_eq hC dX9_shelf_16 ?_ ?_
    · refine g_iconst hC dX9_shelf_43 ic_m1 ?_
      exact g_iret_iV hC hT dX9_shelf_44
    · refine g_iload_n hC dX9_shelf_19 (j := 2) rfl rfl ?_
      refine g_jn (J := fun j3 => ∀ (u4 : Unit), j3 u4 = some o → Go C 31 [(0, .ref b), (1, .int a1), (2, .int a2), (3, .int a3)] [] V R G 0 0) (fun u4 => ?_) (fun j3 hJ => ?_)
      · refine g_iload_n hC dX9_shelf_31 (j := 2) rfl rfl ?_
        refine g_iconst hC dX9_shelf_32 ic_1 ?_
        refine g_jn (J := fun j5 => ∀ (u6 : Unit), j5 u6 = some o → Go C 45 [(0, .ref b), (1, .int a1), (2, .int a2), (3, .int a3)] [] V R G 0 0) (fun u6 => ?_) (fun j5 hJ => ?_)
        · refine g_iload_n hC dX9_shelf_45 (j := 2) rfl rfl ?_
          refine g_iconst hC dX9_shelf_46 ic_1 ?_
          refine g_bind (J := fun j7 => Go C 64 [(0, .ref b), (1, .int a1), (2, .int a2), (3, .int a3)] [.int j7] V R G 0 0) (fun j7 hJ => ?_) (fun j7 => ?_)
          · refine g_icmp_ne hC dX9_shelf_47 ?_ ?_
            · refine g_aload_n hC dX9_shelf_50 (j := 0) rfl rfl ?_
              refine g_getR hC fr_9_28 h_b (b := b + 11) rfl dX9_shelf_51 flX9_40 ?_
              refine g_iload_n hC dX9_shelf_54 (j := 3) rfl rfl ?_
              refine g_ialdV hC (gx_9_28 hG h_b) (gl_9_28 hG h_b) dX9_shelf_55 (fun t8 => ?_)
              refine g_if_lt hC dX9_shelf_56 ?_ ?_
              · refine g_iconst hC dX9_shelf_63 ic_0 ?_
                exact fun e => by cases e; exact hJ
              · refine g_iconst hC dX9_shelf_59 ic_1 ?_
                refine g_goto hC dX9_shelf_60 ?_
                exact fun e => by cases e; exact hJ
            · refine g_iconst hC dX9_shelf_63 ic_0 ?_
              exact fun e => by cases e; exact hJ
          · refine g_istore hC (n0 := 5) (lv' := [(4, .int j7), (0, .ref b), (1, .int a1), (2, .int a2), (3, .int a3)]) dX9_shelf_64 (Nat.le_of_ble_eq_true rfl) hL rfl ?_
            refine g_aload_n hC dX9_shelf_66 (j := 1) rfl rfl ?_
            refine g_getR hC fr_9_31 h_b (b := b + 14) rfl dX9_shelf_67 flX9_49 ?_
            refine g_iload_n hC dX9_shelf_70 (j := 2) rfl rfl ?_
            refine g_iload_n hC dX9_shelf_71 (j := 3) rfl rfl ?_
            refine g_letJ (J := fun j9 => Go C 89 [(0, .ref b), (1, .int a1), (2, .int a2), (3, .int a3), (4, .int j7)] [.int j9, .int a1, .ref (b + 14)] V R G 0 0) (fun j9 hJ => ?_) (fun j9 => ?_)
            · refine g_if_ne hC dX9_shelf_72 ?_ ?_
              · refine g_iconst hC dX9_shelf_75 ic_1 ?_
                refine g_goto hC dX9_shelf_76 ?_
                refine g_sub [1, 2, 3, 4, 0] rfl ?_
                exact fun e => by cases e; exact hJ
              · refine g_iload hC dX9_shelf_79 (j := 0) rfl ?_
                refine g_if_eq hC dX9_shelf_81 ?_ ?_
                · refine g_iconst hC dX9_shelf_88 ic_0 ?_
                  refine g_sub [1, 2, 3, 4, 0] rfl ?_
                  exact fun e => by cases e; exact hJ
                · refine g_iconst hC dX9_shelf_84 ic_2 ?_
                  refine g_goto hC dX9_shelf_85 ?_
                  refine g_sub [1, 2, 3, 4, 0] rfl ?_
                  exact fun e => by cases e; exact hJ
            · refine g_iastV hC (gx_9_31 hG h_b) (gl_9_31 hG h_b) dX9_shelf_89 (fun U10 => ?_)
              refine g_aload_n hC dX9_shelf_90 (j := 0) rfl rfl ?_
              refine g_getR hC fr_9_32 h_b (b := b + 15) rfl dX9_shelf_91 flX9_52 ?_
              refine g_iload_n hC dX9_shelf_94 (j := 1) rfl rfl ?_
              refine g_iload_n hC dX9_shelf_95 (j := 2) rfl rfl ?_
              refine g_bind (J := fun j11 => Go C 118 [(0, .ref b), (1, .int a1), (3, .int a3), (4, .int j7)] [.int j11, .int a1, .ref (b + 15)] U10 R G 0 0) (fun j11 hJ => ?_) (fun j11 => ?_)
              · refine g_if_ne hC dX9_shelf_96 ?_ ?_
                · refine g_iload_n hC dX9_shelf_99 (j := 3) rfl rfl ?_
                  refine g_goto hC dX9_shelf_100 ?_
                  refine g_sub [0, 1, 3, 4] rfl ?_
                  exact fun e => by cases e; exact hJ
                · refine g_iload hC dX9_shelf_103 (j := 4) rfl ?_
                  refine g_if_eq hC dX9_shelf_105 ?_ ?_
                  · refine g_iconst hC dX9_shelf_117 ic_0 ?_
                    refine g_sub [0, 1, 3, 4] rfl ?_
                    exact fun e => by cases e; exact hJ
                  · refine g_aload_n hC dX9_shelf_108 (j := 0) rfl rfl ?_
                    refine g_getR hC fr_9_28 h_b (b := b + 11) rfl dX9_shelf_109 flX9_40 ?_
                    refine g_iload_n hC dX9_shelf_112 (j := 3) rfl rfl ?_
                    refine g_ialdV hC (gx_9_28 hG h_b) (gl_9_28 hG h_b) dX9_shelf_113 (fun t12 => ?_)
                    refine g_goto hC dX9_shelf_114 ?_
                    refine g_sub [0, 1, 3, 4] rfl ?_
                    exact fun e => by cases e; exact hJ
              · refine g_iastV hC (gx_9_32 hG h_b) (gl_9_32 hG h_b) dX9_shelf_118 (fun U13 => ?_)
                refine g_aload_n hC dX9_shelf_119 (j := 0) rfl rfl ?_
                refine g_getR hC fr_9_33 h_b (b := b + 16) rfl dX9_shelf_120 flX9_55 ?_
                refine g_iload_n hC dX9_shelf_123 (j := 1) rfl rfl ?_
                refine g_iload hC dX9_shelf_124 (j := 3) rfl ?_
                refine g_bind (J := fun j14 => Go C 139 [] [.int j14, .int a1, .ref (b + 16)] U13 R G 0 0) (fun j14 hJ => ?_) (fun j14 => ?_)
                · refine g_if_eq hC dX9_shelf_126 ?_ ?_
                  · refine g_iconst hC dX9_shelf_138 ic_0 ?_
                    refine g_sub [] rfl ?_
                    exact fun e => by cases e; exact hJ
                  · refine g_aload_n hC dX9_shelf_129 (j := 0) rfl rfl ?_
                    refine g_getR hC fr_9_29 h_b (b := b + 12) rfl dX9_shelf_130 flX9_43 ?_
                    refine g_iload_n hC dX9_shelf_133 (j := 2) rfl rfl ?_
                    refine g_ialdV hC (gx_9_29 hG h_b) (gl_9_29 hG h_b) dX9_shelf_134 (fun t15 => ?_)
                    refine g_goto hC dX9_shelf_135 ?_
                    refine g_sub [] rfl ?_
                    exact fun e => by cases e; exact hJ
                · refine g_iastV hC (gx_9_33 hG h_b) (gl_9_33 hG h_b) dX9_shelf_139 (fun U16 => ?_)
                  refine g_iconst hC dX9_shelf_140 ic_1 ?_
                  exact g_iret_iV hC hT dX9_shelf_141
        · refine g_icmp_ne hC dX9_shelf_33 ?_ ?_
          · refine g_iload_n hC dX9_shelf_36 (j := 3) rfl rfl ?_
            refine g_callS_i hC hR ⟨Nat.zero_le _, Nat.zero_le _⟩ mwX9_isSheet ms_X9_isSheet mlX9_349 (fun _ hq => kX9_isSheet  hq) (Nat.le_of_ble_eq_true rfl) rfl (st := []) rfl (Nat.le_of_ble_eq_true rfl) dX9_shelf_37 (fun q17 => ?_)
            refine g_if_ne hC dX9_shelf_40 ?_ ?_
            · refine g_iconst hC dX9_shelf_43 ic_m1 ?_
              exact g_iret_iV hC hT dX9_shelf_44
            · exact hJ ()
          · exact hJ ()
      · refine g_if_ne hC dX9_shelf_20 ?_ ?_
        · refine g_aload_n hC dX9_shelf_23 (j := 0) rfl rfl ?_
          refine g_iload_n hC dX9_shelf_24 (j := 3) rfl rfl ?_
          refine g_callV_i hC hR ⟨Nat.zero_le _, Nat.zero_le _⟩ mwX9_isOne miX9_isOne (ci := 9) rfl h_b (Nat.le_of_ble_eq_true rfl) mlX9_120 (fun _ hq => kX9_isOne hG h_b hq) (Nat.le_of_ble_eq_true rfl) rfl (st := []) rfl (Nat.le_of_ble_eq_true rfl) dX9_shelf_25 (fun q18 => ?_)
          refine g_if_eq hC dX9_shelf_28 ?_ ?_
          · refine g_iconst hC dX9_shelf_43 ic_m1 ?_
            exact g_iret_iV hC hT dX9_shelf_44
          · exact hJ ()
        · exact hJ ()
def pX9_heldOn (V : V2) (b : Nat) (a1 : Int32) : Option (Int32) :=
  (ldI 4 (V (b + 14)) a1).bind fun t1 =>
  letv (fun (u3 : Unit) => ((ldI 4 (V (b + 14)) a1).bind fun t4 =>
  some t4)) fun j2 =>
  if t1 = (1 : Int32) then ((ldI 4 (V (b + 15)) a1).bind fun t5 =>
  (pX9_isOne V b t5).bind fun q6 =>
  if q6 = 0 then (some 0)
  else (j2 ()))
  else (j2 ())
set_option maxHeartbeats 4000000 in
set_option maxRecDepth 100000 in
theorem kX9_heldOn {l : Launch} {D : Dx} {G : G2} {V : V2} {R : R2} {b : Nat} {a1 : Int32} (hG : GX G) (h_b : own G b 19) {o : Int32} (hf : pX9_heldOn V b a1 = some o) : Con l yX9_heldOn cX9_heldOn 2 (some .int) (rmN 1 0 0) D G V R [.ref b, .int a1] (some (.int o), V, R, G, 0, 0) := by
  refine Con.mk RX9 (by decide) rfl (Nat.le_of_ble_eq_true rfl) (fun C _ hR hT _ _ hL hC hnm => ?_)
  revert hf
  unfold pX9_heldOn
  refine g_aload_n hC dX9_heldOn_0 (j := 0) rfl rfl ?_
  refine g_getR hC fr_9_31 h_b (b := b + 14) rfl dX9_heldOn_1 flX9_49 ?_
  refine g_iload_n hC dX9_heldOn_4 (j := 1) rfl rfl ?_
  refine g_ialdV hC (gx_9_31 hG h_b) (gl_9_31 hG h_b) dX9_heldOn_5 (fun t1 => ?_)
  refine g_iconst hC dX9_heldOn_6 ic_1 ?_
  refine g_jn (J := fun j2 => ∀ (u3 : Unit), j2 u3 = some o → Go C 27 [(0, .ref b), (1, .int a1)] [] V R G 0 0) (fun u3 => ?_) (fun j2 hJ => ?_)
  · refine g_aload_n hC dX9_heldOn_27 (j := 0) rfl rfl ?_
    refine g_getR hC fr_9_31 h_b (b := b + 14) rfl dX9_heldOn_28 flX9_49 ?_
    refine g_iload_n hC dX9_heldOn_31 (j := 1) rfl rfl ?_
    refine g_ialdV hC (gx_9_31 hG h_b) (gl_9_31 hG h_b) dX9_heldOn_32 (fun t4 => ?_)
    exact g_iret_i hC hT dX9_heldOn_33
  · refine g_icmp_ne hC dX9_heldOn_7 ?_ ?_
    · refine g_aload_n hC dX9_heldOn_10 (j := 0) rfl rfl ?_
      refine g_aload_n hC dX9_heldOn_11 (j := 0) rfl rfl ?_
      refine g_getR hC fr_9_32 h_b (b := b + 15) rfl dX9_heldOn_12 flX9_52 ?_
      refine g_iload_n hC dX9_heldOn_15 (j := 1) rfl rfl ?_
      refine g_ialdV hC (gx_9_32 hG h_b) (gl_9_32 hG h_b) dX9_heldOn_16 (fun t5 => ?_)
      refine g_callV_i hC hR ⟨Nat.zero_le _, Nat.zero_le _⟩ mwX9_isOne miX9_isOne (ci := 9) rfl h_b (Nat.le_of_ble_eq_true rfl) mlX9_120 (fun _ hq => kX9_isOne hG h_b hq) (Nat.le_of_ble_eq_true rfl) rfl (st := []) rfl (Nat.le_of_ble_eq_true rfl) dX9_heldOn_17 (fun q6 => ?_)
      refine g_if_ne hC dX9_heldOn_20 ?_ ?_
      · refine g_iconst hC dX9_heldOn_23 ic_0 ?_
        refine g_goto hC dX9_heldOn_24 ?_
        exact g_iret_i hC hT dX9_heldOn_33
      · exact hJ ()
    · exact hJ ()
def pX9_taken (V : V2) (b : Nat) (a1 : Int32) (a2 : Int32) : Option (Int32) :=
  (pX9_isShelf a1).bind fun q1 =>
  if q1 = 0 then (some (-1))
  else ((pX9_isIn a2.toInt64 0 14).bind fun q2 =>
  if q2 = 0 then (some (-1))
  else ((pX9_isIn a2.toInt64 6 9).bind fun q3 =>
  if q3 = 0 then ((pX9_heldOn V b a1).bind fun q4 =>
  if q4 = 0 then (some (-11))
  else (if (10 : Int32) ≤ a2 then (if q4 = (2 : Int32) then ((ldI 4 (V (b + 15)) a1).bind fun t5 =>
  if t5 = (a2 - 10) then ((ldI 4 (V (b + 16)) a1).bind fun t6 =>
  some t6)
  else (some (-13)))
  else (some (-13)))
  else (if q4 = (1 : Int32) then ((ldI 4 (V (b + 15)) a1).bind fun t7 =>
  (pX9_its V b t7 0).bind fun q8 =>
  (pX9_isUnder q8 a2).bind fun q9 =>
  if q9 = 0 then (some (-13))
  else ((ldI 4 (V (b + 15)) a1).bind fun t10 =>
  some t10))
  else (some (-13)))))
  else (some (-1))))
set_option maxHeartbeats 4000000 in
set_option maxRecDepth 100000 in
theorem kX9_taken {l : Launch} {D : Dx} {G : G2} {V : V2} {R : R2} {b : Nat} {a1 : Int32} {a2 : Int32} (hG : GX G) (h_b : own G b 19) {o : Int32} (hf : pX9_taken V b a1 a2 = some o) : Con l yX9_taken cX9_taken 4 (some .int) (rmN 2 0 0) D G V R [.ref b, .int a1, .int a2] (some (.int o), V, R, G, 0, 0) := by
  refine Con.mk RX9 (by decide) rfl (Nat.le_of_ble_eq_true rfl) (fun C _ hR hT _ _ hL hC hnm => ?_)
  revert hf
  unfold pX9_taken
  refine g_iload_n hC dX9_taken_0 (j := 1) rfl rfl ?_
  refine g_callS_i hC hR ⟨Nat.zero_le _, Nat.zero_le _⟩ mwX9_isShelf ms_X9_isShelf mlX9_362 (fun _ hq => kX9_isShelf  hq) (Nat.le_of_ble_eq_true rfl) rfl (st := []) rfl (Nat.le_of_ble_eq_true rfl) dX9_taken_1 (fun q1 => ?_)
  refine g_if_eq hC dX9_taken_4 ?_ ?_
  · refine g_iconst hC dX9_taken_33 ic_m1 ?_
    exact g_iret_i hC hT dX9_taken_34
  · refine g_iload_n hC dX9_taken_7 (j := 2) rfl rfl ?_
    refine g_i2l hC dX9_taken_8 ?_
    refine g_lconst hC dX9_taken_9 lc_0 ?_
    refine g_ldc2 hC dX9_taken_10 clX9_365 ?_
    refine g_callS_i hC hR ⟨Nat.zero_le _, Nat.zero_le _⟩ mwX9_isIn ms_X9_isIn mlX9_63 (fun _ hq => kX9_isIn  hq) (Nat.le_of_ble_eq_true rfl) rfl (st := []) rfl (Nat.le_of_ble_eq_true rfl) dX9_taken_13 (fun q2 => ?_)
    refine g_if_eq hC dX9_taken_16 ?_ ?_
    · refine g_iconst hC dX9_taken_33 ic_m1 ?_
      exact g_iret_i hC hT dX9_taken_34
    · refine g_iload_n hC dX9_taken_19 (j := 2) rfl rfl ?_
      refine g_i2l hC dX9_taken_20 ?_
      refine g_ldc2 hC dX9_taken_21 clX9_367 ?_
      refine g_ldc2 hC dX9_taken_24 clX9_69 ?_
      refine g_callS_i hC hR ⟨Nat.zero_le _, Nat.zero_le _⟩ mwX9_isIn ms_X9_isIn mlX9_63 (fun _ hq => kX9_isIn  hq) (Nat.le_of_ble_eq_true rfl) rfl (st := []) rfl (Nat.le_of_ble_eq_true rfl) dX9_taken_27 (fun q3 => ?_)
      refine g_if_eq hC dX9_taken_30 ?_ ?_
      · refine g_aload_n hC dX9_taken_35 (j := 0) rfl rfl ?_
        refine g_iload_n hC dX9_taken_36 (j := 1) rfl rfl ?_
        refine g_callV_i hC hR ⟨Nat.zero_le _, Nat.zero_le _⟩ mwX9_heldOn miX9_heldOn (ci := 9) rfl h_b (Nat.le_of_ble_eq_true rfl) mlX9_369 (fun _ hq => kX9_heldOn hG h_b hq) (Nat.le_of_ble_eq_true rfl) rfl (st := []) rfl (Nat.le_of_ble_eq_true rfl) dX9_taken_37 (fun q4 => ?_)
        refine g_istore_n hC (n0 := 4) (lv' := [(3, .int q4), (0, .ref b), (1, .int a1), (2, .int a2)]) dX9_taken_40 rfl (Nat.le_of_ble_eq_true rfl) hL rfl ?_
        refine g_iload_n hC dX9_taken_41 (j := 0) rfl rfl ?_
        refine g_if_ne hC dX9_taken_42 ?_ ?_
        · refine g_bipush hC dX9_taken_45 bc_m11 ?_
          exact g_iret_i hC hT dX9_taken_47
        · refine g_iload_n hC dX9_taken_48 (j := 3) rfl rfl ?_
          refine g_bipush hC dX9_taken_49 bc_10 ?_
          refine g_icmp_ge hC dX9_taken_51 ?_ ?_
          · refine g_iload_n hC dX9_taken_89 (j := 0) rfl rfl ?_
            refine g_iconst hC dX9_taken_90 ic_2 ?_
            refine g_icmp_ne hC dX9_taken_91 ?_ ?_
            · refine g_aload_n hC dX9_taken_94 (j := 1) rfl rfl ?_
              refine g_getR hC fr_9_32 h_b (b := b + 15) rfl dX9_taken_95 flX9_52 ?_
              refine g_iload_n hC dX9_taken_98 (j := 2) rfl rfl ?_
              refine g_ialdV hC (gx_9_32 hG h_b) (gl_9_32 hG h_b) dX9_taken_99 (fun t5 => ?_)
              refine g_iload_n hC dX9_taken_100 (j := 3) rfl rfl ?_
              refine g_bipush hC dX9_taken_101 bc_10 ?_
              refine g_isub hC dX9_taken_103 ?_
              refine g_icmp_ne hC dX9_taken_104 ?_ ?_
              · refine g_aload_n hC dX9_taken_107 (j := 1) rfl rfl ?_
                refine g_getR hC fr_9_33 h_b (b := b + 16) rfl dX9_taken_108 flX9_55 ?_
                refine g_iload_n hC dX9_taken_111 (j := 2) rfl rfl ?_
                refine g_ialdV hC (gx_9_33 hG h_b) (gl_9_33 hG h_b) dX9_taken_112 (fun t6 => ?_)
                refine g_goto hC dX9_taken_113 ?_
                exact g_iret_i hC hT dX9_taken_118
              · refine g_bipush hC dX9_taken_116 bc_m13 ?_
                exact g_iret_i hC hT dX9_taken_118
            · refine g_bipush hC dX9_taken_116 bc_m13 ?_
              exact g_iret_i hC hT dX9_taken_118
          · refine g_iload_n hC dX9_taken_54 (j := 0) rfl rfl ?_
            refine g_iconst hC dX9_taken_55 ic_1 ?_
            refine g_icmp_ne hC dX9_taken_56 ?_ ?_
            · refine g_aload_n hC dX9_taken_59 (j := 1) rfl rfl ?_
              refine g_aload_n hC dX9_taken_60 (j := 1) rfl rfl ?_
              refine g_getR hC fr_9_32 h_b (b := b + 15) rfl dX9_taken_61 flX9_52 ?_
              refine g_iload_n hC dX9_taken_64 (j := 2) rfl rfl ?_
              refine g_ialdV hC (gx_9_32 hG h_b) (gl_9_32 hG h_b) dX9_taken_65 (fun t7 => ?_)
              refine g_iconst hC dX9_taken_66 ic_0 ?_
              refine g_callV_i hC hR ⟨Nat.zero_le _, Nat.zero_le _⟩ mwX9_its miX9_its (ci := 9) rfl h_b (Nat.le_of_ble_eq_true rfl) mlX9_79 (fun _ hq => kX9_its hG h_b hq) (Nat.le_of_ble_eq_true rfl) rfl (st := []) rfl (Nat.le_of_ble_eq_true rfl) dX9_taken_67 (fun q8 => ?_)
              refine g_iload_n hC dX9_taken_70 (j := 3) rfl rfl ?_
              refine g_callS_i hC hR ⟨Nat.zero_le _, Nat.zero_le _⟩ mwX9_isUnder ms_X9_isUnder mlX9_107 (fun _ hq => kX9_isUnder  hq) (Nat.le_of_ble_eq_true rfl) rfl (st := []) rfl (Nat.le_of_ble_eq_true rfl) dX9_taken_71 (fun q9 => ?_)
              refine g_if_eq hC dX9_taken_74 ?_ ?_
              · refine g_bipush hC dX9_taken_86 bc_m13 ?_
                exact g_iret_i hC hT dX9_taken_88
              · refine g_aload_n hC dX9_taken_77 (j := 1) rfl rfl ?_
                refine g_getR hC fr_9_32 h_b (b := b + 15) rfl dX9_taken_78 flX9_52 ?_
                refine g_iload_n hC dX9_taken_81 (j := 2) rfl rfl ?_
                refine g_ialdV hC (gx_9_32 hG h_b) (gl_9_32 hG h_b) dX9_taken_82 (fun t10 => ?_)
                refine g_goto hC dX9_taken_83 ?_
                exact g_iret_i hC hT dX9_taken_88
            · refine g_bipush hC dX9_taken_86 bc_m13 ?_
              exact g_iret_i hC hT dX9_taken_88
      · refine g_iconst hC dX9_taken_33 ic_m1 ?_
        exact g_iret_i hC hT dX9_taken_34
def pX9_runs (V : V2) (b : Nat) (a1 : Int32) : Option (V2) :=
  if (30 : Int32) ≤ (V b 35) then (some V)
  else ((stI 30 V (b + 17) (V b 35) a1).bind fun U1 =>
  letv (up2 U1 b 35 ((U1 b 35) + 1)) fun U2 =>
  some U2)
set_option maxHeartbeats 4000000 in
set_option maxRecDepth 100000 in
theorem kX9_runs {l : Launch} {D : Dx} {G : G2} {V : V2} {R : R2} {b : Nat} {a1 : Int32} (hG : GX G) (h_b : own G b 19) {o : V2} (hf : pX9_runs V b a1 = some o) : Con l yX9_runs cX9_runs 2 none (rmN 0 0 0) D G V R [.ref b, .int a1] (none, o, R, G, 0, 0) := by
  refine Con.mk RX9 (by decide) rfl (Nat.le_of_ble_eq_true rfl) (fun C _ hR hT _ _ hL hC hnm => ?_)
  revert hf
  unfold pX9_runs
  refine g_aload_n hC dX9_runs_0 (j := 0) rfl rfl ?_
  refine g_getI hC fi_9_35 h_b dX9_runs_1 flX9_372 ?_
  refine g_bipush hC dX9_runs_4 bc_30 ?_
  refine g_icmp_ge hC dX9_runs_6 ?_ ?_
  · exact g_vret_vV hC hT dX9_runs_29
  · refine g_aload_n hC dX9_runs_9 (j := 0) rfl rfl ?_
    refine g_getR hC fr_9_34 h_b (b := b + 17) rfl dX9_runs_10 flX9_58 ?_
    refine g_aload_n hC dX9_runs_13 (j := 0) rfl rfl ?_
    refine g_getI hC fi_9_35 h_b dX9_runs_14 flX9_372 ?_
    refine g_iload_n hC dX9_runs_17 (j := 1) rfl rfl ?_
    refine g_iastV hC (gx_9_34 hG h_b) (gl_9_34 hG h_b) dX9_runs_18 (fun U1 => ?_)
    refine g_aload_n hC dX9_runs_19 (j := 0) rfl rfl ?_
    refine g_dup hC dX9_runs_20 rfl ?_
    refine g_getI hC fi_9_35 h_b dX9_runs_21 flX9_372 ?_
    refine g_iconst hC dX9_runs_24 ic_1 ?_
    refine g_iadd hC dX9_runs_25 ?_
    refine g_putIL hC fp_9_35 h_b dX9_runs_26 flX9_372 (fun U2 => ?_)
    exact g_vret_vV hC hT dX9_runs_29
def pX9_foldsPlain (V : V2) (b : Nat) (a1 : Int32) : Option (Int32 × V2) :=
  (pX9_runs V b 10).bind fun q1 =>
  some ((a1 * 6) - (2 * (q1 b 37)), q1)
set_option maxHeartbeats 4000000 in
set_option maxRecDepth 100000 in
theorem kX9_foldsPlain {l : Launch} {D : Dx} {G : G2} {V : V2} {R : R2} {b : Nat} {a1 : Int32} (hG : GX G) (h_b : own G b 19) {o : Int32 × V2} (hf : pX9_foldsPlain V b a1 = some o) : Con l yX9_foldsPlain cX9_foldsPlain 2 (some .int) (rmN 1 0 0) D G V R [.ref b, .int a1] (some (.int o.1), o.2, R, G, 0, 0) := by
  refine Con.mk RX9 (by decide) rfl (Nat.le_of_ble_eq_true rfl) (fun C _ hR hT _ _ hL hC hnm => ?_)
  revert hf
  unfold pX9_foldsPlain
  refine g_aload_n hC dX9_foldsPlain_0 (j := 0) rfl rfl ?_
  refine g_bipush hC dX9_foldsPlain_1 bc_10 ?_
  refine g_callV_vV hC hR ⟨Nat.zero_le _, Nat.zero_le _⟩ mwX9_runs miX9_runs (ci := 9) rfl h_b (Nat.le_of_ble_eq_true rfl) mlX9_375 (fun _ hq => kX9_runs hG h_b hq) (Nat.le_of_ble_eq_true rfl) rfl (st := []) rfl (Nat.le_of_ble_eq_true rfl) dX9_foldsPlain_3 (fun q1 => ?_)
  refine g_iload_n hC dX9_foldsPlain_6 (j := 1) rfl rfl ?_
  refine g_bipush hC dX9_foldsPlain_7 bc_6 ?_
  refine g_imul hC dX9_foldsPlain_9 ?_
  refine g_iconst hC dX9_foldsPlain_10 ic_2 ?_
  refine g_aload_n hC dX9_foldsPlain_11 (j := 0) rfl rfl ?_
  refine g_getI hC fi_9_37 h_b dX9_foldsPlain_12 flX9_378 ?_
  refine g_imul hC dX9_foldsPlain_15 ?_
  refine g_isub hC dX9_foldsPlain_16 ?_
  exact g_iret_iV hC hT dX9_foldsPlain_17
def pX9_folds (V : V2) (b : Nat) (a1 : Int32) : Option (Int32 × V2) :=
  if (V b 36) = (1 : Int32) then ((pX9_runs V b 20).bind fun q1 =>
  (pX9_foldsPlain q1 b a1).bind fun q2 =>
  some (q2.1 ^^^ 23, q2.2))
  else (if (V b 36) = (3 : Int32) then ((pX9_runs V b 50).bind fun q3 =>
  (pX9_foldsPlain q3 b (a1 + 9)).bind fun q4 =>
  some (q4.1, q4.2))
  else ((pX9_foldsPlain V b a1).bind fun q5 =>
  some (q5.1, q5.2)))
set_option maxHeartbeats 4000000 in
set_option maxRecDepth 100000 in
theorem kX9_folds {l : Launch} {D : Dx} {G : G2} {V : V2} {R : R2} {b : Nat} {a1 : Int32} (hG : GX G) (h_b : own G b 19) {o : Int32 × V2} (hf : pX9_folds V b a1 = some o) : Con l yX9_folds cX9_folds 2 (some .int) (rmN 2 0 0) D G V R [.ref b, .int a1] (some (.int o.1), o.2, R, G, 0, 0) := by
  refine Con.mk RX9 (by decide) rfl (Nat.le_of_ble_eq_true rfl) (fun C _ hR hT _ _ hL hC hnm => ?_)
  revert hf
  unfold pX9_folds
  refine g_aload_n hC dX9_folds_0 (j := 0) rfl rfl ?_
  refine g_getI hC fi_9_36 h_b dX9_folds_1 flX9_381 ?_
  refine g_iconst hC dX9_folds_4 ic_1 ?_
  refine g_icmp_ne hC dX9_folds_5 ?_ ?_
  · refine g_aload_n hC dX9_folds_8 (j := 0) rfl rfl ?_
    refine g_bipush hC dX9_folds_9 bc_20 ?_
    refine g_callV_vV hC hR ⟨Nat.zero_le _, Nat.zero_le _⟩ mwX9_runs miX9_runs (ci := 9) rfl h_b (Nat.le_of_ble_eq_true rfl) mlX9_375 (fun _ hq => kX9_runs hG h_b hq) (Nat.le_of_ble_eq_true rfl) rfl (st := []) rfl (Nat.le_of_ble_eq_true rfl) dX9_folds_11 (fun q1 => ?_)
    refine g_aload_n hC dX9_folds_14 (j := 0) rfl rfl ?_
    refine g_iload_n hC dX9_folds_15 (j := 1) rfl rfl ?_
    refine g_callV_iV hC hR ⟨Nat.zero_le _, Nat.zero_le _⟩ mwX9_foldsPlain miX9_foldsPlain (ci := 9) rfl h_b (Nat.le_of_ble_eq_true rfl) mlX9_384 (fun _ hq => kX9_foldsPlain hG h_b hq) (Nat.le_of_ble_eq_true rfl) rfl (st := []) rfl (Nat.le_of_ble_eq_true rfl) dX9_folds_16 (fun q2 => ?_)
    refine g_bipush hC dX9_folds_19 bc_23 ?_
    refine g_ixor hC dX9_folds_21 ?_
    exact g_iret_iV hC hT dX9_folds_22
  · refine g_aload_n hC dX9_folds_23 (j := 0) rfl rfl ?_
    refine g_getI hC fi_9_36 h_b dX9_folds_24 flX9_381 ?_
    refine g_iconst hC dX9_folds_27 ic_3 ?_
    refine g_icmp_ne hC dX9_folds_28 ?_ ?_
    · refine g_aload_n hC dX9_folds_31 (j := 0) rfl rfl ?_
      refine g_bipush hC dX9_folds_32 bc_50 ?_
      refine g_callV_vV hC hR ⟨Nat.zero_le _, Nat.zero_le _⟩ mwX9_runs miX9_runs (ci := 9) rfl h_b (Nat.le_of_ble_eq_true rfl) mlX9_375 (fun _ hq => kX9_runs hG h_b hq) (Nat.le_of_ble_eq_true rfl) rfl (st := []) rfl (Nat.le_of_ble_eq_true rfl) dX9_folds_34 (fun q3 => ?_)
      refine g_aload_n hC dX9_folds_37 (j := 0) rfl rfl ?_
      refine g_iload_n hC dX9_folds_38 (j := 1) rfl rfl ?_
      refine g_bipush hC dX9_folds_39 bc_9 ?_
      refine g_iadd hC dX9_folds_41 ?_
      refine g_callV_iV hC hR ⟨Nat.zero_le _, Nat.zero_le _⟩ mwX9_foldsPlain miX9_foldsPlain (ci := 9) rfl h_b (Nat.le_of_ble_eq_true rfl) mlX9_384 (fun _ hq => kX9_foldsPlain hG h_b hq) (Nat.le_of_ble_eq_true rfl) rfl (st := []) rfl (Nat.le_of_ble_eq_true rfl) dX9_folds_42 (fun q4 => ?_)
      exact g_iret_iV hC hT dX9_folds_45
    · refine g_aload_n hC dX9_folds_46 (j := 0) rfl rfl ?_
      refine g_iload_n hC dX9_folds_47 (j := 1) rfl rfl ?_
      refine g_callV_iV hC hR ⟨Nat.zero_le _, Nat.zero_le _⟩ mwX9_foldsPlain miX9_foldsPlain (ci := 9) rfl h_b (Nat.le_of_ble_eq_true rfl) mlX9_384 (fun _ hq => kX9_foldsPlain hG h_b hq) (Nat.le_of_ble_eq_true rfl) rfl (st := []) rfl (Nat.le_of_ble_eq_true rfl) dX9_folds_48 (fun q5 => ?_)
      exact g_iret_iV hC hT dX9_folds_51
def pX9_airsPlain (V : V2) (b : Nat) (a1 : Int32) : Option (Int32 × V2) :=
  (pX9_runs V b 11).bind fun q1 =>
  (pX9_folds q1 b a1).bind fun q2 =>
  some (q2.1 + (7 * (q2.2 b 38)), q2.2)
set_option maxHeartbeats 4000000 in
set_option maxRecDepth 100000 in
theorem kX9_airsPlain {l : Launch} {D : Dx} {G : G2} {V : V2} {R : R2} {b : Nat} {a1 : Int32} (hG : GX G) (h_b : own G b 19) {o : Int32 × V2} (hf : pX9_airsPlain V b a1 = some o) : Con l yX9_airsPlain cX9_airsPlain 2 (some .int) (rmN 3 0 0) D G V R [.ref b, .int a1] (some (.int o.1), o.2, R, G, 0, 0) := by
  refine Con.mk RX9 (by decide) rfl (Nat.le_of_ble_eq_true rfl) (fun C _ hR hT _ _ hL hC hnm => ?_)
  revert hf
  unfold pX9_airsPlain
  refine g_aload_n hC dX9_airsPlain_0 (j := 0) rfl rfl ?_
  refine g_bipush hC dX9_airsPlain_1 bc_11 ?_
  refine g_callV_vV hC hR ⟨Nat.zero_le _, Nat.zero_le _⟩ mwX9_runs miX9_runs (ci := 9) rfl h_b (Nat.le_of_ble_eq_true rfl) mlX9_375 (fun _ hq => kX9_runs hG h_b hq) (Nat.le_of_ble_eq_true rfl) rfl (st := []) rfl (Nat.le_of_ble_eq_true rfl) dX9_airsPlain_3 (fun q1 => ?_)
  refine g_aload_n hC dX9_airsPlain_6 (j := 0) rfl rfl ?_
  refine g_iload_n hC dX9_airsPlain_7 (j := 1) rfl rfl ?_
  refine g_callV_iV hC hR ⟨Nat.zero_le _, Nat.zero_le _⟩ mwX9_folds miX9_folds (ci := 9) rfl h_b (Nat.le_of_ble_eq_true rfl) mlX9_387 (fun _ hq => kX9_folds hG h_b hq) (Nat.le_of_ble_eq_true rfl) rfl (st := []) rfl (Nat.le_of_ble_eq_true rfl) dX9_airsPlain_8 (fun q2 => ?_)
  refine g_bipush hC dX9_airsPlain_11 bc_7 ?_
  refine g_aload_n hC dX9_airsPlain_13 (j := 0) rfl rfl ?_
  refine g_getI hC fi_9_38 h_b dX9_airsPlain_14 flX9_390 ?_
  refine g_imul hC dX9_airsPlain_17 ?_
  refine g_iadd hC dX9_airsPlain_18 ?_
  exact g_iret_iV hC hT dX9_airsPlain_19
def pX9_airs (V : V2) (b : Nat) (a1 : Int32) : Option (Int32 × V2) :=
  letv (fun (u2 : Unit) => ((pX9_runs V b 30).bind fun q3 =>
  (pX9_airsPlain q3 b a1).bind fun q4 =>
  some (q4.1 * 2, q4.2))) fun j1 =>
  if (V b 36) = (2 : Int32) then (j1 ())
  else (if (V b 36) = (3 : Int32) then (j1 ())
  else (if (V b 36) = (5 : Int32) then ((pX9_runs V b 60).bind fun q5 =>
  (pX9_airsPlain q5 b a1).bind fun q6 =>
  some (0 - q6.1, q6.2))
  else ((pX9_airsPlain V b a1).bind fun q7 =>
  some (q7.1, q7.2))))
set_option maxHeartbeats 4000000 in
set_option maxRecDepth 100000 in
theorem kX9_airs {l : Launch} {D : Dx} {G : G2} {V : V2} {R : R2} {b : Nat} {a1 : Int32} (hG : GX G) (h_b : own G b 19) {o : Int32 × V2} (hf : pX9_airs V b a1 = some o) : Con l yX9_airs cX9_airs 2 (some .int) (rmN 4 0 0) D G V R [.ref b, .int a1] (some (.int o.1), o.2, R, G, 0, 0) := by
  refine Con.mk RX9 (by decide) rfl (Nat.le_of_ble_eq_true rfl) (fun C _ hR hT _ _ hL hC hnm => ?_)
  revert hf
  unfold pX9_airs
  refine g_aload_n hC dX9_airs_0 (j := 0) rfl rfl ?_
  refine g_getI hC fi_9_36 h_b dX9_airs_1 flX9_381 ?_
  refine g_iconst hC dX9_airs_4 ic_2 ?_
  refine g_jn (J := fun j1 => ∀ (u2 : Unit), j1 u2 = some o → Go C 16 [(0, .ref b), (1, .int a1)] [] V R G 0 0) (fun u2 => ?_) (fun j1 hJ => ?_)
  · refine g_aload_n hC dX9_airs_16 (j := 0) rfl rfl ?_
    refine g_bipush hC dX9_airs_17 bc_30 ?_
    refine g_callV_vV hC hR ⟨Nat.zero_le _, Nat.zero_le _⟩ mwX9_runs miX9_runs (ci := 9) rfl h_b (Nat.le_of_ble_eq_true rfl) mlX9_375 (fun _ hq => kX9_runs hG h_b hq) (Nat.le_of_ble_eq_true rfl) rfl (st := []) rfl (Nat.le_of_ble_eq_true rfl) dX9_airs_19 (fun q3 => ?_)
    refine g_aload_n hC dX9_airs_22 (j := 0) rfl rfl ?_
    refine g_iload_n hC dX9_airs_23 (j := 1) rfl rfl ?_
    refine g_callV_iV hC hR ⟨Nat.zero_le _, Nat.zero_le _⟩ mwX9_airsPlain miX9_airsPlain (ci := 9) rfl h_b (Nat.le_of_ble_eq_true rfl) mlX9_393 (fun _ hq => kX9_airsPlain hG h_b hq) (Nat.le_of_ble_eq_true rfl) rfl (st := []) rfl (Nat.le_of_ble_eq_true rfl) dX9_airs_24 (fun q4 => ?_)
    refine g_iconst hC dX9_airs_27 ic_2 ?_
    refine g_imul hC dX9_airs_28 ?_
    exact g_iret_iV hC hT dX9_airs_29
  · refine g_icmp_eq hC dX9_airs_5 ?_ ?_
    · exact hJ ()
    · refine g_aload_n hC dX9_airs_8 (j := 0) rfl rfl ?_
      refine g_getI hC fi_9_36 h_b dX9_airs_9 flX9_381 ?_
      refine g_iconst hC dX9_airs_12 ic_3 ?_
      refine g_icmp_ne hC dX9_airs_13 ?_ ?_
      · exact hJ ()
      · refine g_aload_n hC dX9_airs_30 (j := 0) rfl rfl ?_
        refine g_getI hC fi_9_36 h_b dX9_airs_31 flX9_381 ?_
        refine g_iconst hC dX9_airs_34 ic_5 ?_
        refine g_icmp_ne hC dX9_airs_35 ?_ ?_
        · refine g_aload_n hC dX9_airs_38 (j := 0) rfl rfl ?_
          refine g_bipush hC dX9_airs_39 bc_60 ?_
          refine g_callV_vV hC hR ⟨Nat.zero_le _, Nat.zero_le _⟩ mwX9_runs miX9_runs (ci := 9) rfl h_b (Nat.le_of_ble_eq_true rfl) mlX9_375 (fun _ hq => kX9_runs hG h_b hq) (Nat.le_of_ble_eq_true rfl) rfl (st := []) rfl (Nat.le_of_ble_eq_true rfl) dX9_airs_41 (fun q5 => ?_)
          refine g_iconst hC dX9_airs_44 ic_0 ?_
          refine g_aload_n hC dX9_airs_45 (j := 0) rfl rfl ?_
          refine g_iload_n hC dX9_airs_46 (j := 1) rfl rfl ?_
          refine g_callV_iV hC hR ⟨Nat.zero_le _, Nat.zero_le _⟩ mwX9_airsPlain miX9_airsPlain (ci := 9) rfl h_b (Nat.le_of_ble_eq_true rfl) mlX9_393 (fun _ hq => kX9_airsPlain hG h_b hq) (Nat.le_of_ble_eq_true rfl) rfl (st := [.int 0]) rfl (Nat.le_of_ble_eq_true rfl) dX9_airs_47 (fun q6 => ?_)
          refine g_isub hC dX9_airs_50 ?_
          exact g_iret_iV hC hT dX9_airs_51
        · refine g_aload_n hC dX9_airs_52 (j := 0) rfl rfl ?_
          refine g_iload_n hC dX9_airs_53 (j := 1) rfl rfl ?_
          refine g_callV_iV hC hR ⟨Nat.zero_le _, Nat.zero_le _⟩ mwX9_airsPlain miX9_airsPlain (ci := 9) rfl h_b (Nat.le_of_ble_eq_true rfl) mlX9_393 (fun _ hq => kX9_airsPlain hG h_b hq) (Nat.le_of_ble_eq_true rfl) rfl (st := []) rfl (Nat.le_of_ble_eq_true rfl) dX9_airs_54 (fun q7 => ?_)
          exact g_iret_iV hC hT dX9_airs_57
