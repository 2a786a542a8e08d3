def lX5_take_18 (b : Nat) (a1 : Int64) (a2 : Int32) : Nat → V2 → Int32 → Option (V2)
  | 0, _, _ => none
  | f1 + 1, U2, x3 =>
    if a2 ≤ x3 then (some U2)
    else ((stI 200 U2 (b + 1) (U2 b 1) (((jlushr a1 (8 * x3)) &&& 255).toInt32)).bind fun U4 =>
    letv (up2 U4 b 1 ((U4 b 1) + 1)) fun U5 =>
    letv (x3 + 1) fun x6 =>
    lX5_take_18 b a1 a2 f1 U5 x6)
def pX5_take (n : Nat) (V : V2) (b : Nat) (a1 : Int64) (a2 : Int32) : Option (Int32 × V2) :=
  if ((V b 1) + a2) ≤ (200 : Int32) then ((lX5_take_18 b a1 a2 n V 0).bind fun w7 =>
  some (w7 b 1, w7))
  else (some ((-2), V))
set_option maxHeartbeats 4000000 in
set_option maxRecDepth 100000 in
theorem wX5_take_18 {C : Cx} (hC : CxOK C cX5_take RX5 (some .int)) (hL : C.2.2.2.2 = 5) {G : G2} {R : R2} {b : Nat} {a1 : Int64} {a2 : Int32} (hG : GX G) (h_b : own G b 15) {o : V2} (hX : Go C 61 [(0, .ref b)] [] o R G 0 0) : ∀ (f : Nat) (U2 : V2) (x3 : Int32), lX5_take_18 b a1 a2 f U2 x3 = some o → Go C 18 [(0, .ref b), (1, .long a1), (3, .int a2), (4, .int x3)] [] U2 R G 0 0 := by
  intro f
  induction f with
  | zero => intro _ _ hf; exact absurd hf (by unfold lX5_take_18; exact fun z => nomatch z)
  | succ f1 ih =>
    intro U2 x3
    unfold lX5_take_18
    refine g_iload hC dX5_take_18 (j := 3) rfl ?_
    refine g_iload_n hC dX5_take_20 (j := 2) rfl rfl ?_
    refine g_icmp_ge hC dX5_take_21 ?_ ?_
    · refine g_sub [0] rfl ?_
      exact fun e => by cases e; exact hX
    · refine g_aload_n hC dX5_take_24 (j := 0) rfl rfl ?_
      refine g_getR hC fr_5_0 h_b (b := b + 1) rfl dX5_take_25 flX5_9 ?_
      refine g_aload_n hC dX5_take_28 (j := 0) rfl rfl ?_
      refine g_getI hC fi_5_1 h_b dX5_take_29 flX5_15 ?_
      refine g_lload_n hC dX5_take_32 (j := 1) rfl rfl ?_
      refine g_bipush hC dX5_take_33 bc_8 ?_
      refine g_iload hC dX5_take_35 (j := 3) rfl ?_
      refine g_imul hC dX5_take_37 ?_
      refine g_lushr hC dX5_take_38 ?_
      refine g_ldc2 hC dX5_take_39 clX5_46 ?_
      refine g_land hC dX5_take_42 ?_
      refine g_l2i hC dX5_take_43 ?_
      refine g_iastV hC (gx_5_0 hG h_b) (gl_5_0 hG h_b) dX5_take_44 (fun U4 => ?_)
      refine g_aload_n hC dX5_take_45 (j := 0) rfl rfl ?_
      refine g_dup hC dX5_take_46 rfl ?_
      refine g_getI hC fi_5_1 h_b dX5_take_47 flX5_15 ?_
      refine g_iconst hC dX5_take_50 ic_1 ?_
      refine g_iadd hC dX5_take_51 ?_
      refine g_putIL hC fp_5_1 h_b dX5_take_52 flX5_15 (fun U5 => ?_)
      refine g_iincL hC (n0 := 5) (j := 3) (lv' := fun x6 => [(4, .int x6), (0, .ref b), (1, .long a1), (3, .int a2)]) dX5_take_55 rfl ic_1 (Nat.le_of_ble_eq_true rfl) hL (fun _ => rfl) (fun x6 => ?_)
      refine g_goto hC dX5_take_58 ?_
      refine g_sub [1, 2, 3, 0] rfl ?_
      exact ih U5 x6
set_option maxHeartbeats 4000000 in
set_option maxRecDepth 100000 in
theorem kX5_take {l : Launch} {D : Dx} {G : G2} {V : V2} {R : R2} {n : Nat} {b : Nat} {a1 : Int64} {a2 : Int32} (hG : GX G) (h_b : own G b 15) {o : Int32 × V2} (hf : pX5_take n V b a1 a2 = some o) : Con l yX5_take cX5_take 5 (some .int) (rmN 0 0 0) D G V R [.ref b, .long a1, .int a2] (some (.int o.1), o.2, R, G, 0, 0) := by
  refine Con.mk RX5 (by decide) rfl (Nat.le_of_ble_eq_true rfl) (fun C _ hR hT _ _ hL hC hnm => ?_)
  revert hf
  unfold pX5_take
  refine g_aload_n hC dX5_take_0 (j := 0) rfl rfl ?_
  refine g_getI hC fi_5_1 h_b dX5_take_1 flX5_15 ?_
  refine g_iload_n hC dX5_take_4 (j := 2) rfl rfl ?_
  refine g_iadd hC dX5_take_5 ?_
  refine g_sipush hC dX5_take_6 sc_200 ?_
  refine g_icmp_le hC dX5_take_9 ?_ ?_
  · refine g_iconst hC dX5_take_15 ic_0 ?_
    refine g_istore hC (n0 := 5) (lv' := [(4, .int 0), (0, .ref b), (1, .long a1), (3, .int a2)]) dX5_take_16 (Nat.le_of_ble_eq_true rfl) hL rfl ?_
    refine g_sub [1, 2, 3, 0] rfl ?_
    refine g_bind (J := fun w7 => Go C 61 [(0, .ref b)] [] w7 R G 0 0) (fun w7 hJ => wX5_take_18 hC hL hG h_b hJ n V 0) (fun w7 => ?_)
    refine g_aload_n hC dX5_take_61 (j := 0) rfl rfl ?_
    refine g_getI hC fi_5_1 h_b dX5_take_62 flX5_15 ?_
    exact g_iret_iV hC hT dX5_take_65
  · refine g_bipush hC dX5_take_12 bc_m2 ?_
    exact g_iret_iV hC hT dX5_take_14
def pX5_sortAt (V : V2) (b : Nat) (a1 : Int32) : Option (Int32) :=
  if a1 < 0 then (some 0)
  else (if a1 < (V b 1) then ((ldI 200 (V (b + 1)) a1).bind fun t1 =>
  letv (fun (u3 : Unit) => ((ldI 200 (V (b + 1)) a1).bind fun t4 =>
  if t4 < (48 : Int32) then (some 3)
  else ((ldI 200 (V (b + 1)) a1).bind fun t5 =>
  if (57 : Int32) < t5 then (some 3)
  else (some 2)))) fun j2 =>
  if t1 < (97 : Int32) then (j2 ())
  else ((ldI 200 (V (b + 1)) a1).bind fun t6 =>
  if (122 : Int32) < t6 then (j2 ())
  else (some 1)))
  else (some 0))
set_option maxHeartbeats 4000000 in
set_option maxRecDepth 100000 in
theorem kX5_sortAt {l : Launch} {D : Dx} {G : G2} {V : V2} {R : R2} {b : Nat} {a1 : Int32} (hG : GX G) (h_b : own G b 15) {o : Int32} (hf : pX5_sortAt V b a1 = some o) : Con l yX5_sortAt cX5_sortAt 2 (some .int) (rmN 0 0 0) D G V R [.ref b, .int a1] (some (.int o), V, R, G, 0, 0) := by
  refine Con.mk RX5 (by decide) rfl (Nat.le_of_ble_eq_true rfl) (fun C _ hR hT _ _ hL hC hnm => ?_)
  revert hf
  unfold pX5_sortAt
  refine g_iload_n hC dX5_sortAt_0 (j := 1) rfl rfl ?_
  refine g_if_lt hC dX5_sortAt_1 ?_ ?_
  · refine g_iconst hC dX5_sortAt_12 ic_0 ?_
    exact g_iret_i hC hT dX5_sortAt_13
  · refine g_iload_n hC dX5_sortAt_4 (j := 1) rfl rfl ?_
    refine g_aload_n hC dX5_sortAt_5 (j := 0) rfl rfl ?_
    refine g_getI hC fi_5_1 h_b dX5_sortAt_6 flX5_15 ?_
    refine g_icmp_lt hC dX5_sortAt_9 ?_ ?_
    · refine g_aload_n hC dX5_sortAt_14 (j := 0) rfl rfl ?_
      refine g_getR hC fr_5_0 h_b (b := b + 1) rfl dX5_sortAt_15 flX5_9 ?_
      refine g_iload_n hC dX5_sortAt_18 (j := 1) rfl rfl ?_
      refine g_ialdV hC (gx_5_0 hG h_b) (gl_5_0 hG h_b) dX5_sortAt_19 (fun t1 => ?_)
      refine g_bipush hC dX5_sortAt_20 bc_97 ?_
      refine g_jn (J := fun j2 => ∀ (u3 : Unit), j2 u3 = some o → Go C 38 [(0, .ref b), (1, .int a1)] [] V R G 0 0) (fun u3 => ?_) (fun j2 hJ => ?_)
      · refine g_aload_n hC dX5_sortAt_38 (j := 0) rfl rfl ?_
        refine g_getR hC fr_5_0 h_b (b := b + 1) rfl dX5_sortAt_39 flX5_9 ?_
        refine g_iload_n hC dX5_sortAt_42 (j := 1) rfl rfl ?_
        refine g_ialdV hC (gx_5_0 hG h_b) (gl_5_0 hG h_b) dX5_sortAt_43 (fun t4 => ?_)
        refine g_bipush hC dX5_sortAt_44 bc_48 ?_
        refine g_icmp_lt hC dX5_sortAt_46 ?_ ?_
        · refine g_iconst hC dX5_sortAt_64 ic_3 ?_
          exact g_iret_i hC hT dX5_sortAt_65
        · refine g_aload_n hC dX5_sortAt_49 (j := 0) rfl rfl ?_
          refine g_getR hC fr_5_0 h_b (b := b + 1) rfl dX5_sortAt_50 flX5_9 ?_
          refine g_iload_n hC dX5_sortAt_53 (j := 1) rfl rfl ?_
          refine g_ialdV hC (gx_5_0 hG h_b) (gl_5_0 hG h_b) dX5_sortAt_54 (fun t5 => ?_)
          refine g_bipush hC dX5_sortAt_55 bc_57 ?_
          refine g_icmp_gt hC dX5_sortAt_57 ?_ ?_
          · refine g_iconst hC dX5_sortAt_64 ic_3 ?_
            exact g_iret_i hC hT dX5_sortAt_65
          · refine g_iconst hC dX5_sortAt_60 ic_2 ?_
            refine g_goto hC dX5_sortAt_61 ?_
            exact g_iret_i hC hT dX5_sortAt_65
      · refine g_icmp_lt hC dX5_sortAt_22 ?_ ?_
        · exact hJ ()
        · refine g_aload_n hC dX5_sortAt_25 (j := 0) rfl rfl ?_
          refine g_getR hC fr_5_0 h_b (b := b + 1) rfl dX5_sortAt_26 flX5_9 ?_
          refine g_iload_n hC dX5_sortAt_29 (j := 1) rfl rfl ?_
          refine g_ialdV hC (gx_5_0 hG h_b) (gl_5_0 hG h_b) dX5_sortAt_30 (fun t6 => ?_)
          refine g_bipush hC dX5_sortAt_31 bc_122 ?_
          refine g_icmp_gt hC dX5_sortAt_33 ?_ ?_
          · exact hJ ()
          · refine g_iconst hC dX5_sortAt_36 ic_1 ?_
            exact g_iret_i hC hT dX5_sortAt_37
    · refine g_iconst hC dX5_sortAt_12 ic_0 ?_
      exact g_iret_i hC hT dX5_sortAt_13
def lX5_placeInWords_6 (V : V2) (b : Nat) : Nat → Int32 → Int32 → Int32 → (Unit → Option (Int32)) → Option (Int32)
  | 0, _, _, _, _ => none
  | f1 + 1, x2, x3, x4, K =>
    if (94 : Int32) < x4 then (K ())
    else (letv (fun (u6 : Unit) => (if x3 = ((V b 3) - (V b 2)) then (some x2)
    else (letv (x2 + 1) fun x7 =>
    letv (x4 + 1) fun x8 =>
    lX5_placeInWords_6 V b f1 x7 0 x8 K))) fun j5 =>
    if x4 = (94 : Int32) then (j5 ())
    else ((ldI 94 (fun j => wrdT.getD j 0) x4).bind fun t9 =>
    if t9 = (32 : Int32) then (j5 ())
    else (if x3 < 0 then (letv (x4 + 1) fun x10 =>
    lX5_placeInWords_6 V b f1 x2 (-1) x10 K)
    else (if (V b 3) ≤ ((V b 2) + x3) then (letv (x4 + 1) fun x11 =>
    lX5_placeInWords_6 V b f1 x2 (-1) x11 K)
    else ((ldI 200 (V (b + 1)) ((V b 2) + x3)).bind fun t12 =>
    (ldI 94 (fun j => wrdT.getD j 0) x4).bind fun t13 =>
    if t12 = t13 then (letv (x3 + 1) fun x14 =>
    letv (x4 + 1) fun x15 =>
    lX5_placeInWords_6 V b f1 x2 x14 x15 K)
    else (letv (x4 + 1) fun x16 =>
    lX5_placeInWords_6 V b f1 x2 (-1) x16 K))))))
def pX5_placeInWords (n : Nat) (V : V2) (b : Nat) : Option (Int32) :=
  lX5_placeInWords_6 V b n 0 0 0 (fun _ =>
  some (-1))
set_option maxHeartbeats 4000000 in
set_option maxRecDepth 100000 in
theorem wX5_placeInWords_6 {C : Cx} (hC : CxOK C cX5_placeInWords RX5 (some .int)) (hL : C.2.2.2.2 = 4) {G : G2} {V : V2} {R : R2} {b : Nat} (hG : GX G) (h_b : own G b 15) (hR : C.1.2.2.2.1 = rmN 5 0 0) {o : Int32} (hT : C.2.1 = (some (.int o), V, R, G, 0, 0)) {K : Unit → Option (Int32)} (hX : ∀ (_ : Unit), K () = some o → Go C 109 [] [] V R G 0 0) : ∀ (f : Nat) (x2 : Int32) (x3 : Int32) (x4 : Int32), lX5_placeInWords_6 V b f x2 x3 x4 K = some o → Go C 6 [(0, .ref b), (1, .int x2), (2, .int x3), (3, .int x4)] [] V R G 0 0 := by
  intro f
  induction f with
  | zero => intro _ _ _ hf; exact absurd hf (by unfold lX5_placeInWords_6; exact fun z => nomatch z)
  | succ f1 ih =>
    intro x2 x3 x4
    unfold lX5_placeInWords_6
    refine g_iload_n hC dX5_placeInWords_6 (j := 3) rfl rfl ?_
    refine g_ldS hC dX5_placeInWords_7 rfl ?_
    refine g_slen hC hR (Nat.le_of_ble_eq_true rfl) ⟨Nat.le_refl _, Nat.le_refl _⟩ mlX5_61 (st := [.int x4]) (Nat.le_of_ble_eq_true rfl) dX5_placeInWords_9 ?_
    refine g_icmp_gt hC dX5_placeInWords_12 ?_ ?_
    · refine g_sub [] rfl ?_
      exact hX ()
    · refine g_iload_n hC dX5_placeInWords_15 (j := 3) rfl rfl ?_
      refine g_ldS hC dX5_placeInWords_16 rfl ?_
      refine g_slen hC hR (Nat.le_of_ble_eq_true rfl) ⟨Nat.le_refl _, Nat.le_refl _⟩ mlX5_61 (st := [.int x4]) (Nat.le_of_ble_eq_true rfl) dX5_placeInWords_18 ?_
      refine g_jn (J := fun j5 => ∀ (u6 : Unit), j5 u6 = some o → Go C 35 [(0, .ref b), (1, .int x2), (2, .int x3), (3, .int x4)] [] V R G 0 0) (fun u6 => ?_) (fun j5 hJ => ?_)
      · refine g_iload_n hC dX5_placeInWords_35 (j := 2) rfl rfl ?_
        refine g_aload_n hC dX5_placeInWords_36 (j := 0) rfl rfl ?_
        refine g_getI hC fi_5_3 h_b dX5_placeInWords_37 flX5_22 ?_
        refine g_aload_n hC dX5_placeInWords_40 (j := 0) rfl rfl ?_
        refine g_getI hC fi_5_2 h_b dX5_placeInWords_41 flX5_19 ?_
        refine g_isub hC dX5_placeInWords_44 ?_
        refine g_icmp_ne hC dX5_placeInWords_45 ?_ ?_
        · refine g_iload_n hC dX5_placeInWords_48 (j := 1) rfl rfl ?_
          exact g_iret_i hC hT dX5_placeInWords_49
        · refine g_iincL hC (n0 := 4) (j := 1) (lv' := fun x7 => [(1, .int x7), (0, .ref b), (2, .int x3), (3, .int x4)]) dX5_placeInWords_50 rfl ic_1 (Nat.le_of_ble_eq_true rfl) hL (fun _ => rfl) (fun x7 => ?_)
          refine g_iconst hC dX5_placeInWords_53 ic_0 ?_
          refine g_istore_n hC (n0 := 4) (lv' := [(2, .int 0), (1, .int x7), (0, .ref b), (3, .int x4)]) dX5_placeInWords_54 rfl (Nat.le_of_ble_eq_true rfl) hL rfl ?_
          refine g_goto hC dX5_placeInWords_55 ?_
          refine g_iincL hC (n0 := 4) (j := 3) (lv' := fun x8 => [(3, .int x8), (2, .int 0), (1, .int x7), (0, .ref b)]) dX5_placeInWords_103 rfl ic_1 (Nat.le_of_ble_eq_true rfl) hL (fun _ => rfl) (fun x8 => ?_)
          refine g_goto hC dX5_placeInWords_106 ?_
          refine g_sub [3, 2, 1, 0] rfl ?_
          exact ih x7 0 x8
      · refine g_icmp_eq hC dX5_placeInWords_21 ?_ ?_
        · exact hJ ()
        · refine g_ldS hC dX5_placeInWords_24 rfl ?_
          refine g_iload_n hC dX5_placeInWords_26 (j := 3) rfl rfl ?_
          refine g_schr hC hR (Nat.le_of_ble_eq_true rfl) ⟨Nat.le_refl _, Nat.le_refl _⟩ mlX5_66 (st := []) (Nat.le_of_ble_eq_true rfl) dX5_placeInWords_27 (fun t9 => ?_)
          refine g_bipush hC dX5_placeInWords_30 bc_32 ?_
          refine g_icmp_ne hC dX5_placeInWords_32 ?_ ?_
          · exact hJ ()
          · refine g_iload_n hC dX5_placeInWords_58 (j := 2) rfl rfl ?_
            refine g_if_lt hC dX5_placeInWords_59 ?_ ?_
            · refine g_iconst hC dX5_placeInWords_101 ic_m1 ?_
              refine g_istore_n hC (n0 := 4) (lv' := [(2, .int (-1)), (0, .ref b), (1, .int x2), (3, .int x4)]) dX5_placeInWords_102 rfl (Nat.le_of_ble_eq_true rfl) hL rfl ?_
              refine g_iincL hC (n0 := 4) (j := 3) (lv' := fun x10 => [(3, .int x10), (2, .int (-1)), (0, .ref b), (1, .int x2)]) dX5_placeInWords_103 rfl ic_1 (Nat.le_of_ble_eq_true rfl) hL (fun _ => rfl) (fun x10 => ?_)
              refine g_goto hC dX5_placeInWords_106 ?_
              refine g_sub [2, 3, 1, 0] rfl ?_
              exact ih x2 (-1) x10
            · refine g_aload_n hC dX5_placeInWords_62 (j := 0) rfl rfl ?_
              refine g_getI hC fi_5_2 h_b dX5_placeInWords_63 flX5_19 ?_
              refine g_iload_n hC dX5_placeInWords_66 (j := 2) rfl rfl ?_
              refine g_iadd hC dX5_placeInWords_67 ?_
              refine g_aload_n hC dX5_placeInWords_68 (j := 0) rfl rfl ?_
              refine g_getI hC fi_5_3 h_b dX5_placeInWords_69 flX5_22 ?_
              refine g_icmp_ge hC dX5_placeInWords_72 ?_ ?_
              · refine g_iconst hC dX5_placeInWords_101 ic_m1 ?_
                refine g_istore_n hC (n0 := 4) (lv' := [(2, .int (-1)), (0, .ref b), (1, .int x2), (3, .int x4)]) dX5_placeInWords_102 rfl (Nat.le_of_ble_eq_true rfl) hL rfl ?_
                refine g_iincL hC (n0 := 4) (j := 3) (lv' := fun x11 => [(3, .int x11), (2, .int (-1)), (0, .ref b), (1, .int x2)]) dX5_placeInWords_103 rfl ic_1 (Nat.le_of_ble_eq_true rfl) hL (fun _ => rfl) (fun x11 => ?_)
                refine g_goto hC dX5_placeInWords_106 ?_
                refine g_sub [2, 3, 1, 0] rfl ?_
                exact ih x2 (-1) x11
              · refine g_aload_n hC dX5_placeInWords_75 (j := 0) rfl rfl ?_
                refine g_getR hC fr_5_0 h_b (b := b + 1) rfl dX5_placeInWords_76 flX5_9 ?_
                refine g_aload_n hC dX5_placeInWords_79 (j := 0) rfl rfl ?_
                refine g_getI hC fi_5_2 h_b dX5_placeInWords_80 flX5_19 ?_
                refine g_iload_n hC dX5_placeInWords_83 (j := 2) rfl rfl ?_
                refine g_iadd hC dX5_placeInWords_84 ?_
                refine g_ialdV hC (gx_5_0 hG h_b) (gl_5_0 hG h_b) dX5_placeInWords_85 (fun t12 => ?_)
                refine g_ldS hC dX5_placeInWords_86 rfl ?_
                refine g_iload_n hC dX5_placeInWords_88 (j := 3) rfl rfl ?_
                refine g_schr hC hR (Nat.le_of_ble_eq_true rfl) ⟨Nat.le_refl _, Nat.le_refl _⟩ mlX5_66 (st := [.int t12]) (Nat.le_of_ble_eq_true rfl) dX5_placeInWords_89 (fun t13 => ?_)
                refine g_icmp_ne hC dX5_placeInWords_92 ?_ ?_
                · refine g_iincL hC (n0 := 4) (j := 2) (lv' := fun x14 => [(2, .int x14), (0, .ref b), (1, .int x2), (3, .int x4)]) dX5_placeInWords_95 rfl ic_1 (Nat.le_of_ble_eq_true rfl) hL (fun _ => rfl) (fun x14 => ?_)
                  refine g_goto hC dX5_placeInWords_98 ?_
                  refine g_iincL hC (n0 := 4) (j := 3) (lv' := fun x15 => [(3, .int x15), (2, .int x14), (0, .ref b), (1, .int x2)]) dX5_placeInWords_103 rfl ic_1 (Nat.le_of_ble_eq_true rfl) hL (fun _ => rfl) (fun x15 => ?_)
                  refine g_goto hC dX5_placeInWords_106 ?_
                  refine g_sub [2, 3, 1, 0] rfl ?_
                  exact ih x2 x14 x15
                · refine g_iconst hC dX5_placeInWords_101 ic_m1 ?_
                  refine g_istore_n hC (n0 := 4) (lv' := [(2, .int (-1)), (0, .ref b), (1, .int x2), (3, .int x4)]) dX5_placeInWords_102 rfl (Nat.le_of_ble_eq_true rfl) hL rfl ?_
                  refine g_iincL hC (n0 := 4) (j := 3) (lv' := fun x16 => [(3, .int x16), (2, .int (-1)), (0, .ref b), (1, .int x2)]) dX5_placeInWords_103 rfl ic_1 (Nat.le_of_ble_eq_true rfl) hL (fun _ => rfl) (fun x16 => ?_)
                  refine g_goto hC dX5_placeInWords_106 ?_
                  refine g_sub [2, 3, 1, 0] rfl ?_
                  exact ih x2 (-1) x16
set_option maxHeartbeats 4000000 in
set_option maxRecDepth 100000 in
theorem kX5_placeInWords {l : Launch} {D : Dx} {G : G2} {V : V2} {R : R2} {n : Nat} {b : Nat} (hG : GX G) (h_b : own G b 15) {o : Int32} (hf : pX5_placeInWords n V b = some o) : Con l yX5_placeInWords cX5_placeInWords 4 (some .int) (rmN 5 0 0) D G V R [.ref b] (some (.int o), V, R, G, 0, 0) := by
  refine Con.mk RX5 (by decide) rfl (Nat.le_of_ble_eq_true rfl) (fun C _ hR hT _ _ hL hC hnm => ?_)
  revert hf
  unfold pX5_placeInWords
  refine g_iconst hC dX5_placeInWords_0 ic_0 ?_
  refine g_istore_n hC (n0 := 4) (lv' := [(1, .int 0), (0, .ref b)]) dX5_placeInWords_1 rfl (Nat.le_of_ble_eq_true rfl) hL rfl ?_
  refine g_iconst hC dX5_placeInWords_2 ic_0 ?_
  refine g_istore_n hC (n0 := 4) (lv' := [(2, .int 0), (1, .int 0), (0, .ref b)]) dX5_placeInWords_3 rfl (Nat.le_of_ble_eq_true rfl) hL rfl ?_
  refine g_iconst hC dX5_placeInWords_4 ic_0 ?_
  refine g_istore_n hC (n0 := 4) (lv' := [(3, .int 0), (2, .int 0), (1, .int 0), (0, .ref b)]) dX5_placeInWords_5 rfl (Nat.le_of_ble_eq_true rfl) hL rfl ?_
  refine g_sub [3, 2, 1, 0] rfl ?_
  refine wX5_placeInWords_6 hC hL hG h_b hR hT (fun _ => ?_) n 0 0 0
  refine g_iconst hC dX5_placeInWords_109 ic_m1 ?_
  exact g_iret_i hC hT dX5_placeInWords_110
def lX5_goOn_8 (b : Nat) : Nat → V2 → Option (V2)
  | 0, _ => none
  | f2 + 1, U3 =>
    if (U3 b 1) ≤ (U3 b 2) then (some U3)
    else ((ldI 200 (U3 (b + 1)) (U3 b 2)).bind fun t4 =>
    if t4 = (32 : Int32) then (letv (up2 U3 b 2 ((U3 b 2) + 1)) fun U5 =>
    lX5_goOn_8 b f2 U5)
    else (some U3))
def lX5_goOn_82 (b : Nat) : Nat → V2 → Option (V2)
  | 0, _ => none
  | f11 + 1, U12 =>
    if (U12 b 4) = (3 : Int32) then (some U12)
    else (if (U12 b 1) ≤ (U12 b 3) then (some U12)
    else ((pX5_sortAt U12 b (U12 b 3)).bind fun q13 =>
    if q13 = (U12 b 4) then (letv (up2 U12 b 3 ((U12 b 3) + 1)) fun U14 =>
    lX5_goOn_82 b f11 U14)
    else (some U12)))
def pX5_goOn (n : Nat) (V : V2) (b : Nat) : Option (V2) :=
  letv (up2 V b 2 (V b 3)) fun U1 =>
  (lX5_goOn_8 b n U1).bind fun w6 =>
  (pX5_sortAt w6 b (w6 b 2)).bind fun q7 =>
  letv (up2 w6 b 4 q7) fun U8 =>
  letv ((if (U8 b 4) = 0 then (U8 b 2)
  else ((U8 b 2) + 1) : Int32)) fun j9 =>
  letv (up2 U8 b 3 j9) fun U10 =>
  (lX5_goOn_82 b n U10).bind fun w15 =>
  ((if (w15 b 4) = (1 : Int32) then ((pX5_placeInWords n w15 b).bind fun q17 =>
  some q17)
  else (some (-1)) : Option (Int32))).bind fun j16 =>
  letv (up2 w15 b 5 j16) fun U18 =>
  some U18
set_option maxHeartbeats 4000000 in
set_option maxRecDepth 100000 in
theorem wX5_goOn_8 {C : Cx} (hC : CxOK C cX5_goOn RX5 none) (hL : C.2.2.2.2 = 1) {G : G2} {R : R2} {b : Nat} (hG : GX G) (h_b : own G b 15) {o : V2} (hX : Go C 46 [(0, .ref b)] [] o R G 0 0) : ∀ (f : Nat) (U3 : V2), lX5_goOn_8 b f U3 = some o → Go C 8 [(0, .ref b)] [] U3 R G 0 0 := by
  intro f
  induction f with
  | zero => intro _ hf; exact absurd hf (by unfold lX5_goOn_8; exact fun z => nomatch z)
  | succ f2 ih =>
    intro U3
    unfold lX5_goOn_8
    refine g_aload_n hC dX5_goOn_8 (j := 0) rfl rfl ?_
    refine g_getI hC fi_5_2 h_b dX5_goOn_9 flX5_19 ?_
    refine g_aload_n hC dX5_goOn_12 (j := 0) rfl rfl ?_
    refine g_getI hC fi_5_1 h_b dX5_goOn_13 flX5_15 ?_
    refine g_icmp_ge hC dX5_goOn_16 ?_ ?_
    · exact fun e => by cases e; exact hX
    · refine g_aload_n hC dX5_goOn_19 (j := 0) rfl rfl ?_
      refine g_getR hC fr_5_0 h_b (b := b + 1) rfl dX5_goOn_20 flX5_9 ?_
      refine g_aload_n hC dX5_goOn_23 (j := 0) rfl rfl ?_
      refine g_getI hC fi_5_2 h_b dX5_goOn_24 flX5_19 ?_
      refine g_ialdV hC (gx_5_0 hG h_b) (gl_5_0 hG h_b) dX5_goOn_27 (fun t4 => ?_)
      refine g_bipush hC dX5_goOn_28 bc_32 ?_
      refine g_icmp_ne hC dX5_goOn_30 ?_ ?_
      · refine g_aload_n hC dX5_goOn_33 (j := 0) rfl rfl ?_
        refine g_dup hC dX5_goOn_34 rfl ?_
        refine g_getI hC fi_5_2 h_b dX5_goOn_35 flX5_19 ?_
        refine g_iconst hC dX5_goOn_38 ic_1 ?_
        refine g_iadd hC dX5_goOn_39 ?_
        refine g_putIL hC fp_5_2 h_b dX5_goOn_40 flX5_19 (fun U5 => ?_)
        refine g_goto hC dX5_goOn_43 ?_
        exact ih U5
      · exact fun e => by cases e; exact hX
set_option maxHeartbeats 4000000 in
set_option maxRecDepth 100000 in
theorem wX5_goOn_82 {C : Cx} (hC : CxOK C cX5_goOn RX5 none) (hL : C.2.2.2.2 = 1) {G : G2} {R : R2} {b : Nat} (hG : GX G) (h_b : own G b 15) (hR : C.1.2.2.2.1 = rmN 6 0 0) {o : V2} (hX : Go C 129 [(0, .ref b)] [] o R G 0 0) : ∀ (f : Nat) (U12 : V2), lX5_goOn_82 b f U12 = some o → Go C 82 [(0, .ref b)] [] U12 R G 0 0 := by
  intro f
  induction f with
  | zero => intro _ hf; exact absurd hf (by unfold lX5_goOn_82; exact fun z => nomatch z)
  | succ f11 ih =>
    intro U12
    unfold lX5_goOn_82
    refine g_aload_n hC dX5_goOn_82 (j := 0) rfl rfl ?_
    refine g_getI hC fi_5_4 h_b dX5_goOn_83 flX5_25 ?_
    refine g_iconst hC dX5_goOn_86 ic_3 ?_
    refine g_icmp_eq hC dX5_goOn_87 ?_ ?_
    · exact fun e => by cases e; exact hX
    · refine g_aload_n hC dX5_goOn_90 (j := 0) rfl rfl ?_
      refine g_getI hC fi_5_3 h_b dX5_goOn_91 flX5_22 ?_
      refine g_aload_n hC dX5_goOn_94 (j := 0) rfl rfl ?_
      refine g_getI hC fi_5_1 h_b dX5_goOn_95 flX5_15 ?_
      refine g_icmp_ge hC dX5_goOn_98 ?_ ?_
      · exact fun e => by cases e; exact hX
      · refine g_aload_n hC dX5_goOn_101 (j := 0) rfl rfl ?_
        refine g_aload_n hC dX5_goOn_102 (j := 0) rfl rfl ?_
        refine g_getI hC fi_5_3 h_b dX5_goOn_103 flX5_22 ?_
        refine g_callV_i hC hR ⟨Nat.zero_le _, Nat.zero_le _⟩ mwX5_sortAt miX5_sortAt (ci := 5) rfl h_b (Nat.le_of_ble_eq_true rfl) mlX5_51 (fun _ hq => kX5_sortAt hG h_b hq) (Nat.le_of_ble_eq_true rfl) rfl (st := []) rfl (Nat.le_of_ble_eq_true rfl) dX5_goOn_106 (fun q13 => ?_)
        refine g_aload_n hC dX5_goOn_109 (j := 0) rfl rfl ?_
        refine g_getI hC fi_5_4 h_b dX5_goOn_110 flX5_25 ?_
        refine g_icmp_ne hC dX5_goOn_113 ?_ ?_
        · refine g_aload_n hC dX5_goOn_116 (j := 0) rfl rfl ?_
          refine g_dup hC dX5_goOn_117 rfl ?_
          refine g_getI hC fi_5_3 h_b dX5_goOn_118 flX5_22 ?_
          refine g_iconst hC dX5_goOn_121 ic_1 ?_
          refine g_iadd hC dX5_goOn_122 ?_
          refine g_putIL hC fp_5_3 h_b dX5_goOn_123 flX5_22 (fun U14 => ?_)
          refine g_goto hC dX5_goOn_126 ?_
          exact ih U14
        · exact fun e => by cases e; exact hX
set_option maxHeartbeats 4000000 in
set_option maxRecDepth 100000 in
theorem kX5_goOn {l : Launch} {D : Dx} {G : G2} {V : V2} {R : R2} {n : Nat} {b : Nat} (hG : GX G) (h_b : own G b 15) {o : V2} (hf : pX5_goOn n V b = some o) : Con l yX5_goOn cX5_goOn 1 none (rmN 6 0 0) D G V R [.ref b] (none, o, R, G, 0, 0) := by
  refine Con.mk RX5 (by decide) rfl (Nat.le_of_ble_eq_true rfl) (fun C _ hR hT _ _ hL hC hnm => ?_)
  revert hf
  unfold pX5_goOn
  refine g_aload_n hC dX5_goOn_0 (j := 0) rfl rfl ?_
  refine g_aload_n hC dX5_goOn_1 (j := 0) rfl rfl ?_
  refine g_getI hC fi_5_3 h_b dX5_goOn_2 flX5_22 ?_
  refine g_putIL hC fp_5_2 h_b dX5_goOn_5 flX5_19 (fun U1 => ?_)
  refine g_bind (J := fun w6 => Go C 46 [(0, .ref b)] [] w6 R G 0 0) (fun w6 hJ => wX5_goOn_8 hC hL hG h_b hJ n U1) (fun w6 => ?_)
  refine g_aload_n hC dX5_goOn_46 (j := 0) rfl rfl ?_
  refine g_aload_n hC dX5_goOn_47 (j := 0) rfl rfl ?_
  refine g_aload_n hC dX5_goOn_48 (j := 0) rfl rfl ?_
  refine g_getI hC fi_5_2 h_b dX5_goOn_49 flX5_19 ?_
  refine g_callV_i hC hR ⟨Nat.zero_le _, Nat.zero_le _⟩ mwX5_sortAt miX5_sortAt (ci := 5) rfl h_b (Nat.le_of_ble_eq_true rfl) mlX5_51 (fun _ hq => kX5_sortAt hG h_b hq) (Nat.le_of_ble_eq_true rfl) rfl (st := [.ref b]) rfl (Nat.le_of_ble_eq_true rfl) dX5_goOn_52 (fun q7 => ?_)
  refine g_putIL hC fp_5_4 h_b dX5_goOn_55 flX5_25 (fun U8 => ?_)
  refine g_aload_n hC dX5_goOn_58 (j := 0) rfl rfl ?_
  refine g_aload_n hC dX5_goOn_59 (j := 0) rfl rfl ?_
  refine g_getI hC fi_5_4 h_b dX5_goOn_60 flX5_25 ?_
  refine g_letJ (J := fun j9 => Go C 79 [(0, .ref b)] [.int j9, .ref b] U8 R G 0 0) (fun j9 hJ => ?_) (fun j9 => ?_)
  · refine g_if_ne hC dX5_goOn_63 ?_ ?_
    · refine g_aload_n hC dX5_goOn_66 (j := 0) rfl rfl ?_
      refine g_getI hC fi_5_2 h_b dX5_goOn_67 flX5_19 ?_
      refine g_goto hC dX5_goOn_70 ?_
      exact fun e => by cases e; exact hJ
    · refine g_aload_n hC dX5_goOn_73 (j := 0) rfl rfl ?_
      refine g_getI hC fi_5_2 h_b dX5_goOn_74 flX5_19 ?_
      refine g_iconst hC dX5_goOn_77 ic_1 ?_
      refine g_iadd hC dX5_goOn_78 ?_
      exact fun e => by cases e; exact hJ
  · refine g_putIL hC fp_5_3 h_b dX5_goOn_79 flX5_22 (fun U10 => ?_)
    refine g_bind (J := fun w15 => Go C 129 [(0, .ref b)] [] w15 R G 0 0) (fun w15 hJ => wX5_goOn_82 hC hL hG h_b hR hJ n U10) (fun w15 => ?_)
    refine g_aload_n hC dX5_goOn_129 (j := 0) rfl rfl ?_
    refine g_aload_n hC dX5_goOn_130 (j := 0) rfl rfl ?_
    refine g_getI hC fi_5_4 h_b dX5_goOn_131 flX5_25 ?_
    refine g_iconst hC dX5_goOn_134 ic_1 ?_
    refine g_bind (J := fun j16 => Go C 146 [] [.int j16, .ref b] w15 R G 0 0) (fun j16 hJ => ?_) (fun j16 => ?_)
    · refine g_icmp_ne hC dX5_goOn_135 ?_ ?_
      · refine g_aload_n hC dX5_goOn_138 (j := 0) rfl rfl ?_
        refine g_callV_i hC hR ⟨Nat.zero_le _, Nat.zero_le _⟩ mwX5_placeInWords miX5_placeInWords (ci := 5) rfl h_b (Nat.le_of_ble_eq_true rfl) mlX5_55 (fun _ hq => kX5_placeInWords hG h_b hq) (Nat.le_of_ble_eq_true rfl) rfl (st := [.ref b]) rfl (Nat.le_of_ble_eq_true rfl) dX5_goOn_139 (fun q17 => ?_)
        refine g_goto hC dX5_goOn_142 ?_
        refine g_sub [] rfl ?_
        exact fun e => by cases e; exact hJ
      · refine g_iconst hC dX5_goOn_145 ic_m1 ?_
        refine g_sub [] rfl ?_
        exact fun e => by cases e; exact hJ
    · refine g_putIL hC fp_5_5 h_b dX5_goOn_146 flX5_28 (fun U18 => ?_)
      exact g_vret_vV hC hT dX5_goOn_149
def pX5_begin (n : Nat) (V : V2) (b : Nat) : Option (V2) :=
  letv (up2 V b 9 0) fun U1 =>
  letv (up2 U1 b 3 0) fun U2 =>
  (pX5_goOn n U2 b).bind fun q3 =>
  some q3
set_option maxHeartbeats 4000000 in
set_option maxRecDepth 100000 in
theorem kX5_begin {l : Launch} {D : Dx} {G : G2} {V : V2} {R : R2} {n : Nat} {b : Nat} (hG : GX G) (h_b : own G b 15) {o : V2} (hf : pX5_begin n V b = some o) : Con l yX5_begin cX5_begin 1 none (rmN 7 0 0) D G V R [.ref b] (none, o, R, G, 0, 0) := by
  refine Con.mk RX5 (by decide) rfl (Nat.le_of_ble_eq_true rfl) (fun C _ hR hT _ _ hL hC hnm => ?_)
  revert hf
  unfold pX5_begin
  refine g_aload_n hC dX5_begin_0 (j := 0) rfl rfl ?_
  refine g_iconst hC dX5_begin_1 ic_0 ?_
  refine g_putIL hC fp_5_9 h_b dX5_begin_2 flX5_43 (fun U1 => ?_)
  refine g_aload_n hC dX5_begin_5 (j := 0) rfl rfl ?_
  refine g_iconst hC dX5_begin_6 ic_0 ?_
  refine g_putIL hC fp_5_3 h_b dX5_begin_7 flX5_22 (fun U2 => ?_)
  refine g_aload_n hC dX5_begin_10 (j := 0) rfl rfl ?_
  refine g_callV_vV hC hR ⟨Nat.zero_le _, Nat.zero_le _⟩ mwX5_goOn miX5_goOn (ci := 5) rfl h_b (Nat.le_of_ble_eq_true rfl) mlX5_48 (fun _ hq => kX5_goOn hG h_b hq) (Nat.le_of_ble_eq_true rfl) rfl (st := []) rfl (Nat.le_of_ble_eq_true rfl) dX5_begin_11 (fun q3 => ?_)
  exact g_vret_vV hC hT dX5_begin_14
def pX5_useUp (V : V2) (b : Nat) : Option (V2) :=
  letv (up2 V b 1 0) fun U1 =>
  some U1
set_option maxHeartbeats 4000000 in
set_option maxRecDepth 100000 in
theorem kX5_useUp {l : Launch} {D : Dx} {G : G2} {V : V2} {R : R2} {b : Nat} (hG : GX G) (h_b : own G b 15) {o : V2} (hf : pX5_useUp V b = some o) : Con l yX5_useUp cX5_useUp 1 none (rmN 0 0 0) D G V R [.ref b] (none, o, R, G, 0, 0) := by
  refine Con.mk RX5 (by decide) rfl (Nat.le_of_ble_eq_true rfl) (fun C _ hR hT _ _ hL hC hnm => ?_)
  revert hf
  unfold pX5_useUp
  refine g_aload_n hC dX5_useUp_0 (j := 0) rfl rfl ?_
  refine g_iconst hC dX5_useUp_1 ic_0 ?_
  refine g_putIL hC fp_5_1 h_b dX5_useUp_2 flX5_15 (fun U1 => ?_)
  exact g_vret_vV hC hT dX5_useUp_5
def pX5_isAtEnd (V : V2) (b : Nat) : Option (Int32) :=
  if (V b 4) = 0 then (some 1)
  else (some 0)
set_option maxHeartbeats 4000000 in
set_option maxRecDepth 100000 in
theorem kX5_isAtEnd {l : Launch} {D : Dx} {G : G2} {V : V2} {R : R2} {b : Nat} (hG : GX G) (h_b : own G b 15) {o : Int32} (hf : pX5_isAtEnd V b = some o) : Con l yX5_isAtEnd cX5_isAtEnd 1 (some .boolean) (rmN 0 0 0) D G V R [.ref b] (some (.int o), V, R, G, 0, 0) := by
  refine Con.mk RX5 (by decide) rfl (Nat.le_of_ble_eq_true rfl) (fun C _ hR hT _ _ hL hC hnm => ?_)
  revert hf
  unfold pX5_isAtEnd
  refine g_aload_n hC dX5_isAtEnd_0 (j := 0) rfl rfl ?_
  refine g_getI hC fi_5_4 h_b dX5_isAtEnd_1 flX5_25 ?_
  refine g_if_ne hC dX5_isAtEnd_4 ?_ ?_
  · refine g_iconst hC dX5_isAtEnd_7 ic_1 ?_
    refine g_goto hC dX5_isAtEnd_8 ?_
    exact g_zret_i hC rfl hT dX5_isAtEnd_12
  · refine g_iconst hC dX5_isAtEnd_11 ic_0 ?_
    exact g_zret_i hC rfl hT dX5_isAtEnd_12
def pX5_place (V : V2) (b : Nat) : Option (Int32) :=
  some (V b 2)
set_option maxHeartbeats 4000000 in
set_option maxRecDepth 100000 in
theorem kX5_place {l : Launch} {D : Dx} {G : G2} {V : V2} {R : R2} {b : Nat} (hG : GX G) (h_b : own G b 15) {o : Int32} (hf : pX5_place V b = some o) : Con l yX5_place cX5_place 1 (some .int) (rmN 0 0 0) D G V R [.ref b] (some (.int o), V, R, G, 0, 0) := by
  refine Con.mk RX5 (by decide) rfl (Nat.le_of_ble_eq_true rfl) (fun C _ hR hT _ _ hL hC hnm => ?_)
  revert hf
  unfold pX5_place
  refine g_aload_n hC dX5_place_0 (j := 0) rfl rfl ?_
  refine g_getI hC fi_5_2 h_b dX5_place_1 flX5_19 ?_
  exact g_iret_i hC hT dX5_place_4
def pX5_isWord (V : V2) (b : Nat) (a1 : Int32) (a2 : Int32) : Option (Int32) :=
  if (V b 5) < a1 then (some 0)
  else (if a2 < (V b 5) then (some 0)
  else (some 1))
set_option maxHeartbeats 4000000 in
set_option maxRecDepth 100000 in
theorem kX5_isWord {l : Launch} {D : Dx} {G : G2} {V : V2} {R : R2} {b : Nat} {a1 : Int32} {a2 : Int32} (hG : GX G) (h_b : own G b 15) {o : Int32} (hf : pX5_isWord V b a1 a2 = some o) : Con l yX5_isWord cX5_isWord 3 (some .boolean) (rmN 0 0 0) D G V R [.ref b, .int a1, .int a2] (some (.int o), V, R, G, 0, 0) := by
  refine Con.mk RX5 (by decide) rfl (Nat.le_of_ble_eq_true rfl) (fun C _ hR hT _ _ hL hC hnm => ?_)
  revert hf
  unfold pX5_isWord
  refine g_aload_n hC dX5_isWord_0 (j := 0) rfl rfl ?_
  refine g_getI hC fi_5_5 h_b dX5_isWord_1 flX5_28 ?_
  refine g_iload_n hC dX5_isWord_4 (j := 1) rfl rfl ?_
  refine g_icmp_lt hC dX5_isWord_5 ?_ ?_
  · refine g_iconst hC dX5_isWord_20 ic_0 ?_
    exact g_zret_i hC rfl hT dX5_isWord_21
  · refine g_aload_n hC dX5_isWord_8 (j := 0) rfl rfl ?_
    refine g_getI hC fi_5_5 h_b dX5_isWord_9 flX5_28 ?_
    refine g_iload_n hC dX5_isWord_12 (j := 2) rfl rfl ?_
    refine g_icmp_gt hC dX5_isWord_13 ?_ ?_
    · refine g_iconst hC dX5_isWord_20 ic_0 ?_
      exact g_zret_i hC rfl hT dX5_isWord_21
    · refine g_iconst hC dX5_isWord_16 ic_1 ?_
      refine g_goto hC dX5_isWord_17 ?_
      exact g_zret_i hC rfl hT dX5_isWord_21
def pX5_isSign (V : V2) (b : Nat) (a1 : Int32) : Option (Int32) :=
  if (V b 4) = (3 : Int32) then ((ldI 200 (V (b + 1)) (V b 2)).bind fun t1 =>
  if t1 = a1 then (some 1)
  else (some 0))
  else (some 0)
set_option maxHeartbeats 4000000 in
set_option maxRecDepth 100000 in
theorem kX5_isSign {l : Launch} {D : Dx} {G : G2} {V : V2} {R : R2} {b : Nat} {a1 : Int32} (hG : GX G) (h_b : own G b 15) {o : Int32} (hf : pX5_isSign V b a1 = some o) : Con l yX5_isSign cX5_isSign 2 (some .boolean) (rmN 0 0 0) D G V R [.ref b, .int a1] (some (.int o), V, R, G, 0, 0) := by
  refine Con.mk RX5 (by decide) rfl (Nat.le_of_ble_eq_true rfl) (fun C _ hR hT _ _ hL hC hnm => ?_)
  revert hf
  unfold pX5_isSign
  refine g_aload_n hC dX5_isSign_0 (j := 0) rfl rfl ?_
  refine g_getI hC fi_5_4 h_b dX5_isSign_1 flX5_25 ?_
  refine g_iconst hC dX5_isSign_4 ic_3 ?_
  refine g_icmp_ne hC dX5_isSign_5 ?_ ?_
  · refine g_aload_n hC dX5_isSign_8 (j := 0) rfl rfl ?_
    refine g_getR hC fr_5_0 h_b (b := b + 1) rfl dX5_isSign_9 flX5_9 ?_
    refine g_aload_n hC dX5_isSign_12 (j := 0) rfl rfl ?_
    refine g_getI hC fi_5_2 h_b dX5_isSign_13 flX5_19 ?_
    refine g_ialdV hC (gx_5_0 hG h_b) (gl_5_0 hG h_b) dX5_isSign_16 (fun t1 => ?_)
    refine g_iload_n hC dX5_isSign_17 (j := 1) rfl rfl ?_
    refine g_icmp_ne hC dX5_isSign_18 ?_ ?_
    · refine g_iconst hC dX5_isSign_21 ic_1 ?_
      refine g_goto hC dX5_isSign_22 ?_
      exact g_zret_i hC rfl hT dX5_isSign_26
    · refine g_iconst hC dX5_isSign_25 ic_0 ?_
      exact g_zret_i hC rfl hT dX5_isSign_26
  · refine g_iconst hC dX5_isSign_25 ic_0 ?_
    exact g_zret_i hC rfl hT dX5_isSign_26
def lX5_valueHere_53 (V : V2) (b : Nat) : Nat → Int32 → Int32 → Option (Int32)
  | 0, _, _ => none
  | f3 + 1, x4, x5 =>
    if (V b 3) ≤ x5 then (some x4)
    else ((ldI 200 (V (b + 1)) x5).bind fun t6 =>
    letv (((x4 * 10) + t6) - 48) fun x7 =>
    letv (x5 + 1) fun x8 =>
    lX5_valueHere_53 V b f3 x7 x8)
def pX5_valueHere (n : Nat) (V : V2) (b : Nat) : Option (Int32) :=
  (pX5_isWord V b 9 13).bind fun q1 =>
  if q1 = 0 then (if (V b 4) = (2 : Int32) then (if ((V b 3) - (V b 2)) ≤ (4 : Int32) then (letv (V b 2) fun x2 =>
  (lX5_valueHere_53 V b n 0 x2).bind fun w9 =>
  some w9)
  else (some (-1)))
  else (some (-1)))
  else (some ((10000 + (V b 5)) - 9))
set_option maxHeartbeats 4000000 in
set_option maxRecDepth 100000 in
theorem wX5_valueHere_53 {C : Cx} (hC : CxOK C cX5_valueHere RX5 (some .int)) (hL : C.2.2.2.2 = 3) {G : G2} {V : V2} {R : R2} {b : Nat} (hG : GX G) (h_b : own G b 15) {o : Int32} (hX : Go C 82 [(1, .int o)] [] V R G 0 0) : ∀ (f : Nat) (x4 : Int32) (x5 : Int32), lX5_valueHere_53 V b f x4 x5 = some o → Go C 53 [(0, .ref b), (1, .int x4), (2, .int x5)] [] V R G 0 0 := by
  intro f
  induction f with
  | zero => intro _ _ hf; exact absurd hf (by unfold lX5_valueHere_53; exact fun z => nomatch z)
  | succ f3 ih =>
    intro x4 x5
    unfold lX5_valueHere_53
    refine g_iload_n hC dX5_valueHere_53 (j := 2) rfl rfl ?_
    refine g_aload_n hC dX5_valueHere_54 (j := 0) rfl rfl ?_
    refine g_getI hC fi_5_3 h_b dX5_valueHere_55 flX5_22 ?_
    refine g_icmp_ge hC dX5_valueHere_58 ?_ ?_
    · refine g_sub [1] rfl ?_
      exact fun e => by cases e; exact hX
    · refine g_iload_n hC dX5_valueHere_61 (j := 1) rfl rfl ?_
      refine g_bipush hC dX5_valueHere_62 bc_10 ?_
      refine g_imul hC dX5_valueHere_64 ?_
      refine g_aload_n hC dX5_valueHere_65 (j := 0) rfl rfl ?_
      refine g_getR hC fr_5_0 h_b (b := b + 1) rfl dX5_valueHere_66 flX5_9 ?_
      refine g_iload_n hC dX5_valueHere_69 (j := 2) rfl rfl ?_
      refine g_ialdV hC (gx_5_0 hG h_b) (gl_5_0 hG h_b) dX5_valueHere_70 (fun t6 => ?_)
      refine g_iadd hC dX5_valueHere_71 ?_
      refine g_bipush hC dX5_valueHere_72 bc_48 ?_
      refine g_isub hC dX5_valueHere_74 ?_
      refine g_istore_nL hC (n0 := 3) (lv' := fun x7 => [(1, .int x7), (0, .ref b), (2, .int x5)]) dX5_valueHere_75 rfl (Nat.le_of_ble_eq_true rfl) hL (fun _ => rfl) (fun x7 => ?_)
      refine g_iincL hC (n0 := 3) (j := 2) (lv' := fun x8 => [(2, .int x8), (1, .int x7), (0, .ref b)]) dX5_valueHere_76 rfl ic_1 (Nat.le_of_ble_eq_true rfl) hL (fun _ => rfl) (fun x8 => ?_)
      refine g_goto hC dX5_valueHere_79 ?_
      refine g_sub [2, 1, 0] rfl ?_
      exact ih x7 x8
set_option maxHeartbeats 4000000 in
set_option maxRecDepth 100000 in
theorem kX5_valueHere {l : Launch} {D : Dx} {G : G2} {V : V2} {R : R2} {n : Nat} {b : Nat} (hG : GX G) (h_b : own G b 15) {o : Int32} (hf : pX5_valueHere n V b = some o) : Con l yX5_valueHere cX5_valueHere 3 (some .int) (rmN 1 0 0) D G V R [.ref b] (some (.int o), V, R, G, 0, 0) := by
  refine Con.mk RX5 (by decide) rfl (Nat.le_of_ble_eq_true rfl) (fun C _ hR hT _ _ hL hC hnm => ?_)
  revert hf
  unfold pX5_valueHere
  refine g_aload_n hC dX5_valueHere_0 (j := 0) rfl rfl ?_
  refine g_bipush hC dX5_valueHere_1 bc_9 ?_
  refine g_bipush hC dX5_valueHere_3 bc_13 ?_
  refine g_callV_i hC hR ⟨Nat.zero_le _, Nat.zero_le _⟩ mwX5_isWord miX5_isWord (ci := 5) rfl h_b (Nat.le_of_ble_eq_true rfl) mlX5_70 (fun _ hq => kX5_isWord hG h_b hq) (Nat.le_of_ble_eq_true rfl) rfl (st := []) rfl (Nat.le_of_ble_eq_true rfl) dX5_valueHere_5 (fun q1 => ?_)
  refine g_if_eq hC dX5_valueHere_8 ?_ ?_
  · refine g_aload_n hC dX5_valueHere_23 (j := 0) rfl rfl ?_
    refine g_getI hC fi_5_4 h_b dX5_valueHere_24 flX5_25 ?_
    refine g_iconst hC dX5_valueHere_27 ic_2 ?_
    refine g_icmp_ne hC dX5_valueHere_28 ?_ ?_
    · refine g_aload_n hC dX5_valueHere_31 (j := 0) rfl rfl ?_
      refine g_getI hC fi_5_3 h_b dX5_valueHere_32 flX5_22 ?_
      refine g_aload_n hC dX5_valueHere_35 (j := 0) rfl rfl ?_
      refine g_getI hC fi_5_2 h_b dX5_valueHere_36 flX5_19 ?_
      refine g_isub hC dX5_valueHere_39 ?_
      refine g_iconst hC dX5_valueHere_40 ic_4 ?_
      refine g_icmp_le hC dX5_valueHere_41 ?_ ?_
      · refine g_iconst hC dX5_valueHere_46 ic_0 ?_
        refine g_istore_n hC (n0 := 3) (lv' := [(1, .int 0), (0, .ref b)]) dX5_valueHere_47 rfl (Nat.le_of_ble_eq_true rfl) hL rfl ?_
        refine g_aload_n hC dX5_valueHere_48 (j := 1) rfl rfl ?_
        refine g_getI hC fi_5_2 h_b dX5_valueHere_49 flX5_19 ?_
        refine g_istore_nL hC (n0 := 3) (lv' := fun x2 => [(2, .int x2), (1, .int 0), (0, .ref b)]) dX5_valueHere_52 rfl (Nat.le_of_ble_eq_true rfl) hL (fun _ => rfl) (fun x2 => ?_)
        refine g_sub [2, 1, 0] rfl ?_
        refine g_bind (J := fun w9 => Go C 82 [(1, .int w9)] [] V R G 0 0) (fun w9 hJ => wX5_valueHere_53 hC hL hG h_b hJ n 0 x2) (fun w9 => ?_)
        refine g_iload_n hC dX5_valueHere_82 (j := 0) rfl rfl ?_
        exact g_iret_i hC hT dX5_valueHere_83
      · refine g_iconst hC dX5_valueHere_44 ic_m1 ?_
        exact g_iret_i hC hT dX5_valueHere_45
    · refine g_iconst hC dX5_valueHere_44 ic_m1 ?_
      exact g_iret_i hC hT dX5_valueHere_45
  · refine g_sipush hC dX5_valueHere_11 sc_10000 ?_
    refine g_aload_n hC dX5_valueHere_14 (j := 0) rfl rfl ?_
    refine g_getI hC fi_5_5 h_b dX5_valueHere_15 flX5_28 ?_
    refine g_iadd hC dX5_valueHere_18 ?_
    refine g_bipush hC dX5_valueHere_19 bc_9 ?_
    refine g_isub hC dX5_valueHere_21 ?_
    exact g_iret_i hC hT dX5_valueHere_22
def pX5_addStep (V : V2) (b : Nat) (a1 : Int32) (a2 : Int32) (a3 : Int32) : Option (V2) :=
  if (nI 300) < ((V b 7) + 3) then (some V)
  else ((stI 300 V (b + 2) (V b 7) a1).bind fun U1 =>
  (stI 300 U1 (b + 2) ((U1 b 7) + 1) a2).bind fun U2 =>
  (stI 300 U2 (b + 2) ((U2 b 7) + 2) a3).bind fun U3 =>
  letv (up2 U3 b 7 ((U3 b 7) + 3)) fun U4 =>
  some U4)
set_option maxHeartbeats 4000000 in
set_option maxRecDepth 100000 in
theorem kX5_addStep {l : Launch} {D : Dx} {G : G2} {V : V2} {R : R2} {b : Nat} {a1 : Int32} {a2 : Int32} {a3 : Int32} (hG : GX G) (h_b : own G b 15) {o : V2} (hf : pX5_addStep V b a1 a2 a3 = some o) : Con l yX5_addStep cX5_addStep 4 none (rmN 0 0 0) D G V R [.ref b, .int a1, .int a2, .int a3] (none, o, R, G, 0, 0) := by
  refine Con.mk RX5 (by decide) rfl (Nat.le_of_ble_eq_true rfl) (fun C _ hR hT _ _ hL hC hnm => ?_)
  revert hf
  unfold pX5_addStep
  refine g_aload_n hC dX5_addStep_0 (j := 0) rfl rfl ?_
  refine g_getI hC fi_5_7 h_b dX5_addStep_1 flX5_36 ?_
  refine g_iconst hC dX5_addStep_4 ic_3 ?_
  refine g_iadd hC dX5_addStep_5 ?_
  refine g_aload_n hC dX5_addStep_6 (j := 0) rfl rfl ?_
  refine g_getR hC fr_5_6 h_b (b := b + 2) rfl dX5_addStep_7 flX5_33 ?_
  refine g_alenV hC (gx_5_6 hG h_b) (gl_5_6 hG h_b) dX5_addStep_10 ?_
  refine g_icmp_gt hC dX5_addStep_11 ?_ ?_
  · exact g_vret_vV hC hT dX5_addStep_58
  · refine g_aload_n hC dX5_addStep_14 (j := 0) rfl rfl ?_
    refine g_getR hC fr_5_6 h_b (b := b + 2) rfl dX5_addStep_15 flX5_33 ?_
    refine g_aload_n hC dX5_addStep_18 (j := 0) rfl rfl ?_
    refine g_getI hC fi_5_7 h_b dX5_addStep_19 flX5_36 ?_
    refine g_iload_n hC dX5_addStep_22 (j := 1) rfl rfl ?_
    refine g_iastV hC (gx_5_6 hG h_b) (gl_5_6 hG h_b) dX5_addStep_23 (fun U1 => ?_)
    refine g_aload_n hC dX5_addStep_24 (j := 0) rfl rfl ?_
    refine g_getR hC fr_5_6 h_b (b := b + 2) rfl dX5_addStep_25 flX5_33 ?_
    refine g_aload_n hC dX5_addStep_28 (j := 0) rfl rfl ?_
    refine g_getI hC fi_5_7 h_b dX5_addStep_29 flX5_36 ?_
    refine g_iconst hC dX5_addStep_32 ic_1 ?_
    refine g_iadd hC dX5_addStep_33 ?_
    refine g_iload_n hC dX5_addStep_34 (j := 2) rfl rfl ?_
    refine g_iastV hC (gx_5_6 hG h_b) (gl_5_6 hG h_b) dX5_addStep_35 (fun U2 => ?_)
    refine g_aload_n hC dX5_addStep_36 (j := 0) rfl rfl ?_
    refine g_getR hC fr_5_6 h_b (b := b + 2) rfl dX5_addStep_37 flX5_33 ?_
    refine g_aload_n hC dX5_addStep_40 (j := 0) rfl rfl ?_
    refine g_getI hC fi_5_7 h_b dX5_addStep_41 flX5_36 ?_
    refine g_iconst hC dX5_addStep_44 ic_2 ?_
    refine g_iadd hC dX5_addStep_45 ?_
    refine g_iload_n hC dX5_addStep_46 (j := 3) rfl rfl ?_
    refine g_iastV hC (gx_5_6 hG h_b) (gl_5_6 hG h_b) dX5_addStep_47 (fun U3 => ?_)
    refine g_aload_n hC dX5_addStep_48 (j := 0) rfl rfl ?_
    refine g_dup hC dX5_addStep_49 rfl ?_
    refine g_getI hC fi_5_7 h_b dX5_addStep_50 flX5_36 ?_
    refine g_iconst hC dX5_addStep_53 ic_3 ?_
    refine g_iadd hC dX5_addStep_54 ?_
    refine g_putIL hC fp_5_7 h_b dX5_addStep_55 flX5_36 (fun U4 => ?_)
    exact g_vret_vV hC hT dX5_addStep_58
def pX5_readComparison (n : Nat) (V : V2) (b : Nat) : Option (Int32 × V2) :=
  (pX5_valueHere n V b).bind fun q1 =>
  if 0 ≤ q1 then ((pX5_goOn n V b).bind fun q2 =>
  (pX5_isSign q2 b 60).bind fun q3 =>
  ((if q3 = 0 then ((pX5_isSign q2 b 61).bind fun q5 =>
  if q5 = 0 then ((pX5_isSign q2 b 62).bind fun q6 =>
  if q6 = 0 then (some (-1))
  else (some 2))
  else (some 1))
  else (some 0) : Option (Int32))).bind fun j4 =>
  if 0 ≤ j4 then ((pX5_goOn n q2 b).bind fun q7 =>
  (pX5_valueHere n q7 b).bind fun q8 =>
  if 0 ≤ q8 then ((pX5_goOn n q7 b).bind fun q9 =>
  (pX5_addStep q9 b j4 q1 q8).bind fun q10 =>
  some (1, q10))
  else (some (0, q7)))
  else (some (0, q2)))
  else (some (0, V))
set_option maxHeartbeats 4000000 in
set_option maxRecDepth 100000 in
theorem kX5_readComparison {l : Launch} {D : Dx} {G : G2} {V : V2} {R : R2} {n : Nat} {b : Nat} (hG : GX G) (h_b : own G b 15) {o : Int32 × V2} (hf : pX5_readComparison n V b = some o) : Con l yX5_readComparison cX5_readComparison 4 (some .boolean) (rmN 7 0 0) D G V R [.ref b] (some (.int o.1), o.2, R, G, 0, 0) := by
  refine Con.mk RX5 (by decide) rfl (Nat.le_of_ble_eq_true rfl) (fun C _ hR hT _ _ hL hC hnm => ?_)
  revert hf
  unfold pX5_readComparison
  refine g_aload_n hC dX5_readComparison_0 (j := 0) rfl rfl ?_
  refine g_callV_i hC hR ⟨Nat.zero_le _, Nat.zero_le _⟩ mwX5_valueHere miX5_valueHere (ci := 5) rfl h_b (Nat.le_of_ble_eq_true rfl) mlX5_108 (fun _ hq => kX5_valueHere hG h_b hq) (Nat.le_of_ble_eq_true rfl) rfl (st := []) rfl (Nat.le_of_ble_eq_true rfl) dX5_readComparison_1 (fun q1 => ?_)
  refine g_istore_n hC (n0 := 4) (lv' := [(1, .int q1), (0, .ref b)]) dX5_readComparison_4 rfl (Nat.le_of_ble_eq_true rfl) hL rfl ?_
  refine g_iload_n hC dX5_readComparison_5 (j := 0) rfl rfl ?_
  refine g_if_ge hC dX5_readComparison_6 ?_ ?_
  · refine g_aload_n hC dX5_readComparison_11 (j := 1) rfl rfl ?_
    refine g_callV_vV hC hR ⟨Nat.zero_le _, Nat.zero_le _⟩ mwX5_goOn miX5_goOn (ci := 5) rfl h_b (Nat.le_of_ble_eq_true rfl) mlX5_48 (fun _ hq => kX5_goOn hG h_b hq) (Nat.le_of_ble_eq_true rfl) rfl (st := []) rfl (Nat.le_of_ble_eq_true rfl) dX5_readComparison_12 (fun q2 => ?_)
    refine g_aload_n hC dX5_readComparison_15 (j := 1) rfl rfl ?_
    refine g_bipush hC dX5_readComparison_16 bc_60 ?_
    refine g_callV_i hC hR ⟨Nat.zero_le _, Nat.zero_le _⟩ mwX5_isSign miX5_isSign (ci := 5) rfl h_b (Nat.le_of_ble_eq_true rfl) mlX5_78 (fun _ hq => kX5_isSign hG h_b hq) (Nat.le_of_ble_eq_true rfl) rfl (st := []) rfl (Nat.le_of_ble_eq_true rfl) dX5_readComparison_18 (fun q3 => ?_)
    refine g_bind (J := fun j4 => Go C 55 [(0, .ref b), (1, .int q1)] [.int j4] q2 R G 0 0) (fun j4 hJ => ?_) (fun j4 => ?_)
    · refine g_if_eq hC dX5_readComparison_21 ?_ ?_
      · refine g_aload_n hC dX5_readComparison_28 (j := 1) rfl rfl ?_
        refine g_bipush hC dX5_readComparison_29 bc_61 ?_
        refine g_callV_i hC hR ⟨Nat.zero_le _, Nat.zero_le _⟩ mwX5_isSign miX5_isSign (ci := 5) rfl h_b (Nat.le_of_ble_eq_true rfl) mlX5_78 (fun _ hq => kX5_isSign hG h_b hq) (Nat.le_of_ble_eq_true rfl) rfl (st := []) rfl (Nat.le_of_ble_eq_true rfl) dX5_readComparison_31 (fun q5 => ?_)
        refine g_if_eq hC dX5_readComparison_34 ?_ ?_
        · refine g_aload_n hC dX5_readComparison_41 (j := 1) rfl rfl ?_
          refine g_bipush hC dX5_readComparison_42 bc_62 ?_
          refine g_callV_i hC hR ⟨Nat.zero_le _, Nat.zero_le _⟩ mwX5_isSign miX5_isSign (ci := 5) rfl h_b (Nat.le_of_ble_eq_true rfl) mlX5_78 (fun _ hq => kX5_isSign hG h_b hq) (Nat.le_of_ble_eq_true rfl) rfl (st := []) rfl (Nat.le_of_ble_eq_true rfl) dX5_readComparison_44 (fun q6 => ?_)
          refine g_if_eq hC dX5_readComparison_47 ?_ ?_
          · refine g_iconst hC dX5_readComparison_54 ic_m1 ?_
            refine g_sub [1, 0] rfl ?_
            exact fun e => by cases e; exact hJ
          · refine g_iconst hC dX5_readComparison_50 ic_2 ?_
            refine g_goto hC dX5_readComparison_51 ?_
            refine g_sub [1, 0] rfl ?_
            exact fun e => by cases e; exact hJ
        · refine g_iconst hC dX5_readComparison_37 ic_1 ?_
          refine g_goto hC dX5_readComparison_38 ?_
          refine g_sub [1, 0] rfl ?_
          exact fun e => by cases e; exact hJ
      · refine g_iconst hC dX5_readComparison_24 ic_0 ?_
        refine g_goto hC dX5_readComparison_25 ?_
        refine g_sub [1, 0] rfl ?_
        exact fun e => by cases e; exact hJ
    · refine g_istore_n hC (n0 := 4) (lv' := [(2, .int j4), (0, .ref b), (1, .int q1)]) dX5_readComparison_55 rfl (Nat.le_of_ble_eq_true rfl) hL rfl ?_
      refine g_iload_n hC dX5_readComparison_56 (j := 0) rfl rfl ?_
      refine g_if_ge hC dX5_readComparison_57 ?_ ?_
      · refine g_aload_n hC dX5_readComparison_62 (j := 1) rfl rfl ?_
        refine g_callV_vV hC hR ⟨Nat.zero_le _, Nat.zero_le _⟩ mwX5_goOn miX5_goOn (ci := 5) rfl h_b (Nat.le_of_ble_eq_true rfl) mlX5_48 (fun _ hq => kX5_goOn hG h_b hq) (Nat.le_of_ble_eq_true rfl) rfl (st := []) rfl (Nat.le_of_ble_eq_true rfl) dX5_readComparison_63 (fun q7 => ?_)
        refine g_aload_n hC dX5_readComparison_66 (j := 1) rfl rfl ?_
        refine g_callV_i hC hR ⟨Nat.zero_le _, Nat.zero_le _⟩ mwX5_valueHere miX5_valueHere (ci := 5) rfl h_b (Nat.le_of_ble_eq_true rfl) mlX5_108 (fun _ hq => kX5_valueHere hG h_b hq) (Nat.le_of_ble_eq_true rfl) rfl (st := []) rfl (Nat.le_of_ble_eq_true rfl) dX5_readComparison_67 (fun q8 => ?_)
        refine g_istore_n hC (n0 := 4) (lv' := [(3, .int q8), (2, .int j4), (0, .ref b), (1, .int q1)]) dX5_readComparison_70 rfl (Nat.le_of_ble_eq_true rfl) hL rfl ?_
        refine g_iload_n hC dX5_readComparison_71 (j := 0) rfl rfl ?_
        refine g_if_ge hC dX5_readComparison_72 ?_ ?_
        · refine g_aload_n hC dX5_readComparison_77 (j := 2) rfl rfl ?_
          refine g_callV_vV hC hR ⟨Nat.zero_le _, Nat.zero_le _⟩ mwX5_goOn miX5_goOn (ci := 5) rfl h_b (Nat.le_of_ble_eq_true rfl) mlX5_48 (fun _ hq => kX5_goOn hG h_b hq) (Nat.le_of_ble_eq_true rfl) rfl (st := []) rfl (Nat.le_of_ble_eq_true rfl) dX5_readComparison_78 (fun q9 => ?_)
          refine g_aload_n hC dX5_readComparison_81 (j := 2) rfl rfl ?_
          refine g_iload_n hC dX5_readComparison_82 (j := 1) rfl rfl ?_
          refine g_iload_n hC dX5_readComparison_83 (j := 3) rfl rfl ?_
          refine g_iload_n hC dX5_readComparison_84 (j := 0) rfl rfl ?_
          refine g_callV_vV hC hR ⟨Nat.zero_le _, Nat.zero_le _⟩ mwX5_addStep miX5_addStep (ci := 5) rfl h_b (Nat.le_of_ble_eq_true rfl) mlX5_94 (fun _ hq => kX5_addStep hG h_b hq) (Nat.le_of_ble_eq_true rfl) rfl (st := []) rfl (Nat.le_of_ble_eq_true rfl) dX5_readComparison_85 (fun q10 => ?_)
          refine g_iconst hC dX5_readComparison_88 ic_1 ?_
          exact g_zret_iV hC rfl hT dX5_readComparison_89
        · refine g_iconst hC dX5_readComparison_75 ic_0 ?_
          exact g_zret_iV hC rfl hT dX5_readComparison_76
      · refine g_iconst hC dX5_readComparison_60 ic_0 ?_
        exact g_zret_iV hC rfl hT dX5_readComparison_61
  · refine g_iconst hC dX5_readComparison_9 ic_0 ?_
    exact g_zret_iV hC rfl hT dX5_readComparison_10
def pX5_readInner (rec : Nat → V2 → Nat → Int32 → Option (Int32 × V2)) (n : Nat) (V : V2) (b : Nat) (a1 : Int32) : Option (Int32 × V2) :=
  if a1 < (3 : Int32) then ((pX5_goOn n V b).bind fun q1 =>
  (rec n q1 b (a1 + 1)).bind fun q2 =>
  if q2.1 = 0 then (some (0, q2.2))
  else ((pX5_isSign q2.2 b 41).bind fun q3 =>
  if q3 = 0 then (some (0, q2.2))
  else ((pX5_goOn n q2.2 b).bind fun q4 =>
  some (1, q4))))
  else (some (0, V))
set_option maxHeartbeats 4000000 in
set_option maxRecDepth 100000 in
theorem kX5_readInner {l : Launch} {D : Dx} {G : G2} {V : V2} {R : R2} {rec : Nat → V2 → Nat → Int32 → Option (Int32 × V2)} {N : Nat} {n : Nat} {b : Nat} {a1 : Int32} (hrec : ∀ {l : Launch} {D : Dx} {G : G2} {V : V2} {R : R2} {n : Nat} {b : Nat} {a1 : Int32} (hG : GX G) (h_b : own G b 15) {o : Int32 × V2}, rec n V b a1 = some o → Con l yX5_readCondition cX5_readCondition 4 (some .boolean) (rmN N 0 0) D G V R [.ref b, .int a1] (some (.int o.1), o.2, R, G, 0, 0)) (hN : 8 ≤ N) (hG : GX G) (h_b : own G b 15) {o : Int32 × V2} (hf : pX5_readInner rec n V b a1 = some o) : Con l yX5_readInner cX5_readInner 2 (some .boolean) (rmN (N + 1) 0 0) D G V R [.ref b, .int a1] (some (.int o.1), o.2, R, G, 0, 0) := by
  refine Con.mk RX5 (by decide) rfl (Nat.le_of_ble_eq_true rfl) (fun C _ hR hT _ _ hL hC hnm => ?_)
  revert hf
  unfold pX5_readInner
  refine g_iload_n hC dX5_readInner_0 (j := 1) rfl rfl ?_
  refine g_iconst hC dX5_readInner_1 ic_3 ?_
  refine g_icmp_lt hC dX5_readInner_2 ?_ ?_
  · refine g_aload_n hC dX5_readInner_7 (j := 0) rfl rfl ?_
    refine g_callV_vV hC hR ⟨Nat.zero_le _, Nat.zero_le _⟩ mwX5_goOn miX5_goOn (ci := 5) rfl h_b (Nat.le_of_ble_eq_true rfl) mlX5_48 (fun _ hq => kX5_goOn hG h_b hq) (by have := hN; omega) rfl (st := []) rfl (Nat.le_of_ble_eq_true rfl) dX5_readInner_8 (fun q1 => ?_)
    refine g_aload_n hC dX5_readInner_11 (j := 0) rfl rfl ?_
    refine g_iload_n hC dX5_readInner_12 (j := 1) rfl rfl ?_
    refine g_iconst hC dX5_readInner_13 ic_1 ?_
    refine g_iadd hC dX5_readInner_14 ?_
    refine g_callV_iV hC hR ⟨Nat.zero_le _, Nat.zero_le _⟩ mwX5_readCondition miX5_readCondition (ci := 5) rfl h_b (Nat.le_of_ble_eq_true rfl) mlX5_74 (fun _ hq => hrec hG h_b hq) (by have := hN; omega) rfl (st := []) rfl (Nat.le_of_ble_eq_true rfl) dX5_readInner_15 (fun q2 => ?_)
    refine g_if_eq hC dX5_readInner_18 ?_ ?_
    · refine g_iconst hC dX5_readInner_30 ic_0 ?_
      exact g_zret_iV hC rfl hT dX5_readInner_31
    · refine g_aload_n hC dX5_readInner_21 (j := 0) rfl rfl ?_
      refine g_bipush hC dX5_readInner_22 bc_41 ?_
      refine g_callV_i hC hR ⟨Nat.zero_le _, Nat.zero_le _⟩ mwX5_isSign miX5_isSign (ci := 5) rfl h_b (Nat.le_of_ble_eq_true rfl) mlX5_78 (fun _ hq => kX5_isSign hG h_b hq) (by have := hN; omega) rfl (st := []) rfl (Nat.le_of_ble_eq_true rfl) dX5_readInner_24 (fun q3 => ?_)
      refine g_if_ne hC dX5_readInner_27 ?_ ?_
      · refine g_iconst hC dX5_readInner_30 ic_0 ?_
        exact g_zret_iV hC rfl hT dX5_readInner_31
      · refine g_aload_n hC dX5_readInner_32 (j := 0) rfl rfl ?_
        refine g_callV_vV hC hR ⟨Nat.zero_le _, Nat.zero_le _⟩ mwX5_goOn miX5_goOn (ci := 5) rfl h_b (Nat.le_of_ble_eq_true rfl) mlX5_48 (fun _ hq => kX5_goOn hG h_b hq) (by have := hN; omega) rfl (st := []) rfl (Nat.le_of_ble_eq_true rfl) dX5_readInner_33 (fun q4 => ?_)
        refine g_iconst hC dX5_readInner_36 ic_1 ?_
        exact g_zret_iV hC rfl hT dX5_readInner_37
  · refine g_iconst hC dX5_readInner_5 ic_0 ?_
    exact g_zret_iV hC rfl hT dX5_readInner_6
def lX5_readOne_4 (n : Nat) (b : Nat) : Nat → V2 → Int32 → Int32 → Option (V2 × Int32)
  | 0, _, _, _ => none
  | f1 + 1, U2, x3, x4 =>
    if (200 : Int32) ≤ x4 then (some (U2, x3))
    else (if (U2 b 5) = (17 : Int32) then (letv ((if x3 = 0 then (1)
    else (0) : Int32)) fun j5 =>
    (pX5_goOn n U2 b).bind fun q6 =>
    letv (x4 + 1) fun x7 =>
    lX5_readOne_4 n b f1 q6 j5 x7)
    else (some (U2, x3)))
def pX5_readOne (rec : Nat → V2 → Nat → Int32 → Option (Int32 × V2)) (n : Nat) (V : V2) (b : Nat) (a1 : Int32) : Option (Int32 × V2) :=
  (lX5_readOne_4 n b n V 0 0).bind fun w8 =>
  (pX5_isSign w8.1 b 40).bind fun q9 =>
  ((if q9 = 0 then ((pX5_readComparison n w8.1 b).bind fun q11 =>
  some (q11.1, q11.2))
  else ((pX5_readInner rec n w8.1 b a1).bind fun q12 =>
  some (q12.1, q12.2)) : Option (Int32 × V2))).bind fun j10 =>
  if w8.2 = 0 then (if isb j10.1 then some (j10.1, j10.2) else none)
  else ((pX5_addStep j10.2 b 5 0 0).bind fun q14 =>
  if isb j10.1 then some (j10.1, q14) else none)
set_option maxHeartbeats 4000000 in
set_option maxRecDepth 100000 in
theorem wX5_readOne_4 {C : Cx} (hC : CxOK C cX5_readOne RX5 (some .boolean)) (hL : C.2.2.2.2 = 4) {N : Nat} {n : Nat} {G : G2} {R : R2} {b : Nat} {a1 : Int32} (hN : 8 ≤ N) (hG : GX G) (h_b : own G b 15) (hR : C.1.2.2.2.1 = rmN (N + 2) 0 0) {o : V2 × Int32} (hX : Go C 40 [(0, .ref b), (1, .int a1), (2, .int o.2)] [] o.1 R G 0 0) : ∀ (f : Nat) (U2 : V2) (x3 : Int32) (x4 : Int32), lX5_readOne_4 n b f U2 x3 x4 = some o → Go C 4 [(0, .ref b), (1, .int a1), (2, .int x3), (3, .int x4)] [] U2 R G 0 0 := by
  intro f
  induction f with
  | zero => intro _ _ _ hf; exact absurd hf (by unfold lX5_readOne_4; exact fun z => nomatch z)
  | succ f1 ih =>
    intro U2 x3 x4
    unfold lX5_readOne_4
    refine g_iload_n hC dX5_readOne_4 (j := 3) rfl rfl ?_
    refine g_sipush hC dX5_readOne_5 sc_200 ?_
    refine g_icmp_ge hC dX5_readOne_8 ?_ ?_
    · refine g_sub [0, 1, 2] rfl ?_
      exact fun e => by cases e; exact hX
    · refine g_aload_n hC dX5_readOne_11 (j := 0) rfl rfl ?_
      refine g_getI hC fi_5_5 h_b dX5_readOne_12 flX5_28 ?_
      refine g_bipush hC dX5_readOne_15 bc_17 ?_
      refine g_icmp_ne hC dX5_readOne_17 ?_ ?_
      · refine g_iload_n hC dX5_readOne_20 (j := 2) rfl rfl ?_
        refine g_letJ (J := fun j5 => Go C 29 [(0, .ref b), (1, .int a1), (3, .int x4)] [.int j5] U2 R G 0 0) (fun j5 hJ => ?_) (fun j5 => ?_)
        · refine g_if_ne hC dX5_readOne_21 ?_ ?_
          · refine g_iconst hC dX5_readOne_24 ic_1 ?_
            refine g_goto hC dX5_readOne_25 ?_
            refine g_sub [0, 1, 3] rfl ?_
            exact fun e => by cases e; exact hJ
          · refine g_iconst hC dX5_readOne_28 ic_0 ?_
            refine g_sub [0, 1, 3] rfl ?_
            exact fun e => by cases e; exact hJ
        · refine g_istore_n hC (n0 := 4) (lv' := [(2, .int j5), (0, .ref b), (1, .int a1), (3, .int x4)]) dX5_readOne_29 rfl (Nat.le_of_ble_eq_true rfl) hL rfl ?_
          refine g_aload_n hC dX5_readOne_30 (j := 1) rfl rfl ?_
          refine g_callV_vV hC hR ⟨Nat.zero_le _, Nat.zero_le _⟩ mwX5_goOn miX5_goOn (ci := 5) rfl h_b (Nat.le_of_ble_eq_true rfl) mlX5_48 (fun _ hq => kX5_goOn hG h_b hq) (by have := hN; omega) rfl (st := []) rfl (Nat.le_of_ble_eq_true rfl) dX5_readOne_31 (fun q6 => ?_)
          refine g_iincL hC (n0 := 4) (j := 3) (lv' := fun x7 => [(3, .int x7), (2, .int j5), (0, .ref b), (1, .int a1)]) dX5_readOne_34 rfl ic_1 (Nat.le_of_ble_eq_true rfl) hL (fun _ => rfl) (fun x7 => ?_)
          refine g_goto hC dX5_readOne_37 ?_
          refine g_sub [2, 3, 1, 0] rfl ?_
          exact ih q6 j5 x7
      · refine g_sub [0, 1, 2] rfl ?_
        exact fun e => by cases e; exact hX
set_option maxHeartbeats 4000000 in
set_option maxRecDepth 100000 in
theorem kX5_readOne {l : Launch} {D : Dx} {G : G2} {V : V2} {R : R2} {rec : Nat → V2 → Nat → Int32 → Option (Int32 × V2)} {N : Nat} {n : Nat} {b : Nat} {a1 : Int32} (hrec : ∀ {l : Launch} {D : Dx} {G : G2} {V : V2} {R : R2} {n : Nat} {b : Nat} {a1 : Int32} (hG : GX G) (h_b : own G b 15) {o : Int32 × V2}, rec n V b a1 = some o → Con l yX5_readCondition cX5_readCondition 4 (some .boolean) (rmN N 0 0) D G V R [.ref b, .int a1] (some (.int o.1), o.2, R, G, 0, 0)) (hN : 8 ≤ N) (hG : GX G) (h_b : own G b 15) {o : Int32 × V2} (hf : pX5_readOne rec n V b a1 = some o) : Con l yX5_readOne cX5_readOne 4 (some .boolean) (rmN (N + 2) 0 0) D G V R [.ref b, .int a1] (some (.int o.1), o.2, R, G, 0, 0) := by
  refine Con.mk RX5 (by decide) rfl (Nat.le_of_ble_eq_true rfl) (fun C _ hR hT _ _ hL hC hnm => ?_)
  revert hf
  unfold pX5_readOne
  refine g_iconst hC dX5_readOne_0 ic_0 ?_
  refine g_istore_n hC (n0 := 4) (lv' := [(2, .int 0), (0, .ref b), (1, .int a1)]) dX5_readOne_1 rfl (Nat.le_of_ble_eq_true rfl) hL rfl ?_
  refine g_iconst hC dX5_readOne_2 ic_0 ?_
  refine g_istore_n hC (n0 := 4) (lv' := [(3, .int 0), (2, .int 0), (0, .ref b), (1, .int a1)]) dX5_readOne_3 rfl (Nat.le_of_ble_eq_true rfl) hL rfl ?_
  refine g_sub [2, 3, 1, 0] rfl ?_
  refine g_bind (J := fun w8 => Go C 40 [(0, .ref b), (1, .int a1), (2, .int w8.2)] [] w8.1 R G 0 0) (fun w8 hJ => wX5_readOne_4 hC hL hN hG h_b hR hJ n V 0 0) (fun w8 => ?_)
  refine g_aload_n hC dX5_readOne_40 (j := 0) rfl rfl ?_
  refine g_bipush hC dX5_readOne_41 bc_40 ?_
  refine g_callV_i hC hR ⟨Nat.zero_le _, Nat.zero_le _⟩ mwX5_isSign miX5_isSign (ci := 5) rfl h_b (Nat.le_of_ble_eq_true rfl) mlX5_78 (fun _ hq => kX5_isSign hG h_b hq) (by have := hN; omega) rfl (st := []) rfl (Nat.le_of_ble_eq_true rfl) dX5_readOne_43 (fun q9 => ?_)
  refine g_bind (J := fun j10 => Go C 61 [(0, .ref b), (2, .int w8.2)] [.int j10.1] j10.2 R G 0 0) (fun j10 hJ => ?_) (fun j10 => ?_)
  · refine g_if_eq hC dX5_readOne_46 ?_ ?_
    · refine g_aload_n hC dX5_readOne_57 (j := 0) rfl rfl ?_
      refine g_callV_iV hC hR ⟨Nat.zero_le _, Nat.zero_le _⟩ mwX5_readComparison miX5_readComparison (ci := 5) rfl h_b (Nat.le_of_ble_eq_true rfl) mlX5_104 (fun _ hq => kX5_readComparison hG h_b hq) (by have := hN; omega) rfl (st := []) rfl (Nat.le_of_ble_eq_true rfl) dX5_readOne_58 (fun q11 => ?_)
      refine g_sub [0, 2] rfl ?_
      exact fun e => by cases e; exact hJ
    · refine g_aload_n hC dX5_readOne_49 (j := 0) rfl rfl ?_
      refine g_iload_n hC dX5_readOne_50 (j := 1) rfl rfl ?_
      refine g_callV_iV hC hR ⟨Nat.zero_le _, Nat.zero_le _⟩ mwX5_readInner miX5_readInner (ci := 5) rfl h_b (Nat.le_of_ble_eq_true rfl) mlX5_101 (fun _ hq => kX5_readInner hrec hN hG h_b hq) (by have := hN; omega) rfl (st := []) rfl (Nat.le_of_ble_eq_true rfl) dX5_readOne_51 (fun q12 => ?_)
      refine g_goto hC dX5_readOne_54 ?_
      refine g_sub [0, 2] rfl ?_
      exact fun e => by cases e; exact hJ
  · refine g_istore_n hC (n0 := 4) (lv' := [(3, .int j10.1), (0, .ref b), (2, .int w8.2)]) dX5_readOne_61 rfl (Nat.le_of_ble_eq_true rfl) hL rfl ?_
    refine g_iload_n hC dX5_readOne_62 (j := 2) rfl rfl ?_
    refine g_if_eq hC dX5_readOne_63 ?_ ?_
    · refine g_iload_n hC dX5_readOne_73 (j := 0) rfl rfl ?_
      refine g_guardb (fun hz13 => ?_)
      exact g_zret_iV hC hz13 hT dX5_readOne_74
    · refine g_aload_n hC dX5_readOne_66 (j := 1) rfl rfl ?_
      refine g_iconst hC dX5_readOne_67 ic_5 ?_
      refine g_iconst hC dX5_readOne_68 ic_0 ?_
      refine g_iconst hC dX5_readOne_69 ic_0 ?_
      refine g_callV_vV hC hR ⟨Nat.zero_le _, Nat.zero_le _⟩ mwX5_addStep miX5_addStep (ci := 5) rfl h_b (Nat.le_of_ble_eq_true rfl) mlX5_94 (fun _ hq => kX5_addStep hG h_b hq) (by have := hN; omega) rfl (st := []) rfl (Nat.le_of_ble_eq_true rfl) dX5_readOne_70 (fun q14 => ?_)
      refine g_iload_n hC dX5_readOne_73 (j := 0) rfl rfl ?_
      refine g_guardb (fun hz15 => ?_)
      exact g_zret_iV hC hz15 hT dX5_readOne_74
def lX5_readAllOf_8 (rec : Nat → V2 → Nat → Int32 → Option (Int32 × V2)) (n : Nat) (b : Nat) (a1 : Int32) : Nat → V2 → Int32 → Int32 → Option (V2 × Int32)
  | 0, _, _, _ => none
  | f2 + 1, U3, x4, x5 =>
    if (200 : Int32) ≤ x5 then (some (U3, x4))
    else (if x4 = 0 then (some (U3, x4))
    else (if (U3 b 5) = (16 : Int32) then ((pX5_goOn n U3 b).bind fun q6 =>
    (pX5_readOne rec n q6 b a1).bind fun q7 =>
    (pX5_addStep q7.2 b 3 0 0).bind fun q8 =>
    letv (x5 + 1) fun x9 =>
    lX5_readAllOf_8 rec n b a1 f2 q8 q7.1 x9)
    else (some (U3, x4))))
def pX5_readAllOf (rec : Nat → V2 → Nat → Int32 → Option (Int32 × V2)) (n : Nat) (V : V2) (b : Nat) (a1 : Int32) : Option (Int32 × V2) :=
  (pX5_readOne rec n V b a1).bind fun q1 =>
  (lX5_readAllOf_8 rec n b a1 n q1.2 q1.1 0).bind fun w10 =>
  if isb w10.2 then some (w10.2, w10.1) else none
set_option maxHeartbeats 4000000 in
set_option maxRecDepth 100000 in
theorem wX5_readAllOf_8 {C : Cx} (hC : CxOK C cX5_readAllOf RX5 (some .boolean)) (hL : C.2.2.2.2 = 4) {rec : Nat → V2 → Nat → Int32 → Option (Int32 × V2)} {N : Nat} {n : Nat} {G : G2} {R : R2} {b : Nat} {a1 : Int32} (hrec : ∀ {l : Launch} {D : Dx} {G : G2} {V : V2} {R : R2} {n : Nat} {b : Nat} {a1 : Int32} (hG : GX G) (h_b : own G b 15) {o : Int32 × V2}, rec n V b a1 = some o → Con l yX5_readCondition cX5_readCondition 4 (some .boolean) (rmN N 0 0) D G V R [.ref b, .int a1] (some (.int o.1), o.2, R, G, 0, 0)) (hN : 8 ≤ N) (hG : GX G) (h_b : own G b 15) (hR : C.1.2.2.2.1 = rmN (N + 3) 0 0) {o : V2 × Int32} (hX : Go C 51 [(2, .int o.2)] [] o.1 R G 0 0) : ∀ (f : Nat) (U3 : V2) (x4 : Int32) (x5 : Int32), lX5_readAllOf_8 rec n b a1 f U3 x4 x5 = some o → Go C 8 [(0, .ref b), (1, .int a1), (2, .int x4), (3, .int x5)] [] U3 R G 0 0 := by
  intro f
  induction f with
  | zero => intro _ _ _ hf; exact absurd hf (by unfold lX5_readAllOf_8; exact fun z => nomatch z)
  | succ f2 ih =>
    intro U3 x4 x5
    unfold lX5_readAllOf_8
    refine g_iload_n hC dX5_readAllOf_8 (j := 3) rfl rfl ?_
    refine g_sipush hC dX5_readAllOf_9 sc_200 ?_
    refine g_icmp_ge hC dX5_readAllOf_12 ?_ ?_
    · refine g_sub [2] rfl ?_
      exact fun e => by cases e; exact hX
    · refine g_iload_n hC dX5_readAllOf_15 (j := 2) rfl rfl ?_
      refine g_if_eq hC dX5_readAllOf_16 ?_ ?_
      · refine g_sub [2] rfl ?_
        exact fun e => by cases e; exact hX
      · refine g_aload_n hC dX5_readAllOf_19 (j := 0) rfl rfl ?_
        refine g_getI hC fi_5_5 h_b dX5_readAllOf_20 flX5_28 ?_
        refine g_bipush hC dX5_readAllOf_23 bc_16 ?_
        refine g_icmp_ne hC dX5_readAllOf_25 ?_ ?_
        · refine g_aload_n hC dX5_readAllOf_28 (j := 0) rfl rfl ?_
          refine g_callV_vV hC hR ⟨Nat.zero_le _, Nat.zero_le _⟩ mwX5_goOn miX5_goOn (ci := 5) rfl h_b (Nat.le_of_ble_eq_true rfl) mlX5_48 (fun _ hq => kX5_goOn hG h_b hq) (by have := hN; omega) rfl (st := []) rfl (Nat.le_of_ble_eq_true rfl) dX5_readAllOf_29 (fun q6 => ?_)
          refine g_aload_n hC dX5_readAllOf_32 (j := 0) rfl rfl ?_
          refine g_iload_n hC dX5_readAllOf_33 (j := 1) rfl rfl ?_
          refine g_callV_iV hC hR ⟨Nat.zero_le _, Nat.zero_le _⟩ mwX5_readOne miX5_readOne (ci := 5) rfl h_b (Nat.le_of_ble_eq_true rfl) mlX5_98 (fun _ hq => kX5_readOne hrec hN hG h_b hq) (by have := hN; omega) rfl (st := []) rfl (Nat.le_of_ble_eq_true rfl) dX5_readAllOf_34 (fun q7 => ?_)
          refine g_istore_n hC (n0 := 4) (lv' := [(2, .int q7.1), (0, .ref b), (1, .int a1), (3, .int x5)]) dX5_readAllOf_37 rfl (Nat.le_of_ble_eq_true rfl) hL rfl ?_
          refine g_aload_n hC dX5_readAllOf_38 (j := 1) rfl rfl ?_
          refine g_iconst hC dX5_readAllOf_39 ic_3 ?_
          refine g_iconst hC dX5_readAllOf_40 ic_0 ?_
          refine g_iconst hC dX5_readAllOf_41 ic_0 ?_
          refine g_callV_vV hC hR ⟨Nat.zero_le _, Nat.zero_le _⟩ mwX5_addStep miX5_addStep (ci := 5) rfl h_b (Nat.le_of_ble_eq_true rfl) mlX5_94 (fun _ hq => kX5_addStep hG h_b hq) (by have := hN; omega) rfl (st := []) rfl (Nat.le_of_ble_eq_true rfl) dX5_readAllOf_42 (fun q8 => ?_)
          refine g_iincL hC (n0 := 4) (j := 3) (lv' := fun x9 => [(3, .int x9), (2, .int q7.1), (0, .ref b), (1, .int a1)]) dX5_readAllOf_45 rfl ic_1 (Nat.le_of_ble_eq_true rfl) hL (fun _ => rfl) (fun x9 => ?_)
          refine g_goto hC dX5_readAllOf_48 ?_
          refine g_sub [2, 3, 1, 0] rfl ?_
          exact ih q8 q7.1 x9
        · refine g_sub [2] rfl ?_
          exact fun e => by cases e; exact hX
set_option maxHeartbeats 4000000 in
set_option maxRecDepth 100000 in
theorem kX5_readAllOf {l : Launch} {D : Dx} {G : G2} {V : V2} {R : R2} {rec : Nat → V2 → Nat → Int32 → Option (Int32 × V2)} {N : Nat} {n : Nat} {b : Nat} {a1 : Int32} (hrec : ∀ {l : Launch} {D : Dx} {G : G2} {V : V2} {R : R2} {n : Nat} {b : Nat} {a1 : Int32} (hG : GX G) (h_b : own G b 15) {o : Int32 × V2}, rec n V b a1 = some o → Con l yX5_readCondition cX5_readCondition 4 (some .boolean) (rmN N 0 0) D G V R [.ref b, .int a1] (some (.int o.1), o.2, R, G, 0, 0)) (hN : 8 ≤ N) (hG : GX G) (h_b : own G b 15) {o : Int32 × V2} (hf : pX5_readAllOf rec n V b a1 = some o) : Con l yX5_readAllOf cX5_readAllOf 4 (some .boolean) (rmN (N + 3) 0 0) D G V R [.ref b, .int a1] (some (.int o.1), o.2, R, G, 0, 0) := by
  refine Con.mk RX5 (by decide) rfl (Nat.le_of_ble_eq_true rfl) (fun C _ hR hT _ _ hL hC hnm => ?_)
  revert hf
  unfold pX5_readAllOf
  refine g_aload_n hC dX5_readAllOf_0 (j := 0) rfl rfl ?_
  refine g_iload_n hC dX5_readAllOf_1 (j := 1) rfl rfl ?_
  refine g_callV_iV hC hR ⟨Nat.zero_le _, Nat.zero_le _⟩ mwX5_readOne miX5_readOne (ci := 5) rfl h_b (Nat.le_of_ble_eq_true rfl) mlX5_98 (fun _ hq => kX5_readOne hrec hN hG h_b hq) (by have := hN; omega) rfl (st := []) rfl (Nat.le_of_ble_eq_true rfl) dX5_readAllOf_2 (fun q1 => ?_)
  refine g_istore_n hC (n0 := 4) (lv' := [(2, .int q1.1), (0, .ref b), (1, .int a1)]) dX5_readAllOf_5 rfl (Nat.le_of_ble_eq_true rfl) hL rfl ?_
  refine g_iconst hC dX5_readAllOf_6 ic_0 ?_
  refine g_istore_n hC (n0 := 4) (lv' := [(3, .int 0), (2, .int q1.1), (0, .ref b), (1, .int a1)]) dX5_readAllOf_7 rfl (Nat.le_of_ble_eq_true rfl) hL rfl ?_
  refine g_sub [2, 3, 1, 0] rfl ?_
  refine g_bind (J := fun w10 => Go C 51 [(2, .int w10.2)] [] w10.1 R G 0 0) (fun w10 hJ => wX5_readAllOf_8 hC hL hrec hN hG h_b hR hJ n q1.2 q1.1 0) (fun w10 => ?_)
  refine g_iload_n hC dX5_readAllOf_51 (j := 0) rfl rfl ?_
  refine g_guardb (fun hz11 => ?_)
  exact g_zret_iV hC hz11 hT dX5_readAllOf_52
def lX5_readCondition_8 (rec : Nat → V2 → Nat → Int32 → Option (Int32 × V2)) (n : Nat) (b : Nat) (a1 : Int32) : Nat → V2 → Int32 → Int32 → Option (V2 × Int32)
  | 0, _, _, _ => none
  | f2 + 1, U3, x4, x5 =>
    if (200 : Int32) ≤ x5 then (some (U3, x4))
    else (if x4 = 0 then (some (U3, x4))
    else (if (U3 b 5) = (15 : Int32) then ((pX5_goOn n U3 b).bind fun q6 =>
    (pX5_readAllOf rec n q6 b a1).bind fun q7 =>
    (pX5_addStep q7.2 b 4 0 0).bind fun q8 =>
    letv (x5 + 1) fun x9 =>
    lX5_readCondition_8 rec n b a1 f2 q8 q7.1 x9)
    else (some (U3, x4))))
def fX5_readCondition (rec : Nat → V2 → Nat → Int32 → Option (Int32 × V2)) (n : Nat) (V : V2) (b : Nat) (a1 : Int32) : Option (Int32 × V2) :=
  (pX5_readAllOf rec n V b a1).bind fun q1 =>
  (lX5_readCondition_8 rec n b a1 n q1.2 q1.1 0).bind fun w10 =>
  if isb w10.2 then some (w10.2, w10.1) else none
set_option maxHeartbeats 4000000 in
set_option maxRecDepth 100000 in
theorem wX5_readCondition_8 {C : Cx} (hC : CxOK C cX5_readCondition RX5 (some .boolean)) (hL : C.2.2.2.2 = 4) {rec : Nat → V2 → Nat → Int32 → Option (Int32 × V2)} {N : Nat} {n : Nat} {G : G2} {R : R2} {b : Nat} {a1 : Int32} (hrec : ∀ {l : Launch} {D : Dx} {G : G2} {V : V2} {R : R2} {n : Nat} {b : Nat} {a1 : Int32} (hG : GX G) (h_b : own G b 15) {o : Int32 × V2}, rec n V b a1 = some o → Con l yX5_readCondition cX5_readCondition 4 (some .boolean) (rmN N 0 0) D G V R [.ref b, .int a1] (some (.int o.1), o.2, R, G, 0, 0)) (hN : 8 ≤ N) (hG : GX G) (h_b : own G b 15) (hR : C.1.2.2.2.1 = rmN (N + 4) 0 0) {o : V2 × Int32} (hX : Go C 51 [(2, .int o.2)] [] o.1 R G 0 0) : ∀ (f : Nat) (U3 : V2) (x4 : Int32) (x5 : Int32), lX5_readCondition_8 rec n b a1 f U3 x4 x5 = some o → Go C 8 [(0, .ref b), (1, .int a1), (2, .int x4), (3, .int x5)] [] U3 R G 0 0 := by
  intro f
  induction f with
  | zero => intro _ _ _ hf; exact absurd hf (by unfold lX5_readCondition_8; exact fun z => nomatch z)
  | succ f2 ih =>
    intro U3 x4 x5
    unfold lX5_readCondition_8
    refine g_iload_n hC dX5_readCondition_8 (j := 3) rfl rfl ?_
    refine g_sipush hC dX5_readCondition_9 sc_200 ?_
    refine g_icmp_ge hC dX5_readCondition_12 ?_ ?_
    · refine g_sub [2] rfl ?_
      exact fun e => by cases e; exact hX
    · refine g_iload_n hC dX5_readCondition_15 (j := 2) rfl rfl ?_
      refine g_if_eq hC dX5_readCondition_16 ?_ ?_
      · refine g_sub [2] rfl ?_
        exact fun e => by cases e; exact hX
      · refine g_aload_n hC dX5_readCondition_19 (j := 0) rfl rfl ?_
        refine g_getI hC fi_5_5 h_b dX5_readCondition_20 flX5_28 ?_
        refine g_bipush hC dX5_readCondition_23 bc_15 ?_
        refine g_icmp_ne hC dX5_readCondition_25 ?_ ?_
        · refine g_aload_n hC dX5_readCondition_28 (j := 0) rfl rfl ?_
          refine g_callV_vV hC hR ⟨Nat.zero_le _, Nat.zero_le _⟩ mwX5_goOn miX5_goOn (ci := 5) rfl h_b (Nat.le_of_ble_eq_true rfl) mlX5_48 (fun _ hq => kX5_goOn hG h_b hq) (by have := hN; omega) rfl (st := []) rfl (Nat.le_of_ble_eq_true rfl) dX5_readCondition_29 (fun q6 => ?_)
          refine g_aload_n hC dX5_readCondition_32 (j := 0) rfl rfl ?_
          refine g_iload_n hC dX5_readCondition_33 (j := 1) rfl rfl ?_
          refine g_callV_iV hC hR ⟨Nat.zero_le _, Nat.zero_le _⟩ mwX5_readAllOf miX5_readAllOf (ci := 5) rfl h_b (Nat.le_of_ble_eq_true rfl) mlX5_91 (fun _ hq => kX5_readAllOf hrec hN hG h_b hq) (by have := hN; omega) rfl (st := []) rfl (Nat.le_of_ble_eq_true rfl) dX5_readCondition_34 (fun q7 => ?_)
          refine g_istore_n hC (n0 := 4) (lv' := [(2, .int q7.1), (0, .ref b), (1, .int a1), (3, .int x5)]) dX5_readCondition_37 rfl (Nat.le_of_ble_eq_true rfl) hL rfl ?_
          refine g_aload_n hC dX5_readCondition_38 (j := 1) rfl rfl ?_
          refine g_iconst hC dX5_readCondition_39 ic_4 ?_
          refine g_iconst hC dX5_readCondition_40 ic_0 ?_
          refine g_iconst hC dX5_readCondition_41 ic_0 ?_
          refine g_callV_vV hC hR ⟨Nat.zero_le _, Nat.zero_le _⟩ mwX5_addStep miX5_addStep (ci := 5) rfl h_b (Nat.le_of_ble_eq_true rfl) mlX5_94 (fun _ hq => kX5_addStep hG h_b hq) (by have := hN; omega) rfl (st := []) rfl (Nat.le_of_ble_eq_true rfl) dX5_readCondition_42 (fun q8 => ?_)
          refine g_iincL hC (n0 := 4) (j := 3) (lv' := fun x9 => [(3, .int x9), (2, .int q7.1), (0, .ref b), (1, .int a1)]) dX5_readCondition_45 rfl ic_1 (Nat.le_of_ble_eq_true rfl) hL (fun _ => rfl) (fun x9 => ?_)
          refine g_goto hC dX5_readCondition_48 ?_
          refine g_sub [2, 3, 1, 0] rfl ?_
          exact ih q8 q7.1 x9
        · refine g_sub [2] rfl ?_
          exact fun e => by cases e; exact hX
set_option maxHeartbeats 4000000 in
set_option maxRecDepth 100000 in
theorem kfX5_readCondition {l : Launch} {D : Dx} {G : G2} {V : V2} {R : R2} {rec : Nat → V2 → Nat → Int32 → Option (Int32 × V2)} {N : Nat} {n : Nat} {b : Nat} {a1 : Int32} (hrec : ∀ {l : Launch} {D : Dx} {G : G2} {V : V2} {R : R2} {n : Nat} {b : Nat} {a1 : Int32} (hG : GX G) (h_b : own G b 15) {o : Int32 × V2}, rec n V b a1 = some o → Con l yX5_readCondition cX5_readCondition 4 (some .boolean) (rmN N 0 0) D G V R [.ref b, .int a1] (some (.int o.1), o.2, R, G, 0, 0)) (hN : 8 ≤ N) (hG : GX G) (h_b : own G b 15) {o : Int32 × V2} (hf : fX5_readCondition rec n V b a1 = some o) : Con l yX5_readCondition cX5_readCondition 4 (some .boolean) (rmN (N + 4) 0 0) D G V R [.ref b, .int a1] (some (.int o.1), o.2, R, G, 0, 0) := by
  refine Con.mk RX5 (by decide) rfl (Nat.le_of_ble_eq_true rfl) (fun C _ hR hT _ _ hL hC hnm => ?_)
  revert hf
  unfold fX5_readCondition
  refine g_aload_n hC dX5_readCondition_0 (j := 0) rfl rfl ?_
  refine g_iload_n hC dX5_readCondition_1 (j := 1) rfl rfl ?_
  refine g_callV_iV hC hR ⟨Nat.zero_le _, Nat.zero_le _⟩ mwX5_readAllOf miX5_readAllOf (ci := 5) rfl h_b (Nat.le_of_ble_eq_true rfl) mlX5_91 (fun _ hq => kX5_readAllOf hrec hN hG h_b hq) (by have := hN; omega) rfl (st := []) rfl (Nat.le_of_ble_eq_true rfl) dX5_readCondition_2 (fun q1 => ?_)
  refine g_istore_n hC (n0 := 4) (lv' := [(2, .int q1.1), (0, .ref b), (1, .int a1)]) dX5_readCondition_5 rfl (Nat.le_of_ble_eq_true rfl) hL rfl ?_
  refine g_iconst hC dX5_readCondition_6 ic_0 ?_
  refine g_istore_n hC (n0 := 4) (lv' := [(3, .int 0), (2, .int q1.1), (0, .ref b), (1, .int a1)]) dX5_readCondition_7 rfl (Nat.le_of_ble_eq_true rfl) hL rfl ?_
  refine g_sub [2, 3, 1, 0] rfl ?_
  refine g_bind (J := fun w10 => Go C 51 [(2, .int w10.2)] [] w10.1 R G 0 0) (fun w10 hJ => wX5_readCondition_8 hC hL hrec hN hG h_b hR hJ n q1.2 q1.1 0) (fun w10 => ?_)
  refine g_iload_n hC dX5_readCondition_51 (j := 0) rfl rfl ?_
  refine g_guardb (fun hz11 => ?_)
  exact g_zret_iV hC hz11 hT dX5_readCondition_52
def pX5_readCondition : Nat → Nat → V2 → Nat → Int32 → Option (Int32 × V2)
  | 0 => fun _ _ _ _ => none
  | d + 1 => fX5_readCondition (pX5_readCondition d)
theorem kX5_readCondition : ∀ (d : Nat) {l : Launch} {D : Dx} {G : G2} {V : V2} {R : R2} {n : Nat} {b : Nat} {a1 : Int32} (hG : GX G) (h_b : own G b 15) {o : Int32 × V2}, pX5_readCondition d n V b a1 = some o → Con l yX5_readCondition cX5_readCondition 4 (some .boolean) (rmN (8 + 4 * d) 0 0) D G V R [.ref b, .int a1] (some (.int o.1), o.2, R, G, 0, 0) := by
  intro d
  induction d with
  | zero => intro _ _ _ _ _ _ _ _ _ _ _ hf; exact absurd hf (by unfold pX5_readCondition; exact fun z => nomatch z)
  | succ d ih =>
    intro l D G V R _ _ _ hG h_b _ hf
    have := kfX5_readCondition (l := l) (D := D) (V := V) (R := R) (N := 8 + 4 * d) ih (by omega) hG h_b hf
    rw [show 8 + 4 * (d + 1) = 8 + 4 * d + 4 by omega]
    exact this
