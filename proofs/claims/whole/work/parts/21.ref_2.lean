def pX9_boardOf (V : V2) (b : Nat) (a1 : Int32) (a2 : Int32) : Option (Int32) :=
  (pX9_isBoard a1).bind fun q1 =>
  if q1 = 0 then (some (-1))
  else ((pX9_isIn a2.toInt64 0 1).bind fun q2 =>
  if q2 = 0 then (some (-1))
  else (letv ((if a2 = 0 then (38)
  else (44) : Int32)) fun j3 =>
  (ldI 572 (V (b + 1)) (j3 + a1)).bind fun t4 =>
  some t4))
set_option maxHeartbeats 4000000 in
set_option maxRecDepth 100000 in
theorem kX9_boardOf {l : Launch} {D : Dx} {G : G2} {V : V2} {R : R2} {b : Nat} {a1 : Int32} {a2 : Int32} (hG : GX G) (h_b : own G b 19) {o : Int32} (hf : pX9_boardOf V b a1 a2 = some o) : Con l yX9_boardOf cX9_boardOf 3 (some .int) (rmN 1 0 0) D G V R [.ref b, .int a1, .int a2] (some (.int o), V, R, G, 0, 0) := by
  refine Con.mk RX9 (by decide) rfl (Nat.le_of_ble_eq_true rfl) (fun C _ hR hT _ _ hL hC hnm => ?_)
  revert hf
  unfold pX9_boardOf
  refine g_iload_n hC dX9_boardOf_0 (j := 1) rfl rfl ?_
  refine g_callS_i hC hR ⟨Nat.zero_le _, Nat.zero_le _⟩ mwX9_isBoard ms_X9_isBoard mlX9_71 (fun _ hq => kX9_isBoard  hq) (Nat.le_of_ble_eq_true rfl) rfl (st := []) rfl (Nat.le_of_ble_eq_true rfl) dX9_boardOf_1 (fun q1 => ?_)
  refine g_if_eq hC dX9_boardOf_4 ?_ ?_
  · refine g_iconst hC dX9_boardOf_17 ic_m1 ?_
    exact g_iret_i hC hT dX9_boardOf_18
  · refine g_iload_n hC dX9_boardOf_7 (j := 2) rfl rfl ?_
    refine g_i2l hC dX9_boardOf_8 ?_
    refine g_lconst hC dX9_boardOf_9 lc_0 ?_
    refine g_lconst hC dX9_boardOf_10 lc_1 ?_
    refine g_callS_i hC hR ⟨Nat.zero_le _, Nat.zero_le _⟩ mwX9_isIn ms_X9_isIn mlX9_63 (fun _ hq => kX9_isIn  hq) (Nat.le_of_ble_eq_true rfl) rfl (st := []) rfl (Nat.le_of_ble_eq_true rfl) dX9_boardOf_11 (fun q2 => ?_)
    refine g_if_ne hC dX9_boardOf_14 ?_ ?_
    · refine g_iconst hC dX9_boardOf_17 ic_m1 ?_
      exact g_iret_i hC hT dX9_boardOf_18
    · refine g_aload_n hC dX9_boardOf_19 (j := 0) rfl rfl ?_
      refine g_getR hC fr_9_0 h_b (b := b + 1) rfl dX9_boardOf_20 flX9_7 ?_
      refine g_iload_n hC dX9_boardOf_23 (j := 2) rfl rfl ?_
      refine g_letJ (J := fun j3 => Go C 34 [(1, .int a1)] [.int j3, .ref (b + 1)] V R G 0 0) (fun j3 hJ => ?_) (fun j3 => ?_)
      · refine g_if_ne hC dX9_boardOf_24 ?_ ?_
        · refine g_bipush hC dX9_boardOf_27 bc_38 ?_
          refine g_goto hC dX9_boardOf_29 ?_
          refine g_sub [1] rfl ?_
          exact fun e => by cases e; exact hJ
        · refine g_bipush hC dX9_boardOf_32 bc_44 ?_
          refine g_sub [1] rfl ?_
          exact fun e => by cases e; exact hJ
      · refine g_iload_n hC dX9_boardOf_34 (j := 0) rfl rfl ?_
        refine g_iadd hC dX9_boardOf_35 ?_
        refine g_ialdV hC (gx_9_0 hG h_b) (gl_9_0 hG h_b) dX9_boardOf_36 (fun t4 => ?_)
        exact g_iret_i hC hT dX9_boardOf_37
def pX9_ends (V : V2) (b : Nat) (a1 : Int32) : Option (Int32 × V2) :=
  (pX9_isIn a1.toInt64 1 16).bind fun q1 =>
  if q1 = 0 then (some ((-1), V))
  else ((ldI 572 (V (b + 1)) 1).bind fun t2 =>
  if t2 ≤ a1 then ((pX9_becomes V b 2 a1).bind fun q3 =>
  some (q3.1, q3.2))
  else (some ((-4), V)))
set_option maxHeartbeats 4000000 in
set_option maxRecDepth 100000 in
theorem kX9_ends {l : Launch} {D : Dx} {G : G2} {V : V2} {R : R2} {b : Nat} {a1 : Int32} (hG : GX G) (h_b : own G b 19) {o : Int32 × V2} (hf : pX9_ends V b a1 = some o) : Con l yX9_ends cX9_ends 2 (some .int) (rmN 1 0 0) D G V R [.ref b, .int a1] (some (.int o.1), o.2, R, G, 0, 0) := by
  refine Con.mk RX9 (by decide) rfl (Nat.le_of_ble_eq_true rfl) (fun C _ hR hT _ _ hL hC hnm => ?_)
  revert hf
  unfold pX9_ends
  refine g_iload_n hC dX9_ends_0 (j := 1) rfl rfl ?_
  refine g_i2l hC dX9_ends_1 ?_
  refine g_lconst hC dX9_ends_2 lc_1 ?_
  refine g_ldc2 hC dX9_ends_3 clX9_139 ?_
  refine g_callS_i hC hR ⟨Nat.zero_le _, Nat.zero_le _⟩ mwX9_isIn ms_X9_isIn mlX9_63 (fun _ hq => kX9_isIn  hq) (Nat.le_of_ble_eq_true rfl) rfl (st := []) rfl (Nat.le_of_ble_eq_true rfl) dX9_ends_6 (fun q1 => ?_)
  refine g_if_ne hC dX9_ends_9 ?_ ?_
  · refine g_iconst hC dX9_ends_12 ic_m1 ?_
    exact g_iret_iV hC hT dX9_ends_13
  · refine g_iload_n hC dX9_ends_14 (j := 1) rfl rfl ?_
    refine g_aload_n hC dX9_ends_15 (j := 0) rfl rfl ?_
    refine g_getR hC fr_9_0 h_b (b := b + 1) rfl dX9_ends_16 flX9_7 ?_
    refine g_iconst hC dX9_ends_19 ic_1 ?_
    refine g_ialdV hC (gx_9_0 hG h_b) (gl_9_0 hG h_b) dX9_ends_20 (fun t2 => ?_)
    refine g_icmp_ge hC dX9_ends_21 ?_ ?_
    · refine g_aload_n hC dX9_ends_29 (j := 0) rfl rfl ?_
      refine g_iconst hC dX9_ends_30 ic_2 ?_
      refine g_iload_n hC dX9_ends_31 (j := 1) rfl rfl ?_
      refine g_callV_iV hC hR ⟨Nat.zero_le _, Nat.zero_le _⟩ mwX9_becomes miX9_becomes (ci := 9) rfl h_b (Nat.le_of_ble_eq_true rfl) mlX9_134 (fun _ hq => kX9_becomes hG h_b hq) (Nat.le_of_ble_eq_true rfl) rfl (st := []) rfl (Nat.le_of_ble_eq_true rfl) dX9_ends_32 (fun q3 => ?_)
      exact g_iret_iV hC hT dX9_ends_35
    · refine g_bipush hC dX9_ends_24 bc_m4 ?_
      refine g_goto hC dX9_ends_26 ?_
      exact g_iret_iV hC hT dX9_ends_35
def lX9_anew_2 (b : Nat) : Nat → V2 → Int32 → Option (V2)
  | 0, _, _ => none
  | f1 + 1, U2, x3 =>
    (ldI 572 (U2 (b + 1)) 0).bind fun t4 =>
    if t4 ≤ x3 then (some U2)
    else ((stI 572 U2 (b + 1) ((8 + (5 * x3)) + 4) 0).bind fun U5 =>
    letv (x3 + 1) fun x6 =>
    lX9_anew_2 b f1 U5 x6)
def pX9_anew (n : Nat) (V : V2) (b : Nat) : Option (Int32 × V2) :=
  (lX9_anew_2 b n V 0).bind fun w7 =>
  (stI 572 w7 (b + 1) 3 0).bind fun U8 =>
  (pX9_becomes U8 b 1 0).bind fun q9 =>
  some (q9.1, q9.2)
set_option maxHeartbeats 4000000 in
set_option maxRecDepth 100000 in
theorem wX9_anew_2 {C : Cx} (hC : CxOK C cX9_anew RX9 (some .int)) (hL : C.2.2.2.2 = 2) {G : G2} {R : R2} {b : Nat} (hG : GX G) (h_b : own G b 19) {o : V2} (hX : Go C 32 [(0, .ref b)] [] o R G 0 0) : ∀ (f : Nat) (U2 : V2) (x3 : Int32), lX9_anew_2 b f U2 x3 = some o → Go C 2 [(0, .ref b), (1, .int x3)] [] U2 R G 0 0 := by
  intro f
  induction f with
  | zero => intro _ _ hf; exact absurd hf (by unfold lX9_anew_2; exact fun z => nomatch z)
  | succ f1 ih =>
    intro U2 x3
    unfold lX9_anew_2
    refine g_iload_n hC dX9_anew_2 (j := 1) rfl rfl ?_
    refine g_aload_n hC dX9_anew_3 (j := 0) rfl rfl ?_
    refine g_getR hC fr_9_0 h_b (b := b + 1) rfl dX9_anew_4 flX9_7 ?_
    refine g_iconst hC dX9_anew_7 ic_0 ?_
    refine g_ialdV hC (gx_9_0 hG h_b) (gl_9_0 hG h_b) dX9_anew_8 (fun t4 => ?_)
    refine g_icmp_ge hC dX9_anew_9 ?_ ?_
    · refine g_sub [0] rfl ?_
      exact fun e => by cases e; exact hX
    · refine g_aload_n hC dX9_anew_12 (j := 0) rfl rfl ?_
      refine g_getR hC fr_9_0 h_b (b := b + 1) rfl dX9_anew_13 flX9_7 ?_
      refine g_bipush hC dX9_anew_16 bc_8 ?_
      refine g_iconst hC dX9_anew_18 ic_5 ?_
      refine g_iload_n hC dX9_anew_19 (j := 1) rfl rfl ?_
      refine g_imul hC dX9_anew_20 ?_
      refine g_iadd hC dX9_anew_21 ?_
      refine g_iconst hC dX9_anew_22 ic_4 ?_
      refine g_iadd hC dX9_anew_23 ?_
      refine g_iconst hC dX9_anew_24 ic_0 ?_
      refine g_iastV hC (gx_9_0 hG h_b) (gl_9_0 hG h_b) dX9_anew_25 (fun U5 => ?_)
      refine g_iincL hC (n0 := 2) (j := 1) (lv' := fun x6 => [(1, .int x6), (0, .ref b)]) dX9_anew_26 rfl ic_1 (Nat.le_of_ble_eq_true rfl) hL (fun _ => rfl) (fun x6 => ?_)
      refine g_goto hC dX9_anew_29 ?_
      refine g_sub [1, 0] rfl ?_
      exact ih U5 x6
set_option maxHeartbeats 4000000 in
set_option maxRecDepth 100000 in
theorem kX9_anew {l : Launch} {D : Dx} {G : G2} {V : V2} {R : R2} {n : Nat} {b : Nat} (hG : GX G) (h_b : own G b 19) {o : Int32 × V2} (hf : pX9_anew n V b = some o) : Con l yX9_anew cX9_anew 2 (some .int) (rmN 1 0 0) D G V R [.ref b] (some (.int o.1), o.2, R, G, 0, 0) := by
  refine Con.mk RX9 (by decide) rfl (Nat.le_of_ble_eq_true rfl) (fun C _ hR hT _ _ hL hC hnm => ?_)
  revert hf
  unfold pX9_anew
  refine g_iconst hC dX9_anew_0 ic_0 ?_
  refine g_istore_n hC (n0 := 2) (lv' := [(1, .int 0), (0, .ref b)]) dX9_anew_1 rfl (Nat.le_of_ble_eq_true rfl) hL rfl ?_
  refine g_sub [1, 0] rfl ?_
  refine g_bind (J := fun w7 => Go C 32 [(0, .ref b)] [] w7 R G 0 0) (fun w7 hJ => wX9_anew_2 hC hL hG h_b hJ n V 0) (fun w7 => ?_)
  refine g_aload_n hC dX9_anew_32 (j := 0) rfl rfl ?_
  refine g_getR hC fr_9_0 h_b (b := b + 1) rfl dX9_anew_33 flX9_7 ?_
  refine g_iconst hC dX9_anew_36 ic_3 ?_
  refine g_iconst hC dX9_anew_37 ic_0 ?_
  refine g_iastV hC (gx_9_0 hG h_b) (gl_9_0 hG h_b) dX9_anew_38 (fun U8 => ?_)
  refine g_aload_n hC dX9_anew_39 (j := 0) rfl rfl ?_
  refine g_iconst hC dX9_anew_40 ic_1 ?_
  refine g_iconst hC dX9_anew_41 ic_0 ?_
  refine g_callV_iV hC hR ⟨Nat.zero_le _, Nat.zero_le _⟩ mwX9_becomes miX9_becomes (ci := 9) rfl h_b (Nat.le_of_ble_eq_true rfl) mlX9_134 (fun _ hq => kX9_becomes hG h_b hq) (Nat.le_of_ble_eq_true rfl) rfl (st := []) rfl (Nat.le_of_ble_eq_true rfl) dX9_anew_42 (fun q9 => ?_)
  exact g_iret_iV hC hT dX9_anew_45
def lX9_flatOnes_4 (V : V2) (b : Nat) : Nat → Int32 → Int32 → Option (Int32)
  | 0, _, _ => none
  | f1 + 1, x2, x3 =>
    (ldI 572 (V (b + 1)) 0).bind fun t4 =>
    if t4 ≤ x3 then (some x2)
    else ((pX9_its V b x3 4).bind fun q5 =>
    letv (x2 ||| (q5 <<< (x3 &&& 31))) fun x6 =>
    letv (x3 + 1) fun x7 =>
    lX9_flatOnes_4 V b f1 x6 x7)
def pX9_flatOnes (n : Nat) (V : V2) (b : Nat) : Option (Int32) :=
  (lX9_flatOnes_4 V b n 0 0).bind fun w8 =>
  some w8
set_option maxHeartbeats 4000000 in
set_option maxRecDepth 100000 in
theorem wX9_flatOnes_4 {C : Cx} (hC : CxOK C cX9_flatOnes RX9 (some .int)) (hL : C.2.2.2.2 = 3) {G : G2} {V : V2} {R : R2} {b : Nat} (hG : GX G) (h_b : own G b 19) (hR : C.1.2.2.2.1 = rmN 1 0 0) {o : Int32} (hX : Go C 31 [(1, .int o)] [] V R G 0 0) : ∀ (f : Nat) (x2 : Int32) (x3 : Int32), lX9_flatOnes_4 V b f x2 x3 = some o → Go C 4 [(0, .ref b), (1, .int x2), (2, .int x3)] [] V R G 0 0 := by
  intro f
  induction f with
  | zero => intro _ _ hf; exact absurd hf (by unfold lX9_flatOnes_4; exact fun z => nomatch z)
  | succ f1 ih =>
    intro x2 x3
    unfold lX9_flatOnes_4
    refine g_iload_n hC dX9_flatOnes_4 (j := 2) rfl rfl ?_
    refine g_aload_n hC dX9_flatOnes_5 (j := 0) rfl rfl ?_
    refine g_getR hC fr_9_0 h_b (b := b + 1) rfl dX9_flatOnes_6 flX9_7 ?_
    refine g_iconst hC dX9_flatOnes_9 ic_0 ?_
    refine g_ialdV hC (gx_9_0 hG h_b) (gl_9_0 hG h_b) dX9_flatOnes_10 (fun t4 => ?_)
    refine g_icmp_ge hC dX9_flatOnes_11 ?_ ?_
    · refine g_sub [1] rfl ?_
      exact fun e => by cases e; exact hX
    · refine g_iload_n hC dX9_flatOnes_14 (j := 1) rfl rfl ?_
      refine g_aload_n hC dX9_flatOnes_15 (j := 0) rfl rfl ?_
      refine g_iload_n hC dX9_flatOnes_16 (j := 2) rfl rfl ?_
      refine g_iconst hC dX9_flatOnes_17 ic_4 ?_
      refine g_callV_i hC hR ⟨Nat.zero_le _, Nat.zero_le _⟩ mwX9_its miX9_its (ci := 9) rfl h_b (Nat.le_of_ble_eq_true rfl) mlX9_79 (fun _ hq => kX9_its hG h_b hq) (Nat.le_of_ble_eq_true rfl) rfl (st := [.int x2]) rfl (Nat.le_of_ble_eq_true rfl) dX9_flatOnes_18 (fun q5 => ?_)
      refine g_iload_n hC dX9_flatOnes_21 (j := 2) rfl rfl ?_
      refine g_ishl hC dX9_flatOnes_22 ?_
      refine g_ior hC dX9_flatOnes_23 ?_
      refine g_istore_nL hC (n0 := 3) (lv' := fun x6 => [(1, .int x6), (0, .ref b), (2, .int x3)]) dX9_flatOnes_24 rfl (Nat.le_of_ble_eq_true rfl) hL (fun _ => rfl) (fun x6 => ?_)
      refine g_iincL hC (n0 := 3) (j := 2) (lv' := fun x7 => [(2, .int x7), (1, .int x6), (0, .ref b)]) dX9_flatOnes_25 rfl ic_1 (Nat.le_of_ble_eq_true rfl) hL (fun _ => rfl) (fun x7 => ?_)
      refine g_goto hC dX9_flatOnes_28 ?_
      refine g_sub [2, 1, 0] rfl ?_
      exact ih x6 x7
set_option maxHeartbeats 4000000 in
set_option maxRecDepth 100000 in
theorem kX9_flatOnes {l : Launch} {D : Dx} {G : G2} {V : V2} {R : R2} {n : Nat} {b : Nat} (hG : GX G) (h_b : own G b 19) {o : Int32} (hf : pX9_flatOnes n V b = some o) : Con l yX9_flatOnes cX9_flatOnes 3 (some .int) (rmN 1 0 0) D G V R [.ref b] (some (.int o), V, R, G, 0, 0) := by
  refine Con.mk RX9 (by decide) rfl (Nat.le_of_ble_eq_true rfl) (fun C _ hR hT _ _ hL hC hnm => ?_)
  revert hf
  unfold pX9_flatOnes
  refine g_iconst hC dX9_flatOnes_0 ic_0 ?_
  refine g_istore_n hC (n0 := 3) (lv' := [(1, .int 0), (0, .ref b)]) dX9_flatOnes_1 rfl (Nat.le_of_ble_eq_true rfl) hL rfl ?_
  refine g_iconst hC dX9_flatOnes_2 ic_0 ?_
  refine g_istore_n hC (n0 := 3) (lv' := [(2, .int 0), (1, .int 0), (0, .ref b)]) dX9_flatOnes_3 rfl (Nat.le_of_ble_eq_true rfl) hL rfl ?_
  refine g_sub [2, 1, 0] rfl ?_
  refine g_bind (J := fun w8 => Go C 31 [(1, .int w8)] [] V R G 0 0) (fun w8 hJ => wX9_flatOnes_4 hC hL hG h_b hR hJ n 0 0) (fun w8 => ?_)
  refine g_iload_n hC dX9_flatOnes_31 (j := 0) rfl rfl ?_
  exact g_iret_i hC hT dX9_flatOnes_32
def lX9_bulkOfAll_4 (V : V2) (b : Nat) : Nat → Int32 → Int32 → Option (Int32)
  | 0, _, _ => none
  | f1 + 1, x2, x3 =>
    (ldI 572 (V (b + 1)) 0).bind fun t4 =>
    if t4 ≤ x3 then (some x2)
    else ((pX9_its V b x3 1).bind fun q5 =>
    letv (x2 + q5) fun x6 =>
    letv (x3 + 1) fun x7 =>
    lX9_bulkOfAll_4 V b f1 x6 x7)
def pX9_bulkOfAll (n : Nat) (V : V2) (b : Nat) : Option (Int32) :=
  (lX9_bulkOfAll_4 V b n 0 0).bind fun w8 =>
  some w8
set_option maxHeartbeats 4000000 in
set_option maxRecDepth 100000 in
theorem wX9_bulkOfAll_4 {C : Cx} (hC : CxOK C cX9_bulkOfAll RX9 (some .int)) (hL : C.2.2.2.2 = 3) {G : G2} {V : V2} {R : R2} {b : Nat} (hG : GX G) (h_b : own G b 19) (hR : C.1.2.2.2.1 = rmN 1 0 0) {o : Int32} (hX : Go C 29 [(1, .int o)] [] V R G 0 0) : ∀ (f : Nat) (x2 : Int32) (x3 : Int32), lX9_bulkOfAll_4 V b f x2 x3 = some o → Go C 4 [(0, .ref b), (1, .int x2), (2, .int x3)] [] V R G 0 0 := by
  intro f
  induction f with
  | zero => intro _ _ hf; exact absurd hf (by unfold lX9_bulkOfAll_4; exact fun z => nomatch z)
  | succ f1 ih =>
    intro x2 x3
    unfold lX9_bulkOfAll_4
    refine g_iload_n hC dX9_bulkOfAll_4 (j := 2) rfl rfl ?_
    refine g_aload_n hC dX9_bulkOfAll_5 (j := 0) rfl rfl ?_
    refine g_getR hC fr_9_0 h_b (b := b + 1) rfl dX9_bulkOfAll_6 flX9_7 ?_
    refine g_iconst hC dX9_bulkOfAll_9 ic_0 ?_
    refine g_ialdV hC (gx_9_0 hG h_b) (gl_9_0 hG h_b) dX9_bulkOfAll_10 (fun t4 => ?_)
    refine g_icmp_ge hC dX9_bulkOfAll_11 ?_ ?_
    · refine g_sub [1] rfl ?_
      exact fun e => by cases e; exact hX
    · refine g_iload_n hC dX9_bulkOfAll_14 (j := 1) rfl rfl ?_
      refine g_aload_n hC dX9_bulkOfAll_15 (j := 0) rfl rfl ?_
      refine g_iload_n hC dX9_bulkOfAll_16 (j := 2) rfl rfl ?_
      refine g_iconst hC dX9_bulkOfAll_17 ic_1 ?_
      refine g_callV_i hC hR ⟨Nat.zero_le _, Nat.zero_le _⟩ mwX9_its miX9_its (ci := 9) rfl h_b (Nat.le_of_ble_eq_true rfl) mlX9_79 (fun _ hq => kX9_its hG h_b hq) (Nat.le_of_ble_eq_true rfl) rfl (st := [.int x2]) rfl (Nat.le_of_ble_eq_true rfl) dX9_bulkOfAll_18 (fun q5 => ?_)
      refine g_iadd hC dX9_bulkOfAll_21 ?_
      refine g_istore_nL hC (n0 := 3) (lv' := fun x6 => [(1, .int x6), (0, .ref b), (2, .int x3)]) dX9_bulkOfAll_22 rfl (Nat.le_of_ble_eq_true rfl) hL (fun _ => rfl) (fun x6 => ?_)
      refine g_iincL hC (n0 := 3) (j := 2) (lv' := fun x7 => [(2, .int x7), (1, .int x6), (0, .ref b)]) dX9_bulkOfAll_23 rfl ic_1 (Nat.le_of_ble_eq_true rfl) hL (fun _ => rfl) (fun x7 => ?_)
      refine g_goto hC dX9_bulkOfAll_26 ?_
      refine g_sub [2, 1, 0] rfl ?_
      exact ih x6 x7
set_option maxHeartbeats 4000000 in
set_option maxRecDepth 100000 in
theorem kX9_bulkOfAll {l : Launch} {D : Dx} {G : G2} {V : V2} {R : R2} {n : Nat} {b : Nat} (hG : GX G) (h_b : own G b 19) {o : Int32} (hf : pX9_bulkOfAll n V b = some o) : Con l yX9_bulkOfAll cX9_bulkOfAll 3 (some .int) (rmN 1 0 0) D G V R [.ref b] (some (.int o), V, R, G, 0, 0) := by
  refine Con.mk RX9 (by decide) rfl (Nat.le_of_ble_eq_true rfl) (fun C _ hR hT _ _ hL hC hnm => ?_)
  revert hf
  unfold pX9_bulkOfAll
  refine g_iconst hC dX9_bulkOfAll_0 ic_0 ?_
  refine g_istore_n hC (n0 := 3) (lv' := [(1, .int 0), (0, .ref b)]) dX9_bulkOfAll_1 rfl (Nat.le_of_ble_eq_true rfl) hL rfl ?_
  refine g_iconst hC dX9_bulkOfAll_2 ic_0 ?_
  refine g_istore_n hC (n0 := 3) (lv' := [(2, .int 0), (1, .int 0), (0, .ref b)]) dX9_bulkOfAll_3 rfl (Nat.le_of_ble_eq_true rfl) hL rfl ?_
  refine g_sub [2, 1, 0] rfl ?_
  refine g_bind (J := fun w8 => Go C 29 [(1, .int w8)] [] V R G 0 0) (fun w8 hJ => wX9_bulkOfAll_4 hC hL hG h_b hR hJ n 0 0) (fun w8 => ?_)
  refine g_iload_n hC dX9_bulkOfAll_29 (j := 0) rfl rfl ?_
  exact g_iret_i hC hT dX9_bulkOfAll_30
def pX9_state (n : Nat) (V : V2) (b : Nat) (a1 : Int32) : Option (Int32) :=
  letv (fun (u2 : Unit) => ((ldI 572 (V (b + 1)) (1 + a1)).bind fun t3 =>
  some t3)) fun j1 =>
  if a1 = 0 then (j1 ())
  else (if a1 = 1 then (j1 ())
  else (if a1 = 2 then (j1 ())
  else (if a1 = 3 then ((pX9_isOver V b).bind fun q7 =>
  if q7 = 0 then (some 0)
  else (some 1))
  else (if a1 = 4 then ((pX9_flatOnes n V b).bind fun q9 =>
  some q9)
  else (if a1 = 5 then ((ldI 572 (V (b + 1)) 1).bind fun t11 =>
  (pX9_ironOf V b t11).bind fun q12 =>
  some q12)
  else (if a1 = 6 then ((pX9_bulkOfAll n V b).bind fun q14 =>
  some q14)
  else (some (-1))))))))
set_option maxHeartbeats 4000000 in
set_option maxRecDepth 100000 in
theorem kX9_state {l : Launch} {D : Dx} {G : G2} {V : V2} {R : R2} {n : Nat} {b : Nat} {a1 : Int32} (hG : GX G) (h_b : own G b 19) {o : Int32} (hf : pX9_state n V b a1 = some o) : Con l yX9_state cX9_state 2 (some .int) (rmN 2 0 0) D G V R [.ref b, .int a1] (some (.int o), V, R, G, 0, 0) := by
  refine Con.mk RX9 (by decide) rfl (Nat.le_of_ble_eq_true rfl) (fun C _ hR hT _ _ hL hC hnm => ?_)
  revert hf
  unfold pX9_state
  refine g_iload_n hC dX9_state_0 (j := 1) rfl rfl ?_
  refine g_jn (J := fun j1 => ∀ (u2 : Unit), j1 u2 = some o → Go C 44 [(0, .ref b), (1, .int a1)] [] V R G 0 0) (fun u2 => ?_) (fun j1 hJ => ?_)
  · refine g_aload_n hC dX9_state_44 (j := 0) rfl rfl ?_
    refine g_getR hC fr_9_0 h_b (b := b + 1) rfl dX9_state_45 flX9_7 ?_
    refine g_iconst hC dX9_state_48 ic_1 ?_
    refine g_iload_n hC dX9_state_49 (j := 1) rfl rfl ?_
    refine g_iadd hC dX9_state_50 ?_
    refine g_ialdV hC (gx_9_0 hG h_b) (gl_9_0 hG h_b) dX9_state_51 (fun t3 => ?_)
    exact g_iret_i hC hT dX9_state_52
  · refine g_tsw hC 0 (43) (tgt := 44) dX9_state_1 (by decide) rfl ?_ (fun hn4 => ?_)
    · exact hJ ()
    refine g_tsw hC 1 (43) (tgt := 44) dX9_state_1 (by decide) rfl ?_ (fun hn5 => ?_)
    · exact hJ ()
    refine g_tsw hC 2 (43) (tgt := 44) dX9_state_1 (by decide) rfl ?_ (fun hn6 => ?_)
    · exact hJ ()
    refine g_tsw hC 3 (52) (tgt := 53) dX9_state_1 (by decide) rfl ?_ (fun hn8 => ?_)
    · refine g_aload_n hC dX9_state_53 (j := 0) rfl rfl ?_
      refine g_callV_i hC hR ⟨Nat.zero_le _, Nat.zero_le _⟩ mwX9_isOver miX9_isOver (ci := 9) rfl h_b (Nat.le_of_ble_eq_true rfl) mlX9_141 (fun _ hq => kX9_isOver hG h_b hq) (Nat.le_of_ble_eq_true rfl) rfl (st := []) rfl (Nat.le_of_ble_eq_true rfl) dX9_state_54 (fun q7 => ?_)
      refine g_if_eq hC dX9_state_57 ?_ ?_
      · refine g_iconst hC dX9_state_64 ic_0 ?_
        exact g_iret_i hC hT dX9_state_65
      · refine g_iconst hC dX9_state_60 ic_1 ?_
        refine g_goto hC dX9_state_61 ?_
        exact g_iret_i hC hT dX9_state_65
    refine g_tsw hC 4 (65) (tgt := 66) dX9_state_1 (by decide) rfl ?_ (fun hn10 => ?_)
    · refine g_aload_n hC dX9_state_66 (j := 0) rfl rfl ?_
      refine g_callV_i hC hR ⟨Nat.zero_le _, Nat.zero_le _⟩ mwX9_flatOnes miX9_flatOnes (ci := 9) rfl h_b (Nat.le_of_ble_eq_true rfl) mlX9_145 (fun _ hq => kX9_flatOnes hG h_b hq) (Nat.le_of_ble_eq_true rfl) rfl (st := []) rfl (Nat.le_of_ble_eq_true rfl) dX9_state_67 (fun q9 => ?_)
      exact g_iret_i hC hT dX9_state_70
    refine g_tsw hC 5 (70) (tgt := 71) dX9_state_1 (by decide) rfl ?_ (fun hn13 => ?_)
    · refine g_aload_n hC dX9_state_71 (j := 0) rfl rfl ?_
      refine g_aload_n hC dX9_state_72 (j := 0) rfl rfl ?_
      refine g_getR hC fr_9_0 h_b (b := b + 1) rfl dX9_state_73 flX9_7 ?_
      refine g_iconst hC dX9_state_76 ic_1 ?_
      refine g_ialdV hC (gx_9_0 hG h_b) (gl_9_0 hG h_b) dX9_state_77 (fun t11 => ?_)
      refine g_callV_i hC hR ⟨Nat.zero_le _, Nat.zero_le _⟩ mwX9_ironOf miX9_ironOf (ci := 9) rfl h_b (Nat.le_of_ble_eq_true rfl) mlX9_82 (fun _ hq => kX9_ironOf hG h_b hq) (Nat.le_of_ble_eq_true rfl) rfl (st := []) rfl (Nat.le_of_ble_eq_true rfl) dX9_state_78 (fun q12 => ?_)
      exact g_iret_i hC hT dX9_state_81
    refine g_tsw hC 6 (81) (tgt := 82) dX9_state_1 (by decide) rfl ?_ (fun hn15 => ?_)
    · refine g_aload_n hC dX9_state_82 (j := 0) rfl rfl ?_
      refine g_callV_i hC hR ⟨Nat.zero_le _, Nat.zero_le _⟩ mwX9_bulkOfAll miX9_bulkOfAll (ci := 9) rfl h_b (Nat.le_of_ble_eq_true rfl) mlX9_149 (fun _ hq => kX9_bulkOfAll hG h_b hq) (Nat.le_of_ble_eq_true rfl) rfl (st := []) rfl (Nat.le_of_ble_eq_true rfl) dX9_state_83 (fun q14 => ?_)
      exact g_iret_i hC hT dX9_state_86
    refine g_tswd hC (tgt := 87) dX9_state_1 (by have := And.intro trivial trivial; have := lv_neT (a := 0) hn4 (by decide); have := lv_neT (a := 1) hn5 (by decide); have := lv_neT (a := 2) hn6 (by decide); have := lv_neT (a := 3) hn8 (by decide); have := lv_neT (a := 4) hn10 (by decide); have := lv_neT (a := 5) hn13 (by decide); have := lv_neT (a := 6) hn15 (by decide); omega) rfl ?_
    refine g_iconst hC dX9_state_87 ic_m1 ?_
    exact g_iret_i hC hT dX9_state_88
def lX9_feed_32 (b : Nat) (a1 : Int64) (a2 : Int32) : Nat → V2 → Int32 → Option (V2)
  | 0, _, _ => none
  | f2 + 1, U3, x4 =>
    if a2 ≤ x4 then (some U3)
    else ((stI 200 U3 (b + 4) (U3 b 5) (((a1 >>> ((8 * x4).toInt64 &&& 63)) &&& 255).toInt32)).bind fun U5 =>
    letv (up2 U5 b 5 ((U5 b 5) + 1)) fun U6 =>
    letv (x4 + 1) fun x7 =>
    lX9_feed_32 b a1 a2 f2 U6 x7)
def pX9_feed (n : Nat) (V : V2) (b : Nat) (a1 : Int64) (a2 : Int32) : Option (Int32 × V2) :=
  (pX9_isIn a2.toInt64 1 8).bind fun q1 =>
  if q1 = 0 then (some ((-1), V))
  else (if ((V b 5) + a2) ≤ (200 : Int32) then ((lX9_feed_32 b a1 a2 n V 0).bind fun w8 =>
  some (w8 b 5, w8))
  else (some ((-2), V)))
set_option maxHeartbeats 4000000 in
set_option maxRecDepth 100000 in
theorem wX9_feed_32 {C : Cx} (hC : CxOK C cX9_feed RX9 (some .int)) (hL : C.2.2.2.2 = 5) {G : G2} {R : R2} {b : Nat} {a1 : Int64} {a2 : Int32} (hG : GX G) (h_b : own G b 19) {o : V2} (hX : Go C 75 [(0, .ref b)] [] o R G 0 0) : ∀ (f : Nat) (U3 : V2) (x4 : Int32), lX9_feed_32 b a1 a2 f U3 x4 = some o → Go C 32 [(0, .ref b), (1, .long a1), (3, .int a2), (4, .int x4)] [] U3 R G 0 0 := by
  intro f
  induction f with
  | zero => intro _ _ hf; exact absurd hf (by unfold lX9_feed_32; exact fun z => nomatch z)
  | succ f2 ih =>
    intro U3 x4
    unfold lX9_feed_32
    refine g_iload hC dX9_feed_32 (j := 3) rfl ?_
    refine g_iload_n hC dX9_feed_34 (j := 2) rfl rfl ?_
    refine g_icmp_ge hC dX9_feed_35 ?_ ?_
    · refine g_sub [0] rfl ?_
      exact fun e => by cases e; exact hX
    · refine g_aload_n hC dX9_feed_38 (j := 0) rfl rfl ?_
      refine g_getR hC fr_9_4 h_b (b := b + 4) rfl dX9_feed_39 flX9_19 ?_
      refine g_aload_n hC dX9_feed_42 (j := 0) rfl rfl ?_
      refine g_getI hC fi_9_5 h_b dX9_feed_43 flX9_154 ?_
      refine g_lload_n hC dX9_feed_46 (j := 1) rfl rfl ?_
      refine g_bipush hC dX9_feed_47 bc_8 ?_
      refine g_iload hC dX9_feed_49 (j := 3) rfl ?_
      refine g_imul hC dX9_feed_51 ?_
      refine g_lshr hC dX9_feed_52 ?_
      refine g_ldc2 hC dX9_feed_53 clX9_158 ?_
      refine g_land hC dX9_feed_56 ?_
      refine g_l2i hC dX9_feed_57 ?_
      refine g_iastV hC (gx_9_4 hG h_b) (gl_9_4 hG h_b) dX9_feed_58 (fun U5 => ?_)
      refine g_aload_n hC dX9_feed_59 (j := 0) rfl rfl ?_
      refine g_dup hC dX9_feed_60 rfl ?_
      refine g_getI hC fi_9_5 h_b dX9_feed_61 flX9_154 ?_
      refine g_iconst hC dX9_feed_64 ic_1 ?_
      refine g_iadd hC dX9_feed_65 ?_
      refine g_putIL hC fp_9_5 h_b dX9_feed_66 flX9_154 (fun U6 => ?_)
      refine g_iincL hC (n0 := 5) (j := 3) (lv' := fun x7 => [(4, .int x7), (0, .ref b), (1, .long a1), (3, .int a2)]) dX9_feed_69 rfl ic_1 (Nat.le_of_ble_eq_true rfl) hL (fun _ => rfl) (fun x7 => ?_)
      refine g_goto hC dX9_feed_72 ?_
      refine g_sub [1, 2, 3, 0] rfl ?_
      exact ih U6 x7
set_option maxHeartbeats 4000000 in
set_option maxRecDepth 100000 in
theorem kX9_feed {l : Launch} {D : Dx} {G : G2} {V : V2} {R : R2} {n : Nat} {b : Nat} {a1 : Int64} {a2 : Int32} (hG : GX G) (h_b : own G b 19) {o : Int32 × V2} (hf : pX9_feed n V b a1 a2 = some o) : Con l yX9_feed cX9_feed 5 (some .int) (rmN 1 0 0) D G V R [.ref b, .long a1, .int a2] (some (.int o.1), o.2, R, G, 0, 0) := by
  refine Con.mk RX9 (by decide) rfl (Nat.le_of_ble_eq_true rfl) (fun C _ hR hT _ _ hL hC hnm => ?_)
  revert hf
  unfold pX9_feed
  refine g_iload_n hC dX9_feed_0 (j := 2) rfl rfl ?_
  refine g_i2l hC dX9_feed_1 ?_
  refine g_lconst hC dX9_feed_2 lc_1 ?_
  refine g_ldc2 hC dX9_feed_3 clX9_152 ?_
  refine g_callS_i hC hR ⟨Nat.zero_le _, Nat.zero_le _⟩ mwX9_isIn ms_X9_isIn mlX9_63 (fun _ hq => kX9_isIn  hq) (Nat.le_of_ble_eq_true rfl) rfl (st := []) rfl (Nat.le_of_ble_eq_true rfl) dX9_feed_6 (fun q1 => ?_)
  refine g_if_ne hC dX9_feed_9 ?_ ?_
  · refine g_iconst hC dX9_feed_12 ic_m1 ?_
    exact g_iret_iV hC hT dX9_feed_13
  · refine g_aload_n hC dX9_feed_14 (j := 0) rfl rfl ?_
    refine g_getI hC fi_9_5 h_b dX9_feed_15 flX9_154 ?_
    refine g_iload_n hC dX9_feed_18 (j := 2) rfl rfl ?_
    refine g_iadd hC dX9_feed_19 ?_
    refine g_sipush hC dX9_feed_20 sc_200 ?_
    refine g_icmp_le hC dX9_feed_23 ?_ ?_
    · refine g_iconst hC dX9_feed_29 ic_0 ?_
      refine g_istore hC (n0 := 5) (lv' := [(4, .int 0), (0, .ref b), (1, .long a1), (3, .int a2)]) dX9_feed_30 (Nat.le_of_ble_eq_true rfl) hL rfl ?_
      refine g_sub [1, 2, 3, 0] rfl ?_
      refine g_bind (J := fun w8 => Go C 75 [(0, .ref b)] [] w8 R G 0 0) (fun w8 hJ => wX9_feed_32 hC hL hG h_b hJ n V 0) (fun w8 => ?_)
      refine g_aload_n hC dX9_feed_75 (j := 0) rfl rfl ?_
      refine g_getI hC fi_9_5 h_b dX9_feed_76 flX9_154 ?_
      exact g_iret_iV hC hT dX9_feed_79
    · refine g_bipush hC dX9_feed_26 bc_m2 ?_
      exact g_iret_iV hC hT dX9_feed_28
def pX9_isAlpha (a1 : Int32) : Option (Int32) :=
  if a1 < (97 : Int32) then (some 0)
  else (if (122 : Int32) < a1 then (some 0)
  else (some 1))
set_option maxHeartbeats 4000000 in
set_option maxRecDepth 100000 in
theorem kX9_isAlpha {l : Launch} {D : Dx} {G : G2} {V : V2} {R : R2} {a1 : Int32}  {o : Int32} (hf : pX9_isAlpha a1 = some o) : Con l yX9_isAlpha cX9_isAlpha 1 (some .boolean) (rmN 0 0 0) D G V R [.int a1] (some (.int o), V, R, G, 0, 0) := by
  refine Con.mk RX9 (by decide) rfl (Nat.le_of_ble_eq_true rfl) (fun C _ hR hT _ _ hL hC hnm => ?_)
  revert hf
  unfold pX9_isAlpha
  refine g_iload_n hC dX9_isAlpha_0 (j := 0) rfl rfl ?_
  refine g_bipush hC dX9_isAlpha_1 bc_97 ?_
  refine g_icmp_lt hC dX9_isAlpha_3 ?_ ?_
  · refine g_iconst hC dX9_isAlpha_16 ic_0 ?_
    exact g_zret_i hC rfl hT dX9_isAlpha_17
  · refine g_iload_n hC dX9_isAlpha_6 (j := 0) rfl rfl ?_
    refine g_bipush hC dX9_isAlpha_7 bc_122 ?_
    refine g_icmp_gt hC dX9_isAlpha_9 ?_ ?_
    · refine g_iconst hC dX9_isAlpha_16 ic_0 ?_
      exact g_zret_i hC rfl hT dX9_isAlpha_17
    · refine g_iconst hC dX9_isAlpha_12 ic_1 ?_
      refine g_goto hC dX9_isAlpha_13 ?_
      exact g_zret_i hC rfl hT dX9_isAlpha_17
def pX9_isDigit (a1 : Int32) : Option (Int32) :=
  if a1 < (48 : Int32) then (some 0)
  else (if (57 : Int32) < a1 then (some 0)
  else (some 1))
set_option maxHeartbeats 4000000 in
set_option maxRecDepth 100000 in
theorem kX9_isDigit {l : Launch} {D : Dx} {G : G2} {V : V2} {R : R2} {a1 : Int32}  {o : Int32} (hf : pX9_isDigit a1 = some o) : Con l yX9_isDigit cX9_isDigit 1 (some .boolean) (rmN 0 0 0) D G V R [.int a1] (some (.int o), V, R, G, 0, 0) := by
  refine Con.mk RX9 (by decide) rfl (Nat.le_of_ble_eq_true rfl) (fun C _ hR hT _ _ hL hC hnm => ?_)
  revert hf
  unfold pX9_isDigit
  refine g_iload_n hC dX9_isDigit_0 (j := 0) rfl rfl ?_
  refine g_bipush hC dX9_isDigit_1 bc_48 ?_
  refine g_icmp_lt hC dX9_isDigit_3 ?_ ?_
  · refine g_iconst hC dX9_isDigit_16 ic_0 ?_
    exact g_zret_i hC rfl hT dX9_isDigit_17
  · refine g_iload_n hC dX9_isDigit_6 (j := 0) rfl rfl ?_
    refine g_bipush hC dX9_isDigit_7 bc_57 ?_
    refine g_icmp_gt hC dX9_isDigit_9 ?_ ?_
    · refine g_iconst hC dX9_isDigit_16 ic_0 ?_
      exact g_zret_i hC rfl hT dX9_isDigit_17
    · refine g_iconst hC dX9_isDigit_12 ic_1 ?_
      refine g_goto hC dX9_isDigit_13 ?_
      exact g_zret_i hC rfl hT dX9_isDigit_17
def pX9_byteAt (V : V2) (b : Nat) (a1 : Int32) : Option (Int32) :=
  if (V b 5) ≤ a1 then (some (-1))
  else ((ldI 200 (V (b + 4)) a1).bind fun t1 =>
  some t1)
set_option maxHeartbeats 4000000 in
set_option maxRecDepth 100000 in
theorem kX9_byteAt {l : Launch} {D : Dx} {G : G2} {V : V2} {R : R2} {b : Nat} {a1 : Int32} (hG : GX G) (h_b : own G b 19) {o : Int32} (hf : pX9_byteAt V b a1 = some o) : Con l yX9_byteAt cX9_byteAt 2 (some .int) (rmN 0 0 0) D G V R [.ref b, .int a1] (some (.int o), V, R, G, 0, 0) := by
  refine Con.mk RX9 (by decide) rfl (Nat.le_of_ble_eq_true rfl) (fun C _ hR hT _ _ hL hC hnm => ?_)
  revert hf
  unfold pX9_byteAt
  refine g_iload_n hC dX9_byteAt_0 (j := 1) rfl rfl ?_
  refine g_aload_n hC dX9_byteAt_1 (j := 0) rfl rfl ?_
  refine g_getI hC fi_9_5 h_b dX9_byteAt_2 flX9_154 ?_
  refine g_icmp_ge hC dX9_byteAt_5 ?_ ?_
  · refine g_iconst hC dX9_byteAt_17 ic_m1 ?_
    exact g_iret_i hC hT dX9_byteAt_18
  · refine g_aload_n hC dX9_byteAt_8 (j := 0) rfl rfl ?_
    refine g_getR hC fr_9_4 h_b (b := b + 4) rfl dX9_byteAt_9 flX9_19 ?_
    refine g_iload_n hC dX9_byteAt_12 (j := 1) rfl rfl ?_
    refine g_ialdV hC (gx_9_4 hG h_b) (gl_9_4 hG h_b) dX9_byteAt_13 (fun t1 => ?_)
    refine g_goto hC dX9_byteAt_14 ?_
    exact g_iret_i hC hT dX9_byteAt_18
def lX9_nextToken_8 (b : Nat) : Nat → V2 → Option (V2)
  | 0, _ => none
  | f2 + 1, U3 =>
    (pX9_byteAt U3 b (U3 b 7)).bind fun q4 =>
    if q4 = (32 : Int32) then (letv (up2 U3 b 7 ((U3 b 7) + 1)) fun U5 =>
    lX9_nextToken_8 b f2 U5)
    else (some U3)
def lX9_nextToken_91 (b : Nat) : Nat → V2 → Option (V2)
  | 0, _ => none
  | f14 + 1, U15 =>
    if (U15 b 6) = (1 : Int32) then ((pX9_byteAt U15 b (U15 b 8)).bind fun q16 =>
    (pX9_isAlpha q16).bind fun q17 =>
    if q17 = 0 then (some U15)
    else (letv (up2 U15 b 8 ((U15 b 8) + 1)) fun U18 =>
    lX9_nextToken_91 b f14 U18))
    else (some U15)
def lX9_nextToken_126 (b : Nat) : Nat → V2 → Option (V2)
  | 0, _ => none
  | f20 + 1, U21 =>
    if (U21 b 6) = (2 : Int32) then ((pX9_byteAt U21 b (U21 b 8)).bind fun q22 =>
    (pX9_isDigit q22).bind fun q23 =>
    if q23 = 0 then (some U21)
    else (((if (U21 b 9) ≤ (9999 : Int32) then ((pX9_byteAt U21 b (U21 b 8)).bind fun q25 =>
    some (((10 * (U21 b 9)) + q25) - 48))
    else (some (U21 b 9)) : Option (Int32))).bind fun j24 =>
    letv (up2 U21 b 9 j24) fun U26 =>
    letv (up2 U26 b 8 ((U26 b 8) + 1)) fun U27 =>
    lX9_nextToken_126 b f20 U27))
    else (some U21)
def pX9_nextToken (n : Nat) (V : V2) (b : Nat) : Option (V2) :=
  letv (up2 V b 7 (V b 8)) fun U1 =>
  (lX9_nextToken_8 b n U1).bind fun w6 =>
  letv (up2 w6 b 8 (w6 b 7)) fun U7 =>
  (pX9_byteAt U7 b (U7 b 7)).bind fun q8 =>
  ((if 0 ≤ q8 then ((pX9_isAlpha q8).bind fun q10 =>
  if q10 = 0 then ((pX9_isDigit q8).bind fun q11 =>
  if q11 = 0 then (some 3)
  else (some 2))
  else (some 1))
  else (some 0) : Option (Int32))).bind fun j9 =>
  letv (up2 U7 b 6 j9) fun U12 =>
  letv (up2 U12 b 9 0) fun U13 =>
  (lX9_nextToken_91 b n U13).bind fun w19 =>
  (lX9_nextToken_126 b n w19).bind fun w28 =>
  letv ((if (w28 b 6) ≤ (2 : Int32) then (0)
  else (1) : Int32)) fun j29 =>
  letv (up2 w28 b 8 ((w28 b 8) + j29)) fun U30 =>
  some U30
set_option maxHeartbeats 4000000 in
set_option maxRecDepth 100000 in
theorem wX9_nextToken_8 {C : Cx} (hC : CxOK C cX9_nextToken RX9 none) (hL : C.2.2.2.2 = 2) {G : G2} {R : R2} {b : Nat} (hG : GX G) (h_b : own G b 19) (hR : C.1.2.2.2.1 = rmN 1 0 0) {o : V2} (hX : Go C 34 [(0, .ref b)] [] o R G 0 0) : ∀ (f : Nat) (U3 : V2), lX9_nextToken_8 b f U3 = some o → Go C 8 [(0, .ref b)] [] U3 R G 0 0 := by
  intro f
  induction f with
  | zero => intro _ hf; exact absurd hf (by unfold lX9_nextToken_8; exact fun z => nomatch z)
  | succ f2 ih =>
    intro U3
    unfold lX9_nextToken_8
    refine g_aload_n hC dX9_nextToken_8 (j := 0) rfl rfl ?_
    refine g_aload_n hC dX9_nextToken_9 (j := 0) rfl rfl ?_
    refine g_getI hC fi_9_7 h_b dX9_nextToken_10 flX9_163 ?_
    refine g_callV_i hC hR ⟨Nat.zero_le _, Nat.zero_le _⟩ mwX9_byteAt miX9_byteAt (ci := 9) rfl h_b (Nat.le_of_ble_eq_true rfl) mlX9_166 (fun _ hq => kX9_byteAt hG h_b hq) (Nat.le_of_ble_eq_true rfl) rfl (st := []) rfl (Nat.le_of_ble_eq_true rfl) dX9_nextToken_13 (fun q4 => ?_)
    refine g_bipush hC dX9_nextToken_16 bc_32 ?_
    refine g_icmp_ne hC dX9_nextToken_18 ?_ ?_
    · refine g_aload_n hC dX9_nextToken_21 (j := 0) rfl rfl ?_
      refine g_dup hC dX9_nextToken_22 rfl ?_
      refine g_getI hC fi_9_7 h_b dX9_nextToken_23 flX9_163 ?_
      refine g_iconst hC dX9_nextToken_26 ic_1 ?_
      refine g_iadd hC dX9_nextToken_27 ?_
      refine g_putIL hC fp_9_7 h_b dX9_nextToken_28 flX9_163 (fun U5 => ?_)
      refine g_goto hC dX9_nextToken_31 ?_
      exact ih U5
    · exact fun e => by cases e; exact hX
set_option maxHeartbeats 4000000 in
set_option maxRecDepth 100000 in
theorem wX9_nextToken_91 {C : Cx} (hC : CxOK C cX9_nextToken RX9 none) (hL : C.2.2.2.2 = 2) {G : G2} {R : R2} {b : Nat} (hG : GX G) (h_b : own G b 19) (hR : C.1.2.2.2.1 = rmN 1 0 0) {o : V2} (hX : Go C 126 [(0, .ref b)] [] o R G 0 0) : ∀ (f : Nat) (U15 : V2), lX9_nextToken_91 b f U15 = some o → Go C 91 [(0, .ref b)] [] U15 R G 0 0 := by
  intro f
  induction f with
  | zero => intro _ hf; exact absurd hf (by unfold lX9_nextToken_91; exact fun z => nomatch z)
  | succ f14 ih =>
    intro U15
    unfold lX9_nextToken_91
    refine g_aload_n hC dX9_nextToken_91 (j := 0) rfl rfl ?_
    refine g_getI hC fi_9_6 h_b dX9_nextToken_92 flX9_175 ?_
    refine g_iconst hC dX9_nextToken_95 ic_1 ?_
    refine g_icmp_ne hC dX9_nextToken_96 ?_ ?_
    · refine g_aload_n hC dX9_nextToken_99 (j := 0) rfl rfl ?_
      refine g_aload_n hC dX9_nextToken_100 (j := 0) rfl rfl ?_
      refine g_getI hC fi_9_8 h_b dX9_nextToken_101 flX9_160 ?_
      refine g_callV_i hC hR ⟨Nat.zero_le _, Nat.zero_le _⟩ mwX9_byteAt miX9_byteAt (ci := 9) rfl h_b (Nat.le_of_ble_eq_true rfl) mlX9_166 (fun _ hq => kX9_byteAt hG h_b hq) (Nat.le_of_ble_eq_true rfl) rfl (st := []) rfl (Nat.le_of_ble_eq_true rfl) dX9_nextToken_104 (fun q16 => ?_)
      refine g_callS_i hC hR ⟨Nat.zero_le _, Nat.zero_le _⟩ mwX9_isAlpha ms_X9_isAlpha mlX9_169 (fun _ hq => kX9_isAlpha  hq) (Nat.le_of_ble_eq_true rfl) rfl (st := []) rfl (Nat.le_of_ble_eq_true rfl) dX9_nextToken_107 (fun q17 => ?_)
      refine g_if_eq hC dX9_nextToken_110 ?_ ?_
      · exact fun e => by cases e; exact hX
      · refine g_aload_n hC dX9_nextToken_113 (j := 0) rfl rfl ?_
        refine g_dup hC dX9_nextToken_114 rfl ?_
        refine g_getI hC fi_9_8 h_b dX9_nextToken_115 flX9_160 ?_
        refine g_iconst hC dX9_nextToken_118 ic_1 ?_
        refine g_iadd hC dX9_nextToken_119 ?_
        refine g_putIL hC fp_9_8 h_b dX9_nextToken_120 flX9_160 (fun U18 => ?_)
        refine g_goto hC dX9_nextToken_123 ?_
        exact ih U18
    · exact fun e => by cases e; exact hX
set_option maxHeartbeats 4000000 in
set_option maxRecDepth 100000 in
theorem wX9_nextToken_126 {C : Cx} (hC : CxOK C cX9_nextToken RX9 none) (hL : C.2.2.2.2 = 2) {G : G2} {R : R2} {b : Nat} (hG : GX G) (h_b : own G b 19) (hR : C.1.2.2.2.1 = rmN 1 0 0) {o : V2} (hX : Go C 201 [(0, .ref b)] [] o R G 0 0) : ∀ (f : Nat) (U21 : V2), lX9_nextToken_126 b f U21 = some o → Go C 126 [(0, .ref b)] [] U21 R G 0 0 := by
  intro f
  induction f with
  | zero => intro _ hf; exact absurd hf (by unfold lX9_nextToken_126; exact fun z => nomatch z)
  | succ f20 ih =>
    intro U21
    unfold lX9_nextToken_126
    refine g_aload_n hC dX9_nextToken_126 (j := 0) rfl rfl ?_
    refine g_getI hC fi_9_6 h_b dX9_nextToken_127 flX9_175 ?_
    refine g_iconst hC dX9_nextToken_130 ic_2 ?_
    refine g_icmp_ne hC dX9_nextToken_131 ?_ ?_
    · refine g_aload_n hC dX9_nextToken_134 (j := 0) rfl rfl ?_
      refine g_aload_n hC dX9_nextToken_135 (j := 0) rfl rfl ?_
      refine g_getI hC fi_9_8 h_b dX9_nextToken_136 flX9_160 ?_
      refine g_callV_i hC hR ⟨Nat.zero_le _, Nat.zero_le _⟩ mwX9_byteAt miX9_byteAt (ci := 9) rfl h_b (Nat.le_of_ble_eq_true rfl) mlX9_166 (fun _ hq => kX9_byteAt hG h_b hq) (Nat.le_of_ble_eq_true rfl) rfl (st := []) rfl (Nat.le_of_ble_eq_true rfl) dX9_nextToken_139 (fun q22 => ?_)
      refine g_callS_i hC hR ⟨Nat.zero_le _, Nat.zero_le _⟩ mwX9_isDigit ms_X9_isDigit mlX9_172 (fun _ hq => kX9_isDigit  hq) (Nat.le_of_ble_eq_true rfl) rfl (st := []) rfl (Nat.le_of_ble_eq_true rfl) dX9_nextToken_142 (fun q23 => ?_)
      refine g_if_eq hC dX9_nextToken_145 ?_ ?_
      · exact fun e => by cases e; exact hX
      · refine g_aload_n hC dX9_nextToken_148 (j := 0) rfl rfl ?_
        refine g_aload_n hC dX9_nextToken_149 (j := 0) rfl rfl ?_
        refine g_getI hC fi_9_9 h_b dX9_nextToken_150 flX9_178 ?_
        refine g_sipush hC dX9_nextToken_153 sc_9999 ?_
        refine g_bind (J := fun j24 => Go C 185 [(0, .ref b)] [.int j24, .ref b] U21 R G 0 0) (fun j24 hJ => ?_) (fun j24 => ?_)
        · refine g_icmp_le hC dX9_nextToken_156 ?_ ?_
          · refine g_bipush hC dX9_nextToken_166 bc_10 ?_
            refine g_aload_n hC dX9_nextToken_168 (j := 0) rfl rfl ?_
            refine g_getI hC fi_9_9 h_b dX9_nextToken_169 flX9_178 ?_
            refine g_imul hC dX9_nextToken_172 ?_
            refine g_aload_n hC dX9_nextToken_173 (j := 0) rfl rfl ?_
            refine g_aload_n hC dX9_nextToken_174 (j := 0) rfl rfl ?_
            refine g_getI hC fi_9_8 h_b dX9_nextToken_175 flX9_160 ?_
            refine g_callV_i hC hR ⟨Nat.zero_le _, Nat.zero_le _⟩ mwX9_byteAt miX9_byteAt (ci := 9) rfl h_b (Nat.le_of_ble_eq_true rfl) mlX9_166 (fun _ hq => kX9_byteAt hG h_b hq) (Nat.le_of_ble_eq_true rfl) rfl (st := [.int (10 * (U21 b 9)), .ref b]) rfl (Nat.le_of_ble_eq_true rfl) dX9_nextToken_178 (fun q25 => ?_)
            refine g_iadd hC dX9_nextToken_181 ?_
            refine g_bipush hC dX9_nextToken_182 bc_48 ?_
            refine g_isub hC dX9_nextToken_184 ?_
            exact fun e => by cases e; exact hJ
          · refine g_aload_n hC dX9_nextToken_159 (j := 0) rfl rfl ?_
            refine g_getI hC fi_9_9 h_b dX9_nextToken_160 flX9_178 ?_
            refine g_goto hC dX9_nextToken_163 ?_
            exact fun e => by cases e; exact hJ
        · refine g_putIL hC fp_9_9 h_b dX9_nextToken_185 flX9_178 (fun U26 => ?_)
          refine g_aload_n hC dX9_nextToken_188 (j := 0) rfl rfl ?_
          refine g_dup hC dX9_nextToken_189 rfl ?_
          refine g_getI hC fi_9_8 h_b dX9_nextToken_190 flX9_160 ?_
          refine g_iconst hC dX9_nextToken_193 ic_1 ?_
          refine g_iadd hC dX9_nextToken_194 ?_
          refine g_putIL hC fp_9_8 h_b dX9_nextToken_195 flX9_160 (fun U27 => ?_)
          refine g_goto hC dX9_nextToken_198 ?_
          exact ih U27
    · exact fun e => by cases e; exact hX
set_option maxHeartbeats 4000000 in
set_option maxRecDepth 100000 in
theorem kX9_nextToken {l : Launch} {D : Dx} {G : G2} {V : V2} {R : R2} {n : Nat} {b : Nat} (hG : GX G) (h_b : own G b 19) {o : V2} (hf : pX9_nextToken n V b = some o) : Con l yX9_nextToken cX9_nextToken 2 none (rmN 1 0 0) D G V R [.ref b] (none, o, R, G, 0, 0) := by
  refine Con.mk RX9 (by decide) rfl (Nat.le_of_ble_eq_true rfl) (fun C _ hR hT _ _ hL hC hnm => ?_)
  revert hf
  unfold pX9_nextToken
  refine g_aload_n hC dX9_nextToken_0 (j := 0) rfl rfl ?_
  refine g_aload_n hC dX9_nextToken_1 (j := 0) rfl rfl ?_
  refine g_getI hC fi_9_8 h_b dX9_nextToken_2 flX9_160 ?_
  refine g_putIL hC fp_9_7 h_b dX9_nextToken_5 flX9_163 (fun U1 => ?_)
  refine g_bind (J := fun w6 => Go C 34 [(0, .ref b)] [] w6 R G 0 0) (fun w6 hJ => wX9_nextToken_8 hC hL hG h_b hR hJ n U1) (fun w6 => ?_)
  refine g_aload_n hC dX9_nextToken_34 (j := 0) rfl rfl ?_
  refine g_aload_n hC dX9_nextToken_35 (j := 0) rfl rfl ?_
  refine g_getI hC fi_9_7 h_b dX9_nextToken_36 flX9_163 ?_
  refine g_putIL hC fp_9_8 h_b dX9_nextToken_39 flX9_160 (fun U7 => ?_)
  refine g_aload_n hC dX9_nextToken_42 (j := 0) rfl rfl ?_
  refine g_aload_n hC dX9_nextToken_43 (j := 0) rfl rfl ?_
  refine g_getI hC fi_9_7 h_b dX9_nextToken_44 flX9_163 ?_
  refine g_callV_i hC hR ⟨Nat.zero_le _, Nat.zero_le _⟩ mwX9_byteAt miX9_byteAt (ci := 9) rfl h_b (Nat.le_of_ble_eq_true rfl) mlX9_166 (fun _ hq => kX9_byteAt hG h_b hq) (Nat.le_of_ble_eq_true rfl) rfl (st := []) rfl (Nat.le_of_ble_eq_true rfl) dX9_nextToken_47 (fun q8 => ?_)
  refine g_istore_n hC (n0 := 2) (lv' := [(1, .int q8), (0, .ref b)]) dX9_nextToken_50 rfl (Nat.le_of_ble_eq_true rfl) hL rfl ?_
  refine g_aload_n hC dX9_nextToken_51 (j := 1) rfl rfl ?_
  refine g_iload_n hC dX9_nextToken_52 (j := 0) rfl rfl ?_
  refine g_bind (J := fun j9 => Go C 83 [(0, .ref b)] [.int j9, .ref b] U7 R G 0 0) (fun j9 hJ => ?_) (fun j9 => ?_)
  · refine g_if_ge hC dX9_nextToken_53 ?_ ?_
    · refine g_iload_n hC dX9_nextToken_60 (j := 0) rfl rfl ?_
      refine g_callS_i hC hR ⟨Nat.zero_le _, Nat.zero_le _⟩ mwX9_isAlpha ms_X9_isAlpha mlX9_169 (fun _ hq => kX9_isAlpha  hq) (Nat.le_of_ble_eq_true rfl) rfl (st := [.ref b]) rfl (Nat.le_of_ble_eq_true rfl) dX9_nextToken_61 (fun q10 => ?_)
      refine g_if_eq hC dX9_nextToken_64 ?_ ?_
      · refine g_iload_n hC dX9_nextToken_71 (j := 0) rfl rfl ?_
        refine g_callS_i hC hR ⟨Nat.zero_le _, Nat.zero_le _⟩ mwX9_isDigit ms_X9_isDigit mlX9_172 (fun _ hq => kX9_isDigit  hq) (Nat.le_of_ble_eq_true rfl) rfl (st := [.ref b]) rfl (Nat.le_of_ble_eq_true rfl) dX9_nextToken_72 (fun q11 => ?_)
        refine g_if_eq hC dX9_nextToken_75 ?_ ?_
        · refine g_iconst hC dX9_nextToken_82 ic_3 ?_
          refine g_sub [1] rfl ?_
          exact fun e => by cases e; exact hJ
        · refine g_iconst hC dX9_nextToken_78 ic_2 ?_
          refine g_goto hC dX9_nextToken_79 ?_
          refine g_sub [1] rfl ?_
          exact fun e => by cases e; exact hJ
      · refine g_iconst hC dX9_nextToken_67 ic_1 ?_
        refine g_goto hC dX9_nextToken_68 ?_
        refine g_sub [1] rfl ?_
        exact fun e => by cases e; exact hJ
    · refine g_iconst hC dX9_nextToken_56 ic_0 ?_
      refine g_goto hC dX9_nextToken_57 ?_
      refine g_sub [1] rfl ?_
      exact fun e => by cases e; exact hJ
  · refine g_putIL hC fp_9_6 h_b dX9_nextToken_83 flX9_175 (fun U12 => ?_)
    refine g_aload_n hC dX9_nextToken_86 (j := 0) rfl rfl ?_
    refine g_iconst hC dX9_nextToken_87 ic_0 ?_
    refine g_putIL hC fp_9_9 h_b dX9_nextToken_88 flX9_178 (fun U13 => ?_)
    refine g_bind (J := fun w19 => Go C 126 [(0, .ref b)] [] w19 R G 0 0) (fun w19 hJ => wX9_nextToken_91 hC hL hG h_b hR hJ n U13) (fun w19 => ?_)
    refine g_bind (J := fun w28 => Go C 201 [(0, .ref b)] [] w28 R G 0 0) (fun w28 hJ => wX9_nextToken_126 hC hL hG h_b hR hJ n w19) (fun w28 => ?_)
    refine g_aload_n hC dX9_nextToken_201 (j := 0) rfl rfl ?_
    refine g_dup hC dX9_nextToken_202 rfl ?_
    refine g_getI hC fi_9_8 h_b dX9_nextToken_203 flX9_160 ?_
    refine g_aload_n hC dX9_nextToken_206 (j := 0) rfl rfl ?_
    refine g_getI hC fi_9_6 h_b dX9_nextToken_207 flX9_175 ?_
    refine g_iconst hC dX9_nextToken_210 ic_2 ?_
    refine g_letJ (J := fun j29 => Go C 219 [] [.int j29, .int (w28 b 8), .ref b] w28 R G 0 0) (fun j29 hJ => ?_) (fun j29 => ?_)
    · refine g_icmp_le hC dX9_nextToken_211 ?_ ?_
      · refine g_iconst hC dX9_nextToken_218 ic_0 ?_
        refine g_sub [] rfl ?_
        exact fun e => by cases e; exact hJ
      · refine g_iconst hC dX9_nextToken_214 ic_1 ?_
        refine g_goto hC dX9_nextToken_215 ?_
        refine g_sub [] rfl ?_
        exact fun e => by cases e; exact hJ
    · refine g_iadd hC dX9_nextToken_219 ?_
      refine g_putIL hC fp_9_8 h_b dX9_nextToken_220 flX9_160 (fun U30 => ?_)
      exact g_vret_vV hC hT dX9_nextToken_223
def pX9_needs (n : Nat) (V : V2) (b : Nat) (a1 : Int32) : Option (V2) :=
  letv ((if (V b 10) = 0 then (if a1 = 0 then (1)
  else (0))
  else (1) : Int32)) fun j1 =>
  if isb j1 then (
  letv (up2 V b 10 j1) fun U2 =>
  if (U2 b 10) = 0 then ((pX9_nextToken n U2 b).bind fun q4 =>
  some q4)
  else (some U2)) else none
set_option maxHeartbeats 4000000 in
set_option maxRecDepth 100000 in
theorem kX9_needs {l : Launch} {D : Dx} {G : G2} {V : V2} {R : R2} {n : Nat} {b : Nat} {a1 : Int32} (hG : GX G) (h_b : own G b 19) {o : V2} (hf : pX9_needs n V b a1 = some o) : Con l yX9_needs cX9_needs 2 none (rmN 2 0 0) D G V R [.ref b, .int a1] (none, o, R, G, 0, 0) := by
  refine Con.mk RX9 (by decide) rfl (Nat.le_of_ble_eq_true rfl) (fun C _ hR hT _ _ hL hC hnm => ?_)
  revert hf
  unfold pX9_needs
  refine g_aload_n hC dX9_needs_0 (j := 0) rfl rfl ?_
  refine g_aload_n hC dX9_needs_1 (j := 0) rfl rfl ?_
  refine g_getI hC fi_9_10 h_b dX9_needs_2 flX9_181 ?_
  refine g_letJ (J := fun j1 => Go C 17 [(0, .ref b)] [.int j1, .ref b] V R G 0 0) (fun j1 hJ => ?_) (fun j1 => ?_)
  · refine g_if_ne hC dX9_needs_5 ?_ ?_
    · refine g_iload_n hC dX9_needs_8 (j := 1) rfl rfl ?_
      refine g_if_ne hC dX9_needs_9 ?_ ?_
      · refine g_iconst hC dX9_needs_12 ic_1 ?_
        refine g_goto hC dX9_needs_13 ?_
        refine g_sub [0] rfl ?_
        exact fun e => by cases e; exact hJ
      · refine g_iconst hC dX9_needs_16 ic_0 ?_
        refine g_sub [0] rfl ?_
        exact fun e => by cases e; exact hJ
    · refine g_iconst hC dX9_needs_12 ic_1 ?_
      refine g_goto hC dX9_needs_13 ?_
      refine g_sub [0] rfl ?_
      exact fun e => by cases e; exact hJ
  · refine g_guardb (fun hz3 => ?_)
    refine g_putZL hC fp_9_10 h_b hz3 dX9_needs_17 flX9_181 (fun U2 => ?_)
    refine g_aload_n hC dX9_needs_20 (j := 0) rfl rfl ?_
    refine g_getI hC fi_9_10 h_b dX9_needs_21 flX9_181 ?_
    refine g_if_ne hC dX9_needs_24 ?_ ?_
    · refine g_aload_n hC dX9_needs_27 (j := 0) rfl rfl ?_
      refine g_callV_vV hC hR ⟨Nat.zero_le _, Nat.zero_le _⟩ mwX9_nextToken miX9_nextToken (ci := 9) rfl h_b (Nat.le_of_ble_eq_true rfl) mlX9_185 (fun _ hq => kX9_nextToken hG h_b hq) (Nat.le_of_ble_eq_true rfl) rfl (st := []) rfl (Nat.le_of_ble_eq_true rfl) dX9_needs_28 (fun q4 => ?_)
      exact g_vret_vV hC hT dX9_needs_31
    · exact g_vret_vV hC hT dX9_needs_31
def pX9_isByte (V : V2) (b : Nat) (a1 : Int32) : Option (Int32) :=
  if (V b 6) = (3 : Int32) then ((pX9_byteAt V b (V b 7)).bind fun q1 =>
  if q1 = a1 then (some 1)
  else (some 0))
  else (some 0)
set_option maxHeartbeats 4000000 in
set_option maxRecDepth 100000 in
theorem kX9_isByte {l : Launch} {D : Dx} {G : G2} {V : V2} {R : R2} {b : Nat} {a1 : Int32} (hG : GX G) (h_b : own G b 19) {o : Int32} (hf : pX9_isByte V b a1 = some o) : Con l yX9_isByte cX9_isByte 2 (some .boolean) (rmN 1 0 0) D G V R [.ref b, .int a1] (some (.int o), V, R, G, 0, 0) := by
  refine Con.mk RX9 (by decide) rfl (Nat.le_of_ble_eq_true rfl) (fun C _ hR hT _ _ hL hC hnm => ?_)
  revert hf
  unfold pX9_isByte
  refine g_aload_n hC dX9_isByte_0 (j := 0) rfl rfl ?_
  refine g_getI hC fi_9_6 h_b dX9_isByte_1 flX9_175 ?_
  refine g_iconst hC dX9_isByte_4 ic_3 ?_
  refine g_icmp_ne hC dX9_isByte_5 ?_ ?_
  · refine g_aload_n hC dX9_isByte_8 (j := 0) rfl rfl ?_
    refine g_aload_n hC dX9_isByte_9 (j := 0) rfl rfl ?_
    refine g_getI hC fi_9_7 h_b dX9_isByte_10 flX9_163 ?_
    refine g_callV_i hC hR ⟨Nat.zero_le _, Nat.zero_le _⟩ mwX9_byteAt miX9_byteAt (ci := 9) rfl h_b (Nat.le_of_ble_eq_true rfl) mlX9_166 (fun _ hq => kX9_byteAt hG h_b hq) (Nat.le_of_ble_eq_true rfl) rfl (st := []) rfl (Nat.le_of_ble_eq_true rfl) dX9_isByte_13 (fun q1 => ?_)
    refine g_iload_n hC dX9_isByte_16 (j := 1) rfl rfl ?_
    refine g_icmp_ne hC dX9_isByte_17 ?_ ?_
    · refine g_iconst hC dX9_isByte_20 ic_1 ?_
      refine g_goto hC dX9_isByte_21 ?_
      exact g_zret_i hC rfl hT dX9_isByte_25
    · refine g_iconst hC dX9_isByte_24 ic_0 ?_
      exact g_zret_i hC rfl hT dX9_isByte_25
  · refine g_iconst hC dX9_isByte_24 ic_0 ?_
    exact g_zret_i hC rfl hT dX9_isByte_25
def pX9_isName (V : V2) (b : Nat) (a1 : Int32) (a2 : Int32) (a3 : Int32) (a4 : Int32) (a5 : Int32) : Option (Int32) :=
  if (V b 6) = (1 : Int32) then (if ((V b 8) - (V b 7)) = a1 then ((pX9_byteAt V b (V b 7)).bind fun q1 =>
  if q1 = a2 then ((pX9_byteAt V b ((V b 7) + 1)).bind fun q2 =>
  if q2 = a3 then ((pX9_byteAt V b ((V b 7) + 2)).bind fun q3 =>
  if q3 = a4 then ((pX9_byteAt V b ((V b 8) - 1)).bind fun q4 =>
  if q4 = a5 then (some 1)
  else (some 0))
  else (some 0))
  else (some 0))
  else (some 0))
  else (some 0))
  else (some 0)
set_option maxHeartbeats 4000000 in
set_option maxRecDepth 100000 in
theorem kX9_isName {l : Launch} {D : Dx} {G : G2} {V : V2} {R : R2} {b : Nat} {a1 : Int32} {a2 : Int32} {a3 : Int32} {a4 : Int32} {a5 : Int32} (hG : GX G) (h_b : own G b 19) {o : Int32} (hf : pX9_isName V b a1 a2 a3 a4 a5 = some o) : Con l yX9_isName cX9_isName 6 (some .boolean) (rmN 1 0 0) D G V R [.ref b, .int a1, .int a2, .int a3, .int a4, .int a5] (some (.int o), V, R, G, 0, 0) := by
  refine Con.mk RX9 (by decide) rfl (Nat.le_of_ble_eq_true rfl) (fun C _ hR hT _ _ hL hC hnm => ?_)
  revert hf
  unfold pX9_isName
  refine g_aload_n hC dX9_isName_0 (j := 0) rfl rfl ?_
  refine g_getI hC fi_9_6 h_b dX9_isName_1 flX9_175 ?_
  refine g_iconst hC dX9_isName_4 ic_1 ?_
  refine g_icmp_ne hC dX9_isName_5 ?_ ?_
  · refine g_aload_n hC dX9_isName_8 (j := 0) rfl rfl ?_
    refine g_getI hC fi_9_8 h_b dX9_isName_9 flX9_160 ?_
    refine g_aload_n hC dX9_isName_12 (j := 0) rfl rfl ?_
    refine g_getI hC fi_9_7 h_b dX9_isName_13 flX9_163 ?_
    refine g_isub hC dX9_isName_16 ?_
    refine g_iload_n hC dX9_isName_17 (j := 1) rfl rfl ?_
    refine g_icmp_ne hC dX9_isName_18 ?_ ?_
    · refine g_aload_n hC dX9_isName_21 (j := 0) rfl rfl ?_
      refine g_aload_n hC dX9_isName_22 (j := 0) rfl rfl ?_
      refine g_getI hC fi_9_7 h_b dX9_isName_23 flX9_163 ?_
      refine g_callV_i hC hR ⟨Nat.zero_le _, Nat.zero_le _⟩ mwX9_byteAt miX9_byteAt (ci := 9) rfl h_b (Nat.le_of_ble_eq_true rfl) mlX9_166 (fun _ hq => kX9_byteAt hG h_b hq) (Nat.le_of_ble_eq_true rfl) rfl (st := []) rfl (Nat.le_of_ble_eq_true rfl) dX9_isName_26 (fun q1 => ?_)
      refine g_iload_n hC dX9_isName_29 (j := 2) rfl rfl ?_
      refine g_icmp_ne hC dX9_isName_30 ?_ ?_
      · refine g_aload_n hC dX9_isName_33 (j := 0) rfl rfl ?_
        refine g_aload_n hC dX9_isName_34 (j := 0) rfl rfl ?_
        refine g_getI hC fi_9_7 h_b dX9_isName_35 flX9_163 ?_
        refine g_iconst hC dX9_isName_38 ic_1 ?_
        refine g_iadd hC dX9_isName_39 ?_
        refine g_callV_i hC hR ⟨Nat.zero_le _, Nat.zero_le _⟩ mwX9_byteAt miX9_byteAt (ci := 9) rfl h_b (Nat.le_of_ble_eq_true rfl) mlX9_166 (fun _ hq => kX9_byteAt hG h_b hq) (Nat.le_of_ble_eq_true rfl) rfl (st := []) rfl (Nat.le_of_ble_eq_true rfl) dX9_isName_40 (fun q2 => ?_)
        refine g_iload_n hC dX9_isName_43 (j := 3) rfl rfl ?_
        refine g_icmp_ne hC dX9_isName_44 ?_ ?_
        · refine g_aload_n hC dX9_isName_47 (j := 0) rfl rfl ?_
          refine g_aload_n hC dX9_isName_48 (j := 0) rfl rfl ?_
          refine g_getI hC fi_9_7 h_b dX9_isName_49 flX9_163 ?_
          refine g_iconst hC dX9_isName_52 ic_2 ?_
          refine g_iadd hC dX9_isName_53 ?_
          refine g_callV_i hC hR ⟨Nat.zero_le _, Nat.zero_le _⟩ mwX9_byteAt miX9_byteAt (ci := 9) rfl h_b (Nat.le_of_ble_eq_true rfl) mlX9_166 (fun _ hq => kX9_byteAt hG h_b hq) (Nat.le_of_ble_eq_true rfl) rfl (st := []) rfl (Nat.le_of_ble_eq_true rfl) dX9_isName_54 (fun q3 => ?_)
          refine g_iload hC dX9_isName_57 (j := 4) rfl ?_
          refine g_icmp_ne hC dX9_isName_59 ?_ ?_
          · refine g_aload_n hC dX9_isName_62 (j := 0) rfl rfl ?_
            refine g_aload_n hC dX9_isName_63 (j := 0) rfl rfl ?_
            refine g_getI hC fi_9_8 h_b dX9_isName_64 flX9_160 ?_
            refine g_iconst hC dX9_isName_67 ic_1 ?_
            refine g_isub hC dX9_isName_68 ?_
            refine g_callV_i hC hR ⟨Nat.zero_le _, Nat.zero_le _⟩ mwX9_byteAt miX9_byteAt (ci := 9) rfl h_b (Nat.le_of_ble_eq_true rfl) mlX9_166 (fun _ hq => kX9_byteAt hG h_b hq) (Nat.le_of_ble_eq_true rfl) rfl (st := []) rfl (Nat.le_of_ble_eq_true rfl) dX9_isName_69 (fun q4 => ?_)
            refine g_iload hC dX9_isName_72 (j := 5) rfl ?_
            refine g_icmp_ne hC dX9_isName_74 ?_ ?_
            · refine g_iconst hC dX9_isName_77 ic_1 ?_
              refine g_goto hC dX9_isName_78 ?_
              exact g_zret_i hC rfl hT dX9_isName_82
            · refine g_iconst hC dX9_isName_81 ic_0 ?_
              exact g_zret_i hC rfl hT dX9_isName_82
          · refine g_iconst hC dX9_isName_81 ic_0 ?_
            exact g_zret_i hC rfl hT dX9_isName_82
        · refine g_iconst hC dX9_isName_81 ic_0 ?_
          exact g_zret_i hC rfl hT dX9_isName_82
      · refine g_iconst hC dX9_isName_81 ic_0 ?_
        exact g_zret_i hC rfl hT dX9_isName_82
    · refine g_iconst hC dX9_isName_81 ic_0 ?_
      exact g_zret_i hC rfl hT dX9_isName_82
  · refine g_iconst hC dX9_isName_81 ic_0 ?_
    exact g_zret_i hC rfl hT dX9_isName_82
def pX9_isSame (V : V2) (b : Nat) (a1 : Int32) (a2 : Int32) (a3 : Int32) (a4 : Int32) : Option (Int32) :=
  (pX9_byteAt V b ((V b 7) + a1)).bind fun q1 =>
  if q1 = a2 then ((pX9_byteAt V b (((V b 7) + a1) + 1)).bind fun q2 =>
  if q2 = a3 then ((pX9_byteAt V b (((V b 7) + a1) + 2)).bind fun q3 =>
  if q3 = a4 then (some 1)
  else (some 0))
  else (some 0))
  else (some 0)
set_option maxHeartbeats 4000000 in
set_option maxRecDepth 100000 in
theorem kX9_isSame {l : Launch} {D : Dx} {G : G2} {V : V2} {R : R2} {b : Nat} {a1 : Int32} {a2 : Int32} {a3 : Int32} {a4 : Int32} (hG : GX G) (h_b : own G b 19) {o : Int32} (hf : pX9_isSame V b a1 a2 a3 a4 = some o) : Con l yX9_isSame cX9_isSame 5 (some .boolean) (rmN 1 0 0) D G V R [.ref b, .int a1, .int a2, .int a3, .int a4] (some (.int o), V, R, G, 0, 0) := by
  refine Con.mk RX9 (by decide) rfl (Nat.le_of_ble_eq_true rfl) (fun C _ hR hT _ _ hL hC hnm => ?_)
  revert hf
  unfold pX9_isSame
  refine g_aload_n hC dX9_isSame_0 (j := 0) rfl rfl ?_
  refine g_aload_n hC dX9_isSame_1 (j := 0) rfl rfl ?_
  refine g_getI hC fi_9_7 h_b dX9_isSame_2 flX9_163 ?_
  refine g_iload_n hC dX9_isSame_5 (j := 1) rfl rfl ?_
  refine g_iadd hC dX9_isSame_6 ?_
  refine g_callV_i hC hR ⟨Nat.zero_le _, Nat.zero_le _⟩ mwX9_byteAt miX9_byteAt (ci := 9) rfl h_b (Nat.le_of_ble_eq_true rfl) mlX9_166 (fun _ hq => kX9_byteAt hG h_b hq) (Nat.le_of_ble_eq_true rfl) rfl (st := []) rfl (Nat.le_of_ble_eq_true rfl) dX9_isSame_7 (fun q1 => ?_)
  refine g_iload_n hC dX9_isSame_10 (j := 2) rfl rfl ?_
  refine g_icmp_ne hC dX9_isSame_11 ?_ ?_
  · refine g_aload_n hC dX9_isSame_14 (j := 0) rfl rfl ?_
    refine g_aload_n hC dX9_isSame_15 (j := 0) rfl rfl ?_
    refine g_getI hC fi_9_7 h_b dX9_isSame_16 flX9_163 ?_
    refine g_iload_n hC dX9_isSame_19 (j := 1) rfl rfl ?_
    refine g_iadd hC dX9_isSame_20 ?_
    refine g_iconst hC dX9_isSame_21 ic_1 ?_
    refine g_iadd hC dX9_isSame_22 ?_
    refine g_callV_i hC hR ⟨Nat.zero_le _, Nat.zero_le _⟩ mwX9_byteAt miX9_byteAt (ci := 9) rfl h_b (Nat.le_of_ble_eq_true rfl) mlX9_166 (fun _ hq => kX9_byteAt hG h_b hq) (Nat.le_of_ble_eq_true rfl) rfl (st := []) rfl (Nat.le_of_ble_eq_true rfl) dX9_isSame_23 (fun q2 => ?_)
    refine g_iload_n hC dX9_isSame_26 (j := 3) rfl rfl ?_
    refine g_icmp_ne hC dX9_isSame_27 ?_ ?_
    · refine g_aload_n hC dX9_isSame_30 (j := 0) rfl rfl ?_
      refine g_aload_n hC dX9_isSame_31 (j := 0) rfl rfl ?_
      refine g_getI hC fi_9_7 h_b dX9_isSame_32 flX9_163 ?_
      refine g_iload_n hC dX9_isSame_35 (j := 1) rfl rfl ?_
      refine g_iadd hC dX9_isSame_36 ?_
      refine g_iconst hC dX9_isSame_37 ic_2 ?_
      refine g_iadd hC dX9_isSame_38 ?_
      refine g_callV_i hC hR ⟨Nat.zero_le _, Nat.zero_le _⟩ mwX9_byteAt miX9_byteAt (ci := 9) rfl h_b (Nat.le_of_ble_eq_true rfl) mlX9_166 (fun _ hq => kX9_byteAt hG h_b hq) (Nat.le_of_ble_eq_true rfl) rfl (st := []) rfl (Nat.le_of_ble_eq_true rfl) dX9_isSame_39 (fun q3 => ?_)
      refine g_iload hC dX9_isSame_42 (j := 4) rfl ?_
      refine g_icmp_ne hC dX9_isSame_44 ?_ ?_
      · refine g_iconst hC dX9_isSame_47 ic_1 ?_
        refine g_goto hC dX9_isSame_48 ?_
        exact g_zret_i hC rfl hT dX9_isSame_52
      · refine g_iconst hC dX9_isSame_51 ic_0 ?_
        exact g_zret_i hC rfl hT dX9_isSame_52
    · refine g_iconst hC dX9_isSame_51 ic_0 ?_
      exact g_zret_i hC rfl hT dX9_isSame_52
  · refine g_iconst hC dX9_isSame_51 ic_0 ?_
    exact g_zret_i hC rfl hT dX9_isSame_52
def pX9_kindHere (V : V2) (b : Nat) : Option (Int32) :=
  (pX9_isName V b 5 116 104 105 103).bind fun q1 =>
  letv (fun (u3 : Unit) => ((pX9_isName V b 6 99 111 112 114).bind fun q4 =>
  letv (fun (u6 : Unit) => ((pX9_isName V b 4 99 111 97 116).bind fun q7 =>
  if q7 = 0 then ((pX9_isName V b 3 104 97 116 116).bind fun q8 =>
  if q8 = 0 then ((pX9_isName V b 5 108 105 110 110).bind fun q9 =>
  letv (fun (u11 : Unit) => ((pX9_isName V b 5 102 105 101 100).bind fun q12 =>
  if q12 = 0 then (some (-1))
  else ((pX9_byteAt V b ((V b 7) + 3)).bind fun q13 =>
  if q13 = (108 : Int32) then (some 5)
  else (some (-1))))) fun j10 =>
  if q9 = 0 then (j10 ())
  else ((pX9_byteAt V b ((V b 7) + 3)).bind fun q14 =>
  if q14 = (101 : Int32) then (some 4)
  else (j10 ())))
  else (some 3))
  else (some 2))) fun j5 =>
  if q4 = 0 then (j5 ())
  else ((pX9_isSame V b 2 112 112 101).bind fun q15 =>
  if q15 = 0 then (j5 ())
  else (some 1)))) fun j2 =>
  if q1 = 0 then (j2 ())
  else ((pX9_byteAt V b ((V b 7) + 3)).bind fun q16 =>
  if q16 = (110 : Int32) then (some 0)
  else (j2 ()))
set_option maxHeartbeats 4000000 in
set_option maxRecDepth 100000 in
theorem kX9_kindHere {l : Launch} {D : Dx} {G : G2} {V : V2} {R : R2} {b : Nat} (hG : GX G) (h_b : own G b 19) {o : Int32} (hf : pX9_kindHere V b = some o) : Con l yX9_kindHere cX9_kindHere 1 (some .int) (rmN 2 0 0) D G V R [.ref b] (some (.int o), V, R, G, 0, 0) := by
  refine Con.mk RX9 (by decide) rfl (Nat.le_of_ble_eq_true rfl) (fun C _ hR hT _ _ hL hC hnm => ?_)
  revert hf
  unfold pX9_kindHere
  refine g_aload_n hC dX9_kindHere_0 (j := 0) rfl rfl ?_
  refine g_iconst hC dX9_kindHere_1 ic_5 ?_
  refine g_bipush hC dX9_kindHere_2 bc_116 ?_
  refine g_bipush hC dX9_kindHere_4 bc_104 ?_
  refine g_bipush hC dX9_kindHere_6 bc_105 ?_
  refine g_bipush hC dX9_kindHere_8 bc_103 ?_
  refine g_callV_i hC hR ⟨Nat.zero_le _, Nat.zero_le _⟩ mwX9_isName miX9_isName (ci := 9) rfl h_b (Nat.le_of_ble_eq_true rfl) mlX9_188 (fun _ hq => kX9_isName hG h_b hq) (Nat.le_of_ble_eq_true rfl) rfl (st := []) rfl (Nat.le_of_ble_eq_true rfl) dX9_kindHere_10 (fun q1 => ?_)
  refine g_jn (J := fun j2 => ∀ (u3 : Unit), j2 u3 = some o → Go C 33 [(0, .ref b)] [] V R G 0 0) (fun u3 => ?_) (fun j2 hJ => ?_)
  · refine g_aload_n hC dX9_kindHere_33 (j := 0) rfl rfl ?_
    refine g_bipush hC dX9_kindHere_34 bc_6 ?_
    refine g_bipush hC dX9_kindHere_36 bc_99 ?_
    refine g_bipush hC dX9_kindHere_38 bc_111 ?_
    refine g_bipush hC dX9_kindHere_40 bc_112 ?_
    refine g_bipush hC dX9_kindHere_42 bc_114 ?_
    refine g_callV_i hC hR ⟨Nat.zero_le _, Nat.zero_le _⟩ mwX9_isName miX9_isName (ci := 9) rfl h_b (Nat.le_of_ble_eq_true rfl) mlX9_188 (fun _ hq => kX9_isName hG h_b hq) (Nat.le_of_ble_eq_true rfl) rfl (st := []) rfl (Nat.le_of_ble_eq_true rfl) dX9_kindHere_44 (fun q4 => ?_)
    refine g_jn (J := fun j5 => ∀ (u6 : Unit), j5 u6 = some o → Go C 66 [(0, .ref b)] [] V R G 0 0) (fun u6 => ?_) (fun j5 hJ => ?_)
    · refine g_aload_n hC dX9_kindHere_66 (j := 0) rfl rfl ?_
      refine g_iconst hC dX9_kindHere_67 ic_4 ?_
      refine g_bipush hC dX9_kindHere_68 bc_99 ?_
      refine g_bipush hC dX9_kindHere_70 bc_111 ?_
      refine g_bipush hC dX9_kindHere_72 bc_97 ?_
      refine g_bipush hC dX9_kindHere_74 bc_116 ?_
      refine g_callV_i hC hR ⟨Nat.zero_le _, Nat.zero_le _⟩ mwX9_isName miX9_isName (ci := 9) rfl h_b (Nat.le_of_ble_eq_true rfl) mlX9_188 (fun _ hq => kX9_isName hG h_b hq) (Nat.le_of_ble_eq_true rfl) rfl (st := []) rfl (Nat.le_of_ble_eq_true rfl) dX9_kindHere_76 (fun q7 => ?_)
      refine g_if_eq hC dX9_kindHere_79 ?_ ?_
      · refine g_aload_n hC dX9_kindHere_84 (j := 0) rfl rfl ?_
        refine g_iconst hC dX9_kindHere_85 ic_3 ?_
        refine g_bipush hC dX9_kindHere_86 bc_104 ?_
        refine g_bipush hC dX9_kindHere_88 bc_97 ?_
        refine g_bipush hC dX9_kindHere_90 bc_116 ?_
        refine g_bipush hC dX9_kindHere_92 bc_116 ?_
        refine g_callV_i hC hR ⟨Nat.zero_le _, Nat.zero_le _⟩ mwX9_isName miX9_isName (ci := 9) rfl h_b (Nat.le_of_ble_eq_true rfl) mlX9_188 (fun _ hq => kX9_isName hG h_b hq) (Nat.le_of_ble_eq_true rfl) rfl (st := []) rfl (Nat.le_of_ble_eq_true rfl) dX9_kindHere_94 (fun q8 => ?_)
        refine g_if_eq hC dX9_kindHere_97 ?_ ?_
        · refine g_aload_n hC dX9_kindHere_102 (j := 0) rfl rfl ?_
          refine g_iconst hC dX9_kindHere_103 ic_5 ?_
          refine g_bipush hC dX9_kindHere_104 bc_108 ?_
          refine g_bipush hC dX9_kindHere_106 bc_105 ?_
          refine g_bipush hC dX9_kindHere_108 bc_110 ?_
          refine g_bipush hC dX9_kindHere_110 bc_110 ?_
          refine g_callV_i hC hR ⟨Nat.zero_le _, Nat.zero_le _⟩ mwX9_isName miX9_isName (ci := 9) rfl h_b (Nat.le_of_ble_eq_true rfl) mlX9_188 (fun _ hq => kX9_isName hG h_b hq) (Nat.le_of_ble_eq_true rfl) rfl (st := []) rfl (Nat.le_of_ble_eq_true rfl) dX9_kindHere_112 (fun q9 => ?_)
          refine g_jn (J := fun j10 => ∀ (u11 : Unit), j10 u11 = some o → Go C 135 [(0, .ref b)] [] V R G 0 0) (fun u11 => ?_) (fun j10 hJ => ?_)
          · refine g_aload_n hC dX9_kindHere_135 (j := 0) rfl rfl ?_
            refine g_iconst hC dX9_kindHere_136 ic_5 ?_
            refine g_bipush hC dX9_kindHere_137 bc_102 ?_
            refine g_bipush hC dX9_kindHere_139 bc_105 ?_
            refine g_bipush hC dX9_kindHere_141 bc_101 ?_
            refine g_bipush hC dX9_kindHere_143 bc_100 ?_
            refine g_callV_i hC hR ⟨Nat.zero_le _, Nat.zero_le _⟩ mwX9_isName miX9_isName (ci := 9) rfl h_b (Nat.le_of_ble_eq_true rfl) mlX9_188 (fun _ hq => kX9_isName hG h_b hq) (Nat.le_of_ble_eq_true rfl) rfl (st := []) rfl (Nat.le_of_ble_eq_true rfl) dX9_kindHere_145 (fun q12 => ?_)
            refine g_if_eq hC dX9_kindHere_148 ?_ ?_
            · refine g_iconst hC dX9_kindHere_170 ic_m1 ?_
              exact g_iret_i hC hT dX9_kindHere_171
            · refine g_aload_n hC dX9_kindHere_151 (j := 0) rfl rfl ?_
              refine g_aload_n hC dX9_kindHere_152 (j := 0) rfl rfl ?_
              refine g_getI hC fi_9_7 h_b dX9_kindHere_153 flX9_163 ?_
              refine g_iconst hC dX9_kindHere_156 ic_3 ?_
              refine g_iadd hC dX9_kindHere_157 ?_
              refine g_callV_i hC hR ⟨Nat.zero_le _, Nat.zero_le _⟩ mwX9_byteAt miX9_byteAt (ci := 9) rfl h_b (Nat.le_of_ble_eq_true rfl) mlX9_166 (fun _ hq => kX9_byteAt hG h_b hq) (Nat.le_of_ble_eq_true rfl) rfl (st := []) rfl (Nat.le_of_ble_eq_true rfl) dX9_kindHere_158 (fun q13 => ?_)
              refine g_bipush hC dX9_kindHere_161 bc_108 ?_
              refine g_icmp_ne hC dX9_kindHere_163 ?_ ?_
              · refine g_iconst hC dX9_kindHere_166 ic_5 ?_
                refine g_goto hC dX9_kindHere_167 ?_
                exact g_iret_i hC hT dX9_kindHere_171
              · refine g_iconst hC dX9_kindHere_170 ic_m1 ?_
                exact g_iret_i hC hT dX9_kindHere_171
          · refine g_if_eq hC dX9_kindHere_115 ?_ ?_
            · exact hJ ()
            · refine g_aload_n hC dX9_kindHere_118 (j := 0) rfl rfl ?_
              refine g_aload_n hC dX9_kindHere_119 (j := 0) rfl rfl ?_
              refine g_getI hC fi_9_7 h_b dX9_kindHere_120 flX9_163 ?_
              refine g_iconst hC dX9_kindHere_123 ic_3 ?_
              refine g_iadd hC dX9_kindHere_124 ?_
              refine g_callV_i hC hR ⟨Nat.zero_le _, Nat.zero_le _⟩ mwX9_byteAt miX9_byteAt (ci := 9) rfl h_b (Nat.le_of_ble_eq_true rfl) mlX9_166 (fun _ hq => kX9_byteAt hG h_b hq) (Nat.le_of_ble_eq_true rfl) rfl (st := []) rfl (Nat.le_of_ble_eq_true rfl) dX9_kindHere_125 (fun q14 => ?_)
              refine g_bipush hC dX9_kindHere_128 bc_101 ?_
              refine g_icmp_ne hC dX9_kindHere_130 ?_ ?_
              · refine g_iconst hC dX9_kindHere_133 ic_4 ?_
                exact g_iret_i hC hT dX9_kindHere_134
              · exact hJ ()
        · refine g_iconst hC dX9_kindHere_100 ic_3 ?_
          exact g_iret_i hC hT dX9_kindHere_101
      · refine g_iconst hC dX9_kindHere_82 ic_2 ?_
        exact g_iret_i hC hT dX9_kindHere_83
    · refine g_if_eq hC dX9_kindHere_47 ?_ ?_
      · exact hJ ()
      · refine g_aload_n hC dX9_kindHere_50 (j := 0) rfl rfl ?_
        refine g_iconst hC dX9_kindHere_51 ic_2 ?_
        refine g_bipush hC dX9_kindHere_52 bc_112 ?_
        refine g_bipush hC dX9_kindHere_54 bc_112 ?_
        refine g_bipush hC dX9_kindHere_56 bc_101 ?_
        refine g_callV_i hC hR ⟨Nat.zero_le _, Nat.zero_le _⟩ mwX9_isSame miX9_isSame (ci := 9) rfl h_b (Nat.le_of_ble_eq_true rfl) mlX9_192 (fun _ hq => kX9_isSame hG h_b hq) (Nat.le_of_ble_eq_true rfl) rfl (st := []) rfl (Nat.le_of_ble_eq_true rfl) dX9_kindHere_58 (fun q15 => ?_)
        refine g_if_eq hC dX9_kindHere_61 ?_ ?_
        · exact hJ ()
        · refine g_iconst hC dX9_kindHere_64 ic_1 ?_
          exact g_iret_i hC hT dX9_kindHere_65
  · refine g_if_eq hC dX9_kindHere_13 ?_ ?_
    · exact hJ ()
    · refine g_aload_n hC dX9_kindHere_16 (j := 0) rfl rfl ?_
      refine g_aload_n hC dX9_kindHere_17 (j := 0) rfl rfl ?_
      refine g_getI hC fi_9_7 h_b dX9_kindHere_18 flX9_163 ?_
      refine g_iconst hC dX9_kindHere_21 ic_3 ?_
      refine g_iadd hC dX9_kindHere_22 ?_
      refine g_callV_i hC hR ⟨Nat.zero_le _, Nat.zero_le _⟩ mwX9_byteAt miX9_byteAt (ci := 9) rfl h_b (Nat.le_of_ble_eq_true rfl) mlX9_166 (fun _ hq => kX9_byteAt hG h_b hq) (Nat.le_of_ble_eq_true rfl) rfl (st := []) rfl (Nat.le_of_ble_eq_true rfl) dX9_kindHere_23 (fun q16 => ?_)
      refine g_bipush hC dX9_kindHere_26 bc_110 ?_
      refine g_icmp_ne hC dX9_kindHere_28 ?_ ?_
      · refine g_iconst hC dX9_kindHere_31 ic_0 ?_
        exact g_iret_i hC hT dX9_kindHere_32
      · exact hJ ()
def pX9_doHere (V : V2) (b : Nat) : Option (Int32) :=
  (pX9_isName V b 5 112 114 101 115).bind fun q1 =>
  letv (fun (u3 : Unit) => ((pX9_isName V b 5 108 101 97 101).bind fun q4 =>
  letv (fun (u6 : Unit) => ((pX9_isName V b 4 102 111 108 100).bind fun q7 =>
  if q7 = 0 then (some (-1))
  else (some 2))) fun j5 =>
  if q4 = 0 then (j5 ())
  else ((pX9_byteAt V b ((V b 7) + 3)).bind fun q8 =>
  if q8 = (118 : Int32) then (some 1)
  else (j5 ())))) fun j2 =>
  if q1 = 0 then (j2 ())
  else ((pX9_byteAt V b ((V b 7) + 3)).bind fun q9 =>
  if q9 = (115 : Int32) then (some 0)
  else (j2 ()))
set_option maxHeartbeats 4000000 in
set_option maxRecDepth 100000 in
theorem kX9_doHere {l : Launch} {D : Dx} {G : G2} {V : V2} {R : R2} {b : Nat} (hG : GX G) (h_b : own G b 19) {o : Int32} (hf : pX9_doHere V b = some o) : Con l yX9_doHere cX9_doHere 1 (some .int) (rmN 2 0 0) D G V R [.ref b] (some (.int o), V, R, G, 0, 0) := by
  refine Con.mk RX9 (by decide) rfl (Nat.le_of_ble_eq_true rfl) (fun C _ hR hT _ _ hL hC hnm => ?_)
  revert hf
  unfold pX9_doHere
  refine g_aload_n hC dX9_doHere_0 (j := 0) rfl rfl ?_
  refine g_iconst hC dX9_doHere_1 ic_5 ?_
  refine g_bipush hC dX9_doHere_2 bc_112 ?_
  refine g_bipush hC dX9_doHere_4 bc_114 ?_
  refine g_bipush hC dX9_doHere_6 bc_101 ?_
  refine g_bipush hC dX9_doHere_8 bc_115 ?_
  refine g_callV_i hC hR ⟨Nat.zero_le _, Nat.zero_le _⟩ mwX9_isName miX9_isName (ci := 9) rfl h_b (Nat.le_of_ble_eq_true rfl) mlX9_188 (fun _ hq => kX9_isName hG h_b hq) (Nat.le_of_ble_eq_true rfl) rfl (st := []) rfl (Nat.le_of_ble_eq_true rfl) dX9_doHere_10 (fun q1 => ?_)
  refine g_jn (J := fun j2 => ∀ (u3 : Unit), j2 u3 = some o → Go C 33 [(0, .ref b)] [] V R G 0 0) (fun u3 => ?_) (fun j2 hJ => ?_)
  · refine g_aload_n hC dX9_doHere_33 (j := 0) rfl rfl ?_
    refine g_iconst hC dX9_doHere_34 ic_5 ?_
    refine g_bipush hC dX9_doHere_35 bc_108 ?_
    refine g_bipush hC dX9_doHere_37 bc_101 ?_
    refine g_bipush hC dX9_doHere_39 bc_97 ?_
    refine g_bipush hC dX9_doHere_41 bc_101 ?_
    refine g_callV_i hC hR ⟨Nat.zero_le _, Nat.zero_le _⟩ mwX9_isName miX9_isName (ci := 9) rfl h_b (Nat.le_of_ble_eq_true rfl) mlX9_188 (fun _ hq => kX9_isName hG h_b hq) (Nat.le_of_ble_eq_true rfl) rfl (st := []) rfl (Nat.le_of_ble_eq_true rfl) dX9_doHere_43 (fun q4 => ?_)
    refine g_jn (J := fun j5 => ∀ (u6 : Unit), j5 u6 = some o → Go C 66 [(0, .ref b)] [] V R G 0 0) (fun u6 => ?_) (fun j5 hJ => ?_)
    · refine g_aload_n hC dX9_doHere_66 (j := 0) rfl rfl ?_
      refine g_iconst hC dX9_doHere_67 ic_4 ?_
      refine g_bipush hC dX9_doHere_68 bc_102 ?_
      refine g_bipush hC dX9_doHere_70 bc_111 ?_
      refine g_bipush hC dX9_doHere_72 bc_108 ?_
      refine g_bipush hC dX9_doHere_74 bc_100 ?_
      refine g_callV_i hC hR ⟨Nat.zero_le _, Nat.zero_le _⟩ mwX9_isName miX9_isName (ci := 9) rfl h_b (Nat.le_of_ble_eq_true rfl) mlX9_188 (fun _ hq => kX9_isName hG h_b hq) (Nat.le_of_ble_eq_true rfl) rfl (st := []) rfl (Nat.le_of_ble_eq_true rfl) dX9_doHere_76 (fun q7 => ?_)
      refine g_if_eq hC dX9_doHere_79 ?_ ?_
      · refine g_iconst hC dX9_doHere_86 ic_m1 ?_
        exact g_iret_i hC hT dX9_doHere_87
      · refine g_iconst hC dX9_doHere_82 ic_2 ?_
        refine g_goto hC dX9_doHere_83 ?_
        exact g_iret_i hC hT dX9_doHere_87
    · refine g_if_eq hC dX9_doHere_46 ?_ ?_
      · exact hJ ()
      · refine g_aload_n hC dX9_doHere_49 (j := 0) rfl rfl ?_
        refine g_aload_n hC dX9_doHere_50 (j := 0) rfl rfl ?_
        refine g_getI hC fi_9_7 h_b dX9_doHere_51 flX9_163 ?_
        refine g_iconst hC dX9_doHere_54 ic_3 ?_
        refine g_iadd hC dX9_doHere_55 ?_
        refine g_callV_i hC hR ⟨Nat.zero_le _, Nat.zero_le _⟩ mwX9_byteAt miX9_byteAt (ci := 9) rfl h_b (Nat.le_of_ble_eq_true rfl) mlX9_166 (fun _ hq => kX9_byteAt hG h_b hq) (Nat.le_of_ble_eq_true rfl) rfl (st := []) rfl (Nat.le_of_ble_eq_true rfl) dX9_doHere_56 (fun q8 => ?_)
        refine g_bipush hC dX9_doHere_59 bc_118 ?_
        refine g_icmp_ne hC dX9_doHere_61 ?_ ?_
        · refine g_iconst hC dX9_doHere_64 ic_1 ?_
          exact g_iret_i hC hT dX9_doHere_65
        · exact hJ ()
  · refine g_if_eq hC dX9_doHere_13 ?_ ?_
    · exact hJ ()
    · refine g_aload_n hC dX9_doHere_16 (j := 0) rfl rfl ?_
      refine g_aload_n hC dX9_doHere_17 (j := 0) rfl rfl ?_
      refine g_getI hC fi_9_7 h_b dX9_doHere_18 flX9_163 ?_
      refine g_iconst hC dX9_doHere_21 ic_3 ?_
      refine g_iadd hC dX9_doHere_22 ?_
      refine g_callV_i hC hR ⟨Nat.zero_le _, Nat.zero_le _⟩ mwX9_byteAt miX9_byteAt (ci := 9) rfl h_b (Nat.le_of_ble_eq_true rfl) mlX9_166 (fun _ hq => kX9_byteAt hG h_b hq) (Nat.le_of_ble_eq_true rfl) rfl (st := []) rfl (Nat.le_of_ble_eq_true rfl) dX9_doHere_23 (fun q9 => ?_)
      refine g_bipush hC dX9_doHere_26 bc_115 ?_
      refine g_icmp_ne hC dX9_doHere_28 ?_ ?_
      · refine g_iconst hC dX9_doHere_31 ic_0 ?_
        exact g_iret_i hC hT dX9_doHere_32
      · exact hJ ()
def pX9_factHere (V : V2) (b : Nat) : Option (Int32) :=
  (pX9_isName V b 4 119 97 115 104).bind fun q1 =>
  if q1 = 0 then ((pX9_isName V b 4 98 117 108 107).bind fun q2 =>
  if q2 = 0 then ((pX9_isName V b 6 99 114 101 101).bind fun q3 =>
  letv (fun (u5 : Unit) => ((pX9_isName V b 5 115 116 101 109).bind fun q6 =>
  letv (fun (u8 : Unit) => ((pX9_isName V b 6 110 117 109 114).bind fun q9 =>
  if q9 = 0 then (some (-1))
  else ((pX9_isSame V b 2 109 98 101).bind fun q10 =>
  if q10 = 0 then (some (-1))
  else (some 4)))) fun j7 =>
  if q6 = 0 then (j7 ())
  else ((pX9_byteAt V b ((V b 7) + 3)).bind fun q11 =>
  if q11 = (97 : Int32) then (some 3)
  else (j7 ())))) fun j4 =>
  if q3 = 0 then (j4 ())
  else ((pX9_isSame V b 3 97 115 101).bind fun q12 =>
  if q12 = 0 then (j4 ())
  else (some 2)))
  else (some 1))
  else (some 0)
set_option maxHeartbeats 4000000 in
set_option maxRecDepth 100000 in
theorem kX9_factHere {l : Launch} {D : Dx} {G : G2} {V : V2} {R : R2} {b : Nat} (hG : GX G) (h_b : own G b 19) {o : Int32} (hf : pX9_factHere V b = some o) : Con l yX9_factHere cX9_factHere 1 (some .int) (rmN 2 0 0) D G V R [.ref b] (some (.int o), V, R, G, 0, 0) := by
  refine Con.mk RX9 (by decide) rfl (Nat.le_of_ble_eq_true rfl) (fun C _ hR hT _ _ hL hC hnm => ?_)
  revert hf
  unfold pX9_factHere
  refine g_aload_n hC dX9_factHere_0 (j := 0) rfl rfl ?_
  refine g_iconst hC dX9_factHere_1 ic_4 ?_
  refine g_bipush hC dX9_factHere_2 bc_119 ?_
  refine g_bipush hC dX9_factHere_4 bc_97 ?_
  refine g_bipush hC dX9_factHere_6 bc_115 ?_
  refine g_bipush hC dX9_factHere_8 bc_104 ?_
  refine g_callV_i hC hR ⟨Nat.zero_le _, Nat.zero_le _⟩ mwX9_isName miX9_isName (ci := 9) rfl h_b (Nat.le_of_ble_eq_true rfl) mlX9_188 (fun _ hq => kX9_isName hG h_b hq) (Nat.le_of_ble_eq_true rfl) rfl (st := []) rfl (Nat.le_of_ble_eq_true rfl) dX9_factHere_10 (fun q1 => ?_)
  refine g_if_eq hC dX9_factHere_13 ?_ ?_
  · refine g_aload_n hC dX9_factHere_18 (j := 0) rfl rfl ?_
    refine g_iconst hC dX9_factHere_19 ic_4 ?_
    refine g_bipush hC dX9_factHere_20 bc_98 ?_
    refine g_bipush hC dX9_factHere_22 bc_117 ?_
    refine g_bipush hC dX9_factHere_24 bc_108 ?_
    refine g_bipush hC dX9_factHere_26 bc_107 ?_
    refine g_callV_i hC hR ⟨Nat.zero_le _, Nat.zero_le _⟩ mwX9_isName miX9_isName (ci := 9) rfl h_b (Nat.le_of_ble_eq_true rfl) mlX9_188 (fun _ hq => kX9_isName hG h_b hq) (Nat.le_of_ble_eq_true rfl) rfl (st := []) rfl (Nat.le_of_ble_eq_true rfl) dX9_factHere_28 (fun q2 => ?_)
    refine g_if_eq hC dX9_factHere_31 ?_ ?_
    · refine g_aload_n hC dX9_factHere_36 (j := 0) rfl rfl ?_
      refine g_bipush hC dX9_factHere_37 bc_6 ?_
      refine g_bipush hC dX9_factHere_39 bc_99 ?_
      refine g_bipush hC dX9_factHere_41 bc_114 ?_
      refine g_bipush hC dX9_factHere_43 bc_101 ?_
      refine g_bipush hC dX9_factHere_45 bc_101 ?_
      refine g_callV_i hC hR ⟨Nat.zero_le _, Nat.zero_le _⟩ mwX9_isName miX9_isName (ci := 9) rfl h_b (Nat.le_of_ble_eq_true rfl) mlX9_188 (fun _ hq => kX9_isName hG h_b hq) (Nat.le_of_ble_eq_true rfl) rfl (st := []) rfl (Nat.le_of_ble_eq_true rfl) dX9_factHere_47 (fun q3 => ?_)
      refine g_jn (J := fun j4 => ∀ (u5 : Unit), j4 u5 = some o → Go C 69 [(0, .ref b)] [] V R G 0 0) (fun u5 => ?_) (fun j4 hJ => ?_)
      · refine g_aload_n hC dX9_factHere_69 (j := 0) rfl rfl ?_
        refine g_iconst hC dX9_factHere_70 ic_5 ?_
        refine g_bipush hC dX9_factHere_71 bc_115 ?_
        refine g_bipush hC dX9_factHere_73 bc_116 ?_
        refine g_bipush hC dX9_factHere_75 bc_101 ?_
        refine g_bipush hC dX9_factHere_77 bc_109 ?_
        refine g_callV_i hC hR ⟨Nat.zero_le _, Nat.zero_le _⟩ mwX9_isName miX9_isName (ci := 9) rfl h_b (Nat.le_of_ble_eq_true rfl) mlX9_188 (fun _ hq => kX9_isName hG h_b hq) (Nat.le_of_ble_eq_true rfl) rfl (st := []) rfl (Nat.le_of_ble_eq_true rfl) dX9_factHere_79 (fun q6 => ?_)
        refine g_jn (J := fun j7 => ∀ (u8 : Unit), j7 u8 = some o → Go C 102 [(0, .ref b)] [] V R G 0 0) (fun u8 => ?_) (fun j7 hJ => ?_)
        · refine g_aload_n hC dX9_factHere_102 (j := 0) rfl rfl ?_
          refine g_bipush hC dX9_factHere_103 bc_6 ?_
          refine g_bipush hC dX9_factHere_105 bc_110 ?_
          refine g_bipush hC dX9_factHere_107 bc_117 ?_
          refine g_bipush hC dX9_factHere_109 bc_109 ?_
          refine g_bipush hC dX9_factHere_111 bc_114 ?_
          refine g_callV_i hC hR ⟨Nat.zero_le _, Nat.zero_le _⟩ mwX9_isName miX9_isName (ci := 9) rfl h_b (Nat.le_of_ble_eq_true rfl) mlX9_188 (fun _ hq => kX9_isName hG h_b hq) (Nat.le_of_ble_eq_true rfl) rfl (st := []) rfl (Nat.le_of_ble_eq_true rfl) dX9_factHere_113 (fun q9 => ?_)
          refine g_if_eq hC dX9_factHere_116 ?_ ?_
          · refine g_iconst hC dX9_factHere_137 ic_m1 ?_
            exact g_iret_i hC hT dX9_factHere_138
          · refine g_aload_n hC dX9_factHere_119 (j := 0) rfl rfl ?_
            refine g_iconst hC dX9_factHere_120 ic_2 ?_
            refine g_bipush hC dX9_factHere_121 bc_109 ?_
            refine g_bipush hC dX9_factHere_123 bc_98 ?_
            refine g_bipush hC dX9_factHere_125 bc_101 ?_
            refine g_callV_i hC hR ⟨Nat.zero_le _, Nat.zero_le _⟩ mwX9_isSame miX9_isSame (ci := 9) rfl h_b (Nat.le_of_ble_eq_true rfl) mlX9_192 (fun _ hq => kX9_isSame hG h_b hq) (Nat.le_of_ble_eq_true rfl) rfl (st := []) rfl (Nat.le_of_ble_eq_true rfl) dX9_factHere_127 (fun q10 => ?_)
            refine g_if_eq hC dX9_factHere_130 ?_ ?_
            · refine g_iconst hC dX9_factHere_137 ic_m1 ?_
              exact g_iret_i hC hT dX9_factHere_138
            · refine g_iconst hC dX9_factHere_133 ic_4 ?_
              refine g_goto hC dX9_factHere_134 ?_
              exact g_iret_i hC hT dX9_factHere_138
        · refine g_if_eq hC dX9_factHere_82 ?_ ?_
          · exact hJ ()
          · refine g_aload_n hC dX9_factHere_85 (j := 0) rfl rfl ?_
            refine g_aload_n hC dX9_factHere_86 (j := 0) rfl rfl ?_
            refine g_getI hC fi_9_7 h_b dX9_factHere_87 flX9_163 ?_
            refine g_iconst hC dX9_factHere_90 ic_3 ?_
            refine g_iadd hC dX9_factHere_91 ?_
            refine g_callV_i hC hR ⟨Nat.zero_le _, Nat.zero_le _⟩ mwX9_byteAt miX9_byteAt (ci := 9) rfl h_b (Nat.le_of_ble_eq_true rfl) mlX9_166 (fun _ hq => kX9_byteAt hG h_b hq) (Nat.le_of_ble_eq_true rfl) rfl (st := []) rfl (Nat.le_of_ble_eq_true rfl) dX9_factHere_92 (fun q11 => ?_)
            refine g_bipush hC dX9_factHere_95 bc_97 ?_
            refine g_icmp_ne hC dX9_factHere_97 ?_ ?_
            · refine g_iconst hC dX9_factHere_100 ic_3 ?_
              exact g_iret_i hC hT dX9_factHere_101
            · exact hJ ()
      · refine g_if_eq hC dX9_factHere_50 ?_ ?_
        · exact hJ ()
        · refine g_aload_n hC dX9_factHere_53 (j := 0) rfl rfl ?_
          refine g_iconst hC dX9_factHere_54 ic_3 ?_
          refine g_bipush hC dX9_factHere_55 bc_97 ?_
          refine g_bipush hC dX9_factHere_57 bc_115 ?_
          refine g_bipush hC dX9_factHere_59 bc_101 ?_
          refine g_callV_i hC hR ⟨Nat.zero_le _, Nat.zero_le _⟩ mwX9_isSame miX9_isSame (ci := 9) rfl h_b (Nat.le_of_ble_eq_true rfl) mlX9_192 (fun _ hq => kX9_isSame hG h_b hq) (Nat.le_of_ble_eq_true rfl) rfl (st := []) rfl (Nat.le_of_ble_eq_true rfl) dX9_factHere_61 (fun q12 => ?_)
          refine g_if_eq hC dX9_factHere_64 ?_ ?_
          · exact hJ ()
          · refine g_iconst hC dX9_factHere_67 ic_2 ?_
            exact g_iret_i hC hT dX9_factHere_68
    · refine g_iconst hC dX9_factHere_34 ic_1 ?_
      exact g_iret_i hC hT dX9_factHere_35
  · refine g_iconst hC dX9_factHere_16 ic_0 ?_
    exact g_iret_i hC hT dX9_factHere_17
def pX9_isTwo (V : V2) (b : Nat) (a1 : Int32) (a2 : Int32) : Option (Int32) :=
  if (V b 6) = (1 : Int32) then (if ((V b 8) - (V b 7)) = (2 : Int32) then ((pX9_byteAt V b (V b 7)).bind fun q1 =>
  if q1 = a1 then ((pX9_byteAt V b ((V b 7) + 1)).bind fun q2 =>
  if q2 = a2 then (some 1)
  else (some 0))
  else (some 0))
  else (some 0))
  else (some 0)
set_option maxHeartbeats 4000000 in
set_option maxRecDepth 100000 in
theorem kX9_isTwo {l : Launch} {D : Dx} {G : G2} {V : V2} {R : R2} {b : Nat} {a1 : Int32} {a2 : Int32} (hG : GX G) (h_b : own G b 19) {o : Int32} (hf : pX9_isTwo V b a1 a2 = some o) : Con l yX9_isTwo cX9_isTwo 3 (some .boolean) (rmN 1 0 0) D G V R [.ref b, .int a1, .int a2] (some (.int o), V, R, G, 0, 0) := by
  refine Con.mk RX9 (by decide) rfl (Nat.le_of_ble_eq_true rfl) (fun C _ hR hT _ _ hL hC hnm => ?_)
  revert hf
  unfold pX9_isTwo
  refine g_aload_n hC dX9_isTwo_0 (j := 0) rfl rfl ?_
  refine g_getI hC fi_9_6 h_b dX9_isTwo_1 flX9_175 ?_
  refine g_iconst hC dX9_isTwo_4 ic_1 ?_
  refine g_icmp_ne hC dX9_isTwo_5 ?_ ?_
  · refine g_aload_n hC dX9_isTwo_8 (j := 0) rfl rfl ?_
    refine g_getI hC fi_9_8 h_b dX9_isTwo_9 flX9_160 ?_
    refine g_aload_n hC dX9_isTwo_12 (j := 0) rfl rfl ?_
    refine g_getI hC fi_9_7 h_b dX9_isTwo_13 flX9_163 ?_
    refine g_isub hC dX9_isTwo_16 ?_
    refine g_iconst hC dX9_isTwo_17 ic_2 ?_
    refine g_icmp_ne hC dX9_isTwo_18 ?_ ?_
    · refine g_aload_n hC dX9_isTwo_21 (j := 0) rfl rfl ?_
      refine g_aload_n hC dX9_isTwo_22 (j := 0) rfl rfl ?_
      refine g_getI hC fi_9_7 h_b dX9_isTwo_23 flX9_163 ?_
      refine g_callV_i hC hR ⟨Nat.zero_le _, Nat.zero_le _⟩ mwX9_byteAt miX9_byteAt (ci := 9) rfl h_b (Nat.le_of_ble_eq_true rfl) mlX9_166 (fun _ hq => kX9_byteAt hG h_b hq) (Nat.le_of_ble_eq_true rfl) rfl (st := []) rfl (Nat.le_of_ble_eq_true rfl) dX9_isTwo_26 (fun q1 => ?_)
      refine g_iload_n hC dX9_isTwo_29 (j := 1) rfl rfl ?_
      refine g_icmp_ne hC dX9_isTwo_30 ?_ ?_
      · refine g_aload_n hC dX9_isTwo_33 (j := 0) rfl rfl ?_
        refine g_aload_n hC dX9_isTwo_34 (j := 0) rfl rfl ?_
        refine g_getI hC fi_9_7 h_b dX9_isTwo_35 flX9_163 ?_
        refine g_iconst hC dX9_isTwo_38 ic_1 ?_
        refine g_iadd hC dX9_isTwo_39 ?_
        refine g_callV_i hC hR ⟨Nat.zero_le _, Nat.zero_le _⟩ mwX9_byteAt miX9_byteAt (ci := 9) rfl h_b (Nat.le_of_ble_eq_true rfl) mlX9_166 (fun _ hq => kX9_byteAt hG h_b hq) (Nat.le_of_ble_eq_true rfl) rfl (st := []) rfl (Nat.le_of_ble_eq_true rfl) dX9_isTwo_40 (fun q2 => ?_)
        refine g_iload_n hC dX9_isTwo_43 (j := 2) rfl rfl ?_
        refine g_icmp_ne hC dX9_isTwo_44 ?_ ?_
        · refine g_iconst hC dX9_isTwo_47 ic_1 ?_
          refine g_goto hC dX9_isTwo_48 ?_
          exact g_zret_i hC rfl hT dX9_isTwo_52
        · refine g_iconst hC dX9_isTwo_51 ic_0 ?_
          exact g_zret_i hC rfl hT dX9_isTwo_52
      · refine g_iconst hC dX9_isTwo_51 ic_0 ?_
        exact g_zret_i hC rfl hT dX9_isTwo_52
    · refine g_iconst hC dX9_isTwo_51 ic_0 ?_
      exact g_zret_i hC rfl hT dX9_isTwo_52
  · refine g_iconst hC dX9_isTwo_51 ic_0 ?_
    exact g_zret_i hC rfl hT dX9_isTwo_52
def pX9_steps (V : V2) (b : Nat) (a1 : Int32) (a2 : Int32) (a3 : Int32) : Option (V2) :=
  if (V b 10) = 0 then ((ldI 572 (V (b + 1)) 7).bind fun t1 =>
  (stI 572 V (b + 1) (122 + (3 * t1)) a1).bind fun U2 =>
  (ldI 572 (U2 (b + 1)) 7).bind fun t3 =>
  (stI 572 U2 (b + 1) ((122 + (3 * t3)) + 1) a2).bind fun U4 =>
  (ldI 572 (U4 (b + 1)) 7).bind fun t5 =>
  (stI 572 U4 (b + 1) ((122 + (3 * t5)) + 2) a3).bind fun U6 =>
  (ldI 572 (U6 (b + 1)) 7).bind fun t7 =>
  (stI 572 U6 (b + 1) 7 (t7 + 1)).bind fun U8 =>
  some U8)
  else (some V)
set_option maxHeartbeats 4000000 in
set_option maxRecDepth 100000 in
theorem kX9_steps {l : Launch} {D : Dx} {G : G2} {V : V2} {R : R2} {b : Nat} {a1 : Int32} {a2 : Int32} {a3 : Int32} (hG : GX G) (h_b : own G b 19) {o : V2} (hf : pX9_steps V b a1 a2 a3 = some o) : Con l yX9_steps cX9_steps 4 none (rmN 0 0 0) D G V R [.ref b, .int a1, .int a2, .int a3] (none, o, R, G, 0, 0) := by
  refine Con.mk RX9 (by decide) rfl (Nat.le_of_ble_eq_true rfl) (fun C _ hR hT _ _ hL hC hnm => ?_)
  revert hf
  unfold pX9_steps
  refine g_aload_n hC dX9_steps_0 (j := 0) rfl rfl ?_
  refine g_getI hC fi_9_10 h_b dX9_steps_1 flX9_181 ?_
  refine g_if_ne hC dX9_steps_4 ?_ ?_
  · refine g_aload_n hC dX9_steps_7 (j := 0) rfl rfl ?_
    refine g_getR hC fr_9_0 h_b (b := b + 1) rfl dX9_steps_8 flX9_7 ?_
    refine g_bipush hC dX9_steps_11 bc_122 ?_
    refine g_iconst hC dX9_steps_13 ic_3 ?_
    refine g_aload_n hC dX9_steps_14 (j := 0) rfl rfl ?_
    refine g_getR hC fr_9_0 h_b (b := b + 1) rfl dX9_steps_15 flX9_7 ?_
    refine g_bipush hC dX9_steps_18 bc_7 ?_
    refine g_ialdV hC (gx_9_0 hG h_b) (gl_9_0 hG h_b) dX9_steps_20 (fun t1 => ?_)
    refine g_imul hC dX9_steps_21 ?_
    refine g_iadd hC dX9_steps_22 ?_
    refine g_iload_n hC dX9_steps_23 (j := 1) rfl rfl ?_
    refine g_iastV hC (gx_9_0 hG h_b) (gl_9_0 hG h_b) dX9_steps_24 (fun U2 => ?_)
    refine g_aload_n hC dX9_steps_25 (j := 0) rfl rfl ?_
    refine g_getR hC fr_9_0 h_b (b := b + 1) rfl dX9_steps_26 flX9_7 ?_
    refine g_bipush hC dX9_steps_29 bc_122 ?_
    refine g_iconst hC dX9_steps_31 ic_3 ?_
    refine g_aload_n hC dX9_steps_32 (j := 0) rfl rfl ?_
    refine g_getR hC fr_9_0 h_b (b := b + 1) rfl dX9_steps_33 flX9_7 ?_
    refine g_bipush hC dX9_steps_36 bc_7 ?_
    refine g_ialdV hC (gx_9_0 hG h_b) (gl_9_0 hG h_b) dX9_steps_38 (fun t3 => ?_)
    refine g_imul hC dX9_steps_39 ?_
    refine g_iadd hC dX9_steps_40 ?_
    refine g_iconst hC dX9_steps_41 ic_1 ?_
    refine g_iadd hC dX9_steps_42 ?_
    refine g_iload_n hC dX9_steps_43 (j := 2) rfl rfl ?_
    refine g_iastV hC (gx_9_0 hG h_b) (gl_9_0 hG h_b) dX9_steps_44 (fun U4 => ?_)
    refine g_aload_n hC dX9_steps_45 (j := 0) rfl rfl ?_
    refine g_getR hC fr_9_0 h_b (b := b + 1) rfl dX9_steps_46 flX9_7 ?_
    refine g_bipush hC dX9_steps_49 bc_122 ?_
    refine g_iconst hC dX9_steps_51 ic_3 ?_
    refine g_aload_n hC dX9_steps_52 (j := 0) rfl rfl ?_
    refine g_getR hC fr_9_0 h_b (b := b + 1) rfl dX9_steps_53 flX9_7 ?_
    refine g_bipush hC dX9_steps_56 bc_7 ?_
    refine g_ialdV hC (gx_9_0 hG h_b) (gl_9_0 hG h_b) dX9_steps_58 (fun t5 => ?_)
    refine g_imul hC dX9_steps_59 ?_
    refine g_iadd hC dX9_steps_60 ?_
    refine g_iconst hC dX9_steps_61 ic_2 ?_
    refine g_iadd hC dX9_steps_62 ?_
    refine g_iload_n hC dX9_steps_63 (j := 3) rfl rfl ?_
    refine g_iastV hC (gx_9_0 hG h_b) (gl_9_0 hG h_b) dX9_steps_64 (fun U6 => ?_)
    refine g_aload_n hC dX9_steps_65 (j := 0) rfl rfl ?_
    refine g_getR hC fr_9_0 h_b (b := b + 1) rfl dX9_steps_66 flX9_7 ?_
    refine g_bipush hC dX9_steps_69 bc_7 ?_
    refine g_dup2 hC dX9_steps_71 rfl rfl ?_
    refine g_ialdV hC (gx_9_0 hG h_b) (gl_9_0 hG h_b) dX9_steps_72 (fun t7 => ?_)
    refine g_iconst hC dX9_steps_73 ic_1 ?_
    refine g_iadd hC dX9_steps_74 ?_
    refine g_iastV hC (gx_9_0 hG h_b) (gl_9_0 hG h_b) dX9_steps_75 (fun U8 => ?_)
    exact g_vret_vV hC hT dX9_steps_76
  · exact g_vret_vV hC hT dX9_steps_76
def pX9_valueHere (n : Nat) (V : V2) (b : Nat) : Option (Int32 × V2) :=
  (pX9_factHere V b).bind fun q1 =>
  letv ((if q1 < 0 then (V b 9)
  else (10000 + q1) : Int32)) fun j2 =>
  letv ((if 0 ≤ q1 then (1)
  else (if (V b 6) = (2 : Int32) then (if (4 : Int32) < ((V b 8) - (V b 7)) then (0)
  else (1))
  else (0)) : Int32)) fun j3 =>
  (pX9_needs n V b j3).bind fun q4 =>
  some (j2, q4)
set_option maxHeartbeats 4000000 in
set_option maxRecDepth 100000 in
theorem kX9_valueHere {l : Launch} {D : Dx} {G : G2} {V : V2} {R : R2} {n : Nat} {b : Nat} (hG : GX G) (h_b : own G b 19) {o : Int32 × V2} (hf : pX9_valueHere n V b = some o) : Con l yX9_valueHere cX9_valueHere 3 (some .int) (rmN 3 0 0) D G V R [.ref b] (some (.int o.1), o.2, R, G, 0, 0) := by
  refine Con.mk RX9 (by decide) rfl (Nat.le_of_ble_eq_true rfl) (fun C _ hR hT _ _ hL hC hnm => ?_)
  revert hf
  unfold pX9_valueHere
  refine g_aload_n hC dX9_valueHere_0 (j := 0) rfl rfl ?_
  refine g_callV_i hC hR ⟨Nat.zero_le _, Nat.zero_le _⟩ mwX9_factHere miX9_factHere (ci := 9) rfl h_b (Nat.le_of_ble_eq_true rfl) mlX9_196 (fun _ hq => kX9_factHere hG h_b hq) (Nat.le_of_ble_eq_true rfl) rfl (st := []) rfl (Nat.le_of_ble_eq_true rfl) dX9_valueHere_1 (fun q1 => ?_)
  refine g_istore_n hC (n0 := 3) (lv' := [(1, .int q1), (0, .ref b)]) dX9_valueHere_4 rfl (Nat.le_of_ble_eq_true rfl) hL rfl ?_
  refine g_iload_n hC dX9_valueHere_5 (j := 0) rfl rfl ?_
  refine g_letJ (J := fun j2 => Go C 21 [(0, .ref b), (1, .int q1)] [.int j2] V R G 0 0) (fun j2 hJ => ?_) (fun j2 => ?_)
  · refine g_if_lt hC dX9_valueHere_6 ?_ ?_
    · refine g_aload_n hC dX9_valueHere_17 (j := 1) rfl rfl ?_
      refine g_getI hC fi_9_9 h_b dX9_valueHere_18 flX9_178 ?_
      refine g_sub [1, 0] rfl ?_
      exact fun e => by cases e; exact hJ
    · refine g_sipush hC dX9_valueHere_9 sc_10000 ?_
      refine g_iload_n hC dX9_valueHere_12 (j := 0) rfl rfl ?_
      refine g_iadd hC dX9_valueHere_13 ?_
      refine g_goto hC dX9_valueHere_14 ?_
      refine g_sub [1, 0] rfl ?_
      exact fun e => by cases e; exact hJ
  · refine g_istore_n hC (n0 := 3) (lv' := [(2, .int j2), (0, .ref b), (1, .int q1)]) dX9_valueHere_21 rfl (Nat.le_of_ble_eq_true rfl) hL rfl ?_
    refine g_aload_n hC dX9_valueHere_22 (j := 1) rfl rfl ?_
    refine g_iload_n hC dX9_valueHere_23 (j := 2) rfl rfl ?_
    refine g_letJ (J := fun j3 => Go C 53 [(2, .int j2)] [.int j3, .ref b] V R G 0 0) (fun j3 hJ => ?_) (fun j3 => ?_)
    · refine g_if_ge hC dX9_valueHere_24 ?_ ?_
      · refine g_iconst hC dX9_valueHere_48 ic_1 ?_
        refine g_goto hC dX9_valueHere_49 ?_
        refine g_sub [0] rfl ?_
        exact fun e => by cases e; exact hJ
      · refine g_aload_n hC dX9_valueHere_27 (j := 1) rfl rfl ?_
        refine g_getI hC fi_9_6 h_b dX9_valueHere_28 flX9_175 ?_
        refine g_iconst hC dX9_valueHere_31 ic_2 ?_
        refine g_icmp_ne hC dX9_valueHere_32 ?_ ?_
        · refine g_aload_n hC dX9_valueHere_35 (j := 1) rfl rfl ?_
          refine g_getI hC fi_9_8 h_b dX9_valueHere_36 flX9_160 ?_
          refine g_aload_n hC dX9_valueHere_39 (j := 1) rfl rfl ?_
          refine g_getI hC fi_9_7 h_b dX9_valueHere_40 flX9_163 ?_
          refine g_isub hC dX9_valueHere_43 ?_
          refine g_iconst hC dX9_valueHere_44 ic_4 ?_
          refine g_icmp_gt hC dX9_valueHere_45 ?_ ?_
          · refine g_iconst hC dX9_valueHere_52 ic_0 ?_
            refine g_sub [0] rfl ?_
            exact fun e => by cases e; exact hJ
          · refine g_iconst hC dX9_valueHere_48 ic_1 ?_
            refine g_goto hC dX9_valueHere_49 ?_
            refine g_sub [0] rfl ?_
            exact fun e => by cases e; exact hJ
        · refine g_iconst hC dX9_valueHere_52 ic_0 ?_
          refine g_sub [0] rfl ?_
          exact fun e => by cases e; exact hJ
    · refine g_callV_vV hC hR ⟨Nat.zero_le _, Nat.zero_le _⟩ mwX9_needs miX9_needs (ci := 9) rfl h_b (Nat.le_of_ble_eq_true rfl) mlX9_199 (fun _ hq => kX9_needs hG h_b hq) (Nat.le_of_ble_eq_true rfl) rfl (st := []) rfl (Nat.le_of_ble_eq_true rfl) dX9_valueHere_53 (fun q4 => ?_)
      refine g_iload_n hC dX9_valueHere_56 (j := 0) rfl rfl ?_
      exact g_iret_iV hC hT dX9_valueHere_57
def pX9_comparesHere (n : Nat) (V : V2) (b : Nat) : Option (V2) :=
  (pX9_valueHere n V b).bind fun q1 =>
  (pX9_isByte q1.2 b 60).bind fun q2 =>
  ((if q2 = 0 then ((pX9_isByte q1.2 b 61).bind fun q4 =>
  if q4 = 0 then (some 2)
  else (some 1))
  else (some 0) : Option (Int32))).bind fun j3 =>
  (pX9_isByte q1.2 b 60).bind fun q5 =>
  ((if q5 = 0 then ((pX9_isByte q1.2 b 61).bind fun q7 =>
  if q7 = 0 then ((pX9_isByte q1.2 b 62).bind fun q8 =>
  if q8 = 0 then (some 0)
  else (some 1))
  else (some 1))
  else (some 1) : Option (Int32))).bind fun j6 =>
  (pX9_needs n q1.2 b j6).bind fun q9 =>
  (pX9_valueHere n q9 b).bind fun q10 =>
  (pX9_steps q10.2 b j3 q1.1 q10.1).bind fun q11 =>
  some q11
set_option maxHeartbeats 4000000 in
set_option maxRecDepth 100000 in
theorem kX9_comparesHere {l : Launch} {D : Dx} {G : G2} {V : V2} {R : R2} {n : Nat} {b : Nat} (hG : GX G) (h_b : own G b 19) {o : V2} (hf : pX9_comparesHere n V b = some o) : Con l yX9_comparesHere cX9_comparesHere 4 none (rmN 4 0 0) D G V R [.ref b] (none, o, R, G, 0, 0) := by
  refine Con.mk RX9 (by decide) rfl (Nat.le_of_ble_eq_true rfl) (fun C _ hR hT _ _ hL hC hnm => ?_)
  revert hf
  unfold pX9_comparesHere
  refine g_aload_n hC dX9_comparesHere_0 (j := 0) rfl rfl ?_
  refine g_callV_iV hC hR ⟨Nat.zero_le _, Nat.zero_le _⟩ mwX9_valueHere miX9_valueHere (ci := 9) rfl h_b (Nat.le_of_ble_eq_true rfl) mlX9_203 (fun _ hq => kX9_valueHere hG h_b hq) (Nat.le_of_ble_eq_true rfl) rfl (st := []) rfl (Nat.le_of_ble_eq_true rfl) dX9_comparesHere_1 (fun q1 => ?_)
  refine g_istore_n hC (n0 := 4) (lv' := [(1, .int q1.1), (0, .ref b)]) dX9_comparesHere_4 rfl (Nat.le_of_ble_eq_true rfl) hL rfl ?_
  refine g_aload_n hC dX9_comparesHere_5 (j := 1) rfl rfl ?_
  refine g_bipush hC dX9_comparesHere_6 bc_60 ?_
  refine g_callV_i hC hR ⟨Nat.zero_le _, Nat.zero_le _⟩ mwX9_isByte miX9_isByte (ci := 9) rfl h_b (Nat.le_of_ble_eq_true rfl) mlX9_206 (fun _ hq => kX9_isByte hG h_b hq) (Nat.le_of_ble_eq_true rfl) rfl (st := []) rfl (Nat.le_of_ble_eq_true rfl) dX9_comparesHere_8 (fun q2 => ?_)
  refine g_bind (J := fun j3 => Go C 32 [(0, .ref b), (1, .int q1.1)] [.int j3] q1.2 R G 0 0) (fun j3 hJ => ?_) (fun j3 => ?_)
  · refine g_if_eq hC dX9_comparesHere_11 ?_ ?_
    · refine g_aload_n hC dX9_comparesHere_18 (j := 1) rfl rfl ?_
      refine g_bipush hC dX9_comparesHere_19 bc_61 ?_
      refine g_callV_i hC hR ⟨Nat.zero_le _, Nat.zero_le _⟩ mwX9_isByte miX9_isByte (ci := 9) rfl h_b (Nat.le_of_ble_eq_true rfl) mlX9_206 (fun _ hq => kX9_isByte hG h_b hq) (Nat.le_of_ble_eq_true rfl) rfl (st := []) rfl (Nat.le_of_ble_eq_true rfl) dX9_comparesHere_21 (fun q4 => ?_)
      refine g_if_eq hC dX9_comparesHere_24 ?_ ?_
      · refine g_iconst hC dX9_comparesHere_31 ic_2 ?_
        refine g_sub [1, 0] rfl ?_
        exact fun e => by cases e; exact hJ
      · refine g_iconst hC dX9_comparesHere_27 ic_1 ?_
        refine g_goto hC dX9_comparesHere_28 ?_
        refine g_sub [1, 0] rfl ?_
        exact fun e => by cases e; exact hJ
    · refine g_iconst hC dX9_comparesHere_14 ic_0 ?_
      refine g_goto hC dX9_comparesHere_15 ?_
      refine g_sub [1, 0] rfl ?_
      exact fun e => by cases e; exact hJ
  · refine g_istore_n hC (n0 := 4) (lv' := [(2, .int j3), (0, .ref b), (1, .int q1.1)]) dX9_comparesHere_32 rfl (Nat.le_of_ble_eq_true rfl) hL rfl ?_
    refine g_aload_n hC dX9_comparesHere_33 (j := 1) rfl rfl ?_
    refine g_aload_n hC dX9_comparesHere_34 (j := 1) rfl rfl ?_
    refine g_bipush hC dX9_comparesHere_35 bc_60 ?_
    refine g_callV_i hC hR ⟨Nat.zero_le _, Nat.zero_le _⟩ mwX9_isByte miX9_isByte (ci := 9) rfl h_b (Nat.le_of_ble_eq_true rfl) mlX9_206 (fun _ hq => kX9_isByte hG h_b hq) (Nat.le_of_ble_eq_true rfl) rfl (st := [.ref b]) rfl (Nat.le_of_ble_eq_true rfl) dX9_comparesHere_37 (fun q5 => ?_)
    refine g_bind (J := fun j6 => Go C 66 [(0, .ref b), (1, .int q1.1), (2, .int j3)] [.int j6, .ref b] q1.2 R G 0 0) (fun j6 hJ => ?_) (fun j6 => ?_)
    · refine g_if_ne hC dX9_comparesHere_40 ?_ ?_
      · refine g_aload_n hC dX9_comparesHere_43 (j := 1) rfl rfl ?_
        refine g_bipush hC dX9_comparesHere_44 bc_61 ?_
        refine g_callV_i hC hR ⟨Nat.zero_le _, Nat.zero_le _⟩ mwX9_isByte miX9_isByte (ci := 9) rfl h_b (Nat.le_of_ble_eq_true rfl) mlX9_206 (fun _ hq => kX9_isByte hG h_b hq) (Nat.le_of_ble_eq_true rfl) rfl (st := [.ref b]) rfl (Nat.le_of_ble_eq_true rfl) dX9_comparesHere_46 (fun q7 => ?_)
        refine g_if_ne hC dX9_comparesHere_49 ?_ ?_
        · refine g_aload_n hC dX9_comparesHere_52 (j := 1) rfl rfl ?_
          refine g_bipush hC dX9_comparesHere_53 bc_62 ?_
          refine g_callV_i hC hR ⟨Nat.zero_le _, Nat.zero_le _⟩ mwX9_isByte miX9_isByte (ci := 9) rfl h_b (Nat.le_of_ble_eq_true rfl) mlX9_206 (fun _ hq => kX9_isByte hG h_b hq) (Nat.le_of_ble_eq_true rfl) rfl (st := [.ref b]) rfl (Nat.le_of_ble_eq_true rfl) dX9_comparesHere_55 (fun q8 => ?_)
          refine g_if_eq hC dX9_comparesHere_58 ?_ ?_
          · refine g_iconst hC dX9_comparesHere_65 ic_0 ?_
            refine g_sub [1, 2, 0] rfl ?_
            exact fun e => by cases e; exact hJ
          · refine g_iconst hC dX9_comparesHere_61 ic_1 ?_
            refine g_goto hC dX9_comparesHere_62 ?_
            refine g_sub [1, 2, 0] rfl ?_
            exact fun e => by cases e; exact hJ
        · refine g_iconst hC dX9_comparesHere_61 ic_1 ?_
          refine g_goto hC dX9_comparesHere_62 ?_
          refine g_sub [1, 2, 0] rfl ?_
          exact fun e => by cases e; exact hJ
      · refine g_iconst hC dX9_comparesHere_61 ic_1 ?_
        refine g_goto hC dX9_comparesHere_62 ?_
        refine g_sub [1, 2, 0] rfl ?_
        exact fun e => by cases e; exact hJ
    · refine g_callV_vV hC hR ⟨Nat.zero_le _, Nat.zero_le _⟩ mwX9_needs miX9_needs (ci := 9) rfl h_b (Nat.le_of_ble_eq_true rfl) mlX9_199 (fun _ hq => kX9_needs hG h_b hq) (Nat.le_of_ble_eq_true rfl) rfl (st := []) rfl (Nat.le_of_ble_eq_true rfl) dX9_comparesHere_66 (fun q9 => ?_)
      refine g_aload_n hC dX9_comparesHere_69 (j := 0) rfl rfl ?_
      refine g_callV_iV hC hR ⟨Nat.zero_le _, Nat.zero_le _⟩ mwX9_valueHere miX9_valueHere (ci := 9) rfl h_b (Nat.le_of_ble_eq_true rfl) mlX9_203 (fun _ hq => kX9_valueHere hG h_b hq) (Nat.le_of_ble_eq_true rfl) rfl (st := []) rfl (Nat.le_of_ble_eq_true rfl) dX9_comparesHere_70 (fun q10 => ?_)
      refine g_istore_n hC (n0 := 4) (lv' := [(3, .int q10.1), (0, .ref b), (1, .int q1.1), (2, .int j3)]) dX9_comparesHere_73 rfl (Nat.le_of_ble_eq_true rfl) hL rfl ?_
      refine g_aload_n hC dX9_comparesHere_74 (j := 1) rfl rfl ?_
      refine g_iload_n hC dX9_comparesHere_75 (j := 3) rfl rfl ?_
      refine g_iload_n hC dX9_comparesHere_76 (j := 2) rfl rfl ?_
      refine g_iload_n hC dX9_comparesHere_77 (j := 0) rfl rfl ?_
      refine g_callV_vV hC hR ⟨Nat.zero_le _, Nat.zero_le _⟩ mwX9_steps miX9_steps (ci := 9) rfl h_b (Nat.le_of_ble_eq_true rfl) mlX9_209 (fun _ hq => kX9_steps hG h_b hq) (Nat.le_of_ble_eq_true rfl) rfl (st := []) rfl (Nat.le_of_ble_eq_true rfl) dX9_comparesHere_78 (fun q11 => ?_)
      exact g_vret_vV hC hT dX9_comparesHere_81
def lX9_oneHere_2 (n : Nat) (b : Nat) : Nat → V2 → Int32 → Option (V2 × Int32)
  | 0, _, _ => none
  | f1 + 1, U2, x3 =>
    if (U2 b 10) = 0 then ((pX9_isName U2 b 3 110 111 116 116).bind fun q4 =>
    if q4 = 0 then (some (U2, x3))
    else (letv (x3 + 1) fun x5 =>
    (pX9_nextToken n U2 b).bind fun q6 =>
    lX9_oneHere_2 n b f1 q6 x5))
    else (some (U2, x3))
def pX9_oneHere (rec : Nat → V2 → Nat → Option (V2)) (n : Nat) (V : V2) (b : Nat) : Option (V2) :=
  (lX9_oneHere_2 n b n V 0).bind fun w7 =>
  ((if (w7.1 b 10) = 0 then ((pX9_isByte w7.1 b 40).bind fun q9 =>
  if q9 = 0 then (if (w7.1 b 10) = 0 then ((pX9_comparesHere n w7.1 b).bind fun q10 =>
  some q10)
  else (some w7.1))
  else (letv ((if (3 : Int32) ≤ (w7.1 b 11) then (0)
  else (1) : Int32)) fun j11 =>
  (pX9_needs n w7.1 b j11).bind fun q12 =>
  letv (up2 q12 b 11 ((q12 b 11) + 1)) fun U13 =>
  (rec n U13 b).bind fun q14 =>
  (pX9_isByte q14 b 41).bind fun q15 =>
  (pX9_needs n q14 b q15).bind fun q16 =>
  letv (up2 q16 b 11 ((q16 b 11) - 1)) fun U17 =>
  some U17))
  else (if (w7.1 b 10) = 0 then ((pX9_comparesHere n w7.1 b).bind fun q18 =>
  some q18)
  else (some w7.1)) : Option (V2))).bind fun j8 =>
  if (jrem w7.2 2) = (1 : Int32) then ((pX9_steps j8 b 3 0 0).bind fun q19 =>
  some q19)
  else (some j8)
set_option maxHeartbeats 4000000 in
set_option maxRecDepth 100000 in
theorem wX9_oneHere_2 {C : Cx} (hC : CxOK C cX9_oneHere RX9 none) (hL : C.2.2.2.2 = 2) {N : Nat} {n : Nat} {G : G2} {R : R2} {b : Nat} (hN : 5 ≤ N) (hG : GX G) (h_b : own G b 19) (hR : C.1.2.2.2.1 = rmN (N + 1) 0 0) {o : V2 × Int32} (hX : Go C 35 [(0, .ref b), (1, .int o.2)] [] o.1 R G 0 0) : ∀ (f : Nat) (U2 : V2) (x3 : Int32), lX9_oneHere_2 n b f U2 x3 = some o → Go C 2 [(0, .ref b), (1, .int x3)] [] U2 R G 0 0 := by
  intro f
  induction f with
  | zero => intro _ _ hf; exact absurd hf (by unfold lX9_oneHere_2; exact fun z => nomatch z)
  | succ f1 ih =>
    intro U2 x3
    unfold lX9_oneHere_2
    refine g_aload_n hC dX9_oneHere_2 (j := 0) rfl rfl ?_
    refine g_getI hC fi_9_10 h_b dX9_oneHere_3 flX9_181 ?_
    refine g_if_ne hC dX9_oneHere_6 ?_ ?_
    · refine g_aload_n hC dX9_oneHere_9 (j := 0) rfl rfl ?_
      refine g_iconst hC dX9_oneHere_10 ic_3 ?_
      refine g_bipush hC dX9_oneHere_11 bc_110 ?_
      refine g_bipush hC dX9_oneHere_13 bc_111 ?_
      refine g_bipush hC dX9_oneHere_15 bc_116 ?_
      refine g_bipush hC dX9_oneHere_17 bc_116 ?_
      refine g_callV_i hC hR ⟨Nat.zero_le _, Nat.zero_le _⟩ mwX9_isName miX9_isName (ci := 9) rfl h_b (Nat.le_of_ble_eq_true rfl) mlX9_188 (fun _ hq => kX9_isName hG h_b hq) (by have := hN; omega) rfl (st := []) rfl (Nat.le_of_ble_eq_true rfl) dX9_oneHere_19 (fun q4 => ?_)
      refine g_if_eq hC dX9_oneHere_22 ?_ ?_
      · exact fun e => by cases e; exact hX
      · refine g_iincL hC (n0 := 2) (j := 1) (lv' := fun x5 => [(1, .int x5), (0, .ref b)]) dX9_oneHere_25 rfl ic_1 (Nat.le_of_ble_eq_true rfl) hL (fun _ => rfl) (fun x5 => ?_)
        refine g_aload_n hC dX9_oneHere_28 (j := 1) rfl rfl ?_
        refine g_callV_vV hC hR ⟨Nat.zero_le _, Nat.zero_le _⟩ mwX9_nextToken miX9_nextToken (ci := 9) rfl h_b (Nat.le_of_ble_eq_true rfl) mlX9_185 (fun _ hq => kX9_nextToken hG h_b hq) (by have := hN; omega) rfl (st := []) rfl (Nat.le_of_ble_eq_true rfl) dX9_oneHere_29 (fun q6 => ?_)
        refine g_goto hC dX9_oneHere_32 ?_
        refine g_sub [1, 0] rfl ?_
        exact ih q6 x5
    · exact fun e => by cases e; exact hX
set_option maxHeartbeats 4000000 in
set_option maxRecDepth 100000 in
theorem kX9_oneHere {l : Launch} {D : Dx} {G : G2} {V : V2} {R : R2} {rec : Nat → V2 → Nat → Option (V2)} {N : Nat} {n : Nat} {b : Nat} (hrec : ∀ {l : Launch} {D : Dx} {G : G2} {V : V2} {R : R2} {n : Nat} {b : Nat} (hG : GX G) (h_b : own G b 19) {o : V2}, rec n V b = some o → Con l yX9_condHere cX9_condHere 1 none (rmN N 0 0) D G V R [.ref b] (none, o, R, G, 0, 0)) (hN : 5 ≤ N) (hG : GX G) (h_b : own G b 19) {o : V2} (hf : pX9_oneHere rec n V b = some o) : Con l yX9_oneHere cX9_oneHere 2 none (rmN (N + 1) 0 0) D G V R [.ref b] (none, o, R, G, 0, 0) := by
  refine Con.mk RX9 (by decide) rfl (Nat.le_of_ble_eq_true rfl) (fun C _ hR hT _ _ hL hC hnm => ?_)
  revert hf
  unfold pX9_oneHere
  refine g_iconst hC dX9_oneHere_0 ic_0 ?_
  refine g_istore_n hC (n0 := 2) (lv' := [(1, .int 0), (0, .ref b)]) dX9_oneHere_1 rfl (Nat.le_of_ble_eq_true rfl) hL rfl ?_
  refine g_sub [1, 0] rfl ?_
  refine g_bind (J := fun w7 => Go C 35 [(0, .ref b), (1, .int w7.2)] [] w7.1 R G 0 0) (fun w7 hJ => wX9_oneHere_2 hC hL hN hG h_b hR hJ n V 0) (fun w7 => ?_)
  refine g_aload_n hC dX9_oneHere_35 (j := 0) rfl rfl ?_
  refine g_getI hC fi_9_10 h_b dX9_oneHere_36 flX9_181 ?_
  refine g_bind (J := fun j8 => Go C 116 [(0, .ref b), (1, .int w7.2)] [] j8 R G 0 0) (fun j8 hJ => ?_) (fun j8 => ?_)
  · refine g_if_ne hC dX9_oneHere_39 ?_ ?_
    · refine g_aload_n hC dX9_oneHere_42 (j := 0) rfl rfl ?_
      refine g_bipush hC dX9_oneHere_43 bc_40 ?_
      refine g_callV_i hC hR ⟨Nat.zero_le _, Nat.zero_le _⟩ mwX9_isByte miX9_isByte (ci := 9) rfl h_b (Nat.le_of_ble_eq_true rfl) mlX9_206 (fun _ hq => kX9_isByte hG h_b hq) (by have := hN; omega) rfl (st := []) rfl (Nat.le_of_ble_eq_true rfl) dX9_oneHere_45 (fun q9 => ?_)
      refine g_if_eq hC dX9_oneHere_48 ?_ ?_
      · refine g_aload_n hC dX9_oneHere_105 (j := 0) rfl rfl ?_
        refine g_getI hC fi_9_10 h_b dX9_oneHere_106 flX9_181 ?_
        refine g_if_ne hC dX9_oneHere_109 ?_ ?_
        · refine g_aload_n hC dX9_oneHere_112 (j := 0) rfl rfl ?_
          refine g_callV_vV hC hR ⟨Nat.zero_le _, Nat.zero_le _⟩ mwX9_comparesHere miX9_comparesHere (ci := 9) rfl h_b (Nat.le_of_ble_eq_true rfl) mlX9_219 (fun _ hq => kX9_comparesHere hG h_b hq) (by have := hN; omega) rfl (st := []) rfl (Nat.le_of_ble_eq_true rfl) dX9_oneHere_113 (fun q10 => ?_)
          exact fun e => by cases e; exact hJ
        · exact fun e => by cases e; exact hJ
      · refine g_aload_n hC dX9_oneHere_51 (j := 0) rfl rfl ?_
        refine g_aload_n hC dX9_oneHere_52 (j := 0) rfl rfl ?_
        refine g_getI hC fi_9_11 h_b dX9_oneHere_53 flX9_213 ?_
        refine g_iconst hC dX9_oneHere_56 ic_3 ?_
        refine g_letJ (J := fun j11 => Go C 65 [(0, .ref b), (1, .int w7.2)] [.int j11, .ref b] w7.1 R G 0 0) (fun j11 hJ => ?_) (fun j11 => ?_)
        · refine g_icmp_ge hC dX9_oneHere_57 ?_ ?_
          · refine g_iconst hC dX9_oneHere_64 ic_0 ?_
            exact fun e => by cases e; exact hJ
          · refine g_iconst hC dX9_oneHere_60 ic_1 ?_
            refine g_goto hC dX9_oneHere_61 ?_
            exact fun e => by cases e; exact hJ
        · refine g_callV_vV hC hR ⟨Nat.zero_le _, Nat.zero_le _⟩ mwX9_needs miX9_needs (ci := 9) rfl h_b (Nat.le_of_ble_eq_true rfl) mlX9_199 (fun _ hq => kX9_needs hG h_b hq) (by have := hN; omega) rfl (st := []) rfl (Nat.le_of_ble_eq_true rfl) dX9_oneHere_65 (fun q12 => ?_)
          refine g_aload_n hC dX9_oneHere_68 (j := 0) rfl rfl ?_
          refine g_dup hC dX9_oneHere_69 rfl ?_
          refine g_getI hC fi_9_11 h_b dX9_oneHere_70 flX9_213 ?_
          refine g_iconst hC dX9_oneHere_73 ic_1 ?_
          refine g_iadd hC dX9_oneHere_74 ?_
          refine g_putIL hC fp_9_11 h_b dX9_oneHere_75 flX9_213 (fun U13 => ?_)
          refine g_aload_n hC dX9_oneHere_78 (j := 0) rfl rfl ?_
          refine g_callV_vV hC hR ⟨Nat.zero_le _, Nat.zero_le _⟩ mwX9_condHere miX9_condHere (ci := 9) rfl h_b (Nat.le_of_ble_eq_true rfl) mlX9_216 (fun _ hq => hrec hG h_b hq) (by have := hN; omega) rfl (st := []) rfl (Nat.le_of_ble_eq_true rfl) dX9_oneHere_79 (fun q14 => ?_)
          refine g_aload_n hC dX9_oneHere_82 (j := 0) rfl rfl ?_
          refine g_aload_n hC dX9_oneHere_83 (j := 0) rfl rfl ?_
          refine g_bipush hC dX9_oneHere_84 bc_41 ?_
          refine g_callV_i hC hR ⟨Nat.zero_le _, Nat.zero_le _⟩ mwX9_isByte miX9_isByte (ci := 9) rfl h_b (Nat.le_of_ble_eq_true rfl) mlX9_206 (fun _ hq => kX9_isByte hG h_b hq) (by have := hN; omega) rfl (st := [.ref b]) rfl (Nat.le_of_ble_eq_true rfl) dX9_oneHere_86 (fun q15 => ?_)
          refine g_callV_vV hC hR ⟨Nat.zero_le _, Nat.zero_le _⟩ mwX9_needs miX9_needs (ci := 9) rfl h_b (Nat.le_of_ble_eq_true rfl) mlX9_199 (fun _ hq => kX9_needs hG h_b hq) (by have := hN; omega) rfl (st := []) rfl (Nat.le_of_ble_eq_true rfl) dX9_oneHere_89 (fun q16 => ?_)
          refine g_aload_n hC dX9_oneHere_92 (j := 0) rfl rfl ?_
          refine g_dup hC dX9_oneHere_93 rfl ?_
          refine g_getI hC fi_9_11 h_b dX9_oneHere_94 flX9_213 ?_
          refine g_iconst hC dX9_oneHere_97 ic_1 ?_
          refine g_isub hC dX9_oneHere_98 ?_
          refine g_putIL hC fp_9_11 h_b dX9_oneHere_99 flX9_213 (fun U17 => ?_)
          refine g_goto hC dX9_oneHere_102 ?_
          exact fun e => by cases e; exact hJ
    · refine g_aload_n hC dX9_oneHere_105 (j := 0) rfl rfl ?_
      refine g_getI hC fi_9_10 h_b dX9_oneHere_106 flX9_181 ?_
      refine g_if_ne hC dX9_oneHere_109 ?_ ?_
      · refine g_aload_n hC dX9_oneHere_112 (j := 0) rfl rfl ?_
        refine g_callV_vV hC hR ⟨Nat.zero_le _, Nat.zero_le _⟩ mwX9_comparesHere miX9_comparesHere (ci := 9) rfl h_b (Nat.le_of_ble_eq_true rfl) mlX9_219 (fun _ hq => kX9_comparesHere hG h_b hq) (by have := hN; omega) rfl (st := []) rfl (Nat.le_of_ble_eq_true rfl) dX9_oneHere_113 (fun q18 => ?_)
        exact fun e => by cases e; exact hJ
      · exact fun e => by cases e; exact hJ
  · refine g_iload_n hC dX9_oneHere_116 (j := 1) rfl rfl ?_
    refine g_iconst hC dX9_oneHere_117 ic_2 ?_
    refine g_iremC hC dX9_oneHere_118 nzi_2 ?_
    refine g_iconst hC dX9_oneHere_119 ic_1 ?_
    refine g_icmp_ne hC dX9_oneHere_120 ?_ ?_
    · refine g_aload_n hC dX9_oneHere_123 (j := 0) rfl rfl ?_
      refine g_iconst hC dX9_oneHere_124 ic_3 ?_
      refine g_iconst hC dX9_oneHere_125 ic_0 ?_
      refine g_iconst hC dX9_oneHere_126 ic_0 ?_
      refine g_callV_vV hC hR ⟨Nat.zero_le _, Nat.zero_le _⟩ mwX9_steps miX9_steps (ci := 9) rfl h_b (Nat.le_of_ble_eq_true rfl) mlX9_209 (fun _ hq => kX9_steps hG h_b hq) (by have := hN; omega) rfl (st := []) rfl (Nat.le_of_ble_eq_true rfl) dX9_oneHere_127 (fun q19 => ?_)
      exact g_vret_vV hC hT dX9_oneHere_130
    · exact g_vret_vV hC hT dX9_oneHere_130
def lX9_allHere_4 (rec : Nat → V2 → Nat → Option (V2)) (n : Nat) (b : Nat) : Nat → V2 → Option (V2)
  | 0, _ => none
  | f2 + 1, U3 =>
    if (U3 b 10) = 0 then ((pX9_isName U3 b 3 97 110 100 100).bind fun q4 =>
    if q4 = 0 then (some U3)
    else ((pX9_nextToken n U3 b).bind fun q5 =>
    (pX9_oneHere rec n q5 b).bind fun q6 =>
    (pX9_steps q6 b 4 0 0).bind fun q7 =>
    lX9_allHere_4 rec n b f2 q7))
    else (some U3)
def pX9_allHere (rec : Nat → V2 → Nat → Option (V2)) (n : Nat) (V : V2) (b : Nat) : Option (V2) :=
  (pX9_oneHere rec n V b).bind fun q1 =>
  (lX9_allHere_4 rec n b n q1).bind fun w8 =>
  some w8
set_option maxHeartbeats 4000000 in
set_option maxRecDepth 100000 in
theorem wX9_allHere_4 {C : Cx} (hC : CxOK C cX9_allHere RX9 none) (hL : C.2.2.2.2 = 1) {rec : Nat → V2 → Nat → Option (V2)} {N : Nat} {n : Nat} {G : G2} {R : R2} {b : Nat} (hrec : ∀ {l : Launch} {D : Dx} {G : G2} {V : V2} {R : R2} {n : Nat} {b : Nat} (hG : GX G) (h_b : own G b 19) {o : V2}, rec n V b = some o → Con l yX9_condHere cX9_condHere 1 none (rmN N 0 0) D G V R [.ref b] (none, o, R, G, 0, 0)) (hN : 5 ≤ N) (hG : GX G) (h_b : own G b 19) (hR : C.1.2.2.2.1 = rmN (N + 2) 0 0) {o : V2} (hX : Go C 45 [] [] o R G 0 0) : ∀ (f : Nat) (U3 : V2), lX9_allHere_4 rec n b f U3 = some o → Go C 4 [(0, .ref b)] [] U3 R G 0 0 := by
  intro f
  induction f with
  | zero => intro _ hf; exact absurd hf (by unfold lX9_allHere_4; exact fun z => nomatch z)
  | succ f2 ih =>
    intro U3
    unfold lX9_allHere_4
    refine g_aload_n hC dX9_allHere_4 (j := 0) rfl rfl ?_
    refine g_getI hC fi_9_10 h_b dX9_allHere_5 flX9_181 ?_
    refine g_if_ne hC dX9_allHere_8 ?_ ?_
    · refine g_aload_n hC dX9_allHere_11 (j := 0) rfl rfl ?_
      refine g_iconst hC dX9_allHere_12 ic_3 ?_
      refine g_bipush hC dX9_allHere_13 bc_97 ?_
      refine g_bipush hC dX9_allHere_15 bc_110 ?_
      refine g_bipush hC dX9_allHere_17 bc_100 ?_
      refine g_bipush hC dX9_allHere_19 bc_100 ?_
      refine g_callV_i hC hR ⟨Nat.zero_le _, Nat.zero_le _⟩ mwX9_isName miX9_isName (ci := 9) rfl h_b (Nat.le_of_ble_eq_true rfl) mlX9_188 (fun _ hq => kX9_isName hG h_b hq) (by have := hN; omega) rfl (st := []) rfl (Nat.le_of_ble_eq_true rfl) dX9_allHere_21 (fun q4 => ?_)
      refine g_if_eq hC dX9_allHere_24 ?_ ?_
      · refine g_sub [] rfl ?_
        exact fun e => by cases e; exact hX
      · refine g_aload_n hC dX9_allHere_27 (j := 0) rfl rfl ?_
        refine g_callV_vV hC hR ⟨Nat.zero_le _, Nat.zero_le _⟩ mwX9_nextToken miX9_nextToken (ci := 9) rfl h_b (Nat.le_of_ble_eq_true rfl) mlX9_185 (fun _ hq => kX9_nextToken hG h_b hq) (by have := hN; omega) rfl (st := []) rfl (Nat.le_of_ble_eq_true rfl) dX9_allHere_28 (fun q5 => ?_)
        refine g_aload_n hC dX9_allHere_31 (j := 0) rfl rfl ?_
        refine g_callV_vV hC hR ⟨Nat.zero_le _, Nat.zero_le _⟩ mwX9_oneHere miX9_oneHere (ci := 9) rfl h_b (Nat.le_of_ble_eq_true rfl) mlX9_222 (fun _ hq => kX9_oneHere hrec hN hG h_b hq) (by have := hN; omega) rfl (st := []) rfl (Nat.le_of_ble_eq_true rfl) dX9_allHere_32 (fun q6 => ?_)
        refine g_aload_n hC dX9_allHere_35 (j := 0) rfl rfl ?_
        refine g_iconst hC dX9_allHere_36 ic_4 ?_
        refine g_iconst hC dX9_allHere_37 ic_0 ?_
        refine g_iconst hC dX9_allHere_38 ic_0 ?_
        refine g_callV_vV hC hR ⟨Nat.zero_le _, Nat.zero_le _⟩ mwX9_steps miX9_steps (ci := 9) rfl h_b (Nat.le_of_ble_eq_true rfl) mlX9_209 (fun _ hq => kX9_steps hG h_b hq) (by have := hN; omega) rfl (st := []) rfl (Nat.le_of_ble_eq_true rfl) dX9_allHere_39 (fun q7 => ?_)
        refine g_goto hC dX9_allHere_42 ?_
        exact ih q7
    · refine g_sub [] rfl ?_
      exact fun e => by cases e; exact hX
set_option maxHeartbeats 4000000 in
set_option maxRecDepth 100000 in
theorem kX9_allHere {l : Launch} {D : Dx} {G : G2} {V : V2} {R : R2} {rec : Nat → V2 → Nat → Option (V2)} {N : Nat} {n : Nat} {b : Nat} (hrec : ∀ {l : Launch} {D : Dx} {G : G2} {V : V2} {R : R2} {n : Nat} {b : Nat} (hG : GX G) (h_b : own G b 19) {o : V2}, rec n V b = some o → Con l yX9_condHere cX9_condHere 1 none (rmN N 0 0) D G V R [.ref b] (none, o, R, G, 0, 0)) (hN : 5 ≤ N) (hG : GX G) (h_b : own G b 19) {o : V2} (hf : pX9_allHere rec n V b = some o) : Con l yX9_allHere cX9_allHere 1 none (rmN (N + 2) 0 0) D G V R [.ref b] (none, o, R, G, 0, 0) := by
  refine Con.mk RX9 (by decide) rfl (Nat.le_of_ble_eq_true rfl) (fun C _ hR hT _ _ hL hC hnm => ?_)
  revert hf
  unfold pX9_allHere
  refine g_aload_n hC dX9_allHere_0 (j := 0) rfl rfl ?_
  refine g_callV_vV hC hR ⟨Nat.zero_le _, Nat.zero_le _⟩ mwX9_oneHere miX9_oneHere (ci := 9) rfl h_b (Nat.le_of_ble_eq_true rfl) mlX9_222 (fun _ hq => kX9_oneHere hrec hN hG h_b hq) (by have := hN; omega) rfl (st := []) rfl (Nat.le_of_ble_eq_true rfl) dX9_allHere_1 (fun q1 => ?_)
  refine g_bind (J := fun w8 => Go C 45 [] [] w8 R G 0 0) (fun w8 hJ => wX9_allHere_4 hC hL hrec hN hG h_b hR hJ n q1) (fun w8 => ?_)
  exact g_vret_vV hC hT dX9_allHere_45
def lX9_condHere_4 (rec : Nat → V2 → Nat → Option (V2)) (n : Nat) (b : Nat) : Nat → V2 → Option (V2)
  | 0, _ => none
  | f2 + 1, U3 =>
    if (U3 b 10) = 0 then ((pX9_isTwo U3 b 111 114).bind fun q4 =>
    if q4 = 0 then (some U3)
    else ((pX9_nextToken n U3 b).bind fun q5 =>
    (pX9_allHere rec n q5 b).bind fun q6 =>
    (pX9_steps q6 b 5 0 0).bind fun q7 =>
    lX9_condHere_4 rec n b f2 q7))
    else (some U3)
def fX9_condHere (rec : Nat → V2 → Nat → Option (V2)) (n : Nat) (V : V2) (b : Nat) : Option (V2) :=
  (pX9_allHere rec n V b).bind fun q1 =>
  (lX9_condHere_4 rec n b n q1).bind fun w8 =>
  some w8
set_option maxHeartbeats 4000000 in
set_option maxRecDepth 100000 in
theorem wX9_condHere_4 {C : Cx} (hC : CxOK C cX9_condHere RX9 none) (hL : C.2.2.2.2 = 1) {rec : Nat → V2 → Nat → Option (V2)} {N : Nat} {n : Nat} {G : G2} {R : R2} {b : Nat} (hrec : ∀ {l : Launch} {D : Dx} {G : G2} {V : V2} {R : R2} {n : Nat} {b : Nat} (hG : GX G) (h_b : own G b 19) {o : V2}, rec n V b = some o → Con l yX9_condHere cX9_condHere 1 none (rmN N 0 0) D G V R [.ref b] (none, o, R, G, 0, 0)) (hN : 5 ≤ N) (hG : GX G) (h_b : own G b 19) (hR : C.1.2.2.2.1 = rmN (N + 3) 0 0) {o : V2} (hX : Go C 40 [] [] o R G 0 0) : ∀ (f : Nat) (U3 : V2), lX9_condHere_4 rec n b f U3 = some o → Go C 4 [(0, .ref b)] [] U3 R G 0 0 := by
  intro f
  induction f with
  | zero => intro _ hf; exact absurd hf (by unfold lX9_condHere_4; exact fun z => nomatch z)
  | succ f2 ih =>
    intro U3
    unfold lX9_condHere_4
    refine g_aload_n hC dX9_condHere_4 (j := 0) rfl rfl ?_
    refine g_getI hC fi_9_10 h_b dX9_condHere_5 flX9_181 ?_
    refine g_if_ne hC dX9_condHere_8 ?_ ?_
    · refine g_aload_n hC dX9_condHere_11 (j := 0) rfl rfl ?_
      refine g_bipush hC dX9_condHere_12 bc_111 ?_
      refine g_bipush hC dX9_condHere_14 bc_114 ?_
      refine g_callV_i hC hR ⟨Nat.zero_le _, Nat.zero_le _⟩ mwX9_isTwo miX9_isTwo (ci := 9) rfl h_b (Nat.le_of_ble_eq_true rfl) mlX9_228 (fun _ hq => kX9_isTwo hG h_b hq) (by have := hN; omega) rfl (st := []) rfl (Nat.le_of_ble_eq_true rfl) dX9_condHere_16 (fun q4 => ?_)
      refine g_if_eq hC dX9_condHere_19 ?_ ?_
      · refine g_sub [] rfl ?_
        exact fun e => by cases e; exact hX
      · refine g_aload_n hC dX9_condHere_22 (j := 0) rfl rfl ?_
        refine g_callV_vV hC hR ⟨Nat.zero_le _, Nat.zero_le _⟩ mwX9_nextToken miX9_nextToken (ci := 9) rfl h_b (Nat.le_of_ble_eq_true rfl) mlX9_185 (fun _ hq => kX9_nextToken hG h_b hq) (by have := hN; omega) rfl (st := []) rfl (Nat.le_of_ble_eq_true rfl) dX9_condHere_23 (fun q5 => ?_)
        refine g_aload_n hC dX9_condHere_26 (j := 0) rfl rfl ?_
        refine g_callV_vV hC hR ⟨Nat.zero_le _, Nat.zero_le _⟩ mwX9_allHere miX9_allHere (ci := 9) rfl h_b (Nat.le_of_ble_eq_true rfl) mlX9_225 (fun _ hq => kX9_allHere hrec hN hG h_b hq) (by have := hN; omega) rfl (st := []) rfl (Nat.le_of_ble_eq_true rfl) dX9_condHere_27 (fun q6 => ?_)
        refine g_aload_n hC dX9_condHere_30 (j := 0) rfl rfl ?_
        refine g_iconst hC dX9_condHere_31 ic_5 ?_
        refine g_iconst hC dX9_condHere_32 ic_0 ?_
        refine g_iconst hC dX9_condHere_33 ic_0 ?_
        refine g_callV_vV hC hR ⟨Nat.zero_le _, Nat.zero_le _⟩ mwX9_steps miX9_steps (ci := 9) rfl h_b (Nat.le_of_ble_eq_true rfl) mlX9_209 (fun _ hq => kX9_steps hG h_b hq) (by have := hN; omega) rfl (st := []) rfl (Nat.le_of_ble_eq_true rfl) dX9_condHere_34 (fun q7 => ?_)
        refine g_goto hC dX9_condHere_37 ?_
        exact ih q7
    · refine g_sub [] rfl ?_
      exact fun e => by cases e; exact hX
set_option maxHeartbeats 4000000 in
set_option maxRecDepth 100000 in
theorem kfX9_condHere {l : Launch} {D : Dx} {G : G2} {V : V2} {R : R2} {rec : Nat → V2 → Nat → Option (V2)} {N : Nat} {n : Nat} {b : Nat} (hrec : ∀ {l : Launch} {D : Dx} {G : G2} {V : V2} {R : R2} {n : Nat} {b : Nat} (hG : GX G) (h_b : own G b 19) {o : V2}, rec n V b = some o → Con l yX9_condHere cX9_condHere 1 none (rmN N 0 0) D G V R [.ref b] (none, o, R, G, 0, 0)) (hN : 5 ≤ N) (hG : GX G) (h_b : own G b 19) {o : V2} (hf : fX9_condHere rec n V b = some o) : Con l yX9_condHere cX9_condHere 1 none (rmN (N + 3) 0 0) D G V R [.ref b] (none, o, R, G, 0, 0) := by
  refine Con.mk RX9 (by decide) rfl (Nat.le_of_ble_eq_true rfl) (fun C _ hR hT _ _ hL hC hnm => ?_)
  revert hf
  unfold fX9_condHere
  refine g_aload_n hC dX9_condHere_0 (j := 0) rfl rfl ?_
  refine g_callV_vV hC hR ⟨Nat.zero_le _, Nat.zero_le _⟩ mwX9_allHere miX9_allHere (ci := 9) rfl h_b (Nat.le_of_ble_eq_true rfl) mlX9_225 (fun _ hq => kX9_allHere hrec hN hG h_b hq) (by have := hN; omega) rfl (st := []) rfl (Nat.le_of_ble_eq_true rfl) dX9_condHere_1 (fun q1 => ?_)
  refine g_bind (J := fun w8 => Go C 40 [] [] w8 R G 0 0) (fun w8 hJ => wX9_condHere_4 hC hL hrec hN hG h_b hR hJ n q1) (fun w8 => ?_)
  exact g_vret_vV hC hT dX9_condHere_40
def pX9_condHere : Nat → Nat → V2 → Nat → Option (V2)
  | 0 => fun _ _ _ => none
  | d + 1 => fX9_condHere (pX9_condHere d)
theorem kX9_condHere : ∀ (d : Nat) {l : Launch} {D : Dx} {G : G2} {V : V2} {R : R2} {n : Nat} {b : Nat} (hG : GX G) (h_b : own G b 19) {o : V2}, pX9_condHere d n V b = some o → Con l yX9_condHere cX9_condHere 1 none (rmN (5 + 3 * d) 0 0) D G V R [.ref b] (none, o, R, G, 0, 0) := by
  intro d
  induction d with
  | zero => intro _ _ _ _ _ _ _ _ _ _ hf; exact absurd hf (by unfold pX9_condHere; exact fun z => nomatch z)
  | succ d ih =>
    intro l D G V R _ _ hG h_b _ hf
    have := kfX9_condHere (l := l) (D := D) (V := V) (R := R) (N := 5 + 3 * d) ih (by omega) hG h_b hf
    rw [show 5 + 3 * (d + 1) = 5 + 3 * d + 3 by omega]
    exact this
def pX9_ruleHere (n : Nat) (V : V2) (b : Nat) : Option (V2) :=
  (ldI 572 (V (b + 1)) 5).bind fun t1 =>
  letv (66 + (4 * t1)) fun x2 =>
  (pX9_kindHere V b).bind fun q3 =>
  ((if q3 < 0 then (some 0)
  else ((ldI 572 (V (b + 1)) 5).bind fun t5 =>
  if (8 : Int32) ≤ t5 then (some 0)
  else (some 1)) : Option (Int32))).bind fun j4 =>
  (pX9_needs n V b j4).bind fun q6 =>
  (ldI 572 (q6 (b + 1)) 7).bind fun t7 =>
  ((if (q6 b 10) = 0 then ((pX9_isTwo q6 b 105 102).bind fun q9 =>
  if q9 = 0 then (some q6)
  else ((pX9_nextToken n q6 b).bind fun q10 =>
  letv (up2 q10 b 11 0) fun U11 =>
  (pX9_condHere 6 n U11 b).bind fun q12 =>
  some q12))
  else (some q6) : Option (V2))).bind fun j8 =>
  (pX9_doHere j8 b).bind fun q13 =>
  letv ((if q13 < 0 then (0)
  else (1) : Int32)) fun j14 =>
  (pX9_needs n j8 b j14).bind fun q15 =>
  (pX9_isByte q15 b 59).bind fun q16 =>
  (pX9_needs n q15 b q16).bind fun q17 =>
  if (q17 b 10) = 0 then ((stI 572 q17 (b + 1) x2 q3).bind fun U18 =>
  (stI 572 U18 (b + 1) (x2 + 1) q13).bind fun U19 =>
  (stI 572 U19 (b + 1) (x2 + 2) t7).bind fun U20 =>
  (ldI 572 (U20 (b + 1)) 7).bind fun t21 =>
  (stI 572 U20 (b + 1) (x2 + 3) t21).bind fun U22 =>
  (ldI 572 (U22 (b + 1)) 5).bind fun t23 =>
  (stI 572 U22 (b + 1) 5 (t23 + 1)).bind fun U24 =>
  some U24)
  else (some q17)
set_option maxHeartbeats 4000000 in
set_option maxRecDepth 100000 in
theorem kX9_ruleHere {l : Launch} {D : Dx} {G : G2} {V : V2} {R : R2} {n : Nat} {b : Nat} (hG : GX G) (h_b : own G b 19) {o : V2} (hf : pX9_ruleHere n V b = some o) : Con l yX9_ruleHere cX9_ruleHere 5 none (rmN 24 0 0) D G V R [.ref b] (none, o, R, G, 0, 0) := by
  refine Con.mk RX9 (by decide) rfl (Nat.le_of_ble_eq_true rfl) (fun C _ hR hT _ _ hL hC hnm => ?_)
  revert hf
  unfold pX9_ruleHere
  refine g_bipush hC dX9_ruleHere_0 bc_66 ?_
  refine g_iconst hC dX9_ruleHere_2 ic_4 ?_
  refine g_aload_n hC dX9_ruleHere_3 (j := 0) rfl rfl ?_
  refine g_getR hC fr_9_0 h_b (b := b + 1) rfl dX9_ruleHere_4 flX9_7 ?_
  refine g_iconst hC dX9_ruleHere_7 ic_5 ?_
  refine g_ialdV hC (gx_9_0 hG h_b) (gl_9_0 hG h_b) dX9_ruleHere_8 (fun t1 => ?_)
  refine g_imul hC dX9_ruleHere_9 ?_
  refine g_iadd hC dX9_ruleHere_10 ?_
  refine g_istore_nL hC (n0 := 5) (lv' := fun x2 => [(1, .int x2), (0, .ref b)]) dX9_ruleHere_11 rfl (Nat.le_of_ble_eq_true rfl) hL (fun _ => rfl) (fun x2 => ?_)
  refine g_aload_n hC dX9_ruleHere_12 (j := 1) rfl rfl ?_
  refine g_callV_i hC hR ⟨Nat.zero_le _, Nat.zero_le _⟩ mwX9_kindHere miX9_kindHere (ci := 9) rfl h_b (Nat.le_of_ble_eq_true rfl) mlX9_231 (fun _ hq => kX9_kindHere hG h_b hq) (Nat.le_of_ble_eq_true rfl) rfl (st := []) rfl (Nat.le_of_ble_eq_true rfl) dX9_ruleHere_13 (fun q3 => ?_)
  refine g_istore_n hC (n0 := 5) (lv' := [(2, .int q3), (1, .int x2), (0, .ref b)]) dX9_ruleHere_16 rfl (Nat.le_of_ble_eq_true rfl) hL rfl ?_
  refine g_aload_n hC dX9_ruleHere_17 (j := 2) rfl rfl ?_
  refine g_iload_n hC dX9_ruleHere_18 (j := 0) rfl rfl ?_
  refine g_bind (J := fun j4 => Go C 38 [(0, .ref b), (1, .int x2), (2, .int q3)] [.int j4, .ref b] V R G 0 0) (fun j4 hJ => ?_) (fun j4 => ?_)
  · refine g_if_lt hC dX9_ruleHere_19 ?_ ?_
    · refine g_iconst hC dX9_ruleHere_37 ic_0 ?_
      refine g_sub [2, 1, 0] rfl ?_
      exact fun e => by cases e; exact hJ
    · refine g_aload_n hC dX9_ruleHere_22 (j := 2) rfl rfl ?_
      refine g_getR hC fr_9_0 h_b (b := b + 1) rfl dX9_ruleHere_23 flX9_7 ?_
      refine g_iconst hC dX9_ruleHere_26 ic_5 ?_
      refine g_ialdV hC (gx_9_0 hG h_b) (gl_9_0 hG h_b) dX9_ruleHere_27 (fun t5 => ?_)
      refine g_bipush hC dX9_ruleHere_28 bc_8 ?_
      refine g_icmp_ge hC dX9_ruleHere_30 ?_ ?_
      · refine g_iconst hC dX9_ruleHere_37 ic_0 ?_
        refine g_sub [2, 1, 0] rfl ?_
        exact fun e => by cases e; exact hJ
      · refine g_iconst hC dX9_ruleHere_33 ic_1 ?_
        refine g_goto hC dX9_ruleHere_34 ?_
        refine g_sub [2, 1, 0] rfl ?_
        exact fun e => by cases e; exact hJ
  · refine g_callV_vV hC hR ⟨Nat.zero_le _, Nat.zero_le _⟩ mwX9_needs miX9_needs (ci := 9) rfl h_b (Nat.le_of_ble_eq_true rfl) mlX9_199 (fun _ hq => kX9_needs hG h_b hq) (Nat.le_of_ble_eq_true rfl) rfl (st := []) rfl (Nat.le_of_ble_eq_true rfl) dX9_ruleHere_38 (fun q6 => ?_)
    refine g_aload_n hC dX9_ruleHere_41 (j := 0) rfl rfl ?_
    refine g_getR hC fr_9_0 h_b (b := b + 1) rfl dX9_ruleHere_42 flX9_7 ?_
    refine g_bipush hC dX9_ruleHere_45 bc_7 ?_
    refine g_ialdV hC (gx_9_0 hG h_b) (gl_9_0 hG h_b) dX9_ruleHere_47 (fun t7 => ?_)
    refine g_istore_n hC (n0 := 5) (lv' := [(3, .int t7), (0, .ref b), (1, .int x2), (2, .int q3)]) dX9_ruleHere_48 rfl (Nat.le_of_ble_eq_true rfl) hL rfl ?_
    refine g_aload_n hC dX9_ruleHere_49 (j := 1) rfl rfl ?_
    refine g_getI hC fi_9_10 h_b dX9_ruleHere_50 flX9_181 ?_
    refine g_bind (J := fun j8 => Go C 80 [(0, .ref b), (1, .int x2), (2, .int q3), (3, .int t7)] [] j8 R G 0 0) (fun j8 hJ => ?_) (fun j8 => ?_)
    · refine g_if_ne hC dX9_ruleHere_53 ?_ ?_
      · refine g_aload_n hC dX9_ruleHere_56 (j := 1) rfl rfl ?_
        refine g_bipush hC dX9_ruleHere_57 bc_105 ?_
        refine g_bipush hC dX9_ruleHere_59 bc_102 ?_
        refine g_callV_i hC hR ⟨Nat.zero_le _, Nat.zero_le _⟩ mwX9_isTwo miX9_isTwo (ci := 9) rfl h_b (Nat.le_of_ble_eq_true rfl) mlX9_228 (fun _ hq => kX9_isTwo hG h_b hq) (Nat.le_of_ble_eq_true rfl) rfl (st := []) rfl (Nat.le_of_ble_eq_true rfl) dX9_ruleHere_61 (fun q9 => ?_)
        refine g_if_eq hC dX9_ruleHere_64 ?_ ?_
        · refine g_sub [1, 2, 3, 0] rfl ?_
          exact fun e => by cases e; exact hJ
        · refine g_aload_n hC dX9_ruleHere_67 (j := 1) rfl rfl ?_
          refine g_callV_vV hC hR ⟨Nat.zero_le _, Nat.zero_le _⟩ mwX9_nextToken miX9_nextToken (ci := 9) rfl h_b (Nat.le_of_ble_eq_true rfl) mlX9_185 (fun _ hq => kX9_nextToken hG h_b hq) (Nat.le_of_ble_eq_true rfl) rfl (st := []) rfl (Nat.le_of_ble_eq_true rfl) dX9_ruleHere_68 (fun q10 => ?_)
          refine g_aload_n hC dX9_ruleHere_71 (j := 1) rfl rfl ?_
          refine g_iconst hC dX9_ruleHere_72 ic_0 ?_
          refine g_putIL hC fp_9_11 h_b dX9_ruleHere_73 flX9_213 (fun U11 => ?_)
          refine g_aload_n hC dX9_ruleHere_76 (j := 1) rfl rfl ?_
          refine g_callV_vV hC hR ⟨Nat.zero_le _, Nat.zero_le _⟩ mwX9_condHere miX9_condHere (ci := 9) rfl h_b (Nat.le_of_ble_eq_true rfl) mlX9_216 (fun _ hq => kX9_condHere 6 hG h_b hq) (Nat.le_of_ble_eq_true rfl) rfl (st := []) rfl (Nat.le_of_ble_eq_true rfl) dX9_ruleHere_77 (fun q12 => ?_)
          refine g_sub [1, 2, 3, 0] rfl ?_
          exact fun e => by cases e; exact hJ
      · refine g_sub [1, 2, 3, 0] rfl ?_
        exact fun e => by cases e; exact hJ
    · refine g_aload_n hC dX9_ruleHere_80 (j := 0) rfl rfl ?_
      refine g_callV_i hC hR ⟨Nat.zero_le _, Nat.zero_le _⟩ mwX9_doHere miX9_doHere (ci := 9) rfl h_b (Nat.le_of_ble_eq_true rfl) mlX9_234 (fun _ hq => kX9_doHere hG h_b hq) (Nat.le_of_ble_eq_true rfl) rfl (st := []) rfl (Nat.le_of_ble_eq_true rfl) dX9_ruleHere_81 (fun q13 => ?_)
      refine g_istore hC (n0 := 5) (lv' := [(4, .int q13), (0, .ref b), (1, .int x2), (2, .int q3), (3, .int t7)]) dX9_ruleHere_84 (Nat.le_of_ble_eq_true rfl) hL rfl ?_
      refine g_aload_n hC dX9_ruleHere_86 (j := 1) rfl rfl ?_
      refine g_iload hC dX9_ruleHere_87 (j := 0) rfl ?_
      refine g_letJ (J := fun j14 => Go C 97 [(0, .ref b), (1, .int x2), (2, .int q3), (3, .int t7), (4, .int q13)] [.int j14, .ref b] j8 R G 0 0) (fun j14 hJ => ?_) (fun j14 => ?_)
      · refine g_if_lt hC dX9_ruleHere_89 ?_ ?_
        · refine g_iconst hC dX9_ruleHere_96 ic_0 ?_
          refine g_sub [1, 2, 3, 4, 0] rfl ?_
          exact fun e => by cases e; exact hJ
        · refine g_iconst hC dX9_ruleHere_92 ic_1 ?_
          refine g_goto hC dX9_ruleHere_93 ?_
          refine g_sub [1, 2, 3, 4, 0] rfl ?_
          exact fun e => by cases e; exact hJ
      · refine g_callV_vV hC hR ⟨Nat.zero_le _, Nat.zero_le _⟩ mwX9_needs miX9_needs (ci := 9) rfl h_b (Nat.le_of_ble_eq_true rfl) mlX9_199 (fun _ hq => kX9_needs hG h_b hq) (Nat.le_of_ble_eq_true rfl) rfl (st := []) rfl (Nat.le_of_ble_eq_true rfl) dX9_ruleHere_97 (fun q15 => ?_)
        refine g_aload_n hC dX9_ruleHere_100 (j := 0) rfl rfl ?_
        refine g_aload_n hC dX9_ruleHere_101 (j := 0) rfl rfl ?_
        refine g_bipush hC dX9_ruleHere_102 bc_59 ?_
        refine g_callV_i hC hR ⟨Nat.zero_le _, Nat.zero_le _⟩ mwX9_isByte miX9_isByte (ci := 9) rfl h_b (Nat.le_of_ble_eq_true rfl) mlX9_206 (fun _ hq => kX9_isByte hG h_b hq) (Nat.le_of_ble_eq_true rfl) rfl (st := [.ref b]) rfl (Nat.le_of_ble_eq_true rfl) dX9_ruleHere_104 (fun q16 => ?_)
        refine g_callV_vV hC hR ⟨Nat.zero_le _, Nat.zero_le _⟩ mwX9_needs miX9_needs (ci := 9) rfl h_b (Nat.le_of_ble_eq_true rfl) mlX9_199 (fun _ hq => kX9_needs hG h_b hq) (Nat.le_of_ble_eq_true rfl) rfl (st := []) rfl (Nat.le_of_ble_eq_true rfl) dX9_ruleHere_107 (fun q17 => ?_)
        refine g_aload_n hC dX9_ruleHere_110 (j := 0) rfl rfl ?_
        refine g_getI hC fi_9_10 h_b dX9_ruleHere_111 flX9_181 ?_
        refine g_if_ne hC dX9_ruleHere_114 ?_ ?_
        · refine g_aload_n hC dX9_ruleHere_117 (j := 0) rfl rfl ?_
          refine g_getR hC fr_9_0 h_b (b := b + 1) rfl dX9_ruleHere_118 flX9_7 ?_
          refine g_iload_n hC dX9_ruleHere_121 (j := 1) rfl rfl ?_
          refine g_iload_n hC dX9_ruleHere_122 (j := 2) rfl rfl ?_
          refine g_iastV hC (gx_9_0 hG h_b) (gl_9_0 hG h_b) dX9_ruleHere_123 (fun U18 => ?_)
          refine g_aload_n hC dX9_ruleHere_124 (j := 0) rfl rfl ?_
          refine g_getR hC fr_9_0 h_b (b := b + 1) rfl dX9_ruleHere_125 flX9_7 ?_
          refine g_iload_n hC dX9_ruleHere_128 (j := 1) rfl rfl ?_
          refine g_iconst hC dX9_ruleHere_129 ic_1 ?_
          refine g_iadd hC dX9_ruleHere_130 ?_
          refine g_iload hC dX9_ruleHere_131 (j := 4) rfl ?_
          refine g_iastV hC (gx_9_0 hG h_b) (gl_9_0 hG h_b) dX9_ruleHere_133 (fun U19 => ?_)
          refine g_aload_n hC dX9_ruleHere_134 (j := 0) rfl rfl ?_
          refine g_getR hC fr_9_0 h_b (b := b + 1) rfl dX9_ruleHere_135 flX9_7 ?_
          refine g_iload_n hC dX9_ruleHere_138 (j := 1) rfl rfl ?_
          refine g_iconst hC dX9_ruleHere_139 ic_2 ?_
          refine g_iadd hC dX9_ruleHere_140 ?_
          refine g_iload_n hC dX9_ruleHere_141 (j := 3) rfl rfl ?_
          refine g_iastV hC (gx_9_0 hG h_b) (gl_9_0 hG h_b) dX9_ruleHere_142 (fun U20 => ?_)
          refine g_aload_n hC dX9_ruleHere_143 (j := 0) rfl rfl ?_
          refine g_getR hC fr_9_0 h_b (b := b + 1) rfl dX9_ruleHere_144 flX9_7 ?_
          refine g_iload_n hC dX9_ruleHere_147 (j := 1) rfl rfl ?_
          refine g_iconst hC dX9_ruleHere_148 ic_3 ?_
          refine g_iadd hC dX9_ruleHere_149 ?_
          refine g_aload_n hC dX9_ruleHere_150 (j := 0) rfl rfl ?_
          refine g_getR hC fr_9_0 h_b (b := b + 1) rfl dX9_ruleHere_151 flX9_7 ?_
          refine g_bipush hC dX9_ruleHere_154 bc_7 ?_
          refine g_ialdV hC (gx_9_0 hG h_b) (gl_9_0 hG h_b) dX9_ruleHere_156 (fun t21 => ?_)
          refine g_iastV hC (gx_9_0 hG h_b) (gl_9_0 hG h_b) dX9_ruleHere_157 (fun U22 => ?_)
          refine g_aload_n hC dX9_ruleHere_158 (j := 0) rfl rfl ?_
          refine g_getR hC fr_9_0 h_b (b := b + 1) rfl dX9_ruleHere_159 flX9_7 ?_
          refine g_iconst hC dX9_ruleHere_162 ic_5 ?_
          refine g_dup2 hC dX9_ruleHere_163 rfl rfl ?_
          refine g_ialdV hC (gx_9_0 hG h_b) (gl_9_0 hG h_b) dX9_ruleHere_164 (fun t23 => ?_)
          refine g_iconst hC dX9_ruleHere_165 ic_1 ?_
          refine g_iadd hC dX9_ruleHere_166 ?_
          refine g_iastV hC (gx_9_0 hG h_b) (gl_9_0 hG h_b) dX9_ruleHere_167 (fun U24 => ?_)
          exact g_vret_vV hC hT dX9_ruleHere_168
        · exact g_vret_vV hC hT dX9_ruleHere_168
def lX9_rules_2 (b : Nat) : Nat → V2 → Int32 → Option (V2)
  | 0, _, _ => none
  | f1 + 1, U2, x3 =>
    if (572 : Int32) ≤ x3 then (some U2)
    else ((ldI 572 (U2 (b + 1)) x3).bind fun t4 =>
    (stI 572 U2 (b + 5) x3 t4).bind fun U5 =>
    letv (x3 + 1) fun x6 =>
    lX9_rules_2 b f1 U5 x6)
def lX9_rules_56 (n : Nat) (b : Nat) : Nat → V2 → Option (V2)
  | 0, _ => none
  | f13 + 1, U14 =>
    if (U14 b 10) = 0 then (if (U14 b 6) = 0 then (some U14)
    else ((pX9_ruleHere n U14 b).bind fun q15 =>
    lX9_rules_56 n b f13 q15))
    else (some U14)
def lX9_rules_84 (b : Nat) : Nat → V2 → Int32 → Option (V2)
  | 0, _, _ => none
  | f18 + 1, U19, x20 =>
    if (572 : Int32) ≤ x20 then (some U19)
    else (if (U19 b 10) = 0 then (some U19)
    else ((ldI 572 (U19 (b + 5)) x20).bind fun t21 =>
    (stI 572 U19 (b + 1) x20 t21).bind fun U22 =>
    letv (x20 + 1) fun x23 =>
    lX9_rules_84 b f18 U22 x23))
def pX9_rules (n : Nat) (V : V2) (b : Nat) : Option (Int32 × V2) :=
  (lX9_rules_2 b n V 0).bind fun w7 =>
  (stI 572 w7 (b + 1) 5 0).bind fun U8 =>
  (stI 572 U8 (b + 1) 7 0).bind fun U9 =>
  letv (up2 U9 b 8 0) fun U10 =>
  letv (up2 U10 b 10 0) fun U11 =>
  (pX9_nextToken n U11 b).bind fun q12 =>
  (lX9_rules_56 n b n q12).bind fun w16 =>
  letv (up2 w16 b 5 0) fun U17 =>
  (lX9_rules_84 b n U17 0).bind fun w24 =>
  if (w24 b 10) = 0 then ((ldI 572 (w24 (b + 1)) 5).bind fun t25 =>
  some (t25, w24))
  else (some ((-100) - (w24 b 7), w24))
set_option maxHeartbeats 4000000 in
set_option maxRecDepth 100000 in
theorem wX9_rules_2 {C : Cx} (hC : CxOK C cX9_rules RX9 (some .int)) (hL : C.2.2.2.2 = 2) {G : G2} {R : R2} {b : Nat} (hG : GX G) (h_b : own G b 19) {o : V2} (hX : Go C 27 [(0, .ref b)] [] o R G 0 0) : ∀ (f : Nat) (U2 : V2) (x3 : Int32), lX9_rules_2 b f U2 x3 = some o → Go C 2 [(0, .ref b), (1, .int x3)] [] U2 R G 0 0 := by
  intro f
  induction f with
  | zero => intro _ _ hf; exact absurd hf (by unfold lX9_rules_2; exact fun z => nomatch z)
  | succ f1 ih =>
    intro U2 x3
    unfold lX9_rules_2
    refine g_iload_n hC dX9_rules_2 (j := 1) rfl rfl ?_
    refine g_sipush hC dX9_rules_3 sc_572 ?_
    refine g_icmp_ge hC dX9_rules_6 ?_ ?_
    · refine g_sub [0] rfl ?_
      exact fun e => by cases e; exact hX
    · refine g_aload_n hC dX9_rules_9 (j := 0) rfl rfl ?_
      refine g_getR hC fr_9_12 h_b (b := b + 5) rfl dX9_rules_10 flX9_22 ?_
      refine g_iload_n hC dX9_rules_13 (j := 1) rfl rfl ?_
      refine g_aload_n hC dX9_rules_14 (j := 0) rfl rfl ?_
      refine g_getR hC fr_9_0 h_b (b := b + 1) rfl dX9_rules_15 flX9_7 ?_
      refine g_iload_n hC dX9_rules_18 (j := 1) rfl rfl ?_
      refine g_ialdV hC (gx_9_0 hG h_b) (gl_9_0 hG h_b) dX9_rules_19 (fun t4 => ?_)
      refine g_iastV hC (gx_9_12 hG h_b) (gl_9_12 hG h_b) dX9_rules_20 (fun U5 => ?_)
      refine g_iincL hC (n0 := 2) (j := 1) (lv' := fun x6 => [(1, .int x6), (0, .ref b)]) dX9_rules_21 rfl ic_1 (Nat.le_of_ble_eq_true rfl) hL (fun _ => rfl) (fun x6 => ?_)
      refine g_goto hC dX9_rules_24 ?_
      refine g_sub [1, 0] rfl ?_
      exact ih U5 x6
set_option maxHeartbeats 4000000 in
set_option maxRecDepth 100000 in
theorem wX9_rules_56 {C : Cx} (hC : CxOK C cX9_rules RX9 (some .int)) (hL : C.2.2.2.2 = 2) {n : Nat} {G : G2} {R : R2} {b : Nat} (hG : GX G) (h_b : own G b 19) (hR : C.1.2.2.2.1 = rmN 25 0 0) {o : V2} (hX : Go C 77 [(0, .ref b)] [] o R G 0 0) : ∀ (f : Nat) (U14 : V2), lX9_rules_56 n b f U14 = some o → Go C 56 [(0, .ref b)] [] U14 R G 0 0 := by
  intro f
  induction f with
  | zero => intro _ hf; exact absurd hf (by unfold lX9_rules_56; exact fun z => nomatch z)
  | succ f13 ih =>
    intro U14
    unfold lX9_rules_56
    refine g_aload_n hC dX9_rules_56 (j := 0) rfl rfl ?_
    refine g_getI hC fi_9_10 h_b dX9_rules_57 flX9_181 ?_
    refine g_if_ne hC dX9_rules_60 ?_ ?_
    · refine g_aload_n hC dX9_rules_63 (j := 0) rfl rfl ?_
      refine g_getI hC fi_9_6 h_b dX9_rules_64 flX9_175 ?_
      refine g_if_eq hC dX9_rules_67 ?_ ?_
      · exact fun e => by cases e; exact hX
      · refine g_aload_n hC dX9_rules_70 (j := 0) rfl rfl ?_
        refine g_callV_vV hC hR ⟨Nat.zero_le _, Nat.zero_le _⟩ mwX9_ruleHere miX9_ruleHere (ci := 9) rfl h_b (Nat.le_of_ble_eq_true rfl) mlX9_237 (fun _ hq => kX9_ruleHere hG h_b hq) (Nat.le_of_ble_eq_true rfl) rfl (st := []) rfl (Nat.le_of_ble_eq_true rfl) dX9_rules_71 (fun q15 => ?_)
        refine g_goto hC dX9_rules_74 ?_
        exact ih q15
    · exact fun e => by cases e; exact hX
set_option maxHeartbeats 4000000 in
set_option maxRecDepth 100000 in
theorem wX9_rules_84 {C : Cx} (hC : CxOK C cX9_rules RX9 (some .int)) (hL : C.2.2.2.2 = 2) {G : G2} {R : R2} {b : Nat} (hG : GX G) (h_b : own G b 19) {o : V2} (hX : Go C 116 [(0, .ref b)] [] o R G 0 0) : ∀ (f : Nat) (U19 : V2) (x20 : Int32), lX9_rules_84 b f U19 x20 = some o → Go C 84 [(0, .ref b), (1, .int x20)] [] U19 R G 0 0 := by
  intro f
  induction f with
  | zero => intro _ _ hf; exact absurd hf (by unfold lX9_rules_84; exact fun z => nomatch z)
  | succ f18 ih =>
    intro U19 x20
    unfold lX9_rules_84
    refine g_iload_n hC dX9_rules_84 (j := 1) rfl rfl ?_
    refine g_sipush hC dX9_rules_85 sc_572 ?_
    refine g_icmp_ge hC dX9_rules_88 ?_ ?_
    · refine g_sub [0] rfl ?_
      exact fun e => by cases e; exact hX
    · refine g_aload_n hC dX9_rules_91 (j := 0) rfl rfl ?_
      refine g_getI hC fi_9_10 h_b dX9_rules_92 flX9_181 ?_
      refine g_if_eq hC dX9_rules_95 ?_ ?_
      · refine g_sub [0] rfl ?_
        exact fun e => by cases e; exact hX
      · refine g_aload_n hC dX9_rules_98 (j := 0) rfl rfl ?_
        refine g_getR hC fr_9_0 h_b (b := b + 1) rfl dX9_rules_99 flX9_7 ?_
        refine g_iload_n hC dX9_rules_102 (j := 1) rfl rfl ?_
        refine g_aload_n hC dX9_rules_103 (j := 0) rfl rfl ?_
        refine g_getR hC fr_9_12 h_b (b := b + 5) rfl dX9_rules_104 flX9_22 ?_
        refine g_iload_n hC dX9_rules_107 (j := 1) rfl rfl ?_
        refine g_ialdV hC (gx_9_12 hG h_b) (gl_9_12 hG h_b) dX9_rules_108 (fun t21 => ?_)
        refine g_iastV hC (gx_9_0 hG h_b) (gl_9_0 hG h_b) dX9_rules_109 (fun U22 => ?_)
        refine g_iincL hC (n0 := 2) (j := 1) (lv' := fun x23 => [(1, .int x23), (0, .ref b)]) dX9_rules_110 rfl ic_1 (Nat.le_of_ble_eq_true rfl) hL (fun _ => rfl) (fun x23 => ?_)
        refine g_goto hC dX9_rules_113 ?_
        refine g_sub [1, 0] rfl ?_
        exact ih U22 x23
set_option maxHeartbeats 4000000 in
set_option maxRecDepth 100000 in
theorem kX9_rules {l : Launch} {D : Dx} {G : G2} {V : V2} {R : R2} {n : Nat} {b : Nat} (hG : GX G) (h_b : own G b 19) {o : Int32 × V2} (hf : pX9_rules n V b = some o) : Con l yX9_rules cX9_rules 2 (some .int) (rmN 25 0 0) D G V R [.ref b] (some (.int o.1), o.2, R, G, 0, 0) := by
  refine Con.mk RX9 (by decide) rfl (Nat.le_of_ble_eq_true rfl) (fun C _ hR hT _ _ hL hC hnm => ?_)
  revert hf
  unfold pX9_rules
  refine g_iconst hC dX9_rules_0 ic_0 ?_
  refine g_istore_n hC (n0 := 2) (lv' := [(1, .int 0), (0, .ref b)]) dX9_rules_1 rfl (Nat.le_of_ble_eq_true rfl) hL rfl ?_
  refine g_sub [1, 0] rfl ?_
  refine g_bind (J := fun w7 => Go C 27 [(0, .ref b)] [] w7 R G 0 0) (fun w7 hJ => wX9_rules_2 hC hL hG h_b hJ n V 0) (fun w7 => ?_)
  refine g_aload_n hC dX9_rules_27 (j := 0) rfl rfl ?_
  refine g_getR hC fr_9_0 h_b (b := b + 1) rfl dX9_rules_28 flX9_7 ?_
  refine g_iconst hC dX9_rules_31 ic_5 ?_
  refine g_iconst hC dX9_rules_32 ic_0 ?_
  refine g_iastV hC (gx_9_0 hG h_b) (gl_9_0 hG h_b) dX9_rules_33 (fun U8 => ?_)
  refine g_aload_n hC dX9_rules_34 (j := 0) rfl rfl ?_
  refine g_getR hC fr_9_0 h_b (b := b + 1) rfl dX9_rules_35 flX9_7 ?_
  refine g_bipush hC dX9_rules_38 bc_7 ?_
  refine g_iconst hC dX9_rules_40 ic_0 ?_
  refine g_iastV hC (gx_9_0 hG h_b) (gl_9_0 hG h_b) dX9_rules_41 (fun U9 => ?_)
  refine g_aload_n hC dX9_rules_42 (j := 0) rfl rfl ?_
  refine g_iconst hC dX9_rules_43 ic_0 ?_
  refine g_putIL hC fp_9_8 h_b dX9_rules_44 flX9_160 (fun U10 => ?_)
  refine g_aload_n hC dX9_rules_47 (j := 0) rfl rfl ?_
  refine g_iconst hC dX9_rules_48 ic_0 ?_
  refine g_putZL hC fp_9_10 h_b rfl dX9_rules_49 flX9_181 (fun U11 => ?_)
  refine g_aload_n hC dX9_rules_52 (j := 0) rfl rfl ?_
  refine g_callV_vV hC hR ⟨Nat.zero_le _, Nat.zero_le _⟩ mwX9_nextToken miX9_nextToken (ci := 9) rfl h_b (Nat.le_of_ble_eq_true rfl) mlX9_185 (fun _ hq => kX9_nextToken hG h_b hq) (Nat.le_of_ble_eq_true rfl) rfl (st := []) rfl (Nat.le_of_ble_eq_true rfl) dX9_rules_53 (fun q12 => ?_)
  refine g_bind (J := fun w16 => Go C 77 [(0, .ref b)] [] w16 R G 0 0) (fun w16 hJ => wX9_rules_56 hC hL hG h_b hR hJ n q12) (fun w16 => ?_)
  refine g_aload_n hC dX9_rules_77 (j := 0) rfl rfl ?_
  refine g_iconst hC dX9_rules_78 ic_0 ?_
  refine g_putIL hC fp_9_5 h_b dX9_rules_79 flX9_154 (fun U17 => ?_)
  refine g_iconst hC dX9_rules_82 ic_0 ?_
  refine g_istore_n hC (n0 := 2) (lv' := [(1, .int 0), (0, .ref b)]) dX9_rules_83 rfl (Nat.le_of_ble_eq_true rfl) hL rfl ?_
  refine g_sub [1, 0] rfl ?_
  refine g_bind (J := fun w24 => Go C 116 [(0, .ref b)] [] w24 R G 0 0) (fun w24 hJ => wX9_rules_84 hC hL hG h_b hJ n U17 0) (fun w24 => ?_)
  refine g_aload_n hC dX9_rules_116 (j := 0) rfl rfl ?_
  refine g_getI hC fi_9_10 h_b dX9_rules_117 flX9_181 ?_
  refine g_if_eq hC dX9_rules_120 ?_ ?_
  · refine g_aload_n hC dX9_rules_133 (j := 0) rfl rfl ?_
    refine g_getR hC fr_9_0 h_b (b := b + 1) rfl dX9_rules_134 flX9_7 ?_
    refine g_iconst hC dX9_rules_137 ic_5 ?_
    refine g_ialdV hC (gx_9_0 hG h_b) (gl_9_0 hG h_b) dX9_rules_138 (fun t25 => ?_)
    exact g_iret_iV hC hT dX9_rules_139
  · refine g_bipush hC dX9_rules_123 bc_m100 ?_
    refine g_aload_n hC dX9_rules_125 (j := 0) rfl rfl ?_
    refine g_getI hC fi_9_7 h_b dX9_rules_126 flX9_163 ?_
    refine g_isub hC dX9_rules_129 ?_
    refine g_goto hC dX9_rules_130 ?_
    exact g_iret_iV hC hT dX9_rules_139
def pX9_does (n : Nat) (V : V2) (b : Nat) (a1 : Int32) (a2 : Int32) : Option (Int32 × V2) :=
  letv (8 + (5 * a1)) fun x1 =>
  if a2 = 0 then ((pX9_pays n V b a1).bind fun q2 =>
  letv ((if q2 ≤ 0 then (0)
  else (1) : Int32)) fun j3 =>
  (stI 572 V (b + 1) (x1 + 4) j3).bind fun U4 =>
  ((if q2 ≤ 0 then ((ldI 572 (U4 (b + 1)) (x1 + 1)).bind fun t6 =>
  some t6)
  else (some 0) : Option (Int32))).bind fun j5 =>
  (stI 572 U4 (b + 1) (x1 + 1) j5).bind fun U7 =>
  some (q2, U7))
  else (if a2 = (1 : Int32) then (some (0, V))
  else ((ldI 572 (V (b + 1)) (x1 + 2)).bind fun t8 =>
  (pX9_lesser 9 (t8 + 1)).bind fun q9 =>
  (stI 572 V (b + 1) (x1 + 2) q9).bind fun U10 =>
  (ldI 572 (U10 (b + 1)) (x1 + 1)).bind fun t11 =>
  (pX9_greatest 0 (t11 - 6)).bind fun q12 =>
  (stI 572 U10 (b + 1) (x1 + 1) q12).bind fun U13 =>
  (ldI 572 (U13 (b + 1)) 1).bind fun t14 =>
  (pX9_ironOf U13 b t14).bind fun q15 =>
  if (jrem q15 4) = 0 then (some (1, U13))
  else (some (0, U13))))
set_option maxHeartbeats 4000000 in
set_option maxRecDepth 100000 in
theorem kX9_does {l : Launch} {D : Dx} {G : G2} {V : V2} {R : R2} {n : Nat} {b : Nat} {a1 : Int32} {a2 : Int32} (hG : GX G) (h_b : own G b 19) {o : Int32 × V2} (hf : pX9_does n V b a1 a2 = some o) : Con l yX9_does cX9_does 5 (some .int) (rmN 3 0 0) D G V R [.ref b, .int a1, .int a2] (some (.int o.1), o.2, R, G, 0, 0) := by
  refine Con.mk RX9 (by decide) rfl (Nat.le_of_ble_eq_true rfl) (fun C _ hR hT _ _ hL hC hnm => ?_)
  revert hf
  unfold pX9_does
  refine g_bipush hC dX9_does_0 bc_8 ?_
  refine g_iconst hC dX9_does_2 ic_5 ?_
  refine g_iload_n hC dX9_does_3 (j := 1) rfl rfl ?_
  refine g_imul hC dX9_does_4 ?_
  refine g_iadd hC dX9_does_5 ?_
  refine g_istore_nL hC (n0 := 5) (lv' := fun x1 => [(3, .int x1), (0, .ref b), (1, .int a1), (2, .int a2)]) dX9_does_6 rfl (Nat.le_of_ble_eq_true rfl) hL (fun _ => rfl) (fun x1 => ?_)
  refine g_iload_n hC dX9_does_7 (j := 3) rfl rfl ?_
  refine g_if_ne hC dX9_does_8 ?_ ?_
  · refine g_aload_n hC dX9_does_11 (j := 1) rfl rfl ?_
    refine g_iload_n hC dX9_does_12 (j := 2) rfl rfl ?_
    refine g_callV_i hC hR ⟨Nat.zero_le _, Nat.zero_le _⟩ mwX9_pays miX9_pays (ci := 9) rfl h_b (Nat.le_of_ble_eq_true rfl) mlX9_114 (fun _ hq => kX9_pays hG h_b hq) (Nat.le_of_ble_eq_true rfl) rfl (st := []) rfl (Nat.le_of_ble_eq_true rfl) dX9_does_13 (fun q2 => ?_)
    refine g_istore hC (n0 := 5) (lv' := [(4, .int q2), (3, .int x1), (0, .ref b), (1, .int a1), (2, .int a2)]) dX9_does_16 (Nat.le_of_ble_eq_true rfl) hL rfl ?_
    refine g_aload_n hC dX9_does_18 (j := 2) rfl rfl ?_
    refine g_getR hC fr_9_0 h_b (b := b + 1) rfl dX9_does_19 flX9_7 ?_
    refine g_iload_n hC dX9_does_22 (j := 1) rfl rfl ?_
    refine g_iconst hC dX9_does_23 ic_4 ?_
    refine g_iadd hC dX9_does_24 ?_
    refine g_iload hC dX9_does_25 (j := 0) rfl ?_
    refine g_letJ (J := fun j3 => Go C 35 [(0, .ref b), (3, .int x1), (4, .int q2)] [.int j3, .int (x1 + 4), .ref (b + 1)] V R G 0 0) (fun j3 hJ => ?_) (fun j3 => ?_)
    · refine g_if_le hC dX9_does_27 ?_ ?_
      · refine g_iconst hC dX9_does_34 ic_0 ?_
        refine g_sub [2, 1, 0] rfl ?_
        exact fun e => by cases e; exact hJ
      · refine g_iconst hC dX9_does_30 ic_1 ?_
        refine g_goto hC dX9_does_31 ?_
        refine g_sub [2, 1, 0] rfl ?_
        exact fun e => by cases e; exact hJ
    · refine g_iastV hC (gx_9_0 hG h_b) (gl_9_0 hG h_b) dX9_does_35 (fun U4 => ?_)
      refine g_aload_n hC dX9_does_36 (j := 0) rfl rfl ?_
      refine g_getR hC fr_9_0 h_b (b := b + 1) rfl dX9_does_37 flX9_7 ?_
      refine g_iload_n hC dX9_does_40 (j := 1) rfl rfl ?_
      refine g_iconst hC dX9_does_41 ic_1 ?_
      refine g_iadd hC dX9_does_42 ?_
      refine g_iload hC dX9_does_43 (j := 2) rfl ?_
      refine g_bind (J := fun j5 => Go C 60 [(4, .int q2)] [.int j5, .int (x1 + 1), .ref (b + 1)] U4 R G 0 0) (fun j5 hJ => ?_) (fun j5 => ?_)
      · refine g_if_le hC dX9_does_45 ?_ ?_
        · refine g_aload_n hC dX9_does_52 (j := 0) rfl rfl ?_
          refine g_getR hC fr_9_0 h_b (b := b + 1) rfl dX9_does_53 flX9_7 ?_
          refine g_iload_n hC dX9_does_56 (j := 1) rfl rfl ?_
          refine g_iconst hC dX9_does_57 ic_1 ?_
          refine g_iadd hC dX9_does_58 ?_
          refine g_ialdV hC (gx_9_0 hG h_b) (gl_9_0 hG h_b) dX9_does_59 (fun t6 => ?_)
          refine g_sub [2] rfl ?_
          exact fun e => by cases e; exact hJ
        · refine g_iconst hC dX9_does_48 ic_0 ?_
          refine g_goto hC dX9_does_49 ?_
          refine g_sub [2] rfl ?_
          exact fun e => by cases e; exact hJ
      · refine g_iastV hC (gx_9_0 hG h_b) (gl_9_0 hG h_b) dX9_does_60 (fun U7 => ?_)
        refine g_iload hC dX9_does_61 (j := 0) rfl ?_
        exact g_iret_iV hC hT dX9_does_63
  · refine g_iload_n hC dX9_does_64 (j := 3) rfl rfl ?_
    refine g_iconst hC dX9_does_65 ic_1 ?_
    refine g_icmp_ne hC dX9_does_66 ?_ ?_
    · refine g_iconst hC dX9_does_69 ic_0 ?_
      exact g_iret_iV hC hT dX9_does_70
    · refine g_aload_n hC dX9_does_71 (j := 1) rfl rfl ?_
      refine g_getR hC fr_9_0 h_b (b := b + 1) rfl dX9_does_72 flX9_7 ?_
      refine g_iload_n hC dX9_does_75 (j := 0) rfl rfl ?_
      refine g_iconst hC dX9_does_76 ic_2 ?_
      refine g_iadd hC dX9_does_77 ?_
      refine g_bipush hC dX9_does_78 bc_9 ?_
      refine g_aload_n hC dX9_does_80 (j := 1) rfl rfl ?_
      refine g_getR hC fr_9_0 h_b (b := b + 1) rfl dX9_does_81 flX9_7 ?_
      refine g_iload_n hC dX9_does_84 (j := 0) rfl rfl ?_
      refine g_iconst hC dX9_does_85 ic_2 ?_
      refine g_iadd hC dX9_does_86 ?_
      refine g_ialdV hC (gx_9_0 hG h_b) (gl_9_0 hG h_b) dX9_does_87 (fun t8 => ?_)
      refine g_iconst hC dX9_does_88 ic_1 ?_
      refine g_iadd hC dX9_does_89 ?_
      refine g_callS_i hC hR ⟨Nat.zero_le _, Nat.zero_le _⟩ mwX9_lesser ms_X9_lesser mlX9_240 (fun _ hq => kX9_lesser  hq) (Nat.le_of_ble_eq_true rfl) rfl (st := [.int (x1 + 2), .ref (b + 1)]) rfl (Nat.le_of_ble_eq_true rfl) dX9_does_90 (fun q9 => ?_)
      refine g_iastV hC (gx_9_0 hG h_b) (gl_9_0 hG h_b) dX9_does_93 (fun U10 => ?_)
      refine g_aload_n hC dX9_does_94 (j := 1) rfl rfl ?_
      refine g_getR hC fr_9_0 h_b (b := b + 1) rfl dX9_does_95 flX9_7 ?_
      refine g_iload_n hC dX9_does_98 (j := 0) rfl rfl ?_
      refine g_iconst hC dX9_does_99 ic_1 ?_
      refine g_iadd hC dX9_does_100 ?_
      refine g_iconst hC dX9_does_101 ic_0 ?_
      refine g_aload_n hC dX9_does_102 (j := 1) rfl rfl ?_
      refine g_getR hC fr_9_0 h_b (b := b + 1) rfl dX9_does_103 flX9_7 ?_
      refine g_iload_n hC dX9_does_106 (j := 0) rfl rfl ?_
      refine g_iconst hC dX9_does_107 ic_1 ?_
      refine g_iadd hC dX9_does_108 ?_
      refine g_ialdV hC (gx_9_0 hG h_b) (gl_9_0 hG h_b) dX9_does_109 (fun t11 => ?_)
      refine g_bipush hC dX9_does_110 bc_6 ?_
      refine g_isub hC dX9_does_112 ?_
      refine g_callS_i hC hR ⟨Nat.zero_le _, Nat.zero_le _⟩ mwX9_greatest ms_X9_greatest mlX9_75 (fun _ hq => kX9_greatest  hq) (Nat.le_of_ble_eq_true rfl) rfl (st := [.int (x1 + 1), .ref (b + 1)]) rfl (Nat.le_of_ble_eq_true rfl) dX9_does_113 (fun q12 => ?_)
      refine g_iastV hC (gx_9_0 hG h_b) (gl_9_0 hG h_b) dX9_does_116 (fun U13 => ?_)
      refine g_aload_n hC dX9_does_117 (j := 1) rfl rfl ?_
      refine g_aload_n hC dX9_does_118 (j := 1) rfl rfl ?_
      refine g_getR hC fr_9_0 h_b (b := b + 1) rfl dX9_does_119 flX9_7 ?_
      refine g_iconst hC dX9_does_122 ic_1 ?_
      refine g_ialdV hC (gx_9_0 hG h_b) (gl_9_0 hG h_b) dX9_does_123 (fun t14 => ?_)
      refine g_callV_i hC hR ⟨Nat.zero_le _, Nat.zero_le _⟩ mwX9_ironOf miX9_ironOf (ci := 9) rfl h_b (Nat.le_of_ble_eq_true rfl) mlX9_82 (fun _ hq => kX9_ironOf hG h_b hq) (Nat.le_of_ble_eq_true rfl) rfl (st := []) rfl (Nat.le_of_ble_eq_true rfl) dX9_does_124 (fun q15 => ?_)
      refine g_iconst hC dX9_does_127 ic_4 ?_
      refine g_iremC hC dX9_does_128 nzi_4 ?_
      refine g_if_ne hC dX9_does_129 ?_ ?_
      · refine g_iconst hC dX9_does_132 ic_1 ?_
        refine g_goto hC dX9_does_133 ?_
        exact g_iret_iV hC hT dX9_does_137
      · refine g_iconst hC dX9_does_136 ic_0 ?_
        exact g_iret_iV hC hT dX9_does_137
def lX9_isUndone_4 (V : V2) (b : Nat) : Nat → Int32 → Int32 → Option (Int32)
  | 0, _, _ => none
  | f1 + 1, x2, x3 =>
    (ldI 572 (V (b + 1)) 0).bind fun t4 =>
    if t4 ≤ x3 then (some x2)
    else ((pX9_its V b x3 4).bind fun q5 =>
    if q5 = (1 : Int32) then (letv (x3 + 1) fun x6 =>
    lX9_isUndone_4 V b f1 x3 x6)
    else (letv (x3 + 1) fun x7 =>
    lX9_isUndone_4 V b f1 x2 x7))
def pX9_isUndone (n : Nat) (V : V2) (b : Nat) : Option (V2) :=
  (lX9_isUndone_4 V b n (-1) 0).bind fun w8 =>
  if w8 < 0 then (some V)
  else ((stI 572 V (b + 1) ((8 + (5 * w8)) + 4) 0).bind fun U9 =>
  (stI 572 U9 (b + 1) ((8 + (5 * w8)) + 1) 25).bind fun U10 =>
  some U10)
set_option maxHeartbeats 4000000 in
set_option maxRecDepth 100000 in
theorem wX9_isUndone_4 {C : Cx} (hC : CxOK C cX9_isUndone RX9 none) (hL : C.2.2.2.2 = 3) {G : G2} {V : V2} {R : R2} {b : Nat} (hG : GX G) (h_b : own G b 19) (hR : C.1.2.2.2.1 = rmN 1 0 0) {o : Int32} (hX : Go C 36 [(0, .ref b), (1, .int o)] [] V R G 0 0) : ∀ (f : Nat) (x2 : Int32) (x3 : Int32), lX9_isUndone_4 V b f x2 x3 = some o → Go C 4 [(0, .ref b), (1, .int x2), (2, .int x3)] [] V R G 0 0 := by
  intro f
  induction f with
  | zero => intro _ _ hf; exact absurd hf (by unfold lX9_isUndone_4; exact fun z => nomatch z)
  | succ f1 ih =>
    intro x2 x3
    unfold lX9_isUndone_4
    refine g_iload_n hC dX9_isUndone_4 (j := 2) rfl rfl ?_
    refine g_aload_n hC dX9_isUndone_5 (j := 0) rfl rfl ?_
    refine g_getR hC fr_9_0 h_b (b := b + 1) rfl dX9_isUndone_6 flX9_7 ?_
    refine g_iconst hC dX9_isUndone_9 ic_0 ?_
    refine g_ialdV hC (gx_9_0 hG h_b) (gl_9_0 hG h_b) dX9_isUndone_10 (fun t4 => ?_)
    refine g_icmp_ge hC dX9_isUndone_11 ?_ ?_
    · refine g_sub [0, 1] rfl ?_
      exact fun e => by cases e; exact hX
    · refine g_aload_n hC dX9_isUndone_14 (j := 0) rfl rfl ?_
      refine g_iload_n hC dX9_isUndone_15 (j := 2) rfl rfl ?_
      refine g_iconst hC dX9_isUndone_16 ic_4 ?_
      refine g_callV_i hC hR ⟨Nat.zero_le _, Nat.zero_le _⟩ mwX9_its miX9_its (ci := 9) rfl h_b (Nat.le_of_ble_eq_true rfl) mlX9_79 (fun _ hq => kX9_its hG h_b hq) (Nat.le_of_ble_eq_true rfl) rfl (st := []) rfl (Nat.le_of_ble_eq_true rfl) dX9_isUndone_17 (fun q5 => ?_)
      refine g_iconst hC dX9_isUndone_20 ic_1 ?_
      refine g_icmp_ne hC dX9_isUndone_21 ?_ ?_
      · refine g_iload_n hC dX9_isUndone_24 (j := 2) rfl rfl ?_
        refine g_goto hC dX9_isUndone_25 ?_
        refine g_istore_n hC (n0 := 3) (lv' := [(1, .int x3), (0, .ref b), (2, .int x3)]) dX9_isUndone_29 rfl (Nat.le_of_ble_eq_true rfl) hL rfl ?_
        refine g_iincL hC (n0 := 3) (j := 2) (lv' := fun x6 => [(2, .int x6), (1, .int x3), (0, .ref b)]) dX9_isUndone_30 rfl ic_1 (Nat.le_of_ble_eq_true rfl) hL (fun _ => rfl) (fun x6 => ?_)
        refine g_goto hC dX9_isUndone_33 ?_
        refine g_sub [2, 1, 0] rfl ?_
        exact ih x3 x6
      · refine g_iload_n hC dX9_isUndone_28 (j := 1) rfl rfl ?_
        refine g_istore_n hC (n0 := 3) (lv' := [(1, .int x2), (0, .ref b), (2, .int x3)]) dX9_isUndone_29 rfl (Nat.le_of_ble_eq_true rfl) hL rfl ?_
        refine g_iincL hC (n0 := 3) (j := 2) (lv' := fun x7 => [(2, .int x7), (1, .int x2), (0, .ref b)]) dX9_isUndone_30 rfl ic_1 (Nat.le_of_ble_eq_true rfl) hL (fun _ => rfl) (fun x7 => ?_)
        refine g_goto hC dX9_isUndone_33 ?_
        refine g_sub [2, 1, 0] rfl ?_
        exact ih x2 x7
set_option maxHeartbeats 4000000 in
set_option maxRecDepth 100000 in
theorem kX9_isUndone {l : Launch} {D : Dx} {G : G2} {V : V2} {R : R2} {n : Nat} {b : Nat} (hG : GX G) (h_b : own G b 19) {o : V2} (hf : pX9_isUndone n V b = some o) : Con l yX9_isUndone cX9_isUndone 3 none (rmN 1 0 0) D G V R [.ref b] (none, o, R, G, 0, 0) := by
  refine Con.mk RX9 (by decide) rfl (Nat.le_of_ble_eq_true rfl) (fun C _ hR hT _ _ hL hC hnm => ?_)
  revert hf
  unfold pX9_isUndone
  refine g_iconst hC dX9_isUndone_0 ic_m1 ?_
  refine g_istore_n hC (n0 := 3) (lv' := [(1, .int (-1)), (0, .ref b)]) dX9_isUndone_1 rfl (Nat.le_of_ble_eq_true rfl) hL rfl ?_
  refine g_iconst hC dX9_isUndone_2 ic_0 ?_
  refine g_istore_n hC (n0 := 3) (lv' := [(2, .int 0), (1, .int (-1)), (0, .ref b)]) dX9_isUndone_3 rfl (Nat.le_of_ble_eq_true rfl) hL rfl ?_
  refine g_sub [2, 1, 0] rfl ?_
  refine g_bind (J := fun w8 => Go C 36 [(0, .ref b), (1, .int w8)] [] V R G 0 0) (fun w8 hJ => wX9_isUndone_4 hC hL hG h_b hR hJ n (-1) 0) (fun w8 => ?_)
  refine g_iload_n hC dX9_isUndone_36 (j := 1) rfl rfl ?_
  refine g_if_lt hC dX9_isUndone_37 ?_ ?_
  · exact g_vret_vV hC hT dX9_isUndone_69
  · refine g_aload_n hC dX9_isUndone_40 (j := 0) rfl rfl ?_
    refine g_getR hC fr_9_0 h_b (b := b + 1) rfl dX9_isUndone_41 flX9_7 ?_
    refine g_bipush hC dX9_isUndone_44 bc_8 ?_
    refine g_iconst hC dX9_isUndone_46 ic_5 ?_
    refine g_iload_n hC dX9_isUndone_47 (j := 1) rfl rfl ?_
    refine g_imul hC dX9_isUndone_48 ?_
    refine g_iadd hC dX9_isUndone_49 ?_
    refine g_iconst hC dX9_isUndone_50 ic_4 ?_
    refine g_iadd hC dX9_isUndone_51 ?_
    refine g_iconst hC dX9_isUndone_52 ic_0 ?_
    refine g_iastV hC (gx_9_0 hG h_b) (gl_9_0 hG h_b) dX9_isUndone_53 (fun U9 => ?_)
    refine g_aload_n hC dX9_isUndone_54 (j := 0) rfl rfl ?_
    refine g_getR hC fr_9_0 h_b (b := b + 1) rfl dX9_isUndone_55 flX9_7 ?_
    refine g_bipush hC dX9_isUndone_58 bc_8 ?_
    refine g_iconst hC dX9_isUndone_60 ic_5 ?_
    refine g_iload_n hC dX9_isUndone_61 (j := 1) rfl rfl ?_
    refine g_imul hC dX9_isUndone_62 ?_
    refine g_iadd hC dX9_isUndone_63 ?_
    refine g_iconst hC dX9_isUndone_64 ic_1 ?_
    refine g_iadd hC dX9_isUndone_65 ?_
    refine g_bipush hC dX9_isUndone_66 bc_25 ?_
    refine g_iastV hC (gx_9_0 hG h_b) (gl_9_0 hG h_b) dX9_isUndone_68 (fun U10 => ?_)
    exact g_vret_vV hC hT dX9_isUndone_69
def lX9_goesWith_65 (b : Nat) : Nat → V2 → Int32 → Option (V2)
  | 0, _, _ => none
  | f13 + 1, U14, x15 =>
    (ldI 572 (U14 (b + 1)) 0).bind fun t16 =>
    if t16 ≤ x15 then (some U14)
    else ((pX9_its U14 b x15 4).bind fun q17 =>
    ((if q17 = (1 : Int32) then (some 0)
    else ((pX9_its U14 b x15 1).bind fun q19 =>
    (pX9_swollen U14 b x15).bind fun q20 =>
    (pX9_lesser 99 (q19 + q20)).bind fun q21 =>
    some q21) : Option (Int32))).bind fun j18 =>
    (stI 572 U14 (b + 1) ((8 + (5 * x15)) + 1) j18).bind fun U22 =>
    letv (x15 + 1) fun x23 =>
    lX9_goesWith_65 b f13 U22 x23)
def pX9_goesWith (n : Nat) (V : V2) (b : Nat) (a1 : Int32) : Option (Int32 × V2) :=
  letv (a1 - 1) fun x1 =>
  ((if x1 < 0 then (some (0, V))
  else ((pX9_its V b x1 4).bind fun q3 =>
  if q3 = 0 then ((pX9_will n V b x1).bind fun q4 =>
  (pX9_does n V b x1 q4).bind fun q5 =>
  some (q5.1, q5.2))
  else (some (0, V))) : Option (Int32 × V2))).bind fun j2 =>
  (ldI 572 (j2.2 (b + 1)) 1).bind fun t6 =>
  (pX9_ironOf j2.2 b t6).bind fun q7 =>
  ((if (jrem q7 4) = (3 : Int32) then ((pX9_isUndone n j2.2 b).bind fun q9 =>
  some q9)
  else (some j2.2) : Option (V2))).bind fun j8 =>
  (pX9_flatOnes n j8 b).bind fun q10 =>
  (pX9_size n q10).bind fun q11 =>
  letv (j2.1 + q11) fun x12 =>
  (lX9_goesWith_65 b n j8 0).bind fun w24 =>
  (ldI 572 (w24 (b + 1)) 1).bind fun t25 =>
  (stI 572 w24 (b + 1) 1 (t25 + 1)).bind fun U26 =>
  (ldI 572 (U26 (b + 1)) 3).bind fun t27 =>
  (stI 572 U26 (b + 1) 3 (t27 + x12)).bind fun U28 =>
  some (x12, U28)
set_option maxHeartbeats 4000000 in
set_option maxRecDepth 100000 in
theorem wX9_goesWith_65 {C : Cx} (hC : CxOK C cX9_goesWith RX9 (some .int)) (hL : C.2.2.2.2 = 5) {G : G2} {R : R2} {b : Nat} {x12 : Int32} (hG : GX G) (h_b : own G b 19) (hR : C.1.2.2.2.1 = rmN 4 0 0) {o : V2} (hX : Go C 130 [(0, .ref b), (3, .int x12)] [] o R G 0 0) : ∀ (f : Nat) (U14 : V2) (x15 : Int32), lX9_goesWith_65 b f U14 x15 = some o → Go C 65 [(0, .ref b), (3, .int x12), (4, .int x15)] [] U14 R G 0 0 := by
  intro f
  induction f with
  | zero => intro _ _ hf; exact absurd hf (by unfold lX9_goesWith_65; exact fun z => nomatch z)
  | succ f13 ih =>
    intro U14 x15
    unfold lX9_goesWith_65
    refine g_iload hC dX9_goesWith_65 (j := 2) rfl ?_
    refine g_aload_n hC dX9_goesWith_67 (j := 0) rfl rfl ?_
    refine g_getR hC fr_9_0 h_b (b := b + 1) rfl dX9_goesWith_68 flX9_7 ?_
    refine g_iconst hC dX9_goesWith_71 ic_0 ?_
    refine g_ialdV hC (gx_9_0 hG h_b) (gl_9_0 hG h_b) dX9_goesWith_72 (fun t16 => ?_)
    refine g_icmp_ge hC dX9_goesWith_73 ?_ ?_
    · refine g_sub [0, 1] rfl ?_
      exact fun e => by cases e; exact hX
    · refine g_aload_n hC dX9_goesWith_76 (j := 0) rfl rfl ?_
      refine g_getR hC fr_9_0 h_b (b := b + 1) rfl dX9_goesWith_77 flX9_7 ?_
      refine g_bipush hC dX9_goesWith_80 bc_8 ?_
      refine g_iconst hC dX9_goesWith_82 ic_5 ?_
      refine g_iload hC dX9_goesWith_83 (j := 2) rfl ?_
      refine g_imul hC dX9_goesWith_85 ?_
      refine g_iadd hC dX9_goesWith_86 ?_
      refine g_iconst hC dX9_goesWith_87 ic_1 ?_
      refine g_iadd hC dX9_goesWith_88 ?_
      refine g_aload_n hC dX9_goesWith_89 (j := 0) rfl rfl ?_
      refine g_iload hC dX9_goesWith_90 (j := 2) rfl ?_
      refine g_iconst hC dX9_goesWith_92 ic_4 ?_
      refine g_callV_i hC hR ⟨Nat.zero_le _, Nat.zero_le _⟩ mwX9_its miX9_its (ci := 9) rfl h_b (Nat.le_of_ble_eq_true rfl) mlX9_79 (fun _ hq => kX9_its hG h_b hq) (Nat.le_of_ble_eq_true rfl) rfl (st := [.int ((8 + (5 * x15)) + 1), .ref (b + 1)]) rfl (Nat.le_of_ble_eq_true rfl) dX9_goesWith_93 (fun q17 => ?_)
      refine g_iconst hC dX9_goesWith_96 ic_1 ?_
      refine g_bind (J := fun j18 => Go C 123 [(0, .ref b), (3, .int x12), (4, .int x15)] [.int j18, .int ((8 + (5 * x15)) + 1), .ref (b + 1)] U14 R G 0 0) (fun j18 hJ => ?_) (fun j18 => ?_)
      · refine g_icmp_ne hC dX9_goesWith_97 ?_ ?_
        · refine g_iconst hC dX9_goesWith_100 ic_0 ?_
          refine g_goto hC dX9_goesWith_101 ?_
          exact fun e => by cases e; exact hJ
        · refine g_bipush hC dX9_goesWith_104 bc_99 ?_
          refine g_aload_n hC dX9_goesWith_106 (j := 0) rfl rfl ?_
          refine g_iload hC dX9_goesWith_107 (j := 2) rfl ?_
          refine g_iconst hC dX9_goesWith_109 ic_1 ?_
          refine g_callV_i hC hR ⟨Nat.zero_le _, Nat.zero_le _⟩ mwX9_its miX9_its (ci := 9) rfl h_b (Nat.le_of_ble_eq_true rfl) mlX9_79 (fun _ hq => kX9_its hG h_b hq) (Nat.le_of_ble_eq_true rfl) rfl (st := [.int 99, .int ((8 + (5 * x15)) + 1), .ref (b + 1)]) rfl (Nat.le_of_ble_eq_true rfl) dX9_goesWith_110 (fun q19 => ?_)
          refine g_aload_n hC dX9_goesWith_113 (j := 0) rfl rfl ?_
          refine g_iload hC dX9_goesWith_114 (j := 2) rfl ?_
          refine g_callV_i hC hR ⟨Nat.zero_le _, Nat.zero_le _⟩ mwX9_swollen miX9_swollen (ci := 9) rfl h_b (Nat.le_of_ble_eq_true rfl) mlX9_123 (fun _ hq => kX9_swollen hG h_b hq) (Nat.le_of_ble_eq_true rfl) rfl (st := [.int q19, .int 99, .int ((8 + (5 * x15)) + 1), .ref (b + 1)]) rfl (Nat.le_of_ble_eq_true rfl) dX9_goesWith_116 (fun q20 => ?_)
          refine g_iadd hC dX9_goesWith_119 ?_
          refine g_callS_i hC hR ⟨Nat.zero_le _, Nat.zero_le _⟩ mwX9_lesser ms_X9_lesser mlX9_240 (fun _ hq => kX9_lesser  hq) (Nat.le_of_ble_eq_true rfl) rfl (st := [.int ((8 + (5 * x15)) + 1), .ref (b + 1)]) rfl (Nat.le_of_ble_eq_true rfl) dX9_goesWith_120 (fun q21 => ?_)
          exact fun e => by cases e; exact hJ
      · refine g_iastV hC (gx_9_0 hG h_b) (gl_9_0 hG h_b) dX9_goesWith_123 (fun U22 => ?_)
        refine g_iincL hC (n0 := 5) (j := 2) (lv' := fun x23 => [(4, .int x23), (0, .ref b), (3, .int x12)]) dX9_goesWith_124 rfl ic_1 (Nat.le_of_ble_eq_true rfl) hL (fun _ => rfl) (fun x23 => ?_)
        refine g_goto hC dX9_goesWith_127 ?_
        refine g_sub [1, 2, 0] rfl ?_
        exact ih U22 x23
set_option maxHeartbeats 4000000 in
set_option maxRecDepth 100000 in
theorem kX9_goesWith {l : Launch} {D : Dx} {G : G2} {V : V2} {R : R2} {n : Nat} {b : Nat} {a1 : Int32} (hG : GX G) (h_b : own G b 19) {o : Int32 × V2} (hf : pX9_goesWith n V b a1 = some o) : Con l yX9_goesWith cX9_goesWith 5 (some .int) (rmN 4 0 0) D G V R [.ref b, .int a1] (some (.int o.1), o.2, R, G, 0, 0) := by
  refine Con.mk RX9 (by decide) rfl (Nat.le_of_ble_eq_true rfl) (fun C _ hR hT _ _ hL hC hnm => ?_)
  revert hf
  unfold pX9_goesWith
  refine g_iload_n hC dX9_goesWith_0 (j := 1) rfl rfl ?_
  refine g_iconst hC dX9_goesWith_1 ic_1 ?_
  refine g_isub hC dX9_goesWith_2 ?_
  refine g_istore_nL hC (n0 := 5) (lv' := fun x1 => [(2, .int x1), (0, .ref b), (1, .int a1)]) dX9_goesWith_3 rfl (Nat.le_of_ble_eq_true rfl) hL (fun _ => rfl) (fun x1 => ?_)
  refine g_iload_n hC dX9_goesWith_4 (j := 0) rfl rfl ?_
  refine g_bind (J := fun j2 => Go C 31 [(0, .ref b)] [.int j2.1] j2.2 R G 0 0) (fun j2 hJ => ?_) (fun j2 => ?_)
  · refine g_if_lt hC dX9_goesWith_5 ?_ ?_
    · refine g_iconst hC dX9_goesWith_30 ic_0 ?_
      refine g_sub [1] rfl ?_
      exact fun e => by cases e; exact hJ
    · refine g_aload_n hC dX9_goesWith_8 (j := 1) rfl rfl ?_
      refine g_iload_n hC dX9_goesWith_9 (j := 0) rfl rfl ?_
      refine g_iconst hC dX9_goesWith_10 ic_4 ?_
      refine g_callV_i hC hR ⟨Nat.zero_le _, Nat.zero_le _⟩ mwX9_its miX9_its (ci := 9) rfl h_b (Nat.le_of_ble_eq_true rfl) mlX9_79 (fun _ hq => kX9_its hG h_b hq) (Nat.le_of_ble_eq_true rfl) rfl (st := []) rfl (Nat.le_of_ble_eq_true rfl) dX9_goesWith_11 (fun q3 => ?_)
      refine g_if_ne hC dX9_goesWith_14 ?_ ?_
      · refine g_aload_n hC dX9_goesWith_17 (j := 1) rfl rfl ?_
        refine g_iload_n hC dX9_goesWith_18 (j := 0) rfl rfl ?_
        refine g_aload_n hC dX9_goesWith_19 (j := 1) rfl rfl ?_
        refine g_iload_n hC dX9_goesWith_20 (j := 0) rfl rfl ?_
        refine g_callV_i hC hR ⟨Nat.zero_le _, Nat.zero_le _⟩ mwX9_will miX9_will (ci := 9) rfl h_b (Nat.le_of_ble_eq_true rfl) mlX9_117 (fun _ hq => kX9_will hG h_b hq) (Nat.le_of_ble_eq_true rfl) rfl (st := [.int x1, .ref b]) rfl (Nat.le_of_ble_eq_true rfl) dX9_goesWith_21 (fun q4 => ?_)
        refine g_callV_iV hC hR ⟨Nat.zero_le _, Nat.zero_le _⟩ mwX9_does miX9_does (ci := 9) rfl h_b (Nat.le_of_ble_eq_true rfl) mlX9_243 (fun _ hq => kX9_does hG h_b hq) (Nat.le_of_ble_eq_true rfl) rfl (st := []) rfl (Nat.le_of_ble_eq_true rfl) dX9_goesWith_24 (fun q5 => ?_)
        refine g_goto hC dX9_goesWith_27 ?_
        refine g_sub [1] rfl ?_
        exact fun e => by cases e; exact hJ
      · refine g_iconst hC dX9_goesWith_30 ic_0 ?_
        refine g_sub [1] rfl ?_
        exact fun e => by cases e; exact hJ
  · refine g_istore_n hC (n0 := 5) (lv' := [(3, .int j2.1), (0, .ref b)]) dX9_goesWith_31 rfl (Nat.le_of_ble_eq_true rfl) hL rfl ?_
    refine g_aload_n hC dX9_goesWith_32 (j := 1) rfl rfl ?_
    refine g_aload_n hC dX9_goesWith_33 (j := 1) rfl rfl ?_
    refine g_getR hC fr_9_0 h_b (b := b + 1) rfl dX9_goesWith_34 flX9_7 ?_
    refine g_iconst hC dX9_goesWith_37 ic_1 ?_
    refine g_ialdV hC (gx_9_0 hG h_b) (gl_9_0 hG h_b) dX9_goesWith_38 (fun t6 => ?_)
    refine g_callV_i hC hR ⟨Nat.zero_le _, Nat.zero_le _⟩ mwX9_ironOf miX9_ironOf (ci := 9) rfl h_b (Nat.le_of_ble_eq_true rfl) mlX9_82 (fun _ hq => kX9_ironOf hG h_b hq) (Nat.le_of_ble_eq_true rfl) rfl (st := []) rfl (Nat.le_of_ble_eq_true rfl) dX9_goesWith_39 (fun q7 => ?_)
    refine g_iconst hC dX9_goesWith_42 ic_4 ?_
    refine g_iremC hC dX9_goesWith_43 nzi_4 ?_
    refine g_iconst hC dX9_goesWith_44 ic_3 ?_
    refine g_bind (J := fun j8 => Go C 52 [(0, .ref b), (3, .int j2.1)] [] j8 R G 0 0) (fun j8 hJ => ?_) (fun j8 => ?_)
    · refine g_icmp_ne hC dX9_goesWith_45 ?_ ?_
      · refine g_aload_n hC dX9_goesWith_48 (j := 1) rfl rfl ?_
        refine g_callV_vV hC hR ⟨Nat.zero_le _, Nat.zero_le _⟩ mwX9_isUndone miX9_isUndone (ci := 9) rfl h_b (Nat.le_of_ble_eq_true rfl) mlX9_246 (fun _ hq => kX9_isUndone hG h_b hq) (Nat.le_of_ble_eq_true rfl) rfl (st := []) rfl (Nat.le_of_ble_eq_true rfl) dX9_goesWith_49 (fun q9 => ?_)
        refine g_sub [1, 0] rfl ?_
        exact fun e => by cases e; exact hJ
      · refine g_sub [1, 0] rfl ?_
        exact fun e => by cases e; exact hJ
    · refine g_iload_n hC dX9_goesWith_52 (j := 1) rfl rfl ?_
      refine g_aload_n hC dX9_goesWith_53 (j := 0) rfl rfl ?_
      refine g_callV_i hC hR ⟨Nat.zero_le _, Nat.zero_le _⟩ mwX9_flatOnes miX9_flatOnes (ci := 9) rfl h_b (Nat.le_of_ble_eq_true rfl) mlX9_145 (fun _ hq => kX9_flatOnes hG h_b hq) (Nat.le_of_ble_eq_true rfl) rfl (st := [.int j2.1]) rfl (Nat.le_of_ble_eq_true rfl) dX9_goesWith_54 (fun q10 => ?_)
      refine g_callS_i hC hR ⟨Nat.zero_le _, Nat.zero_le _⟩ mwX9_size ms_X9_size mlX9_249 (fun _ hq => kX9_size  hq) (Nat.le_of_ble_eq_true rfl) rfl (st := [.int j2.1]) rfl (Nat.le_of_ble_eq_true rfl) dX9_goesWith_57 (fun q11 => ?_)
      refine g_iadd hC dX9_goesWith_60 ?_
      refine g_istore_nL hC (n0 := 5) (lv' := fun x12 => [(3, .int x12), (0, .ref b)]) dX9_goesWith_61 rfl (Nat.le_of_ble_eq_true rfl) hL (fun _ => rfl) (fun x12 => ?_)
      refine g_iconst hC dX9_goesWith_62 ic_0 ?_
      refine g_istore hC (n0 := 5) (lv' := [(4, .int 0), (3, .int x12), (0, .ref b)]) dX9_goesWith_63 (Nat.le_of_ble_eq_true rfl) hL rfl ?_
      refine g_sub [2, 1, 0] rfl ?_
      refine g_bind (J := fun w24 => Go C 130 [(0, .ref b), (3, .int x12)] [] w24 R G 0 0) (fun w24 hJ => wX9_goesWith_65 hC hL hG h_b hR hJ n j8 0) (fun w24 => ?_)
      refine g_aload_n hC dX9_goesWith_130 (j := 0) rfl rfl ?_
      refine g_getR hC fr_9_0 h_b (b := b + 1) rfl dX9_goesWith_131 flX9_7 ?_
      refine g_iconst hC dX9_goesWith_134 ic_1 ?_
      refine g_dup2 hC dX9_goesWith_135 rfl rfl ?_
      refine g_ialdV hC (gx_9_0 hG h_b) (gl_9_0 hG h_b) dX9_goesWith_136 (fun t25 => ?_)
      refine g_iconst hC dX9_goesWith_137 ic_1 ?_
      refine g_iadd hC dX9_goesWith_138 ?_
      refine g_iastV hC (gx_9_0 hG h_b) (gl_9_0 hG h_b) dX9_goesWith_139 (fun U26 => ?_)
      refine g_aload_n hC dX9_goesWith_140 (j := 0) rfl rfl ?_
      refine g_getR hC fr_9_0 h_b (b := b + 1) rfl dX9_goesWith_141 flX9_7 ?_
      refine g_iconst hC dX9_goesWith_144 ic_3 ?_
      refine g_dup2 hC dX9_goesWith_145 rfl rfl ?_
      refine g_ialdV hC (gx_9_0 hG h_b) (gl_9_0 hG h_b) dX9_goesWith_146 (fun t27 => ?_)
      refine g_iload_n hC dX9_goesWith_147 (j := 1) rfl rfl ?_
      refine g_iadd hC dX9_goesWith_148 ?_
      refine g_iastV hC (gx_9_0 hG h_b) (gl_9_0 hG h_b) dX9_goesWith_149 (fun U28 => ?_)
      refine g_iload_n hC dX9_goesWith_150 (j := 1) rfl rfl ?_
      exact g_iret_iV hC hT dX9_goesWith_151
