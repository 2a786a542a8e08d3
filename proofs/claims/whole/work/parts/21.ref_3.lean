def lX9_restAct_2 (n : Nat) (V : V2) (b : Nat) : Nat → Int32 → (Unit → Option (Int32)) → Option (Int32)
  | 0, _, _ => none
  | f1 + 1, x2, K =>
    (ldI 572 (V (b + 1)) 0).bind fun t3 =>
    if t3 ≤ x2 then (K ())
    else ((pX9_mayBe n V b x2).bind fun q4 =>
    if q4 = 0 then (letv (x2 + 1) fun x5 =>
    lX9_restAct_2 n V b f1 x5 K)
    else (some (x2 + 1)))
def pX9_restAct (n : Nat) (V : V2) (b : Nat) : Option (Int32) :=
  lX9_restAct_2 n V b n 0 (fun _ =>
  some 0)
set_option maxHeartbeats 4000000 in
set_option maxRecDepth 100000 in
theorem wX9_restAct_2 {C : Cx} (hC : CxOK C cX9_restAct RX9 (some .int)) (hL : C.2.2.2.2 = 2) {n : Nat} {G : G2} {V : V2} {R : R2} {b : Nat} (hG : GX G) (h_b : own G b 19) (hR : C.1.2.2.2.1 = rmN 5 0 0) {o : Int32} (hT : C.2.1 = (some (.int o), V, R, G, 0, 0)) {K : Unit → Option (Int32)} (hX : ∀ (_ : Unit), K () = some o → Go C 30 [] [] V R G 0 0) : ∀ (f : Nat) (x2 : Int32), lX9_restAct_2 n V b f x2 K = some o → Go C 2 [(0, .ref b), (1, .int x2)] [] V R G 0 0 := by
  intro f
  induction f with
  | zero => intro _ hf; exact absurd hf (by unfold lX9_restAct_2; exact fun z => nomatch z)
  | succ f1 ih =>
    intro x2
    unfold lX9_restAct_2
    refine g_iload_n hC dX9_restAct_2 (j := 1) rfl rfl ?_
    refine g_aload_n hC dX9_restAct_3 (j := 0) rfl rfl ?_
    refine g_getR hC fr_9_0 h_b (b := b + 1) rfl dX9_restAct_4 flX9_7 ?_
    refine g_iconst hC dX9_restAct_7 ic_0 ?_
    refine g_ialdV hC (gx_9_0 hG h_b) (gl_9_0 hG h_b) dX9_restAct_8 (fun t3 => ?_)
    refine g_icmp_ge hC dX9_restAct_9 ?_ ?_
    · refine g_sub [] rfl ?_
      exact hX ()
    · refine g_aload_n hC dX9_restAct_12 (j := 0) rfl rfl ?_
      refine g_iload_n hC dX9_restAct_13 (j := 1) rfl rfl ?_
      refine g_callV_i hC hR ⟨Nat.zero_le _, Nat.zero_le _⟩ mwX9_mayBe miX9_mayBe (ci := 9) rfl h_b (Nat.le_of_ble_eq_true rfl) mlX9_126 (fun _ hq => kX9_mayBe hG h_b hq) (Nat.le_of_ble_eq_true rfl) rfl (st := []) rfl (Nat.le_of_ble_eq_true rfl) dX9_restAct_14 (fun q4 => ?_)
      refine g_if_eq hC dX9_restAct_17 ?_ ?_
      · refine g_iincL hC (n0 := 2) (j := 1) (lv' := fun x5 => [(1, .int x5), (0, .ref b)]) dX9_restAct_24 rfl ic_1 (Nat.le_of_ble_eq_true rfl) hL (fun _ => rfl) (fun x5 => ?_)
        refine g_goto hC dX9_restAct_27 ?_
        refine g_sub [1, 0] rfl ?_
        exact ih x5
      · refine g_iload_n hC dX9_restAct_20 (j := 1) rfl rfl ?_
        refine g_iconst hC dX9_restAct_21 ic_1 ?_
        refine g_iadd hC dX9_restAct_22 ?_
        exact g_iret_i hC hT dX9_restAct_23
set_option maxHeartbeats 4000000 in
set_option maxRecDepth 100000 in
theorem kX9_restAct {l : Launch} {D : Dx} {G : G2} {V : V2} {R : R2} {n : Nat} {b : Nat} (hG : GX G) (h_b : own G b 19) {o : Int32} (hf : pX9_restAct n V b = some o) : Con l yX9_restAct cX9_restAct 2 (some .int) (rmN 5 0 0) D G V R [.ref b] (some (.int o), V, R, G, 0, 0) := by
  refine Con.mk RX9 (by decide) rfl (Nat.le_of_ble_eq_true rfl) (fun C _ hR hT _ _ hL hC hnm => ?_)
  revert hf
  unfold pX9_restAct
  refine g_iconst hC dX9_restAct_0 ic_0 ?_
  refine g_istore_n hC (n0 := 2) (lv' := [(1, .int 0), (0, .ref b)]) dX9_restAct_1 rfl (Nat.le_of_ble_eq_true rfl) hL rfl ?_
  refine g_sub [1, 0] rfl ?_
  refine wX9_restAct_2 hC hL hG h_b hR hT (fun _ => ?_) n 0
  refine g_iconst hC dX9_restAct_30 ic_0 ?_
  exact g_iret_i hC hT dX9_restAct_31
def pX9_wash (n : Nat) (V : V2) (b : Nat) : Option (Int32 × V2) :=
  (pX9_isOver V b).bind fun q1 =>
  if q1 = 0 then ((pX9_restAct n V b).bind fun q2 =>
  (pX9_goesWith n V b q2).bind fun q3 =>
  some (q3.1, q3.2))
  else (some ((-4), V))
set_option maxHeartbeats 4000000 in
set_option maxRecDepth 100000 in
theorem kX9_wash {l : Launch} {D : Dx} {G : G2} {V : V2} {R : R2} {n : Nat} {b : Nat} (hG : GX G) (h_b : own G b 19) {o : Int32 × V2} (hf : pX9_wash n V b = some o) : Con l yX9_wash cX9_wash 1 (some .int) (rmN 6 0 0) D G V R [.ref b] (some (.int o.1), o.2, R, G, 0, 0) := by
  refine Con.mk RX9 (by decide) rfl (Nat.le_of_ble_eq_true rfl) (fun C _ hR hT _ _ hL hC hnm => ?_)
  revert hf
  unfold pX9_wash
  refine g_aload_n hC dX9_wash_0 (j := 0) rfl rfl ?_
  refine g_callV_i hC hR ⟨Nat.zero_le _, Nat.zero_le _⟩ mwX9_isOver miX9_isOver (ci := 9) rfl h_b (Nat.le_of_ble_eq_true rfl) mlX9_141 (fun _ hq => kX9_isOver hG h_b hq) (Nat.le_of_ble_eq_true rfl) rfl (st := []) rfl (Nat.le_of_ble_eq_true rfl) dX9_wash_1 (fun q1 => ?_)
  refine g_if_eq hC dX9_wash_4 ?_ ?_
  · refine g_aload_n hC dX9_wash_12 (j := 0) rfl rfl ?_
    refine g_aload_n hC dX9_wash_13 (j := 0) rfl rfl ?_
    refine g_callV_i hC hR ⟨Nat.zero_le _, Nat.zero_le _⟩ mwX9_restAct miX9_restAct (ci := 9) rfl h_b (Nat.le_of_ble_eq_true rfl) mlX9_252 (fun _ hq => kX9_restAct hG h_b hq) (Nat.le_of_ble_eq_true rfl) rfl (st := [.ref b]) rfl (Nat.le_of_ble_eq_true rfl) dX9_wash_14 (fun q2 => ?_)
    refine g_callV_iV hC hR ⟨Nat.zero_le _, Nat.zero_le _⟩ mwX9_goesWith miX9_goesWith (ci := 9) rfl h_b (Nat.le_of_ble_eq_true rfl) mlX9_255 (fun _ hq => kX9_goesWith hG h_b hq) (Nat.le_of_ble_eq_true rfl) rfl (st := []) rfl (Nat.le_of_ble_eq_true rfl) dX9_wash_17 (fun q3 => ?_)
    exact g_iret_iV hC hT dX9_wash_20
  · refine g_bipush hC dX9_wash_7 bc_m4 ?_
    refine g_goto hC dX9_wash_9 ?_
    exact g_iret_iV hC hT dX9_wash_20
def lX9_onBy_9 (n : Nat) (b : Nat) (a1 : Int32) : Nat → V2 → Int32 → Int32 → Option (V2 × Int32)
  | 0, _, _, _ => none
  | f2 + 1, U3, x4, x5 =>
    if a1 ≤ x5 then (some (U3, x4))
    else ((pX9_isOver U3 b).bind fun q6 =>
    if q6 = 0 then ((pX9_restAct n U3 b).bind fun q7 =>
    (pX9_goesWith n U3 b q7).bind fun q8 =>
    letv (x4 + q8.1) fun x9 =>
    letv (x5 + 1) fun x10 =>
    lX9_onBy_9 n b a1 f2 q8.2 x9 x10)
    else (some (U3, x4)))
def pX9_onBy (n : Nat) (V : V2) (b : Nat) (a1 : Int32) : Option (Int32 × V2) :=
  (pX9_laysAside n V b 0).bind fun q1 =>
  (lX9_onBy_9 n b a1 n q1 0 0).bind fun w11 =>
  (pX9_laysBack n w11.1 b 0).bind fun q12 =>
  some (w11.2, q12)
set_option maxHeartbeats 4000000 in
set_option maxRecDepth 100000 in
theorem wX9_onBy_9 {C : Cx} (hC : CxOK C cX9_onBy RX9 (some .int)) (hL : C.2.2.2.2 = 4) {n : Nat} {G : G2} {R : R2} {b : Nat} {a1 : Int32} (hG : GX G) (h_b : own G b 19) (hR : C.1.2.2.2.1 = rmN 6 0 0) {o : V2 × Int32} (hX : Go C 38 [(0, .ref b), (2, .int o.2)] [] o.1 R G 0 0) : ∀ (f : Nat) (U3 : V2) (x4 : Int32) (x5 : Int32), lX9_onBy_9 n b a1 f U3 x4 x5 = some o → Go C 9 [(0, .ref b), (1, .int a1), (2, .int x4), (3, .int x5)] [] U3 R G 0 0 := by
  intro f
  induction f with
  | zero => intro _ _ _ hf; exact absurd hf (by unfold lX9_onBy_9; exact fun z => nomatch z)
  | succ f2 ih =>
    intro U3 x4 x5
    unfold lX9_onBy_9
    refine g_iload_n hC dX9_onBy_9 (j := 3) rfl rfl ?_
    refine g_iload_n hC dX9_onBy_10 (j := 1) rfl rfl ?_
    refine g_icmp_ge hC dX9_onBy_11 ?_ ?_
    · refine g_sub [0, 2] rfl ?_
      exact fun e => by cases e; exact hX
    · refine g_aload_n hC dX9_onBy_14 (j := 0) rfl rfl ?_
      refine g_callV_i hC hR ⟨Nat.zero_le _, Nat.zero_le _⟩ mwX9_isOver miX9_isOver (ci := 9) rfl h_b (Nat.le_of_ble_eq_true rfl) mlX9_141 (fun _ hq => kX9_isOver hG h_b hq) (Nat.le_of_ble_eq_true rfl) rfl (st := []) rfl (Nat.le_of_ble_eq_true rfl) dX9_onBy_15 (fun q6 => ?_)
      refine g_if_ne hC dX9_onBy_18 ?_ ?_
      · refine g_iload_n hC dX9_onBy_21 (j := 2) rfl rfl ?_
        refine g_aload_n hC dX9_onBy_22 (j := 0) rfl rfl ?_
        refine g_aload_n hC dX9_onBy_23 (j := 0) rfl rfl ?_
        refine g_callV_i hC hR ⟨Nat.zero_le _, Nat.zero_le _⟩ mwX9_restAct miX9_restAct (ci := 9) rfl h_b (Nat.le_of_ble_eq_true rfl) mlX9_252 (fun _ hq => kX9_restAct hG h_b hq) (Nat.le_of_ble_eq_true rfl) rfl (st := [.ref b, .int x4]) rfl (Nat.le_of_ble_eq_true rfl) dX9_onBy_24 (fun q7 => ?_)
        refine g_callV_iV hC hR ⟨Nat.zero_le _, Nat.zero_le _⟩ mwX9_goesWith miX9_goesWith (ci := 9) rfl h_b (Nat.le_of_ble_eq_true rfl) mlX9_255 (fun _ hq => kX9_goesWith hG h_b hq) (Nat.le_of_ble_eq_true rfl) rfl (st := [.int x4]) rfl (Nat.le_of_ble_eq_true rfl) dX9_onBy_27 (fun q8 => ?_)
        refine g_iadd hC dX9_onBy_30 ?_
        refine g_istore_nL hC (n0 := 4) (lv' := fun x9 => [(2, .int x9), (0, .ref b), (1, .int a1), (3, .int x5)]) dX9_onBy_31 rfl (Nat.le_of_ble_eq_true rfl) hL (fun _ => rfl) (fun x9 => ?_)
        refine g_iincL hC (n0 := 4) (j := 3) (lv' := fun x10 => [(3, .int x10), (2, .int x9), (0, .ref b), (1, .int a1)]) dX9_onBy_32 rfl ic_1 (Nat.le_of_ble_eq_true rfl) hL (fun _ => rfl) (fun x10 => ?_)
        refine g_goto hC dX9_onBy_35 ?_
        refine g_sub [2, 3, 1, 0] rfl ?_
        exact ih q8.2 x9 x10
      · refine g_sub [0, 2] rfl ?_
        exact fun e => by cases e; exact hX
set_option maxHeartbeats 4000000 in
set_option maxRecDepth 100000 in
theorem kX9_onBy {l : Launch} {D : Dx} {G : G2} {V : V2} {R : R2} {n : Nat} {b : Nat} {a1 : Int32} (hG : GX G) (h_b : own G b 19) {o : Int32 × V2} (hf : pX9_onBy n V b a1 = some o) : Con l yX9_onBy cX9_onBy 4 (some .int) (rmN 6 0 0) D G V R [.ref b, .int a1] (some (.int o.1), o.2, R, G, 0, 0) := by
  refine Con.mk RX9 (by decide) rfl (Nat.le_of_ble_eq_true rfl) (fun C _ hR hT _ _ hL hC hnm => ?_)
  revert hf
  unfold pX9_onBy
  refine g_aload_n hC dX9_onBy_0 (j := 0) rfl rfl ?_
  refine g_iconst hC dX9_onBy_1 ic_0 ?_
  refine g_callV_vV hC hR ⟨Nat.zero_le _, Nat.zero_le _⟩ mwX9_laysAside miX9_laysAside (ci := 9) rfl h_b (Nat.le_of_ble_eq_true rfl) mlX9_258 (fun _ hq => kX9_laysAside hG h_b hq) (Nat.le_of_ble_eq_true rfl) rfl (st := []) rfl (Nat.le_of_ble_eq_true rfl) dX9_onBy_2 (fun q1 => ?_)
  refine g_iconst hC dX9_onBy_5 ic_0 ?_
  refine g_istore_n hC (n0 := 4) (lv' := [(2, .int 0), (0, .ref b), (1, .int a1)]) dX9_onBy_6 rfl (Nat.le_of_ble_eq_true rfl) hL rfl ?_
  refine g_iconst hC dX9_onBy_7 ic_0 ?_
  refine g_istore_n hC (n0 := 4) (lv' := [(3, .int 0), (2, .int 0), (0, .ref b), (1, .int a1)]) dX9_onBy_8 rfl (Nat.le_of_ble_eq_true rfl) hL rfl ?_
  refine g_sub [2, 3, 1, 0] rfl ?_
  refine g_bind (J := fun w11 => Go C 38 [(0, .ref b), (2, .int w11.2)] [] w11.1 R G 0 0) (fun w11 hJ => wX9_onBy_9 hC hL hG h_b hR hJ n q1 0 0) (fun w11 => ?_)
  refine g_aload_n hC dX9_onBy_38 (j := 0) rfl rfl ?_
  refine g_iconst hC dX9_onBy_39 ic_0 ?_
  refine g_callV_vV hC hR ⟨Nat.zero_le _, Nat.zero_le _⟩ mwX9_laysBack miX9_laysBack (ci := 9) rfl h_b (Nat.le_of_ble_eq_true rfl) mlX9_262 (fun _ hq => kX9_laysBack hG h_b hq) (Nat.le_of_ble_eq_true rfl) rfl (st := []) rfl (Nat.le_of_ble_eq_true rfl) dX9_onBy_40 (fun q12 => ?_)
  refine g_iload_n hC dX9_onBy_43 (j := 1) rfl rfl ?_
  exact g_iret_iV hC hT dX9_onBy_44
def pX9_on (n : Nat) (V : V2) (b : Nat) (a1 : Int32) : Option (Int32 × V2) :=
  (pX9_isIn a1.toInt64 0 16).bind fun q1 =>
  if q1 = 0 then (some ((-1), V))
  else ((pX9_onBy n V b a1).bind fun q2 =>
  some (q2.1, q2.2))
set_option maxHeartbeats 4000000 in
set_option maxRecDepth 100000 in
theorem kX9_on {l : Launch} {D : Dx} {G : G2} {V : V2} {R : R2} {n : Nat} {b : Nat} {a1 : Int32} (hG : GX G) (h_b : own G b 19) {o : Int32 × V2} (hf : pX9_on n V b a1 = some o) : Con l yX9_on cX9_on 2 (some .int) (rmN 7 0 0) D G V R [.ref b, .int a1] (some (.int o.1), o.2, R, G, 0, 0) := by
  refine Con.mk RX9 (by decide) rfl (Nat.le_of_ble_eq_true rfl) (fun C _ hR hT _ _ hL hC hnm => ?_)
  revert hf
  unfold pX9_on
  refine g_iload_n hC dX9_on_0 (j := 1) rfl rfl ?_
  refine g_i2l hC dX9_on_1 ?_
  refine g_lconst hC dX9_on_2 lc_0 ?_
  refine g_ldc2 hC dX9_on_3 clX9_139 ?_
  refine g_callS_i hC hR ⟨Nat.zero_le _, Nat.zero_le _⟩ mwX9_isIn ms_X9_isIn mlX9_63 (fun _ hq => kX9_isIn  hq) (Nat.le_of_ble_eq_true rfl) rfl (st := []) rfl (Nat.le_of_ble_eq_true rfl) dX9_on_6 (fun q1 => ?_)
  refine g_if_eq hC dX9_on_9 ?_ ?_
  · refine g_iconst hC dX9_on_20 ic_m1 ?_
    exact g_iret_iV hC hT dX9_on_21
  · refine g_aload_n hC dX9_on_12 (j := 0) rfl rfl ?_
    refine g_iload_n hC dX9_on_13 (j := 1) rfl rfl ?_
    refine g_callV_iV hC hR ⟨Nat.zero_le _, Nat.zero_le _⟩ mwX9_onBy miX9_onBy (ci := 9) rfl h_b (Nat.le_of_ble_eq_true rfl) mlX9_265 (fun _ hq => kX9_onBy hG h_b hq) (Nat.le_of_ble_eq_true rfl) rfl (st := []) rfl (Nat.le_of_ble_eq_true rfl) dX9_on_14 (fun q2 => ?_)
    refine g_goto hC dX9_on_17 ?_
    exact g_iret_iV hC hT dX9_on_21
def lX9_when_28 (n : Nat) (b : Nat) (a1 : Int32) : Nat → V2 → Option (V2)
  | 0, _ => none
  | f4 + 1, U5 =>
    (pX9_isOver U5 b).bind fun q6 =>
    if q6 = 0 then ((pX9_its U5 b a1 4).bind fun q7 =>
    if q7 = 0 then ((pX9_restAct n U5 b).bind fun q8 =>
    (pX9_goesWith n U5 b q8).bind fun q9 =>
    lX9_when_28 n b a1 f4 q9.2)
    else (some U5))
    else (some U5)
def pX9_when (n : Nat) (V : V2) (b : Nat) (a1 : Int32) : Option (Int32 × V2) :=
  (pX9_isOne V b a1).bind fun q1 =>
  if q1 = 0 then (some ((-1), V))
  else ((pX9_its V b a1 4).bind fun q2 =>
  if q2 = (1 : Int32) then (some ((-3), V))
  else ((pX9_laysAside n V b 0).bind fun q3 =>
  (lX9_when_28 n b a1 n q3).bind fun w10 =>
  (pX9_its w10 b a1 4).bind fun q11 =>
  ((if q11 = 0 then (some (-3))
  else ((ldI 572 (w10 (b + 1)) 1).bind fun t13 =>
  some (t13 - 1)) : Option (Int32))).bind fun j12 =>
  (pX9_laysBack n w10 b 0).bind fun q14 =>
  some (j12, q14)))
set_option maxHeartbeats 4000000 in
set_option maxRecDepth 100000 in
theorem wX9_when_28 {C : Cx} (hC : CxOK C cX9_when RX9 (some .int)) (hL : C.2.2.2.2 = 3) {n : Nat} {G : G2} {R : R2} {b : Nat} {a1 : Int32} (hG : GX G) (h_b : own G b 19) (hR : C.1.2.2.2.1 = rmN 6 0 0) {o : V2} (hX : Go C 56 [(0, .ref b), (1, .int a1)] [] o R G 0 0) : ∀ (f : Nat) (U5 : V2), lX9_when_28 n b a1 f U5 = some o → Go C 28 [(0, .ref b), (1, .int a1)] [] U5 R G 0 0 := by
  intro f
  induction f with
  | zero => intro _ hf; exact absurd hf (by unfold lX9_when_28; exact fun z => nomatch z)
  | succ f4 ih =>
    intro U5
    unfold lX9_when_28
    refine g_aload_n hC dX9_when_28 (j := 0) rfl rfl ?_
    refine g_callV_i hC hR ⟨Nat.zero_le _, Nat.zero_le _⟩ mwX9_isOver miX9_isOver (ci := 9) rfl h_b (Nat.le_of_ble_eq_true rfl) mlX9_141 (fun _ hq => kX9_isOver hG h_b hq) (Nat.le_of_ble_eq_true rfl) rfl (st := []) rfl (Nat.le_of_ble_eq_true rfl) dX9_when_29 (fun q6 => ?_)
    refine g_if_ne hC dX9_when_32 ?_ ?_
    · refine g_aload_n hC dX9_when_35 (j := 0) rfl rfl ?_
      refine g_iload_n hC dX9_when_36 (j := 1) rfl rfl ?_
      refine g_iconst hC dX9_when_37 ic_4 ?_
      refine g_callV_i hC hR ⟨Nat.zero_le _, Nat.zero_le _⟩ mwX9_its miX9_its (ci := 9) rfl h_b (Nat.le_of_ble_eq_true rfl) mlX9_79 (fun _ hq => kX9_its hG h_b hq) (Nat.le_of_ble_eq_true rfl) rfl (st := []) rfl (Nat.le_of_ble_eq_true rfl) dX9_when_38 (fun q7 => ?_)
      refine g_if_ne hC dX9_when_41 ?_ ?_
      · refine g_aload_n hC dX9_when_44 (j := 0) rfl rfl ?_
        refine g_aload_n hC dX9_when_45 (j := 0) rfl rfl ?_
        refine g_callV_i hC hR ⟨Nat.zero_le _, Nat.zero_le _⟩ mwX9_restAct miX9_restAct (ci := 9) rfl h_b (Nat.le_of_ble_eq_true rfl) mlX9_252 (fun _ hq => kX9_restAct hG h_b hq) (Nat.le_of_ble_eq_true rfl) rfl (st := [.ref b]) rfl (Nat.le_of_ble_eq_true rfl) dX9_when_46 (fun q8 => ?_)
        refine g_callV_iV hC hR ⟨Nat.zero_le _, Nat.zero_le _⟩ mwX9_goesWith miX9_goesWith (ci := 9) rfl h_b (Nat.le_of_ble_eq_true rfl) mlX9_255 (fun _ hq => kX9_goesWith hG h_b hq) (Nat.le_of_ble_eq_true rfl) rfl (st := []) rfl (Nat.le_of_ble_eq_true rfl) dX9_when_49 (fun q9 => ?_)
        refine g_istore_n hC (n0 := 3) (lv' := [(2, .int q9.1), (0, .ref b), (1, .int a1)]) dX9_when_52 rfl (Nat.le_of_ble_eq_true rfl) hL rfl ?_
        refine g_goto hC dX9_when_53 ?_
        refine g_sub [1, 2] rfl ?_
        exact ih q9.2
      · exact fun e => by cases e; exact hX
    · exact fun e => by cases e; exact hX
set_option maxHeartbeats 4000000 in
set_option maxRecDepth 100000 in
theorem kX9_when {l : Launch} {D : Dx} {G : G2} {V : V2} {R : R2} {n : Nat} {b : Nat} {a1 : Int32} (hG : GX G) (h_b : own G b 19) {o : Int32 × V2} (hf : pX9_when n V b a1 = some o) : Con l yX9_when cX9_when 3 (some .int) (rmN 6 0 0) D G V R [.ref b, .int a1] (some (.int o.1), o.2, R, G, 0, 0) := by
  refine Con.mk RX9 (by decide) rfl (Nat.le_of_ble_eq_true rfl) (fun C _ hR hT _ _ hL hC hnm => ?_)
  revert hf
  unfold pX9_when
  refine g_aload_n hC dX9_when_0 (j := 0) rfl rfl ?_
  refine g_iload_n hC dX9_when_1 (j := 1) rfl rfl ?_
  refine g_callV_i hC hR ⟨Nat.zero_le _, Nat.zero_le _⟩ mwX9_isOne miX9_isOne (ci := 9) rfl h_b (Nat.le_of_ble_eq_true rfl) mlX9_120 (fun _ hq => kX9_isOne hG h_b hq) (Nat.le_of_ble_eq_true rfl) rfl (st := []) rfl (Nat.le_of_ble_eq_true rfl) dX9_when_2 (fun q1 => ?_)
  refine g_if_ne hC dX9_when_5 ?_ ?_
  · refine g_iconst hC dX9_when_8 ic_m1 ?_
    exact g_iret_iV hC hT dX9_when_9
  · refine g_aload_n hC dX9_when_10 (j := 0) rfl rfl ?_
    refine g_iload_n hC dX9_when_11 (j := 1) rfl rfl ?_
    refine g_iconst hC dX9_when_12 ic_4 ?_
    refine g_callV_i hC hR ⟨Nat.zero_le _, Nat.zero_le _⟩ mwX9_its miX9_its (ci := 9) rfl h_b (Nat.le_of_ble_eq_true rfl) mlX9_79 (fun _ hq => kX9_its hG h_b hq) (Nat.le_of_ble_eq_true rfl) rfl (st := []) rfl (Nat.le_of_ble_eq_true rfl) dX9_when_13 (fun q2 => ?_)
    refine g_iconst hC dX9_when_16 ic_1 ?_
    refine g_icmp_ne hC dX9_when_17 ?_ ?_
    · refine g_bipush hC dX9_when_20 bc_m3 ?_
      exact g_iret_iV hC hT dX9_when_22
    · refine g_aload_n hC dX9_when_23 (j := 0) rfl rfl ?_
      refine g_iconst hC dX9_when_24 ic_0 ?_
      refine g_callV_vV hC hR ⟨Nat.zero_le _, Nat.zero_le _⟩ mwX9_laysAside miX9_laysAside (ci := 9) rfl h_b (Nat.le_of_ble_eq_true rfl) mlX9_258 (fun _ hq => kX9_laysAside hG h_b hq) (Nat.le_of_ble_eq_true rfl) rfl (st := []) rfl (Nat.le_of_ble_eq_true rfl) dX9_when_25 (fun q3 => ?_)
      refine g_bind (J := fun w10 => Go C 56 [(0, .ref b), (1, .int a1)] [] w10 R G 0 0) (fun w10 hJ => wX9_when_28 hC hL hG h_b hR hJ n q3) (fun w10 => ?_)
      refine g_aload_n hC dX9_when_56 (j := 0) rfl rfl ?_
      refine g_iload_n hC dX9_when_57 (j := 1) rfl rfl ?_
      refine g_iconst hC dX9_when_58 ic_4 ?_
      refine g_callV_i hC hR ⟨Nat.zero_le _, Nat.zero_le _⟩ mwX9_its miX9_its (ci := 9) rfl h_b (Nat.le_of_ble_eq_true rfl) mlX9_79 (fun _ hq => kX9_its hG h_b hq) (Nat.le_of_ble_eq_true rfl) rfl (st := []) rfl (Nat.le_of_ble_eq_true rfl) dX9_when_59 (fun q11 => ?_)
      refine g_bind (J := fun j12 => Go C 78 [(0, .ref b)] [.int j12] w10 R G 0 0) (fun j12 hJ => ?_) (fun j12 => ?_)
      · refine g_if_ne hC dX9_when_62 ?_ ?_
        · refine g_bipush hC dX9_when_65 bc_m3 ?_
          refine g_goto hC dX9_when_67 ?_
          refine g_sub [0] rfl ?_
          exact fun e => by cases e; exact hJ
        · refine g_aload_n hC dX9_when_70 (j := 0) rfl rfl ?_
          refine g_getR hC fr_9_0 h_b (b := b + 1) rfl dX9_when_71 flX9_7 ?_
          refine g_iconst hC dX9_when_74 ic_1 ?_
          refine g_ialdV hC (gx_9_0 hG h_b) (gl_9_0 hG h_b) dX9_when_75 (fun t13 => ?_)
          refine g_iconst hC dX9_when_76 ic_1 ?_
          refine g_isub hC dX9_when_77 ?_
          refine g_sub [0] rfl ?_
          exact fun e => by cases e; exact hJ
      · refine g_istore_n hC (n0 := 3) (lv' := [(2, .int j12), (0, .ref b)]) dX9_when_78 rfl (Nat.le_of_ble_eq_true rfl) hL rfl ?_
        refine g_aload_n hC dX9_when_79 (j := 1) rfl rfl ?_
        refine g_iconst hC dX9_when_80 ic_0 ?_
        refine g_callV_vV hC hR ⟨Nat.zero_le _, Nat.zero_le _⟩ mwX9_laysBack miX9_laysBack (ci := 9) rfl h_b (Nat.le_of_ble_eq_true rfl) mlX9_262 (fun _ hq => kX9_laysBack hG h_b hq) (Nat.le_of_ble_eq_true rfl) rfl (st := []) rfl (Nat.le_of_ble_eq_true rfl) dX9_when_81 (fun q14 => ?_)
        refine g_iload_n hC dX9_when_84 (j := 0) rfl rfl ?_
        exact g_iret_iV hC hT dX9_when_85
def lX9_valueFor_26 (n : Nat) (b : Nat) (a2 : Int32) (x1 : Int32) : Nat → V2 → Int32 → Int32 → Int32 → Option (V2 × Int32)
  | 0, _, _, _, _ => none
  | f3 + 1, U4, x5, x6, x7 =>
    (pX9_greatestOf a2).bind fun q8 =>
    if q8 < x7 then (some (U4, x5))
    else ((stI 572 U4 (b + 1) x1 x7).bind fun U9 =>
    (pX9_onBy n U9 b 16).bind fun q10 =>
    letv ((if q10.1 ≤ x6 then (x5)
    else (x7) : Int32)) fun j11 =>
    (pX9_greatest x6 q10.1).bind fun q12 =>
    letv (x7 + 1) fun x13 =>
    lX9_valueFor_26 n b a2 x1 f3 q10.2 j11 q12 x13)
def pX9_valueFor (n : Nat) (V : V2) (b : Nat) (a1 : Int32) (a2 : Int32) : Option (Int32 × V2) :=
  letv ((8 + (5 * a1)) + a2) fun x1 =>
  (ldI 572 (V (b + 1)) x1).bind fun t2 =>
  (lX9_valueFor_26 n b a2 x1 n V 0 (-1) 0).bind fun w14 =>
  (stI 572 w14.1 (b + 1) x1 t2).bind fun U15 =>
  some (w14.2, U15)
set_option maxHeartbeats 4000000 in
set_option maxRecDepth 100000 in
theorem wX9_valueFor_26 {C : Cx} (hC : CxOK C cX9_valueFor RX9 (some .int)) (hL : C.2.2.2.2 = 9) {n : Nat} {G : G2} {R : R2} {b : Nat} {a2 : Int32} {x1 : Int32} {t2 : Int32} (hG : GX G) (h_b : own G b 19) (hR : C.1.2.2.2.1 = rmN 7 0 0) {o : V2 × Int32} (hX : Go C 82 [(0, .ref b), (3, .int x1), (4, .int t2), (5, .int o.2)] [] o.1 R G 0 0) : ∀ (f : Nat) (U4 : V2) (x5 : Int32) (x6 : Int32) (x7 : Int32), lX9_valueFor_26 n b a2 x1 f U4 x5 x6 x7 = some o → Go C 26 [(0, .ref b), (2, .int a2), (3, .int x1), (4, .int t2), (5, .int x5), (6, .int x6), (7, .int x7)] [] U4 R G 0 0 := by
  intro f
  induction f with
  | zero => intro _ _ _ _ hf; exact absurd hf (by unfold lX9_valueFor_26; exact fun z => nomatch z)
  | succ f3 ih =>
    intro U4 x5 x6 x7
    unfold lX9_valueFor_26
    refine g_iload hC dX9_valueFor_26 (j := 6) rfl ?_
    refine g_iload_n hC dX9_valueFor_28 (j := 1) rfl rfl ?_
    refine g_callS_i hC hR ⟨Nat.zero_le _, Nat.zero_le _⟩ mwX9_greatestOf ms_X9_greatestOf mlX9_131 (fun _ hq => kX9_greatestOf  hq) (Nat.le_of_ble_eq_true rfl) rfl (st := [.int x7]) rfl (Nat.le_of_ble_eq_true rfl) dX9_valueFor_29 (fun q8 => ?_)
    refine g_icmp_gt hC dX9_valueFor_32 ?_ ?_
    · refine g_sub [0, 2, 3, 4] rfl ?_
      exact fun e => by cases e; exact hX
    · refine g_aload_n hC dX9_valueFor_35 (j := 0) rfl rfl ?_
      refine g_getR hC fr_9_0 h_b (b := b + 1) rfl dX9_valueFor_36 flX9_7 ?_
      refine g_iload_n hC dX9_valueFor_39 (j := 2) rfl rfl ?_
      refine g_iload hC dX9_valueFor_40 (j := 6) rfl ?_
      refine g_iastV hC (gx_9_0 hG h_b) (gl_9_0 hG h_b) dX9_valueFor_42 (fun U9 => ?_)
      refine g_aload_n hC dX9_valueFor_43 (j := 0) rfl rfl ?_
      refine g_bipush hC dX9_valueFor_44 bc_16 ?_
      refine g_callV_iV hC hR ⟨Nat.zero_le _, Nat.zero_le _⟩ mwX9_onBy miX9_onBy (ci := 9) rfl h_b (Nat.le_of_ble_eq_true rfl) mlX9_265 (fun _ hq => kX9_onBy hG h_b hq) (Nat.le_of_ble_eq_true rfl) rfl (st := []) rfl (Nat.le_of_ble_eq_true rfl) dX9_valueFor_46 (fun q10 => ?_)
      refine g_istore hC (n0 := 9) (lv' := [(8, .int q10.1), (0, .ref b), (2, .int a2), (3, .int x1), (4, .int t2), (5, .int x5), (6, .int x6), (7, .int x7)]) dX9_valueFor_49 (Nat.le_of_ble_eq_true rfl) hL rfl ?_
      refine g_iload hC dX9_valueFor_51 (j := 0) rfl ?_
      refine g_iload hC dX9_valueFor_53 (j := 6) rfl ?_
      refine g_letJ (J := fun j11 => Go C 65 [(0, .ref b), (2, .int a2), (3, .int x1), (4, .int t2), (6, .int x6), (7, .int x7), (8, .int q10.1)] [.int j11] q10.2 R G 0 0) (fun j11 hJ => ?_) (fun j11 => ?_)
      · refine g_icmp_le hC dX9_valueFor_55 ?_ ?_
        · refine g_iload hC dX9_valueFor_63 (j := 5) rfl ?_
          refine g_sub [1, 2, 3, 4, 6, 7, 0] rfl ?_
          exact fun e => by cases e; exact hJ
        · refine g_iload hC dX9_valueFor_58 (j := 7) rfl ?_
          refine g_goto hC dX9_valueFor_60 ?_
          refine g_sub [1, 2, 3, 4, 6, 7, 0] rfl ?_
          exact fun e => by cases e; exact hJ
      · refine g_istore hC (n0 := 9) (lv' := [(5, .int j11), (0, .ref b), (2, .int a2), (3, .int x1), (4, .int t2), (6, .int x6), (7, .int x7), (8, .int q10.1)]) dX9_valueFor_65 (Nat.le_of_ble_eq_true rfl) hL rfl ?_
        refine g_iload hC dX9_valueFor_67 (j := 5) rfl ?_
        refine g_iload hC dX9_valueFor_69 (j := 7) rfl ?_
        refine g_callS_i hC hR ⟨Nat.zero_le _, Nat.zero_le _⟩ mwX9_greatest ms_X9_greatest mlX9_75 (fun _ hq => kX9_greatest  hq) (Nat.le_of_ble_eq_true rfl) rfl (st := []) rfl (Nat.le_of_ble_eq_true rfl) dX9_valueFor_71 (fun q12 => ?_)
        refine g_istore hC (n0 := 9) (lv' := [(6, .int q12), (5, .int j11), (0, .ref b), (2, .int a2), (3, .int x1), (4, .int t2), (7, .int x7), (8, .int q10.1)]) dX9_valueFor_74 (Nat.le_of_ble_eq_true rfl) hL rfl ?_
        refine g_iincL hC (n0 := 9) (j := 6) (lv' := fun x13 => [(7, .int x13), (6, .int q12), (5, .int j11), (0, .ref b), (2, .int a2), (3, .int x1), (4, .int t2), (8, .int q10.1)]) dX9_valueFor_76 rfl ic_1 (Nat.le_of_ble_eq_true rfl) hL (fun _ => rfl) (fun x13 => ?_)
        refine g_goto hC dX9_valueFor_79 ?_
        refine g_sub [3, 4, 5, 6, 2, 1, 0] rfl ?_
        exact ih q10.2 j11 q12 x13
set_option maxHeartbeats 4000000 in
set_option maxRecDepth 100000 in
theorem kX9_valueFor {l : Launch} {D : Dx} {G : G2} {V : V2} {R : R2} {n : Nat} {b : Nat} {a1 : Int32} {a2 : Int32} (hG : GX G) (h_b : own G b 19) {o : Int32 × V2} (hf : pX9_valueFor n V b a1 a2 = some o) : Con l yX9_valueFor cX9_valueFor 9 (some .int) (rmN 7 0 0) D G V R [.ref b, .int a1, .int a2] (some (.int o.1), o.2, R, G, 0, 0) := by
  refine Con.mk RX9 (by decide) rfl (Nat.le_of_ble_eq_true rfl) (fun C _ hR hT _ _ hL hC hnm => ?_)
  revert hf
  unfold pX9_valueFor
  refine g_bipush hC dX9_valueFor_0 bc_8 ?_
  refine g_iconst hC dX9_valueFor_2 ic_5 ?_
  refine g_iload_n hC dX9_valueFor_3 (j := 1) rfl rfl ?_
  refine g_imul hC dX9_valueFor_4 ?_
  refine g_iadd hC dX9_valueFor_5 ?_
  refine g_iload_n hC dX9_valueFor_6 (j := 2) rfl rfl ?_
  refine g_iadd hC dX9_valueFor_7 ?_
  refine g_istore_nL hC (n0 := 9) (lv' := fun x1 => [(3, .int x1), (0, .ref b), (1, .int a1), (2, .int a2)]) dX9_valueFor_8 rfl (Nat.le_of_ble_eq_true rfl) hL (fun _ => rfl) (fun x1 => ?_)
  refine g_aload_n hC dX9_valueFor_9 (j := 1) rfl rfl ?_
  refine g_getR hC fr_9_0 h_b (b := b + 1) rfl dX9_valueFor_10 flX9_7 ?_
  refine g_iload_n hC dX9_valueFor_13 (j := 0) rfl rfl ?_
  refine g_ialdV hC (gx_9_0 hG h_b) (gl_9_0 hG h_b) dX9_valueFor_14 (fun t2 => ?_)
  refine g_istore hC (n0 := 9) (lv' := [(4, .int t2), (3, .int x1), (0, .ref b), (1, .int a1), (2, .int a2)]) dX9_valueFor_15 (Nat.le_of_ble_eq_true rfl) hL rfl ?_
  refine g_iconst hC dX9_valueFor_17 ic_0 ?_
  refine g_istore hC (n0 := 9) (lv' := [(5, .int 0), (4, .int t2), (3, .int x1), (0, .ref b), (1, .int a1), (2, .int a2)]) dX9_valueFor_18 (Nat.le_of_ble_eq_true rfl) hL rfl ?_
  refine g_iconst hC dX9_valueFor_20 ic_m1 ?_
  refine g_istore hC (n0 := 9) (lv' := [(6, .int (-1)), (5, .int 0), (4, .int t2), (3, .int x1), (0, .ref b), (1, .int a1), (2, .int a2)]) dX9_valueFor_21 (Nat.le_of_ble_eq_true rfl) hL rfl ?_
  refine g_iconst hC dX9_valueFor_23 ic_0 ?_
  refine g_istore hC (n0 := 9) (lv' := [(7, .int 0), (6, .int (-1)), (5, .int 0), (4, .int t2), (3, .int x1), (0, .ref b), (1, .int a1), (2, .int a2)]) dX9_valueFor_24 (Nat.le_of_ble_eq_true rfl) hL rfl ?_
  refine g_sub [5, 7, 4, 3, 2, 1, 0] rfl ?_
  refine g_bind (J := fun w14 => Go C 82 [(0, .ref b), (3, .int x1), (4, .int t2), (5, .int w14.2)] [] w14.1 R G 0 0) (fun w14 hJ => wX9_valueFor_26 hC hL hG h_b hR hJ n V 0 (-1) 0) (fun w14 => ?_)
  refine g_aload_n hC dX9_valueFor_82 (j := 0) rfl rfl ?_
  refine g_getR hC fr_9_0 h_b (b := b + 1) rfl dX9_valueFor_83 flX9_7 ?_
  refine g_iload_n hC dX9_valueFor_86 (j := 1) rfl rfl ?_
  refine g_iload hC dX9_valueFor_87 (j := 2) rfl ?_
  refine g_iastV hC (gx_9_0 hG h_b) (gl_9_0 hG h_b) dX9_valueFor_89 (fun U15 => ?_)
  refine g_iload hC dX9_valueFor_90 (j := 3) rfl ?_
  exact g_iret_iV hC hT dX9_valueFor_92
def pX9_creaseFor (n : Nat) (V : V2) (b : Nat) (a1 : Int32) : Option (Int32 × V2) :=
  (pX9_isOne V b a1).bind fun q1 =>
  if q1 = 0 then (some ((-1), V))
  else ((pX9_valueFor n V b a1 2).bind fun q2 =>
  some (q2.1, q2.2))
set_option maxHeartbeats 4000000 in
set_option maxRecDepth 100000 in
theorem kX9_creaseFor {l : Launch} {D : Dx} {G : G2} {V : V2} {R : R2} {n : Nat} {b : Nat} {a1 : Int32} (hG : GX G) (h_b : own G b 19) {o : Int32 × V2} (hf : pX9_creaseFor n V b a1 = some o) : Con l yX9_creaseFor cX9_creaseFor 2 (some .int) (rmN 8 0 0) D G V R [.ref b, .int a1] (some (.int o.1), o.2, R, G, 0, 0) := by
  refine Con.mk RX9 (by decide) rfl (Nat.le_of_ble_eq_true rfl) (fun C _ hR hT _ _ hL hC hnm => ?_)
  revert hf
  unfold pX9_creaseFor
  refine g_aload_n hC dX9_creaseFor_0 (j := 0) rfl rfl ?_
  refine g_iload_n hC dX9_creaseFor_1 (j := 1) rfl rfl ?_
  refine g_callV_i hC hR ⟨Nat.zero_le _, Nat.zero_le _⟩ mwX9_isOne miX9_isOne (ci := 9) rfl h_b (Nat.le_of_ble_eq_true rfl) mlX9_120 (fun _ hq => kX9_isOne hG h_b hq) (Nat.le_of_ble_eq_true rfl) rfl (st := []) rfl (Nat.le_of_ble_eq_true rfl) dX9_creaseFor_2 (fun q1 => ?_)
  refine g_if_eq hC dX9_creaseFor_5 ?_ ?_
  · refine g_iconst hC dX9_creaseFor_17 ic_m1 ?_
    exact g_iret_iV hC hT dX9_creaseFor_18
  · refine g_aload_n hC dX9_creaseFor_8 (j := 0) rfl rfl ?_
    refine g_iload_n hC dX9_creaseFor_9 (j := 1) rfl rfl ?_
    refine g_iconst hC dX9_creaseFor_10 ic_2 ?_
    refine g_callV_iV hC hR ⟨Nat.zero_le _, Nat.zero_le _⟩ mwX9_valueFor miX9_valueFor (ci := 9) rfl h_b (Nat.le_of_ble_eq_true rfl) mlX9_268 (fun _ hq => kX9_valueFor hG h_b hq) (Nat.le_of_ble_eq_true rfl) rfl (st := []) rfl (Nat.le_of_ble_eq_true rfl) dX9_creaseFor_11 (fun q2 => ?_)
    refine g_goto hC dX9_creaseFor_14 ?_
    exact g_iret_iV hC hT dX9_creaseFor_18
def pX9_boardFor (n : Nat) (V : V2) (b : Nat) (a1 : Int32) : Option (Int32 × V2) :=
  (pX9_isOne V b a1).bind fun q1 =>
  if q1 = 0 then (some ((-1), V))
  else ((pX9_valueFor n V b a1 3).bind fun q2 =>
  some (q2.1, q2.2))
set_option maxHeartbeats 4000000 in
set_option maxRecDepth 100000 in
theorem kX9_boardFor {l : Launch} {D : Dx} {G : G2} {V : V2} {R : R2} {n : Nat} {b : Nat} {a1 : Int32} (hG : GX G) (h_b : own G b 19) {o : Int32 × V2} (hf : pX9_boardFor n V b a1 = some o) : Con l yX9_boardFor cX9_boardFor 2 (some .int) (rmN 8 0 0) D G V R [.ref b, .int a1] (some (.int o.1), o.2, R, G, 0, 0) := by
  refine Con.mk RX9 (by decide) rfl (Nat.le_of_ble_eq_true rfl) (fun C _ hR hT _ _ hL hC hnm => ?_)
  revert hf
  unfold pX9_boardFor
  refine g_aload_n hC dX9_boardFor_0 (j := 0) rfl rfl ?_
  refine g_iload_n hC dX9_boardFor_1 (j := 1) rfl rfl ?_
  refine g_callV_i hC hR ⟨Nat.zero_le _, Nat.zero_le _⟩ mwX9_isOne miX9_isOne (ci := 9) rfl h_b (Nat.le_of_ble_eq_true rfl) mlX9_120 (fun _ hq => kX9_isOne hG h_b hq) (Nat.le_of_ble_eq_true rfl) rfl (st := []) rfl (Nat.le_of_ble_eq_true rfl) dX9_boardFor_2 (fun q1 => ?_)
  refine g_if_eq hC dX9_boardFor_5 ?_ ?_
  · refine g_iconst hC dX9_boardFor_17 ic_m1 ?_
    exact g_iret_iV hC hT dX9_boardFor_18
  · refine g_aload_n hC dX9_boardFor_8 (j := 0) rfl rfl ?_
    refine g_iload_n hC dX9_boardFor_9 (j := 1) rfl rfl ?_
    refine g_iconst hC dX9_boardFor_10 ic_3 ?_
    refine g_callV_iV hC hR ⟨Nat.zero_le _, Nat.zero_le _⟩ mwX9_valueFor miX9_valueFor (ci := 9) rfl h_b (Nat.le_of_ble_eq_true rfl) mlX9_268 (fun _ hq => kX9_valueFor hG h_b hq) (Nat.le_of_ble_eq_true rfl) rfl (st := []) rfl (Nat.le_of_ble_eq_true rfl) dX9_boardFor_11 (fun q2 => ?_)
    refine g_goto hC dX9_boardFor_14 ?_
    exact g_iret_iV hC hT dX9_boardFor_18
def lX9_fat_15 (n : Nat) (b : Nat) (a1 : Int32) : Nat → V2 → Option (V2)
  | 0, _ => none
  | f3 + 1, U4 =>
    (pX9_isOver U4 b).bind fun q5 =>
    if q5 = 0 then ((pX9_its U4 b a1 1).bind fun q6 =>
    if (60 : Int32) ≤ q6 then (some U4)
    else ((pX9_restAct n U4 b).bind fun q7 =>
    (pX9_goesWith n U4 b q7).bind fun q8 =>
    lX9_fat_15 n b a1 f3 q8.2))
    else (some U4)
def pX9_fat (n : Nat) (V : V2) (b : Nat) (a1 : Int32) : Option (Int32 × V2) :=
  (pX9_isOne V b a1).bind fun q1 =>
  if q1 = 0 then (some ((-1), V))
  else ((pX9_laysAside n V b 0).bind fun q2 =>
  (lX9_fat_15 n b a1 n q2).bind fun w9 =>
  (pX9_its w9 b a1 1).bind fun q10 =>
  ((if (60 : Int32) ≤ q10 then ((ldI 572 (w9 (b + 1)) 1).bind fun t12 =>
  some t12)
  else (some (-3)) : Option (Int32))).bind fun j11 =>
  (pX9_laysBack n w9 b 0).bind fun q13 =>
  some (j11, q13))
set_option maxHeartbeats 4000000 in
set_option maxRecDepth 100000 in
theorem wX9_fat_15 {C : Cx} (hC : CxOK C cX9_fat RX9 (some .int)) (hL : C.2.2.2.2 = 3) {n : Nat} {G : G2} {R : R2} {b : Nat} {a1 : Int32} (hG : GX G) (h_b : own G b 19) (hR : C.1.2.2.2.1 = rmN 6 0 0) {o : V2} (hX : Go C 45 [(0, .ref b), (1, .int a1)] [] o R G 0 0) : ∀ (f : Nat) (U4 : V2), lX9_fat_15 n b a1 f U4 = some o → Go C 15 [(0, .ref b), (1, .int a1)] [] U4 R G 0 0 := by
  intro f
  induction f with
  | zero => intro _ hf; exact absurd hf (by unfold lX9_fat_15; exact fun z => nomatch z)
  | succ f3 ih =>
    intro U4
    unfold lX9_fat_15
    refine g_aload_n hC dX9_fat_15 (j := 0) rfl rfl ?_
    refine g_callV_i hC hR ⟨Nat.zero_le _, Nat.zero_le _⟩ mwX9_isOver miX9_isOver (ci := 9) rfl h_b (Nat.le_of_ble_eq_true rfl) mlX9_141 (fun _ hq => kX9_isOver hG h_b hq) (Nat.le_of_ble_eq_true rfl) rfl (st := []) rfl (Nat.le_of_ble_eq_true rfl) dX9_fat_16 (fun q5 => ?_)
    refine g_if_ne hC dX9_fat_19 ?_ ?_
    · refine g_aload_n hC dX9_fat_22 (j := 0) rfl rfl ?_
      refine g_iload_n hC dX9_fat_23 (j := 1) rfl rfl ?_
      refine g_iconst hC dX9_fat_24 ic_1 ?_
      refine g_callV_i hC hR ⟨Nat.zero_le _, Nat.zero_le _⟩ mwX9_its miX9_its (ci := 9) rfl h_b (Nat.le_of_ble_eq_true rfl) mlX9_79 (fun _ hq => kX9_its hG h_b hq) (Nat.le_of_ble_eq_true rfl) rfl (st := []) rfl (Nat.le_of_ble_eq_true rfl) dX9_fat_25 (fun q6 => ?_)
      refine g_bipush hC dX9_fat_28 bc_60 ?_
      refine g_icmp_ge hC dX9_fat_30 ?_ ?_
      · exact fun e => by cases e; exact hX
      · refine g_aload_n hC dX9_fat_33 (j := 0) rfl rfl ?_
        refine g_aload_n hC dX9_fat_34 (j := 0) rfl rfl ?_
        refine g_callV_i hC hR ⟨Nat.zero_le _, Nat.zero_le _⟩ mwX9_restAct miX9_restAct (ci := 9) rfl h_b (Nat.le_of_ble_eq_true rfl) mlX9_252 (fun _ hq => kX9_restAct hG h_b hq) (Nat.le_of_ble_eq_true rfl) rfl (st := [.ref b]) rfl (Nat.le_of_ble_eq_true rfl) dX9_fat_35 (fun q7 => ?_)
        refine g_callV_iV hC hR ⟨Nat.zero_le _, Nat.zero_le _⟩ mwX9_goesWith miX9_goesWith (ci := 9) rfl h_b (Nat.le_of_ble_eq_true rfl) mlX9_255 (fun _ hq => kX9_goesWith hG h_b hq) (Nat.le_of_ble_eq_true rfl) rfl (st := []) rfl (Nat.le_of_ble_eq_true rfl) dX9_fat_38 (fun q8 => ?_)
        refine g_istore_n hC (n0 := 3) (lv' := [(2, .int q8.1), (0, .ref b), (1, .int a1)]) dX9_fat_41 rfl (Nat.le_of_ble_eq_true rfl) hL rfl ?_
        refine g_goto hC dX9_fat_42 ?_
        refine g_sub [1, 2] rfl ?_
        exact ih q8.2
    · exact fun e => by cases e; exact hX
set_option maxHeartbeats 4000000 in
set_option maxRecDepth 100000 in
theorem kX9_fat {l : Launch} {D : Dx} {G : G2} {V : V2} {R : R2} {n : Nat} {b : Nat} {a1 : Int32} (hG : GX G) (h_b : own G b 19) {o : Int32 × V2} (hf : pX9_fat n V b a1 = some o) : Con l yX9_fat cX9_fat 3 (some .int) (rmN 6 0 0) D G V R [.ref b, .int a1] (some (.int o.1), o.2, R, G, 0, 0) := by
  refine Con.mk RX9 (by decide) rfl (Nat.le_of_ble_eq_true rfl) (fun C _ hR hT _ _ hL hC hnm => ?_)
  revert hf
  unfold pX9_fat
  refine g_aload_n hC dX9_fat_0 (j := 0) rfl rfl ?_
  refine g_iload_n hC dX9_fat_1 (j := 1) rfl rfl ?_
  refine g_callV_i hC hR ⟨Nat.zero_le _, Nat.zero_le _⟩ mwX9_isOne miX9_isOne (ci := 9) rfl h_b (Nat.le_of_ble_eq_true rfl) mlX9_120 (fun _ hq => kX9_isOne hG h_b hq) (Nat.le_of_ble_eq_true rfl) rfl (st := []) rfl (Nat.le_of_ble_eq_true rfl) dX9_fat_2 (fun q1 => ?_)
  refine g_if_ne hC dX9_fat_5 ?_ ?_
  · refine g_iconst hC dX9_fat_8 ic_m1 ?_
    exact g_iret_iV hC hT dX9_fat_9
  · refine g_aload_n hC dX9_fat_10 (j := 0) rfl rfl ?_
    refine g_iconst hC dX9_fat_11 ic_0 ?_
    refine g_callV_vV hC hR ⟨Nat.zero_le _, Nat.zero_le _⟩ mwX9_laysAside miX9_laysAside (ci := 9) rfl h_b (Nat.le_of_ble_eq_true rfl) mlX9_258 (fun _ hq => kX9_laysAside hG h_b hq) (Nat.le_of_ble_eq_true rfl) rfl (st := []) rfl (Nat.le_of_ble_eq_true rfl) dX9_fat_12 (fun q2 => ?_)
    refine g_bind (J := fun w9 => Go C 45 [(0, .ref b), (1, .int a1)] [] w9 R G 0 0) (fun w9 hJ => wX9_fat_15 hC hL hG h_b hR hJ n q2) (fun w9 => ?_)
    refine g_aload_n hC dX9_fat_45 (j := 0) rfl rfl ?_
    refine g_iload_n hC dX9_fat_46 (j := 1) rfl rfl ?_
    refine g_iconst hC dX9_fat_47 ic_1 ?_
    refine g_callV_i hC hR ⟨Nat.zero_le _, Nat.zero_le _⟩ mwX9_its miX9_its (ci := 9) rfl h_b (Nat.le_of_ble_eq_true rfl) mlX9_79 (fun _ hq => kX9_its hG h_b hq) (Nat.le_of_ble_eq_true rfl) rfl (st := []) rfl (Nat.le_of_ble_eq_true rfl) dX9_fat_48 (fun q10 => ?_)
    refine g_bipush hC dX9_fat_51 bc_60 ?_
    refine g_bind (J := fun j11 => Go C 67 [(0, .ref b)] [.int j11] w9 R G 0 0) (fun j11 hJ => ?_) (fun j11 => ?_)
    · refine g_icmp_ge hC dX9_fat_53 ?_ ?_
      · refine g_aload_n hC dX9_fat_61 (j := 0) rfl rfl ?_
        refine g_getR hC fr_9_0 h_b (b := b + 1) rfl dX9_fat_62 flX9_7 ?_
        refine g_iconst hC dX9_fat_65 ic_1 ?_
        refine g_ialdV hC (gx_9_0 hG h_b) (gl_9_0 hG h_b) dX9_fat_66 (fun t12 => ?_)
        refine g_sub [0] rfl ?_
        exact fun e => by cases e; exact hJ
      · refine g_bipush hC dX9_fat_56 bc_m3 ?_
        refine g_goto hC dX9_fat_58 ?_
        refine g_sub [0] rfl ?_
        exact fun e => by cases e; exact hJ
    · refine g_istore_n hC (n0 := 3) (lv' := [(2, .int j11), (0, .ref b)]) dX9_fat_67 rfl (Nat.le_of_ble_eq_true rfl) hL rfl ?_
      refine g_aload_n hC dX9_fat_68 (j := 1) rfl rfl ?_
      refine g_iconst hC dX9_fat_69 ic_0 ?_
      refine g_callV_vV hC hR ⟨Nat.zero_le _, Nat.zero_le _⟩ mwX9_laysBack miX9_laysBack (ci := 9) rfl h_b (Nat.le_of_ble_eq_true rfl) mlX9_262 (fun _ hq => kX9_laysBack hG h_b hq) (Nat.le_of_ble_eq_true rfl) rfl (st := []) rfl (Nat.le_of_ble_eq_true rfl) dX9_fat_70 (fun q13 => ?_)
      refine g_iload_n hC dX9_fat_73 (j := 0) rfl rfl ?_
      exact g_iret_iV hC hT dX9_fat_74
def pX9_least (n : Nat) (V : V2) (b : Nat) (a1 : Int32) : Option (Int32) :=
  (pX9_isOne V b a1).bind fun q1 =>
  if q1 = 0 then (some (-1))
  else ((pX9_needsOf V b a1).bind fun q2 =>
  (pX9_its V b a1 3).bind fun q3 =>
  (pX9_load n V b q3).bind fun q4 =>
  letv (q2 - q4) fun x5 =>
  letv ((if 0 < x5 then ((x5 + 3) / 4)
  else (0) : Int32)) fun j6 =>
  (pX9_its V b a1 4).bind fun q7 =>
  if q7 = 0 then (if (4 : Int32) ≤ j6 then (some (-3))
  else (some j6))
  else (some (-3)))
set_option maxHeartbeats 4000000 in
set_option maxRecDepth 100000 in
theorem kX9_least {l : Launch} {D : Dx} {G : G2} {V : V2} {R : R2} {n : Nat} {b : Nat} {a1 : Int32} (hG : GX G) (h_b : own G b 19) {o : Int32} (hf : pX9_least n V b a1 = some o) : Con l yX9_least cX9_least 4 (some .int) (rmN 2 0 0) D G V R [.ref b, .int a1] (some (.int o), V, R, G, 0, 0) := by
  refine Con.mk RX9 (by decide) rfl (Nat.le_of_ble_eq_true rfl) (fun C _ hR hT _ _ hL hC hnm => ?_)
  revert hf
  unfold pX9_least
  refine g_aload_n hC dX9_least_0 (j := 0) rfl rfl ?_
  refine g_iload_n hC dX9_least_1 (j := 1) rfl rfl ?_
  refine g_callV_i hC hR ⟨Nat.zero_le _, Nat.zero_le _⟩ mwX9_isOne miX9_isOne (ci := 9) rfl h_b (Nat.le_of_ble_eq_true rfl) mlX9_120 (fun _ hq => kX9_isOne hG h_b hq) (Nat.le_of_ble_eq_true rfl) rfl (st := []) rfl (Nat.le_of_ble_eq_true rfl) dX9_least_2 (fun q1 => ?_)
  refine g_if_ne hC dX9_least_5 ?_ ?_
  · refine g_iconst hC dX9_least_8 ic_m1 ?_
    exact g_iret_i hC hT dX9_least_9
  · refine g_aload_n hC dX9_least_10 (j := 0) rfl rfl ?_
    refine g_iload_n hC dX9_least_11 (j := 1) rfl rfl ?_
    refine g_callV_i hC hR ⟨Nat.zero_le _, Nat.zero_le _⟩ mwX9_needsOf miX9_needsOf (ci := 9) rfl h_b (Nat.le_of_ble_eq_true rfl) mlX9_97 (fun _ hq => kX9_needsOf hG h_b hq) (Nat.le_of_ble_eq_true rfl) rfl (st := []) rfl (Nat.le_of_ble_eq_true rfl) dX9_least_12 (fun q2 => ?_)
    refine g_aload_n hC dX9_least_15 (j := 0) rfl rfl ?_
    refine g_aload_n hC dX9_least_16 (j := 0) rfl rfl ?_
    refine g_iload_n hC dX9_least_17 (j := 1) rfl rfl ?_
    refine g_iconst hC dX9_least_18 ic_3 ?_
    refine g_callV_i hC hR ⟨Nat.zero_le _, Nat.zero_le _⟩ mwX9_its miX9_its (ci := 9) rfl h_b (Nat.le_of_ble_eq_true rfl) mlX9_79 (fun _ hq => kX9_its hG h_b hq) (Nat.le_of_ble_eq_true rfl) rfl (st := [.ref b, .int q2]) rfl (Nat.le_of_ble_eq_true rfl) dX9_least_19 (fun q3 => ?_)
    refine g_callV_i hC hR ⟨Nat.zero_le _, Nat.zero_le _⟩ mwX9_load miX9_load (ci := 9) rfl h_b (Nat.le_of_ble_eq_true rfl) mlX9_94 (fun _ hq => kX9_load hG h_b hq) (Nat.le_of_ble_eq_true rfl) rfl (st := [.int q2]) rfl (Nat.le_of_ble_eq_true rfl) dX9_least_22 (fun q4 => ?_)
    refine g_isub hC dX9_least_25 ?_
    refine g_istore_nL hC (n0 := 4) (lv' := fun x5 => [(2, .int x5), (0, .ref b), (1, .int a1)]) dX9_least_26 rfl (Nat.le_of_ble_eq_true rfl) hL (fun _ => rfl) (fun x5 => ?_)
    refine g_iload_n hC dX9_least_27 (j := 0) rfl rfl ?_
    refine g_letJ (J := fun j6 => Go C 40 [(0, .ref b), (1, .int a1)] [.int j6] V R G 0 0) (fun j6 hJ => ?_) (fun j6 => ?_)
    · refine g_if_gt hC dX9_least_28 ?_ ?_
      · refine g_iload_n hC dX9_least_35 (j := 0) rfl rfl ?_
        refine g_iconst hC dX9_least_36 ic_3 ?_
        refine g_iadd hC dX9_least_37 ?_
        refine g_iconst hC dX9_least_38 ic_4 ?_
        refine g_idivC hC dX9_least_39 nzi_4 ?_
        refine g_sub [1, 2] rfl ?_
        exact fun e => by cases e; exact hJ
      · refine g_iconst hC dX9_least_31 ic_0 ?_
        refine g_goto hC dX9_least_32 ?_
        refine g_sub [1, 2] rfl ?_
        exact fun e => by cases e; exact hJ
    · refine g_istore_n hC (n0 := 4) (lv' := [(3, .int j6), (0, .ref b), (1, .int a1)]) dX9_least_40 rfl (Nat.le_of_ble_eq_true rfl) hL rfl ?_
      refine g_aload_n hC dX9_least_41 (j := 1) rfl rfl ?_
      refine g_iload_n hC dX9_least_42 (j := 2) rfl rfl ?_
      refine g_iconst hC dX9_least_43 ic_4 ?_
      refine g_callV_i hC hR ⟨Nat.zero_le _, Nat.zero_le _⟩ mwX9_its miX9_its (ci := 9) rfl h_b (Nat.le_of_ble_eq_true rfl) mlX9_79 (fun _ hq => kX9_its hG h_b hq) (Nat.le_of_ble_eq_true rfl) rfl (st := []) rfl (Nat.le_of_ble_eq_true rfl) dX9_least_44 (fun q7 => ?_)
      refine g_if_ne hC dX9_least_47 ?_ ?_
      · refine g_iload_n hC dX9_least_50 (j := 0) rfl rfl ?_
        refine g_iconst hC dX9_least_51 ic_4 ?_
        refine g_icmp_ge hC dX9_least_52 ?_ ?_
        · refine g_bipush hC dX9_least_59 bc_m3 ?_
          exact g_iret_i hC hT dX9_least_61
        · refine g_iload_n hC dX9_least_55 (j := 0) rfl rfl ?_
          refine g_goto hC dX9_least_56 ?_
          exact g_iret_i hC hT dX9_least_61
      · refine g_bipush hC dX9_least_59 bc_m3 ?_
        exact g_iret_i hC hT dX9_least_61
def lX9_left_31 (n : Nat) (b : Nat) (a1 : Int32) : Nat → V2 → Int32 → Option (V2)
  | 0, _, _ => none
  | f4 + 1, U5, x6 =>
    if a1 ≤ x6 then (some U5)
    else ((pX9_isOver U5 b).bind fun q7 =>
    if q7 = 0 then ((pX9_restAct n U5 b).bind fun q8 =>
    (pX9_goesWith n U5 b q8).bind fun q9 =>
    letv (x6 + 1) fun x10 =>
    lX9_left_31 n b a1 f4 q9.2 x10)
    else (some U5))
def pX9_left (n : Nat) (V : V2) (b : Nat) (a1 : Int32) (a2 : Int32) : Option (Int32 × V2) :=
  (pX9_isIn a1.toInt64 0 16).bind fun q1 =>
  if q1 = 0 then (some ((-1), V))
  else ((pX9_isIn a2.toInt64 0 1).bind fun q2 =>
  if q2 = 0 then (some ((-1), V))
  else ((pX9_laysAside n V b 0).bind fun q3 =>
  (lX9_left_31 n b a1 n q3 0).bind fun w11 =>
  ((if a2 = 0 then ((pX9_bulkOfAll n w11 b).bind fun q13 =>
  some q13)
  else ((pX9_flatOnes n w11 b).bind fun q14 =>
  some q14) : Option (Int32))).bind fun j12 =>
  (pX9_laysBack n w11 b 0).bind fun q15 =>
  some (j12, q15)))
set_option maxHeartbeats 4000000 in
set_option maxRecDepth 100000 in
theorem wX9_left_31 {C : Cx} (hC : CxOK C cX9_left RX9 (some .int)) (hL : C.2.2.2.2 = 5) {n : Nat} {G : G2} {R : R2} {b : Nat} {a1 : Int32} {a2 : Int32} (hG : GX G) (h_b : own G b 19) (hR : C.1.2.2.2.1 = rmN 6 0 0) {o : V2} (hX : Go C 59 [(0, .ref b), (2, .int a2)] [] o R G 0 0) : ∀ (f : Nat) (U5 : V2) (x6 : Int32), lX9_left_31 n b a1 f U5 x6 = some o → Go C 31 [(0, .ref b), (1, .int a1), (2, .int a2), (3, .int x6)] [] U5 R G 0 0 := by
  intro f
  induction f with
  | zero => intro _ _ hf; exact absurd hf (by unfold lX9_left_31; exact fun z => nomatch z)
  | succ f4 ih =>
    intro U5 x6
    unfold lX9_left_31
    refine g_iload_n hC dX9_left_31 (j := 3) rfl rfl ?_
    refine g_iload_n hC dX9_left_32 (j := 1) rfl rfl ?_
    refine g_icmp_ge hC dX9_left_33 ?_ ?_
    · refine g_sub [0, 2] rfl ?_
      exact fun e => by cases e; exact hX
    · refine g_aload_n hC dX9_left_36 (j := 0) rfl rfl ?_
      refine g_callV_i hC hR ⟨Nat.zero_le _, Nat.zero_le _⟩ mwX9_isOver miX9_isOver (ci := 9) rfl h_b (Nat.le_of_ble_eq_true rfl) mlX9_141 (fun _ hq => kX9_isOver hG h_b hq) (Nat.le_of_ble_eq_true rfl) rfl (st := []) rfl (Nat.le_of_ble_eq_true rfl) dX9_left_37 (fun q7 => ?_)
      refine g_if_ne hC dX9_left_40 ?_ ?_
      · refine g_aload_n hC dX9_left_43 (j := 0) rfl rfl ?_
        refine g_aload_n hC dX9_left_44 (j := 0) rfl rfl ?_
        refine g_callV_i hC hR ⟨Nat.zero_le _, Nat.zero_le _⟩ mwX9_restAct miX9_restAct (ci := 9) rfl h_b (Nat.le_of_ble_eq_true rfl) mlX9_252 (fun _ hq => kX9_restAct hG h_b hq) (Nat.le_of_ble_eq_true rfl) rfl (st := [.ref b]) rfl (Nat.le_of_ble_eq_true rfl) dX9_left_45 (fun q8 => ?_)
        refine g_callV_iV hC hR ⟨Nat.zero_le _, Nat.zero_le _⟩ mwX9_goesWith miX9_goesWith (ci := 9) rfl h_b (Nat.le_of_ble_eq_true rfl) mlX9_255 (fun _ hq => kX9_goesWith hG h_b hq) (Nat.le_of_ble_eq_true rfl) rfl (st := []) rfl (Nat.le_of_ble_eq_true rfl) dX9_left_48 (fun q9 => ?_)
        refine g_istore hC (n0 := 5) (lv' := [(4, .int q9.1), (0, .ref b), (1, .int a1), (2, .int a2), (3, .int x6)]) dX9_left_51 (Nat.le_of_ble_eq_true rfl) hL rfl ?_
        refine g_iincL hC (n0 := 5) (j := 4) (lv' := fun x10 => [(3, .int x10), (4, .int q9.1), (0, .ref b), (1, .int a1), (2, .int a2)]) dX9_left_53 rfl ic_1 (Nat.le_of_ble_eq_true rfl) hL (fun _ => rfl) (fun x10 => ?_)
        refine g_goto hC dX9_left_56 ?_
        refine g_sub [2, 3, 4, 0] rfl ?_
        exact ih q9.2 x10
      · refine g_sub [0, 2] rfl ?_
        exact fun e => by cases e; exact hX
set_option maxHeartbeats 4000000 in
set_option maxRecDepth 100000 in
theorem kX9_left {l : Launch} {D : Dx} {G : G2} {V : V2} {R : R2} {n : Nat} {b : Nat} {a1 : Int32} {a2 : Int32} (hG : GX G) (h_b : own G b 19) {o : Int32 × V2} (hf : pX9_left n V b a1 a2 = some o) : Con l yX9_left cX9_left 5 (some .int) (rmN 6 0 0) D G V R [.ref b, .int a1, .int a2] (some (.int o.1), o.2, R, G, 0, 0) := by
  refine Con.mk RX9 (by decide) rfl (Nat.le_of_ble_eq_true rfl) (fun C _ hR hT _ _ hL hC hnm => ?_)
  revert hf
  unfold pX9_left
  refine g_iload_n hC dX9_left_0 (j := 1) rfl rfl ?_
  refine g_i2l hC dX9_left_1 ?_
  refine g_lconst hC dX9_left_2 lc_0 ?_
  refine g_ldc2 hC dX9_left_3 clX9_139 ?_
  refine g_callS_i hC hR ⟨Nat.zero_le _, Nat.zero_le _⟩ mwX9_isIn ms_X9_isIn mlX9_63 (fun _ hq => kX9_isIn  hq) (Nat.le_of_ble_eq_true rfl) rfl (st := []) rfl (Nat.le_of_ble_eq_true rfl) dX9_left_6 (fun q1 => ?_)
  refine g_if_eq hC dX9_left_9 ?_ ?_
  · refine g_iconst hC dX9_left_22 ic_m1 ?_
    exact g_iret_iV hC hT dX9_left_23
  · refine g_iload_n hC dX9_left_12 (j := 2) rfl rfl ?_
    refine g_i2l hC dX9_left_13 ?_
    refine g_lconst hC dX9_left_14 lc_0 ?_
    refine g_lconst hC dX9_left_15 lc_1 ?_
    refine g_callS_i hC hR ⟨Nat.zero_le _, Nat.zero_le _⟩ mwX9_isIn ms_X9_isIn mlX9_63 (fun _ hq => kX9_isIn  hq) (Nat.le_of_ble_eq_true rfl) rfl (st := []) rfl (Nat.le_of_ble_eq_true rfl) dX9_left_16 (fun q2 => ?_)
    refine g_if_ne hC dX9_left_19 ?_ ?_
    · refine g_iconst hC dX9_left_22 ic_m1 ?_
      exact g_iret_iV hC hT dX9_left_23
    · refine g_aload_n hC dX9_left_24 (j := 0) rfl rfl ?_
      refine g_iconst hC dX9_left_25 ic_0 ?_
      refine g_callV_vV hC hR ⟨Nat.zero_le _, Nat.zero_le _⟩ mwX9_laysAside miX9_laysAside (ci := 9) rfl h_b (Nat.le_of_ble_eq_true rfl) mlX9_258 (fun _ hq => kX9_laysAside hG h_b hq) (Nat.le_of_ble_eq_true rfl) rfl (st := []) rfl (Nat.le_of_ble_eq_true rfl) dX9_left_26 (fun q3 => ?_)
      refine g_iconst hC dX9_left_29 ic_0 ?_
      refine g_istore_n hC (n0 := 5) (lv' := [(3, .int 0), (0, .ref b), (1, .int a1), (2, .int a2)]) dX9_left_30 rfl (Nat.le_of_ble_eq_true rfl) hL rfl ?_
      refine g_sub [1, 2, 3, 0] rfl ?_
      refine g_bind (J := fun w11 => Go C 59 [(0, .ref b), (2, .int a2)] [] w11 R G 0 0) (fun w11 hJ => wX9_left_31 hC hL hG h_b hR hJ n q3 0) (fun w11 => ?_)
      refine g_iload_n hC dX9_left_59 (j := 1) rfl rfl ?_
      refine g_bind (J := fun j12 => Go C 74 [(0, .ref b)] [.int j12] w11 R G 0 0) (fun j12 hJ => ?_) (fun j12 => ?_)
      · refine g_if_ne hC dX9_left_60 ?_ ?_
        · refine g_aload_n hC dX9_left_63 (j := 0) rfl rfl ?_
          refine g_callV_i hC hR ⟨Nat.zero_le _, Nat.zero_le _⟩ mwX9_bulkOfAll miX9_bulkOfAll (ci := 9) rfl h_b (Nat.le_of_ble_eq_true rfl) mlX9_149 (fun _ hq => kX9_bulkOfAll hG h_b hq) (Nat.le_of_ble_eq_true rfl) rfl (st := []) rfl (Nat.le_of_ble_eq_true rfl) dX9_left_64 (fun q13 => ?_)
          refine g_goto hC dX9_left_67 ?_
          refine g_sub [0] rfl ?_
          exact fun e => by cases e; exact hJ
        · refine g_aload_n hC dX9_left_70 (j := 0) rfl rfl ?_
          refine g_callV_i hC hR ⟨Nat.zero_le _, Nat.zero_le _⟩ mwX9_flatOnes miX9_flatOnes (ci := 9) rfl h_b (Nat.le_of_ble_eq_true rfl) mlX9_145 (fun _ hq => kX9_flatOnes hG h_b hq) (Nat.le_of_ble_eq_true rfl) rfl (st := []) rfl (Nat.le_of_ble_eq_true rfl) dX9_left_71 (fun q14 => ?_)
          refine g_sub [0] rfl ?_
          exact fun e => by cases e; exact hJ
      · refine g_istore_n hC (n0 := 5) (lv' := [(3, .int j12), (0, .ref b)]) dX9_left_74 rfl (Nat.le_of_ble_eq_true rfl) hL rfl ?_
        refine g_aload_n hC dX9_left_75 (j := 1) rfl rfl ?_
        refine g_iconst hC dX9_left_76 ic_0 ?_
        refine g_callV_vV hC hR ⟨Nat.zero_le _, Nat.zero_le _⟩ mwX9_laysBack miX9_laysBack (ci := 9) rfl h_b (Nat.le_of_ble_eq_true rfl) mlX9_262 (fun _ hq => kX9_laysBack hG h_b hq) (Nat.le_of_ble_eq_true rfl) rfl (st := []) rfl (Nat.le_of_ble_eq_true rfl) dX9_left_77 (fun q15 => ?_)
        refine g_iload_n hC dX9_left_80 (j := 0) rfl rfl ?_
        exact g_iret_iV hC hT dX9_left_81
def pX9_areClose (V : V2) (b : Nat) (a1 : Int32) (a2 : Int32) : Option (Int32) :=
  (pX9_its V b a1 4).bind fun q1 =>
  ((if q1 = 0 then ((pX9_its V b a2 4).bind fun q3 =>
  if q3 = 0 then (some 1)
  else (some 0))
  else (some 0) : Option (Int32))).bind fun j2 =>
  if j2 = 0 then (some 0)
  else ((pX9_its V b a1 3).bind fun q4 =>
  (pX9_its V b a2 3).bind fun q5 =>
  if q4 = q5 then (some 1)
  else ((pX9_its V b a1 2).bind fun q6 =>
  (pX9_its V b a2 2).bind fun q7 =>
  if q6 = q7 then (some 1)
  else (some 0)))
set_option maxHeartbeats 4000000 in
set_option maxRecDepth 100000 in
theorem kX9_areClose {l : Launch} {D : Dx} {G : G2} {V : V2} {R : R2} {b : Nat} {a1 : Int32} {a2 : Int32} (hG : GX G) (h_b : own G b 19) {o : Int32} (hf : pX9_areClose V b a1 a2 = some o) : Con l yX9_areClose cX9_areClose 4 (some .boolean) (rmN 1 0 0) D G V R [.ref b, .int a1, .int a2] (some (.int o), V, R, G, 0, 0) := by
  refine Con.mk RX9 (by decide) rfl (Nat.le_of_ble_eq_true rfl) (fun C _ hR hT _ _ hL hC hnm => ?_)
  revert hf
  unfold pX9_areClose
  refine g_aload_n hC dX9_areClose_0 (j := 0) rfl rfl ?_
  refine g_iload_n hC dX9_areClose_1 (j := 1) rfl rfl ?_
  refine g_iconst hC dX9_areClose_2 ic_4 ?_
  refine g_callV_i hC hR ⟨Nat.zero_le _, Nat.zero_le _⟩ mwX9_its miX9_its (ci := 9) rfl h_b (Nat.le_of_ble_eq_true rfl) mlX9_79 (fun _ hq => kX9_its hG h_b hq) (Nat.le_of_ble_eq_true rfl) rfl (st := []) rfl (Nat.le_of_ble_eq_true rfl) dX9_areClose_3 (fun q1 => ?_)
  refine g_bind (J := fun j2 => Go C 23 [(0, .ref b), (1, .int a1), (2, .int a2)] [.int j2] V R G 0 0) (fun j2 hJ => ?_) (fun j2 => ?_)
  · refine g_if_ne hC dX9_areClose_6 ?_ ?_
    · refine g_aload_n hC dX9_areClose_9 (j := 0) rfl rfl ?_
      refine g_iload_n hC dX9_areClose_10 (j := 2) rfl rfl ?_
      refine g_iconst hC dX9_areClose_11 ic_4 ?_
      refine g_callV_i hC hR ⟨Nat.zero_le _, Nat.zero_le _⟩ mwX9_its miX9_its (ci := 9) rfl h_b (Nat.le_of_ble_eq_true rfl) mlX9_79 (fun _ hq => kX9_its hG h_b hq) (Nat.le_of_ble_eq_true rfl) rfl (st := []) rfl (Nat.le_of_ble_eq_true rfl) dX9_areClose_12 (fun q3 => ?_)
      refine g_if_ne hC dX9_areClose_15 ?_ ?_
      · refine g_iconst hC dX9_areClose_18 ic_1 ?_
        refine g_goto hC dX9_areClose_19 ?_
        exact fun e => by cases e; exact hJ
      · refine g_iconst hC dX9_areClose_22 ic_0 ?_
        exact fun e => by cases e; exact hJ
    · refine g_iconst hC dX9_areClose_22 ic_0 ?_
      exact fun e => by cases e; exact hJ
  · refine g_istore_n hC (n0 := 4) (lv' := [(3, .int j2), (0, .ref b), (1, .int a1), (2, .int a2)]) dX9_areClose_23 rfl (Nat.le_of_ble_eq_true rfl) hL rfl ?_
    refine g_iload_n hC dX9_areClose_24 (j := 0) rfl rfl ?_
    refine g_if_eq hC dX9_areClose_25 ?_ ?_
    · refine g_iconst hC dX9_areClose_62 ic_0 ?_
      exact g_zret_i hC rfl hT dX9_areClose_63
    · refine g_aload_n hC dX9_areClose_28 (j := 1) rfl rfl ?_
      refine g_iload_n hC dX9_areClose_29 (j := 2) rfl rfl ?_
      refine g_iconst hC dX9_areClose_30 ic_3 ?_
      refine g_callV_i hC hR ⟨Nat.zero_le _, Nat.zero_le _⟩ mwX9_its miX9_its (ci := 9) rfl h_b (Nat.le_of_ble_eq_true rfl) mlX9_79 (fun _ hq => kX9_its hG h_b hq) (Nat.le_of_ble_eq_true rfl) rfl (st := []) rfl (Nat.le_of_ble_eq_true rfl) dX9_areClose_31 (fun q4 => ?_)
      refine g_aload_n hC dX9_areClose_34 (j := 1) rfl rfl ?_
      refine g_iload_n hC dX9_areClose_35 (j := 3) rfl rfl ?_
      refine g_iconst hC dX9_areClose_36 ic_3 ?_
      refine g_callV_i hC hR ⟨Nat.zero_le _, Nat.zero_le _⟩ mwX9_its miX9_its (ci := 9) rfl h_b (Nat.le_of_ble_eq_true rfl) mlX9_79 (fun _ hq => kX9_its hG h_b hq) (Nat.le_of_ble_eq_true rfl) rfl (st := [.int q4]) rfl (Nat.le_of_ble_eq_true rfl) dX9_areClose_37 (fun q5 => ?_)
      refine g_icmp_eq hC dX9_areClose_40 ?_ ?_
      · refine g_iconst hC dX9_areClose_58 ic_1 ?_
        refine g_goto hC dX9_areClose_59 ?_
        exact g_zret_i hC rfl hT dX9_areClose_63
      · refine g_aload_n hC dX9_areClose_43 (j := 1) rfl rfl ?_
        refine g_iload_n hC dX9_areClose_44 (j := 2) rfl rfl ?_
        refine g_iconst hC dX9_areClose_45 ic_2 ?_
        refine g_callV_i hC hR ⟨Nat.zero_le _, Nat.zero_le _⟩ mwX9_its miX9_its (ci := 9) rfl h_b (Nat.le_of_ble_eq_true rfl) mlX9_79 (fun _ hq => kX9_its hG h_b hq) (Nat.le_of_ble_eq_true rfl) rfl (st := []) rfl (Nat.le_of_ble_eq_true rfl) dX9_areClose_46 (fun q6 => ?_)
        refine g_aload_n hC dX9_areClose_49 (j := 1) rfl rfl ?_
        refine g_iload_n hC dX9_areClose_50 (j := 3) rfl rfl ?_
        refine g_iconst hC dX9_areClose_51 ic_2 ?_
        refine g_callV_i hC hR ⟨Nat.zero_le _, Nat.zero_le _⟩ mwX9_its miX9_its (ci := 9) rfl h_b (Nat.le_of_ble_eq_true rfl) mlX9_79 (fun _ hq => kX9_its hG h_b hq) (Nat.le_of_ble_eq_true rfl) rfl (st := [.int q6]) rfl (Nat.le_of_ble_eq_true rfl) dX9_areClose_52 (fun q7 => ?_)
        refine g_icmp_ne hC dX9_areClose_55 ?_ ?_
        · refine g_iconst hC dX9_areClose_58 ic_1 ?_
          refine g_goto hC dX9_areClose_59 ?_
          exact g_zret_i hC rfl hT dX9_areClose_63
        · refine g_iconst hC dX9_areClose_62 ic_0 ?_
          exact g_zret_i hC rfl hT dX9_areClose_63
def lX9_pileOf_42 (V : V2) (b : Nat) (x8 : Int32) : Nat → Int32 → Int32 → Option (Int32)
  | 0, _, _ => none
  | f10 + 1, x11, x12 =>
    (ldI 572 (V (b + 1)) 0).bind fun t13 =>
    if t13 ≤ x12 then (some x11)
    else (if ((x11 >>> (x8 &&& 31)) &&& 1) = (1 : Int32) then ((pX9_areClose V b x8 x12).bind fun q14 =>
    if q14 = 0 then (letv (x11 ||| 0) fun x15 =>
    letv (x12 + 1) fun x16 =>
    lX9_pileOf_42 V b x8 f10 x15 x16)
    else (letv (x11 ||| (1 <<< (x12 &&& 31))) fun x17 =>
    letv (x12 + 1) fun x18 =>
    lX9_pileOf_42 V b x8 f10 x17 x18))
    else (letv (x11 ||| 0) fun x19 =>
    letv (x12 + 1) fun x20 =>
    lX9_pileOf_42 V b x8 f10 x19 x20))
def lX9_pileOf_28 (n : Nat) (V : V2) (b : Nat) : Nat → Int32 → Int32 → Option (Int32)
  | 0, _, _ => none
  | f6 + 1, x7, x8 =>
    (ldI 572 (V (b + 1)) 0).bind fun t9 =>
    if t9 ≤ x8 then (some x7)
    else ((lX9_pileOf_42 V b x8 n x7 0).bind fun w21 =>
    letv (x8 + 1) fun x22 =>
    lX9_pileOf_28 n V b f6 w21 x22)
def lX9_pileOf_19 (n : Nat) (V : V2) (b : Nat) : Nat → Int32 → Int32 → Option (Int32)
  | 0, _, _ => none
  | f3 + 1, x4, x5 =>
    if (6 : Int32) ≤ x5 then (some x4)
    else ((lX9_pileOf_28 n V b n x4 0).bind fun w23 =>
    letv (x5 + 1) fun x24 =>
    lX9_pileOf_19 n V b f3 w23 x24)
def pX9_pileOf (n : Nat) (V : V2) (b : Nat) (a1 : Int32) : Option (Int32) :=
  (pX9_its V b a1 4).bind fun q1 =>
  letv ((if q1 = 0 then (1 <<< (a1 &&& 31))
  else (0) : Int32)) fun j2 =>
  (lX9_pileOf_19 n V b n j2 0).bind fun w25 =>
  some w25
set_option maxHeartbeats 4000000 in
set_option maxRecDepth 100000 in
theorem wX9_pileOf_42 {C : Cx} (hC : CxOK C cX9_pileOf RX9 (some .int)) (hL : C.2.2.2.2 = 6) {G : G2} {V : V2} {R : R2} {b : Nat} {x5 : Int32} {x8 : Int32} (hG : GX G) (h_b : own G b 19) (hR : C.1.2.2.2.1 = rmN 2 0 0) {o : Int32} (hX : Go C 91 [(0, .ref b), (2, .int o), (3, .int x5), (4, .int x8)] [] V R G 0 0) : ∀ (f : Nat) (x11 : Int32) (x12 : Int32), lX9_pileOf_42 V b x8 f x11 x12 = some o → Go C 42 [(0, .ref b), (2, .int x11), (3, .int x5), (4, .int x8), (5, .int x12)] [] V R G 0 0 := by
  intro f
  induction f with
  | zero => intro _ _ hf; exact absurd hf (by unfold lX9_pileOf_42; exact fun z => nomatch z)
  | succ f10 ih =>
    intro x11 x12
    unfold lX9_pileOf_42
    refine g_iload hC dX9_pileOf_42 (j := 4) rfl ?_
    refine g_aload_n hC dX9_pileOf_44 (j := 0) rfl rfl ?_
    refine g_getR hC fr_9_0 h_b (b := b + 1) rfl dX9_pileOf_45 flX9_7 ?_
    refine g_iconst hC dX9_pileOf_48 ic_0 ?_
    refine g_ialdV hC (gx_9_0 hG h_b) (gl_9_0 hG h_b) dX9_pileOf_49 (fun t13 => ?_)
    refine g_icmp_ge hC dX9_pileOf_50 ?_ ?_
    · refine g_sub [0, 1, 2, 3] rfl ?_
      exact fun e => by cases e; exact hX
    · refine g_iload_n hC dX9_pileOf_53 (j := 1) rfl rfl ?_
      refine g_iload_n hC dX9_pileOf_54 (j := 1) rfl rfl ?_
      refine g_iload hC dX9_pileOf_55 (j := 3) rfl ?_
      refine g_ishr hC dX9_pileOf_57 ?_
      refine g_iconst hC dX9_pileOf_58 ic_1 ?_
      refine g_iand hC dX9_pileOf_59 ?_
      refine g_iconst hC dX9_pileOf_60 ic_1 ?_
      refine g_icmp_ne hC dX9_pileOf_61 ?_ ?_
      · refine g_aload_n hC dX9_pileOf_64 (j := 0) rfl rfl ?_
        refine g_iload hC dX9_pileOf_65 (j := 3) rfl ?_
        refine g_iload hC dX9_pileOf_67 (j := 4) rfl ?_
        refine g_callV_i hC hR ⟨Nat.zero_le _, Nat.zero_le _⟩ mwX9_areClose miX9_areClose (ci := 9) rfl h_b (Nat.le_of_ble_eq_true rfl) mlX9_271 (fun _ hq => kX9_areClose hG h_b hq) (Nat.le_of_ble_eq_true rfl) rfl (st := [.int x11]) rfl (Nat.le_of_ble_eq_true rfl) dX9_pileOf_69 (fun q14 => ?_)
        refine g_if_eq hC dX9_pileOf_72 ?_ ?_
        · refine g_iconst hC dX9_pileOf_82 ic_0 ?_
          refine g_ior hC dX9_pileOf_83 ?_
          refine g_istore_nL hC (n0 := 6) (lv' := fun x15 => [(2, .int x15), (0, .ref b), (3, .int x5), (4, .int x8), (5, .int x12)]) dX9_pileOf_84 rfl (Nat.le_of_ble_eq_true rfl) hL (fun _ => rfl) (fun x15 => ?_)
          refine g_iincL hC (n0 := 6) (j := 4) (lv' := fun x16 => [(5, .int x16), (2, .int x15), (0, .ref b), (3, .int x5), (4, .int x8)]) dX9_pileOf_85 rfl ic_1 (Nat.le_of_ble_eq_true rfl) hL (fun _ => rfl) (fun x16 => ?_)
          refine g_goto hC dX9_pileOf_88 ?_
          refine g_sub [2, 1, 3, 4, 0] rfl ?_
          exact ih x15 x16
        · refine g_iconst hC dX9_pileOf_75 ic_1 ?_
          refine g_iload hC dX9_pileOf_76 (j := 4) rfl ?_
          refine g_ishl hC dX9_pileOf_78 ?_
          refine g_goto hC dX9_pileOf_79 ?_
          refine g_ior hC dX9_pileOf_83 ?_
          refine g_istore_nL hC (n0 := 6) (lv' := fun x17 => [(2, .int x17), (0, .ref b), (3, .int x5), (4, .int x8), (5, .int x12)]) dX9_pileOf_84 rfl (Nat.le_of_ble_eq_true rfl) hL (fun _ => rfl) (fun x17 => ?_)
          refine g_iincL hC (n0 := 6) (j := 4) (lv' := fun x18 => [(5, .int x18), (2, .int x17), (0, .ref b), (3, .int x5), (4, .int x8)]) dX9_pileOf_85 rfl ic_1 (Nat.le_of_ble_eq_true rfl) hL (fun _ => rfl) (fun x18 => ?_)
          refine g_goto hC dX9_pileOf_88 ?_
          refine g_sub [2, 1, 3, 4, 0] rfl ?_
          exact ih x17 x18
      · refine g_iconst hC dX9_pileOf_82 ic_0 ?_
        refine g_ior hC dX9_pileOf_83 ?_
        refine g_istore_nL hC (n0 := 6) (lv' := fun x19 => [(2, .int x19), (0, .ref b), (3, .int x5), (4, .int x8), (5, .int x12)]) dX9_pileOf_84 rfl (Nat.le_of_ble_eq_true rfl) hL (fun _ => rfl) (fun x19 => ?_)
        refine g_iincL hC (n0 := 6) (j := 4) (lv' := fun x20 => [(5, .int x20), (2, .int x19), (0, .ref b), (3, .int x5), (4, .int x8)]) dX9_pileOf_85 rfl ic_1 (Nat.le_of_ble_eq_true rfl) hL (fun _ => rfl) (fun x20 => ?_)
        refine g_goto hC dX9_pileOf_88 ?_
        refine g_sub [2, 1, 3, 4, 0] rfl ?_
        exact ih x19 x20
set_option maxHeartbeats 4000000 in
set_option maxRecDepth 100000 in
theorem wX9_pileOf_28 {C : Cx} (hC : CxOK C cX9_pileOf RX9 (some .int)) (hL : C.2.2.2.2 = 6) {n : Nat} {G : G2} {V : V2} {R : R2} {b : Nat} {x5 : Int32} (hG : GX G) (h_b : own G b 19) (hR : C.1.2.2.2.1 = rmN 2 0 0) {o : Int32} (hX : Go C 97 [(0, .ref b), (2, .int o), (3, .int x5)] [] V R G 0 0) : ∀ (f : Nat) (x7 : Int32) (x8 : Int32), lX9_pileOf_28 n V b f x7 x8 = some o → Go C 28 [(0, .ref b), (2, .int x7), (3, .int x5), (4, .int x8)] [] V R G 0 0 := by
  intro f
  induction f with
  | zero => intro _ _ hf; exact absurd hf (by unfold lX9_pileOf_28; exact fun z => nomatch z)
  | succ f6 ih =>
    intro x7 x8
    unfold lX9_pileOf_28
    refine g_iload hC dX9_pileOf_28 (j := 3) rfl ?_
    refine g_aload_n hC dX9_pileOf_30 (j := 0) rfl rfl ?_
    refine g_getR hC fr_9_0 h_b (b := b + 1) rfl dX9_pileOf_31 flX9_7 ?_
    refine g_iconst hC dX9_pileOf_34 ic_0 ?_
    refine g_ialdV hC (gx_9_0 hG h_b) (gl_9_0 hG h_b) dX9_pileOf_35 (fun t9 => ?_)
    refine g_icmp_ge hC dX9_pileOf_36 ?_ ?_
    · refine g_sub [0, 1, 2] rfl ?_
      exact fun e => by cases e; exact hX
    · refine g_iconst hC dX9_pileOf_39 ic_0 ?_
      refine g_istore hC (n0 := 6) (lv' := [(5, .int 0), (0, .ref b), (2, .int x7), (3, .int x5), (4, .int x8)]) dX9_pileOf_40 (Nat.le_of_ble_eq_true rfl) hL rfl ?_
      refine g_sub [1, 2, 3, 4, 0] rfl ?_
      refine g_bind (J := fun w21 => Go C 91 [(0, .ref b), (2, .int w21), (3, .int x5), (4, .int x8)] [] V R G 0 0) (fun w21 hJ => wX9_pileOf_42 hC hL hG h_b hR hJ n x7 0) (fun w21 => ?_)
      refine g_iincL hC (n0 := 6) (j := 3) (lv' := fun x22 => [(4, .int x22), (0, .ref b), (2, .int w21), (3, .int x5)]) dX9_pileOf_91 rfl ic_1 (Nat.le_of_ble_eq_true rfl) hL (fun _ => rfl) (fun x22 => ?_)
      refine g_goto hC dX9_pileOf_94 ?_
      refine g_sub [1, 2, 3, 0] rfl ?_
      exact ih w21 x22
set_option maxHeartbeats 4000000 in
set_option maxRecDepth 100000 in
theorem wX9_pileOf_19 {C : Cx} (hC : CxOK C cX9_pileOf RX9 (some .int)) (hL : C.2.2.2.2 = 6) {n : Nat} {G : G2} {V : V2} {R : R2} {b : Nat} (hG : GX G) (h_b : own G b 19) (hR : C.1.2.2.2.1 = rmN 2 0 0) {o : Int32} (hX : Go C 103 [(2, .int o)] [] V R G 0 0) : ∀ (f : Nat) (x4 : Int32) (x5 : Int32), lX9_pileOf_19 n V b f x4 x5 = some o → Go C 19 [(0, .ref b), (2, .int x4), (3, .int x5)] [] V R G 0 0 := by
  intro f
  induction f with
  | zero => intro _ _ hf; exact absurd hf (by unfold lX9_pileOf_19; exact fun z => nomatch z)
  | succ f3 ih =>
    intro x4 x5
    unfold lX9_pileOf_19
    refine g_iload_n hC dX9_pileOf_19 (j := 2) rfl rfl ?_
    refine g_bipush hC dX9_pileOf_20 bc_6 ?_
    refine g_icmp_ge hC dX9_pileOf_22 ?_ ?_
    · refine g_sub [1] rfl ?_
      exact fun e => by cases e; exact hX
    · refine g_iconst hC dX9_pileOf_25 ic_0 ?_
      refine g_istore hC (n0 := 6) (lv' := [(4, .int 0), (0, .ref b), (2, .int x4), (3, .int x5)]) dX9_pileOf_26 (Nat.le_of_ble_eq_true rfl) hL rfl ?_
      refine g_sub [1, 2, 3, 0] rfl ?_
      refine g_bind (J := fun w23 => Go C 97 [(0, .ref b), (2, .int w23), (3, .int x5)] [] V R G 0 0) (fun w23 hJ => wX9_pileOf_28 hC hL hG h_b hR hJ n x4 0) (fun w23 => ?_)
      refine g_iincL hC (n0 := 6) (j := 2) (lv' := fun x24 => [(3, .int x24), (0, .ref b), (2, .int w23)]) dX9_pileOf_97 rfl ic_1 (Nat.le_of_ble_eq_true rfl) hL (fun _ => rfl) (fun x24 => ?_)
      refine g_goto hC dX9_pileOf_100 ?_
      refine g_sub [1, 2, 0] rfl ?_
      exact ih w23 x24
set_option maxHeartbeats 4000000 in
set_option maxRecDepth 100000 in
theorem kX9_pileOf {l : Launch} {D : Dx} {G : G2} {V : V2} {R : R2} {n : Nat} {b : Nat} {a1 : Int32} (hG : GX G) (h_b : own G b 19) {o : Int32} (hf : pX9_pileOf n V b a1 = some o) : Con l yX9_pileOf cX9_pileOf 6 (some .int) (rmN 2 0 0) D G V R [.ref b, .int a1] (some (.int o), V, R, G, 0, 0) := by
  refine Con.mk RX9 (by decide) rfl (Nat.le_of_ble_eq_true rfl) (fun C _ hR hT _ _ hL hC hnm => ?_)
  revert hf
  unfold pX9_pileOf
  refine g_aload_n hC dX9_pileOf_0 (j := 0) rfl rfl ?_
  refine g_iload_n hC dX9_pileOf_1 (j := 1) rfl rfl ?_
  refine g_iconst hC dX9_pileOf_2 ic_4 ?_
  refine g_callV_i hC hR ⟨Nat.zero_le _, Nat.zero_le _⟩ mwX9_its miX9_its (ci := 9) rfl h_b (Nat.le_of_ble_eq_true rfl) mlX9_79 (fun _ hq => kX9_its hG h_b hq) (Nat.le_of_ble_eq_true rfl) rfl (st := []) rfl (Nat.le_of_ble_eq_true rfl) dX9_pileOf_3 (fun q1 => ?_)
  refine g_letJ (J := fun j2 => Go C 16 [(0, .ref b)] [.int j2] V R G 0 0) (fun j2 hJ => ?_) (fun j2 => ?_)
  · refine g_if_ne hC dX9_pileOf_6 ?_ ?_
    · refine g_iconst hC dX9_pileOf_9 ic_1 ?_
      refine g_iload_n hC dX9_pileOf_10 (j := 1) rfl rfl ?_
      refine g_ishl hC dX9_pileOf_11 ?_
      refine g_goto hC dX9_pileOf_12 ?_
      refine g_sub [0] rfl ?_
      exact fun e => by cases e; exact hJ
    · refine g_iconst hC dX9_pileOf_15 ic_0 ?_
      refine g_sub [0] rfl ?_
      exact fun e => by cases e; exact hJ
  · refine g_istore_n hC (n0 := 6) (lv' := [(2, .int j2), (0, .ref b)]) dX9_pileOf_16 rfl (Nat.le_of_ble_eq_true rfl) hL rfl ?_
    refine g_iconst hC dX9_pileOf_17 ic_0 ?_
    refine g_istore_n hC (n0 := 6) (lv' := [(3, .int 0), (2, .int j2), (0, .ref b)]) dX9_pileOf_18 rfl (Nat.le_of_ble_eq_true rfl) hL rfl ?_
    refine g_sub [2, 1, 0] rfl ?_
    refine g_bind (J := fun w25 => Go C 103 [(2, .int w25)] [] V R G 0 0) (fun w25 hJ => wX9_pileOf_19 hC hL hG h_b hR hJ n j2 0) (fun w25 => ?_)
    refine g_iload_n hC dX9_pileOf_103 (j := 0) rfl rfl ?_
    exact g_iret_i hC hT dX9_pileOf_104
def lX9_piles_29 (n : Nat) (V : V2) (b : Nat) : Nat → Int32 → Int32 → Option (Int32)
  | 0, _, _ => none
  | f3 + 1, x4, x5 =>
    (ldI 572 (V (b + 1)) 0).bind fun t6 =>
    if t6 ≤ x5 then (some x4)
    else ((pX9_its V b x5 4).bind fun q7 =>
    if q7 = 0 then ((pX9_pileOf n V b x5).bind fun q8 =>
    if (q8 &&& ((1 <<< (x5 &&& 31)) - 1)) = 0 then (letv (x4 + 1) fun x9 =>
    letv (x5 + 1) fun x10 =>
    lX9_piles_29 n V b f3 x9 x10)
    else (letv (x4 + 0) fun x11 =>
    letv (x5 + 1) fun x12 =>
    lX9_piles_29 n V b f3 x11 x12))
    else (letv (x4 + 0) fun x13 =>
    letv (x5 + 1) fun x14 =>
    lX9_piles_29 n V b f3 x13 x14))
def pX9_piles (n : Nat) (V : V2) (b : Nat) (a1 : Int32) : Option (Int32) :=
  letv (fun (u2 : Unit) => (if a1 < 0 then ((lX9_piles_29 n V b n 0 0).bind fun w15 =>
  some w15)
  else ((pX9_pileOf n V b a1).bind fun q16 =>
  some q16))) fun j1 =>
  if a1 = (-1 : Int32) then (j1 ())
  else ((pX9_isOne V b a1).bind fun q17 =>
  if q17 = 0 then (some (-1))
  else (j1 ()))
set_option maxHeartbeats 4000000 in
set_option maxRecDepth 100000 in
theorem wX9_piles_29 {C : Cx} (hC : CxOK C cX9_piles RX9 (some .int)) (hL : C.2.2.2.2 = 4) {n : Nat} {G : G2} {V : V2} {R : R2} {b : Nat} (hG : GX G) (h_b : own G b 19) (hR : C.1.2.2.2.1 = rmN 3 0 0) {o : Int32} (hX : Go C 76 [(2, .int o)] [] V R G 0 0) : ∀ (f : Nat) (x4 : Int32) (x5 : Int32), lX9_piles_29 n V b f x4 x5 = some o → Go C 29 [(0, .ref b), (2, .int x4), (3, .int x5)] [] V R G 0 0 := by
  intro f
  induction f with
  | zero => intro _ _ hf; exact absurd hf (by unfold lX9_piles_29; exact fun z => nomatch z)
  | succ f3 ih =>
    intro x4 x5
    unfold lX9_piles_29
    refine g_iload_n hC dX9_piles_29 (j := 2) rfl rfl ?_
    refine g_aload_n hC dX9_piles_30 (j := 0) rfl rfl ?_
    refine g_getR hC fr_9_0 h_b (b := b + 1) rfl dX9_piles_31 flX9_7 ?_
    refine g_iconst hC dX9_piles_34 ic_0 ?_
    refine g_ialdV hC (gx_9_0 hG h_b) (gl_9_0 hG h_b) dX9_piles_35 (fun t6 => ?_)
    refine g_icmp_ge hC dX9_piles_36 ?_ ?_
    · refine g_sub [1] rfl ?_
      exact fun e => by cases e; exact hX
    · refine g_iload_n hC dX9_piles_39 (j := 1) rfl rfl ?_
      refine g_aload_n hC dX9_piles_40 (j := 0) rfl rfl ?_
      refine g_iload_n hC dX9_piles_41 (j := 2) rfl rfl ?_
      refine g_iconst hC dX9_piles_42 ic_4 ?_
      refine g_callV_i hC hR ⟨Nat.zero_le _, Nat.zero_le _⟩ mwX9_its miX9_its (ci := 9) rfl h_b (Nat.le_of_ble_eq_true rfl) mlX9_79 (fun _ hq => kX9_its hG h_b hq) (Nat.le_of_ble_eq_true rfl) rfl (st := [.int x4]) rfl (Nat.le_of_ble_eq_true rfl) dX9_piles_43 (fun q7 => ?_)
      refine g_if_ne hC dX9_piles_46 ?_ ?_
      · refine g_aload_n hC dX9_piles_49 (j := 0) rfl rfl ?_
        refine g_iload_n hC dX9_piles_50 (j := 2) rfl rfl ?_
        refine g_callV_i hC hR ⟨Nat.zero_le _, Nat.zero_le _⟩ mwX9_pileOf miX9_pileOf (ci := 9) rfl h_b (Nat.le_of_ble_eq_true rfl) mlX9_274 (fun _ hq => kX9_pileOf hG h_b hq) (Nat.le_of_ble_eq_true rfl) rfl (st := [.int x4]) rfl (Nat.le_of_ble_eq_true rfl) dX9_piles_51 (fun q8 => ?_)
        refine g_iconst hC dX9_piles_54 ic_1 ?_
        refine g_iload_n hC dX9_piles_55 (j := 2) rfl rfl ?_
        refine g_ishl hC dX9_piles_56 ?_
        refine g_iconst hC dX9_piles_57 ic_1 ?_
        refine g_isub hC dX9_piles_58 ?_
        refine g_iand hC dX9_piles_59 ?_
        refine g_if_ne hC dX9_piles_60 ?_ ?_
        · refine g_iconst hC dX9_piles_63 ic_1 ?_
          refine g_goto hC dX9_piles_64 ?_
          refine g_iadd hC dX9_piles_68 ?_
          refine g_istore_nL hC (n0 := 4) (lv' := fun x9 => [(2, .int x9), (0, .ref b), (3, .int x5)]) dX9_piles_69 rfl (Nat.le_of_ble_eq_true rfl) hL (fun _ => rfl) (fun x9 => ?_)
          refine g_iincL hC (n0 := 4) (j := 2) (lv' := fun x10 => [(3, .int x10), (2, .int x9), (0, .ref b)]) dX9_piles_70 rfl ic_1 (Nat.le_of_ble_eq_true rfl) hL (fun _ => rfl) (fun x10 => ?_)
          refine g_goto hC dX9_piles_73 ?_
          refine g_sub [2, 1, 0] rfl ?_
          exact ih x9 x10
        · refine g_iconst hC dX9_piles_67 ic_0 ?_
          refine g_iadd hC dX9_piles_68 ?_
          refine g_istore_nL hC (n0 := 4) (lv' := fun x11 => [(2, .int x11), (0, .ref b), (3, .int x5)]) dX9_piles_69 rfl (Nat.le_of_ble_eq_true rfl) hL (fun _ => rfl) (fun x11 => ?_)
          refine g_iincL hC (n0 := 4) (j := 2) (lv' := fun x12 => [(3, .int x12), (2, .int x11), (0, .ref b)]) dX9_piles_70 rfl ic_1 (Nat.le_of_ble_eq_true rfl) hL (fun _ => rfl) (fun x12 => ?_)
          refine g_goto hC dX9_piles_73 ?_
          refine g_sub [2, 1, 0] rfl ?_
          exact ih x11 x12
      · refine g_iconst hC dX9_piles_67 ic_0 ?_
        refine g_iadd hC dX9_piles_68 ?_
        refine g_istore_nL hC (n0 := 4) (lv' := fun x13 => [(2, .int x13), (0, .ref b), (3, .int x5)]) dX9_piles_69 rfl (Nat.le_of_ble_eq_true rfl) hL (fun _ => rfl) (fun x13 => ?_)
        refine g_iincL hC (n0 := 4) (j := 2) (lv' := fun x14 => [(3, .int x14), (2, .int x13), (0, .ref b)]) dX9_piles_70 rfl ic_1 (Nat.le_of_ble_eq_true rfl) hL (fun _ => rfl) (fun x14 => ?_)
        refine g_goto hC dX9_piles_73 ?_
        refine g_sub [2, 1, 0] rfl ?_
        exact ih x13 x14
set_option maxHeartbeats 4000000 in
set_option maxRecDepth 100000 in
theorem kX9_piles {l : Launch} {D : Dx} {G : G2} {V : V2} {R : R2} {n : Nat} {b : Nat} {a1 : Int32} (hG : GX G) (h_b : own G b 19) {o : Int32} (hf : pX9_piles n V b a1 = some o) : Con l yX9_piles cX9_piles 4 (some .int) (rmN 3 0 0) D G V R [.ref b, .int a1] (some (.int o), V, R, G, 0, 0) := by
  refine Con.mk RX9 (by decide) rfl (Nat.le_of_ble_eq_true rfl) (fun C _ hR hT _ _ hL hC hnm => ?_)
  revert hf
  unfold pX9_piles
  refine g_iload_n hC dX9_piles_0 (j := 1) rfl rfl ?_
  refine g_iconst hC dX9_piles_1 ic_m1 ?_
  refine g_jn (J := fun j1 => ∀ (u2 : Unit), j1 u2 = some o → Go C 15 [(0, .ref b), (1, .int a1)] [] V R G 0 0) (fun u2 => ?_) (fun j1 hJ => ?_)
  · refine g_iload_n hC dX9_piles_15 (j := 1) rfl rfl ?_
    refine g_if_lt hC dX9_piles_16 ?_ ?_
    · refine g_iconst hC dX9_piles_25 ic_0 ?_
      refine g_istore_n hC (n0 := 4) (lv' := [(2, .int 0), (0, .ref b), (1, .int a1)]) dX9_piles_26 rfl (Nat.le_of_ble_eq_true rfl) hL rfl ?_
      refine g_iconst hC dX9_piles_27 ic_0 ?_
      refine g_istore_n hC (n0 := 4) (lv' := [(3, .int 0), (2, .int 0), (0, .ref b), (1, .int a1)]) dX9_piles_28 rfl (Nat.le_of_ble_eq_true rfl) hL rfl ?_
      refine g_sub [2, 1, 0] rfl ?_
      refine g_bind (J := fun w15 => Go C 76 [(2, .int w15)] [] V R G 0 0) (fun w15 hJ => wX9_piles_29 hC hL hG h_b hR hJ n 0 0) (fun w15 => ?_)
      refine g_iload_n hC dX9_piles_76 (j := 0) rfl rfl ?_
      exact g_iret_i hC hT dX9_piles_77
    · refine g_aload_n hC dX9_piles_19 (j := 0) rfl rfl ?_
      refine g_iload_n hC dX9_piles_20 (j := 1) rfl rfl ?_
      refine g_callV_i hC hR ⟨Nat.zero_le _, Nat.zero_le _⟩ mwX9_pileOf miX9_pileOf (ci := 9) rfl h_b (Nat.le_of_ble_eq_true rfl) mlX9_274 (fun _ hq => kX9_pileOf hG h_b hq) (Nat.le_of_ble_eq_true rfl) rfl (st := []) rfl (Nat.le_of_ble_eq_true rfl) dX9_piles_21 (fun q16 => ?_)
      exact g_iret_i hC hT dX9_piles_24
  · refine g_icmp_eq hC dX9_piles_2 ?_ ?_
    · exact hJ ()
    · refine g_aload_n hC dX9_piles_5 (j := 0) rfl rfl ?_
      refine g_iload_n hC dX9_piles_6 (j := 1) rfl rfl ?_
      refine g_callV_i hC hR ⟨Nat.zero_le _, Nat.zero_le _⟩ mwX9_isOne miX9_isOne (ci := 9) rfl h_b (Nat.le_of_ble_eq_true rfl) mlX9_120 (fun _ hq => kX9_isOne hG h_b hq) (Nat.le_of_ble_eq_true rfl) rfl (st := []) rfl (Nat.le_of_ble_eq_true rfl) dX9_piles_7 (fun q17 => ?_)
      refine g_if_ne hC dX9_piles_10 ?_ ?_
      · refine g_iconst hC dX9_piles_13 ic_m1 ?_
        exact g_iret_i hC hT dX9_piles_14
      · exact hJ ()
def pX9_isSet (V : V2) (b : Nat) (a1 : Int32) : Option (Int32) :=
  (ldI 572 (V (b + 1)) 0).bind fun t1 =>
  (pX9_isIn a1.toInt64 0 (((1 <<< (t1 &&& 31)) - 1).toInt64)).bind fun q2 =>
  if isb q2 then some q2 else none
set_option maxHeartbeats 4000000 in
set_option maxRecDepth 100000 in
theorem kX9_isSet {l : Launch} {D : Dx} {G : G2} {V : V2} {R : R2} {b : Nat} {a1 : Int32} (hG : GX G) (h_b : own G b 19) {o : Int32} (hf : pX9_isSet V b a1 = some o) : Con l yX9_isSet cX9_isSet 2 (some .boolean) (rmN 1 0 0) D G V R [.ref b, .int a1] (some (.int o), V, R, G, 0, 0) := by
  refine Con.mk RX9 (by decide) rfl (Nat.le_of_ble_eq_true rfl) (fun C _ hR hT _ _ hL hC hnm => ?_)
  revert hf
  unfold pX9_isSet
  refine g_iload_n hC dX9_isSet_0 (j := 1) rfl rfl ?_
  refine g_i2l hC dX9_isSet_1 ?_
  refine g_lconst hC dX9_isSet_2 lc_0 ?_
  refine g_iconst hC dX9_isSet_3 ic_1 ?_
  refine g_aload_n hC dX9_isSet_4 (j := 0) rfl rfl ?_
  refine g_getR hC fr_9_0 h_b (b := b + 1) rfl dX9_isSet_5 flX9_7 ?_
  refine g_iconst hC dX9_isSet_8 ic_0 ?_
  refine g_ialdV hC (gx_9_0 hG h_b) (gl_9_0 hG h_b) dX9_isSet_9 (fun t1 => ?_)
  refine g_ishl hC dX9_isSet_10 ?_
  refine g_iconst hC dX9_isSet_11 ic_1 ?_
  refine g_isub hC dX9_isSet_12 ?_
  refine g_i2l hC dX9_isSet_13 ?_
  refine g_callS_i hC hR ⟨Nat.zero_le _, Nat.zero_le _⟩ mwX9_isIn ms_X9_isIn mlX9_63 (fun _ hq => kX9_isIn  hq) (Nat.le_of_ble_eq_true rfl) rfl (st := []) rfl (Nat.le_of_ble_eq_true rfl) dX9_isSet_14 (fun q2 => ?_)
  refine g_guardb (fun hz3 => ?_)
  exact g_zret_i hC hz3 hT dX9_isSet_17
def lX9_plans_38 (b : Nat) : Nat → V2 → Int32 → Option (V2)
  | 0, _, _ => none
  | f7 + 1, U8, x9 =>
    if (4 : Int32) ≤ x9 then (some U8)
    else ((ldI 4 (U8 (b + 6)) x9).bind fun t10 =>
    (stI 4 U8 (b + 7) x9 t10).bind fun U11 =>
    letv (x9 + 1) fun x12 =>
    lX9_plans_38 b f7 U11 x12)
def lX9_plans_146 (rec : Nat → V2 → Nat → Int32 → Int32 → Int32 → Int32 → Option (V2)) (n : Nat) (b : Nat) (a1 : Int32) (a2 : Int32) (a3 : Int32) (a4 : Int32) : Nat → V2 → Int32 → Option (V2)
  | 0, _, _ => none
  | f22 + 1, U23, x24 =>
    (ldI 572 (U23 (b + 1)) 0).bind fun t25 =>
    if t25 < x24 then (some U23)
    else ((stI 4 U23 (b + 6) a1 x24).bind fun U26 =>
    (pX9_goesWith n U26 b x24).bind fun q27 =>
    letv ((if x24 = 0 then (a4)
    else (a4 + 1) : Int32)) fun j28 =>
    (rec n q27.2 b (a1 + 1) a2 (a3 + q27.1) j28).bind fun q29 =>
    (pX9_laysBack n q29 b a1).bind fun q30 =>
    letv (x24 + 1) fun x31 =>
    lX9_plans_146 rec n b a1 a2 a3 a4 f22 q30 x31)
def fX9_plans (rec : Nat → V2 → Nat → Int32 → Int32 → Int32 → Int32 → Option (V2)) (n : Nat) (V : V2) (b : Nat) (a1 : Int32) (a2 : Int32) (a3 : Int32) (a4 : Int32) : Option (V2) :=
  letv (fun (u2 : Unit) => (((if a3 ≤ (V b 15) then (some V)
  else (letv (up2 V b 15 a3) fun U4 =>
  letv (up2 U4 b 16 0) fun U5 =>
  letv (up2 U5 b 17 a1) fun U6 =>
  (lX9_plans_38 b n U6 0).bind fun w13 =>
  some w13) : Option (V2))).bind fun j3 =>
  letv ((if a3 = (j3 b 15) then (1)
  else (0) : Int32)) fun j14 =>
  letv (up2 j3 b 16 ((j3 b 16) + j14)) fun U15 =>
  (pX9_flatOnes n U15 b).bind fun q16 =>
  letv (up2 U15 b 20 ((U15 b 20) ||| q16)) fun U17 =>
  letv ((if ((U17 b 18) &&& (q16 ^^^ (-1))) = 0 then (if (U17 b 19) ≤ a4 then (U17 b 19)
  else (a4))
  else (U17 b 19) : Int32)) fun j18 =>
  letv (up2 U17 b 19 j18) fun U19 =>
  some U19)) fun j1 =>
  if a1 = a2 then (j1 ())
  else ((pX9_isOver V b).bind fun q20 =>
  if q20 = 0 then ((pX9_laysAside n V b a1).bind fun q21 =>
  (lX9_plans_146 rec n b a1 a2 a3 a4 n q21 0).bind fun w32 =>
  some w32)
  else (j1 ()))
set_option maxHeartbeats 4000000 in
set_option maxRecDepth 100000 in
theorem wX9_plans_38 {C : Cx} (hC : CxOK C cX9_plans RX9 none) (hL : C.2.2.2.2 = 7) {G : G2} {R : R2} {b : Nat} {a3 : Int32} {a4 : Int32} (hG : GX G) (h_b : own G b 19) {o : V2} (hX : Go C 64 [(0, .ref b), (3, .int a3), (4, .int a4)] [] o R G 0 0) : ∀ (f : Nat) (U8 : V2) (x9 : Int32), lX9_plans_38 b f U8 x9 = some o → Go C 38 [(0, .ref b), (3, .int a3), (4, .int a4), (5, .int x9)] [] U8 R G 0 0 := by
  intro f
  induction f with
  | zero => intro _ _ hf; exact absurd hf (by unfold lX9_plans_38; exact fun z => nomatch z)
  | succ f7 ih =>
    intro U8 x9
    unfold lX9_plans_38
    refine g_iload hC dX9_plans_38 (j := 3) rfl ?_
    refine g_iconst hC dX9_plans_40 ic_4 ?_
    refine g_icmp_ge hC dX9_plans_41 ?_ ?_
    · refine g_sub [0, 1, 2] rfl ?_
      exact fun e => by cases e; exact hX
    · refine g_aload_n hC dX9_plans_44 (j := 0) rfl rfl ?_
      refine g_getR hC fr_9_14 h_b (b := b + 7) rfl dX9_plans_45 flX9_28 ?_
      refine g_iload hC dX9_plans_48 (j := 3) rfl ?_
      refine g_aload_n hC dX9_plans_50 (j := 0) rfl rfl ?_
      refine g_getR hC fr_9_13 h_b (b := b + 6) rfl dX9_plans_51 flX9_25 ?_
      refine g_iload hC dX9_plans_54 (j := 3) rfl ?_
      refine g_ialdV hC (gx_9_13 hG h_b) (gl_9_13 hG h_b) dX9_plans_56 (fun t10 => ?_)
      refine g_iastV hC (gx_9_14 hG h_b) (gl_9_14 hG h_b) dX9_plans_57 (fun U11 => ?_)
      refine g_iincL hC (n0 := 7) (j := 3) (lv' := fun x12 => [(5, .int x12), (0, .ref b), (3, .int a3), (4, .int a4)]) dX9_plans_58 rfl ic_1 (Nat.le_of_ble_eq_true rfl) hL (fun _ => rfl) (fun x12 => ?_)
      refine g_goto hC dX9_plans_61 ?_
      refine g_sub [1, 2, 3, 0] rfl ?_
      exact ih U11 x12
set_option maxHeartbeats 4000000 in
set_option maxRecDepth 100000 in
theorem wX9_plans_146 {C : Cx} (hC : CxOK C cX9_plans RX9 none) (hL : C.2.2.2.2 = 7) {rec : Nat → V2 → Nat → Int32 → Int32 → Int32 → Int32 → Option (V2)} {N : Nat} {n : Nat} {G : G2} {R : R2} {b : Nat} {a1 : Int32} {a2 : Int32} {a3 : Int32} {a4 : Int32} (hrec : ∀ {l : Launch} {D : Dx} {G : G2} {V : V2} {R : R2} {n : Nat} {b : Nat} {a1 : Int32} {a2 : Int32} {a3 : Int32} {a4 : Int32} (hG : GX G) (h_b : own G b 19) {o : V2}, rec n V b a1 a2 a3 a4 = some o → Con l yX9_plans cX9_plans 7 none (rmN N 0 0) D G V R [.ref b, .int a1, .int a2, .int a3, .int a4] (none, o, R, G, 0, 0)) (hN : 5 ≤ N) (hG : GX G) (h_b : own G b 19) (hR : C.1.2.2.2.1 = rmN (N + 1) 0 0) {o : V2} (hX : Go C 210 [] [] o R G 0 0) : ∀ (f : Nat) (U23 : V2) (x24 : Int32), lX9_plans_146 rec n b a1 a2 a3 a4 f U23 x24 = some o → Go C 146 [(0, .ref b), (1, .int a1), (2, .int a2), (3, .int a3), (4, .int a4), (5, .int x24)] [] U23 R G 0 0 := by
  intro f
  induction f with
  | zero => intro _ _ hf; exact absurd hf (by unfold lX9_plans_146; exact fun z => nomatch z)
  | succ f22 ih =>
    intro U23 x24
    unfold lX9_plans_146
    refine g_iload hC dX9_plans_146 (j := 5) rfl ?_
    refine g_aload_n hC dX9_plans_148 (j := 0) rfl rfl ?_
    refine g_getR hC fr_9_0 h_b (b := b + 1) rfl dX9_plans_149 flX9_7 ?_
    refine g_iconst hC dX9_plans_152 ic_0 ?_
    refine g_ialdV hC (gx_9_0 hG h_b) (gl_9_0 hG h_b) dX9_plans_153 (fun t25 => ?_)
    refine g_icmp_gt hC dX9_plans_154 ?_ ?_
    · refine g_sub [] rfl ?_
      exact fun e => by cases e; exact hX
    · refine g_aload_n hC dX9_plans_157 (j := 0) rfl rfl ?_
      refine g_getR hC fr_9_13 h_b (b := b + 6) rfl dX9_plans_158 flX9_25 ?_
      refine g_iload_n hC dX9_plans_161 (j := 1) rfl rfl ?_
      refine g_iload hC dX9_plans_162 (j := 5) rfl ?_
      refine g_iastV hC (gx_9_13 hG h_b) (gl_9_13 hG h_b) dX9_plans_164 (fun U26 => ?_)
      refine g_aload_n hC dX9_plans_165 (j := 0) rfl rfl ?_
      refine g_iload hC dX9_plans_166 (j := 5) rfl ?_
      refine g_callV_iV hC hR ⟨Nat.zero_le _, Nat.zero_le _⟩ mwX9_goesWith miX9_goesWith (ci := 9) rfl h_b (Nat.le_of_ble_eq_true rfl) mlX9_255 (fun _ hq => kX9_goesWith hG h_b hq) (by have := hN; omega) rfl (st := []) rfl (Nat.le_of_ble_eq_true rfl) dX9_plans_168 (fun q27 => ?_)
      refine g_istore hC (n0 := 7) (lv' := [(6, .int q27.1), (0, .ref b), (1, .int a1), (2, .int a2), (3, .int a3), (4, .int a4), (5, .int x24)]) dX9_plans_171 (Nat.le_of_ble_eq_true rfl) hL rfl ?_
      refine g_aload_n hC dX9_plans_173 (j := 1) rfl rfl ?_
      refine g_iload_n hC dX9_plans_174 (j := 2) rfl rfl ?_
      refine g_iconst hC dX9_plans_175 ic_1 ?_
      refine g_iadd hC dX9_plans_176 ?_
      refine g_iload_n hC dX9_plans_177 (j := 3) rfl rfl ?_
      refine g_iload_n hC dX9_plans_178 (j := 4) rfl rfl ?_
      refine g_iload hC dX9_plans_179 (j := 0) rfl ?_
      refine g_iadd hC dX9_plans_181 ?_
      refine g_iload hC dX9_plans_182 (j := 6) rfl ?_
      refine g_letJ (J := fun j28 => Go C 196 [(0, .ref b), (1, .int a1), (2, .int a2), (3, .int a3), (4, .int a4), (5, .int x24)] [.int j28, .int (a3 + q27.1), .int a2, .int (a1 + 1), .ref b] q27.2 R G 0 0) (fun j28 hJ => ?_) (fun j28 => ?_)
      · refine g_if_ne hC dX9_plans_184 ?_ ?_
        · refine g_iload hC dX9_plans_187 (j := 5) rfl ?_
          refine g_goto hC dX9_plans_189 ?_
          refine g_sub [1, 2, 3, 4, 5, 6] rfl ?_
          exact fun e => by cases e; exact hJ
        · refine g_iload hC dX9_plans_192 (j := 5) rfl ?_
          refine g_iconst hC dX9_plans_194 ic_1 ?_
          refine g_iadd hC dX9_plans_195 ?_
          refine g_sub [1, 2, 3, 4, 5, 6] rfl ?_
          exact fun e => by cases e; exact hJ
      · refine g_callV_vV hC hR ⟨Nat.zero_le _, Nat.zero_le _⟩ mwX9_plans miX9_plans (ci := 9) rfl h_b (Nat.le_of_ble_eq_true rfl) mlX9_295 (fun _ hq => hrec hG h_b hq) (by have := hN; omega) rfl (st := []) rfl (Nat.le_of_ble_eq_true rfl) dX9_plans_196 (fun q29 => ?_)
        refine g_aload_n hC dX9_plans_199 (j := 0) rfl rfl ?_
        refine g_iload_n hC dX9_plans_200 (j := 1) rfl rfl ?_
        refine g_callV_vV hC hR ⟨Nat.zero_le _, Nat.zero_le _⟩ mwX9_laysBack miX9_laysBack (ci := 9) rfl h_b (Nat.le_of_ble_eq_true rfl) mlX9_262 (fun _ hq => kX9_laysBack hG h_b hq) (by have := hN; omega) rfl (st := []) rfl (Nat.le_of_ble_eq_true rfl) dX9_plans_201 (fun q30 => ?_)
        refine g_iincL hC (n0 := 7) (j := 5) (lv' := fun x31 => [(5, .int x31), (0, .ref b), (1, .int a1), (2, .int a2), (3, .int a3), (4, .int a4)]) dX9_plans_204 rfl ic_1 (Nat.le_of_ble_eq_true rfl) hL (fun _ => rfl) (fun x31 => ?_)
        refine g_goto hC dX9_plans_207 ?_
        refine g_sub [1, 2, 3, 4, 5, 0] rfl ?_
        exact ih q30 x31
set_option maxHeartbeats 4000000 in
set_option maxRecDepth 100000 in
theorem kfX9_plans {l : Launch} {D : Dx} {G : G2} {V : V2} {R : R2} {rec : Nat → V2 → Nat → Int32 → Int32 → Int32 → Int32 → Option (V2)} {N : Nat} {n : Nat} {b : Nat} {a1 : Int32} {a2 : Int32} {a3 : Int32} {a4 : Int32} (hrec : ∀ {l : Launch} {D : Dx} {G : G2} {V : V2} {R : R2} {n : Nat} {b : Nat} {a1 : Int32} {a2 : Int32} {a3 : Int32} {a4 : Int32} (hG : GX G) (h_b : own G b 19) {o : V2}, rec n V b a1 a2 a3 a4 = some o → Con l yX9_plans cX9_plans 7 none (rmN N 0 0) D G V R [.ref b, .int a1, .int a2, .int a3, .int a4] (none, o, R, G, 0, 0)) (hN : 5 ≤ N) (hG : GX G) (h_b : own G b 19) {o : V2} (hf : fX9_plans rec n V b a1 a2 a3 a4 = some o) : Con l yX9_plans cX9_plans 7 none (rmN (N + 1) 0 0) D G V R [.ref b, .int a1, .int a2, .int a3, .int a4] (none, o, R, G, 0, 0) := by
  refine Con.mk RX9 (by decide) rfl (Nat.le_of_ble_eq_true rfl) (fun C _ hR hT _ _ hL hC hnm => ?_)
  revert hf
  unfold fX9_plans
  refine g_iload_n hC dX9_plans_0 (j := 1) rfl rfl ?_
  refine g_iload_n hC dX9_plans_1 (j := 2) rfl rfl ?_
  refine g_jn (J := fun j1 => ∀ (u2 : Unit), j1 u2 = some o → Go C 12 [(0, .ref b), (1, .int a1), (3, .int a3), (4, .int a4)] [] V R G 0 0) (fun u2 => ?_) (fun j1 hJ => ?_)
  · refine g_iload_n hC dX9_plans_12 (j := 2) rfl rfl ?_
    refine g_aload_n hC dX9_plans_13 (j := 0) rfl rfl ?_
    refine g_getI hC fi_9_15 h_b dX9_plans_14 flX9_277 ?_
    refine g_bind (J := fun j3 => Go C 64 [(0, .ref b), (3, .int a3), (4, .int a4)] [] j3 R G 0 0) (fun j3 hJ => ?_) (fun j3 => ?_)
    · refine g_icmp_le hC dX9_plans_17 ?_ ?_
      · refine g_sub [0, 2, 3] rfl ?_
        exact fun e => by cases e; exact hJ
      · refine g_aload_n hC dX9_plans_20 (j := 0) rfl rfl ?_
        refine g_iload_n hC dX9_plans_21 (j := 2) rfl rfl ?_
        refine g_putIL hC fp_9_15 h_b dX9_plans_22 flX9_277 (fun U4 => ?_)
        refine g_aload_n hC dX9_plans_25 (j := 0) rfl rfl ?_
        refine g_iconst hC dX9_plans_26 ic_0 ?_
        refine g_putIL hC fp_9_16 h_b dX9_plans_27 flX9_280 (fun U5 => ?_)
        refine g_aload_n hC dX9_plans_30 (j := 0) rfl rfl ?_
        refine g_iload_n hC dX9_plans_31 (j := 1) rfl rfl ?_
        refine g_putIL hC fp_9_17 h_b dX9_plans_32 flX9_283 (fun U6 => ?_)
        refine g_iconst hC dX9_plans_35 ic_0 ?_
        refine g_istore hC (n0 := 7) (lv' := [(5, .int 0), (0, .ref b), (1, .int a1), (3, .int a3), (4, .int a4)]) dX9_plans_36 (Nat.le_of_ble_eq_true rfl) hL rfl ?_
        refine g_sub [1, 3, 4, 0] rfl ?_
        refine g_bind (J := fun w13 => Go C 64 [(0, .ref b), (3, .int a3), (4, .int a4)] [] w13 R G 0 0) (fun w13 hJ => wX9_plans_38 hC hL hG h_b hJ n U6 0) (fun w13 => ?_)
        exact fun e => by cases e; exact hJ
    · refine g_aload_n hC dX9_plans_64 (j := 0) rfl rfl ?_
      refine g_dup hC dX9_plans_65 rfl ?_
      refine g_getI hC fi_9_16 h_b dX9_plans_66 flX9_280 ?_
      refine g_iload_n hC dX9_plans_69 (j := 1) rfl rfl ?_
      refine g_aload_n hC dX9_plans_70 (j := 0) rfl rfl ?_
      refine g_getI hC fi_9_15 h_b dX9_plans_71 flX9_277 ?_
      refine g_letJ (J := fun j14 => Go C 82 [(0, .ref b), (4, .int a4)] [.int j14, .int (j3 b 16), .ref b] j3 R G 0 0) (fun j14 hJ => ?_) (fun j14 => ?_)
      · refine g_icmp_ne hC dX9_plans_74 ?_ ?_
        · refine g_iconst hC dX9_plans_77 ic_1 ?_
          refine g_goto hC dX9_plans_78 ?_
          refine g_sub [0, 2] rfl ?_
          exact fun e => by cases e; exact hJ
        · refine g_iconst hC dX9_plans_81 ic_0 ?_
          refine g_sub [0, 2] rfl ?_
          exact fun e => by cases e; exact hJ
      · refine g_iadd hC dX9_plans_82 ?_
        refine g_putIL hC fp_9_16 h_b dX9_plans_83 flX9_280 (fun U15 => ?_)
        refine g_aload_n hC dX9_plans_86 (j := 0) rfl rfl ?_
        refine g_callV_i hC hR ⟨Nat.zero_le _, Nat.zero_le _⟩ mwX9_flatOnes miX9_flatOnes (ci := 9) rfl h_b (Nat.le_of_ble_eq_true rfl) mlX9_145 (fun _ hq => kX9_flatOnes hG h_b hq) (by have := hN; omega) rfl (st := []) rfl (Nat.le_of_ble_eq_true rfl) dX9_plans_87 (fun q16 => ?_)
        refine g_istore hC (n0 := 7) (lv' := [(5, .int q16), (0, .ref b), (4, .int a4)]) dX9_plans_90 (Nat.le_of_ble_eq_true rfl) hL rfl ?_
        refine g_aload_n hC dX9_plans_92 (j := 1) rfl rfl ?_
        refine g_dup hC dX9_plans_93 rfl ?_
        refine g_getI hC fi_9_20 h_b dX9_plans_94 flX9_286 ?_
        refine g_iload hC dX9_plans_97 (j := 0) rfl ?_
        refine g_ior hC dX9_plans_99 ?_
        refine g_putIL hC fp_9_20 h_b dX9_plans_100 flX9_286 (fun U17 => ?_)
        refine g_aload_n hC dX9_plans_103 (j := 1) rfl rfl ?_
        refine g_aload_n hC dX9_plans_104 (j := 1) rfl rfl ?_
        refine g_getI hC fi_9_18 h_b dX9_plans_105 flX9_289 ?_
        refine g_iload hC dX9_plans_108 (j := 0) rfl ?_
        refine g_iconst hC dX9_plans_110 ic_m1 ?_
        refine g_ixor hC dX9_plans_111 ?_
        refine g_iand hC dX9_plans_112 ?_
        refine g_letJ (J := fun j18 => Go C 134 [] [.int j18, .ref b] U17 R G 0 0) (fun j18 hJ => ?_) (fun j18 => ?_)
        · refine g_if_ne hC dX9_plans_113 ?_ ?_
          · refine g_iload hC dX9_plans_116 (j := 2) rfl ?_
            refine g_aload_n hC dX9_plans_118 (j := 1) rfl rfl ?_
            refine g_getI hC fi_9_19 h_b dX9_plans_119 flX9_292 ?_
            refine g_icmp_ge hC dX9_plans_122 ?_ ?_
            · refine g_aload_n hC dX9_plans_130 (j := 1) rfl rfl ?_
              refine g_getI hC fi_9_19 h_b dX9_plans_131 flX9_292 ?_
              refine g_sub [] rfl ?_
              exact fun e => by cases e; exact hJ
            · refine g_iload hC dX9_plans_125 (j := 2) rfl ?_
              refine g_goto hC dX9_plans_127 ?_
              refine g_sub [] rfl ?_
              exact fun e => by cases e; exact hJ
          · refine g_aload_n hC dX9_plans_130 (j := 1) rfl rfl ?_
            refine g_getI hC fi_9_19 h_b dX9_plans_131 flX9_292 ?_
            refine g_sub [] rfl ?_
            exact fun e => by cases e; exact hJ
        · refine g_putIL hC fp_9_19 h_b dX9_plans_134 flX9_292 (fun U19 => ?_)
          exact g_vret_vV hC hT dX9_plans_137
  · refine g_icmp_eq hC dX9_plans_2 ?_ ?_
    · refine g_sub [0, 1, 3, 4] rfl ?_
      exact hJ ()
    · refine g_aload_n hC dX9_plans_5 (j := 0) rfl rfl ?_
      refine g_callV_i hC hR ⟨Nat.zero_le _, Nat.zero_le _⟩ mwX9_isOver miX9_isOver (ci := 9) rfl h_b (Nat.le_of_ble_eq_true rfl) mlX9_141 (fun _ hq => kX9_isOver hG h_b hq) (by have := hN; omega) rfl (st := []) rfl (Nat.le_of_ble_eq_true rfl) dX9_plans_6 (fun q20 => ?_)
      refine g_if_eq hC dX9_plans_9 ?_ ?_
      · refine g_aload_n hC dX9_plans_138 (j := 0) rfl rfl ?_
        refine g_iload_n hC dX9_plans_139 (j := 1) rfl rfl ?_
        refine g_callV_vV hC hR ⟨Nat.zero_le _, Nat.zero_le _⟩ mwX9_laysAside miX9_laysAside (ci := 9) rfl h_b (Nat.le_of_ble_eq_true rfl) mlX9_258 (fun _ hq => kX9_laysAside hG h_b hq) (by have := hN; omega) rfl (st := []) rfl (Nat.le_of_ble_eq_true rfl) dX9_plans_140 (fun q21 => ?_)
        refine g_iconst hC dX9_plans_143 ic_0 ?_
        refine g_istore hC (n0 := 7) (lv' := [(5, .int 0), (0, .ref b), (1, .int a1), (2, .int a2), (3, .int a3), (4, .int a4)]) dX9_plans_144 (Nat.le_of_ble_eq_true rfl) hL rfl ?_
        refine g_sub [1, 2, 3, 4, 5, 0] rfl ?_
        refine g_bind (J := fun w32 => Go C 210 [] [] w32 R G 0 0) (fun w32 hJ => wX9_plans_146 hC hL hrec hN hG h_b hR hJ n q21 0) (fun w32 => ?_)
        exact g_vret_vV hC hT dX9_plans_210
      · refine g_sub [0, 1, 3, 4] rfl ?_
        exact hJ ()
def pX9_plans : Nat → Nat → V2 → Nat → Int32 → Int32 → Int32 → Int32 → Option (V2)
  | 0 => fun _ _ _ _ _ _ _ => none
  | d + 1 => fX9_plans (pX9_plans d)
theorem kX9_plans : ∀ (d : Nat) {l : Launch} {D : Dx} {G : G2} {V : V2} {R : R2} {n : Nat} {b : Nat} {a1 : Int32} {a2 : Int32} {a3 : Int32} {a4 : Int32} (hG : GX G) (h_b : own G b 19) {o : V2}, pX9_plans d n V b a1 a2 a3 a4 = some o → Con l yX9_plans cX9_plans 7 none (rmN (5 + 1 * d) 0 0) D G V R [.ref b, .int a1, .int a2, .int a3, .int a4] (none, o, R, G, 0, 0) := by
  intro d
  induction d with
  | zero => intro _ _ _ _ _ _ _ _ _ _ _ _ _ _ hf; exact absurd hf (by unfold pX9_plans; exact fun z => nomatch z)
  | succ d ih =>
    intro l D G V R _ _ _ _ _ _ hG h_b _ hf
    have := kfX9_plans (l := l) (D := D) (V := V) (R := R) (N := 5 + 1 * d) ih (by omega) hG h_b hf
    rw [show 5 + 1 * (d + 1) = 5 + 1 * d + 1 by omega]
    exact this
def pX9_findsPlans (n : Nat) (V : V2) (b : Nat) (a1 : Int32) (a2 : Int32) : Option (V2) :=
  letv (up2 V b 15 (-1)) fun U1 =>
  letv (up2 U1 b 16 0) fun U2 =>
  letv (up2 U2 b 17 0) fun U3 =>
  letv (up2 U3 b 18 a2) fun U4 =>
  letv (up2 U4 b 19 9) fun U5 =>
  letv (up2 U5 b 20 0) fun U6 =>
  (pX9_plans 6 n U6 b 0 a1 0 0).bind fun q7 =>
  some q7
set_option maxHeartbeats 4000000 in
set_option maxRecDepth 100000 in
theorem kX9_findsPlans {l : Launch} {D : Dx} {G : G2} {V : V2} {R : R2} {n : Nat} {b : Nat} {a1 : Int32} {a2 : Int32} (hG : GX G) (h_b : own G b 19) {o : V2} (hf : pX9_findsPlans n V b a1 a2 = some o) : Con l yX9_findsPlans cX9_findsPlans 3 none (rmN 12 0 0) D G V R [.ref b, .int a1, .int a2] (none, o, R, G, 0, 0) := by
  refine Con.mk RX9 (by decide) rfl (Nat.le_of_ble_eq_true rfl) (fun C _ hR hT _ _ hL hC hnm => ?_)
  revert hf
  unfold pX9_findsPlans
  refine g_aload_n hC dX9_findsPlans_0 (j := 0) rfl rfl ?_
  refine g_iconst hC dX9_findsPlans_1 ic_m1 ?_
  refine g_putIL hC fp_9_15 h_b dX9_findsPlans_2 flX9_277 (fun U1 => ?_)
  refine g_aload_n hC dX9_findsPlans_5 (j := 0) rfl rfl ?_
  refine g_iconst hC dX9_findsPlans_6 ic_0 ?_
  refine g_putIL hC fp_9_16 h_b dX9_findsPlans_7 flX9_280 (fun U2 => ?_)
  refine g_aload_n hC dX9_findsPlans_10 (j := 0) rfl rfl ?_
  refine g_iconst hC dX9_findsPlans_11 ic_0 ?_
  refine g_putIL hC fp_9_17 h_b dX9_findsPlans_12 flX9_283 (fun U3 => ?_)
  refine g_aload_n hC dX9_findsPlans_15 (j := 0) rfl rfl ?_
  refine g_iload_n hC dX9_findsPlans_16 (j := 2) rfl rfl ?_
  refine g_putIL hC fp_9_18 h_b dX9_findsPlans_17 flX9_289 (fun U4 => ?_)
  refine g_aload_n hC dX9_findsPlans_20 (j := 0) rfl rfl ?_
  refine g_bipush hC dX9_findsPlans_21 bc_9 ?_
  refine g_putIL hC fp_9_19 h_b dX9_findsPlans_23 flX9_292 (fun U5 => ?_)
  refine g_aload_n hC dX9_findsPlans_26 (j := 0) rfl rfl ?_
  refine g_iconst hC dX9_findsPlans_27 ic_0 ?_
  refine g_putIL hC fp_9_20 h_b dX9_findsPlans_28 flX9_286 (fun U6 => ?_)
  refine g_aload_n hC dX9_findsPlans_31 (j := 0) rfl rfl ?_
  refine g_iconst hC dX9_findsPlans_32 ic_0 ?_
  refine g_iload_n hC dX9_findsPlans_33 (j := 1) rfl rfl ?_
  refine g_iconst hC dX9_findsPlans_34 ic_0 ?_
  refine g_iconst hC dX9_findsPlans_35 ic_0 ?_
  refine g_callV_vV hC hR ⟨Nat.zero_le _, Nat.zero_le _⟩ mwX9_plans miX9_plans (ci := 9) rfl h_b (Nat.le_of_ble_eq_true rfl) mlX9_295 (fun _ hq => kX9_plans 6 hG h_b hq) (Nat.le_of_ble_eq_true rfl) rfl (st := []) rfl (Nat.le_of_ble_eq_true rfl) dX9_findsPlans_36 (fun q7 => ?_)
  exact g_vret_vV hC hT dX9_findsPlans_39
def pX9_isLong (a1 : Int32) : Option (Int32) :=
  (pX9_isIn a1.toInt64 0 4).bind fun q1 =>
  if isb q1 then some q1 else none
set_option maxHeartbeats 4000000 in
set_option maxRecDepth 100000 in
theorem kX9_isLong {l : Launch} {D : Dx} {G : G2} {V : V2} {R : R2} {a1 : Int32}  {o : Int32} (hf : pX9_isLong a1 = some o) : Con l yX9_isLong cX9_isLong 1 (some .boolean) (rmN 1 0 0) D G V R [.int a1] (some (.int o), V, R, G, 0, 0) := by
  refine Con.mk RX9 (by decide) rfl (Nat.le_of_ble_eq_true rfl) (fun C _ hR hT _ _ hL hC hnm => ?_)
  revert hf
  unfold pX9_isLong
  refine g_iload_n hC dX9_isLong_0 (j := 0) rfl rfl ?_
  refine g_i2l hC dX9_isLong_1 ?_
  refine g_lconst hC dX9_isLong_2 lc_0 ?_
  refine g_ldc2 hC dX9_isLong_3 clX9_129 ?_
  refine g_callS_i hC hR ⟨Nat.zero_le _, Nat.zero_le _⟩ mwX9_isIn ms_X9_isIn mlX9_63 (fun _ hq => kX9_isIn  hq) (Nat.le_of_ble_eq_true rfl) rfl (st := []) rfl (Nat.le_of_ble_eq_true rfl) dX9_isLong_6 (fun q1 => ?_)
  refine g_guardb (fun hz2 => ?_)
  exact g_zret_i hC hz2 hT dX9_isLong_9
def pX9_best (n : Nat) (V : V2) (b : Nat) (a1 : Int32) : Option (Int32 × V2) :=
  (pX9_isLong a1).bind fun q1 =>
  if q1 = 0 then (some ((-1), V))
  else ((pX9_findsPlans n V b a1 0).bind fun q2 =>
  some (q2 b 15, q2))
set_option maxHeartbeats 4000000 in
set_option maxRecDepth 100000 in
theorem kX9_best {l : Launch} {D : Dx} {G : G2} {V : V2} {R : R2} {n : Nat} {b : Nat} {a1 : Int32} (hG : GX G) (h_b : own G b 19) {o : Int32 × V2} (hf : pX9_best n V b a1 = some o) : Con l yX9_best cX9_best 2 (some .int) (rmN 13 0 0) D G V R [.ref b, .int a1] (some (.int o.1), o.2, R, G, 0, 0) := by
  refine Con.mk RX9 (by decide) rfl (Nat.le_of_ble_eq_true rfl) (fun C _ hR hT _ _ hL hC hnm => ?_)
  revert hf
  unfold pX9_best
  refine g_iload_n hC dX9_best_0 (j := 1) rfl rfl ?_
  refine g_callS_i hC hR ⟨Nat.zero_le _, Nat.zero_le _⟩ mwX9_isLong ms_X9_isLong mlX9_299 (fun _ hq => kX9_isLong  hq) (Nat.le_of_ble_eq_true rfl) rfl (st := []) rfl (Nat.le_of_ble_eq_true rfl) dX9_best_1 (fun q1 => ?_)
  refine g_if_ne hC dX9_best_4 ?_ ?_
  · refine g_iconst hC dX9_best_7 ic_m1 ?_
    exact g_iret_iV hC hT dX9_best_8
  · refine g_aload_n hC dX9_best_9 (j := 0) rfl rfl ?_
    refine g_iload_n hC dX9_best_10 (j := 1) rfl rfl ?_
    refine g_iconst hC dX9_best_11 ic_0 ?_
    refine g_callV_vV hC hR ⟨Nat.zero_le _, Nat.zero_le _⟩ mwX9_findsPlans miX9_findsPlans (ci := 9) rfl h_b (Nat.le_of_ble_eq_true rfl) mlX9_302 (fun _ hq => kX9_findsPlans hG h_b hq) (Nat.le_of_ble_eq_true rfl) rfl (st := []) rfl (Nat.le_of_ble_eq_true rfl) dX9_best_12 (fun q2 => ?_)
    refine g_aload_n hC dX9_best_15 (j := 0) rfl rfl ?_
    refine g_getI hC fi_9_15 h_b dX9_best_16 flX9_277 ?_
    exact g_iret_iV hC hT dX9_best_19
def pX9_ith (n : Nat) (V : V2) (b : Nat) (a1 : Int32) (a2 : Int32) : Option (Int32 × V2) :=
  (pX9_isLong a1).bind fun q1 =>
  if q1 = 0 then (some ((-1), V))
  else ((pX9_isIn a2.toInt64 0 3).bind fun q2 =>
  if q2 = 0 then (some ((-1), V))
  else ((pX9_findsPlans n V b a1 0).bind fun q3 =>
  if (q3 b 17) ≤ a2 then (some ((-3), q3))
  else ((ldI 4 (q3 (b + 7)) a2).bind fun t4 =>
  some (t4, q3))))
set_option maxHeartbeats 4000000 in
set_option maxRecDepth 100000 in
theorem kX9_ith {l : Launch} {D : Dx} {G : G2} {V : V2} {R : R2} {n : Nat} {b : Nat} {a1 : Int32} {a2 : Int32} (hG : GX G) (h_b : own G b 19) {o : Int32 × V2} (hf : pX9_ith n V b a1 a2 = some o) : Con l yX9_ith cX9_ith 3 (some .int) (rmN 13 0 0) D G V R [.ref b, .int a1, .int a2] (some (.int o.1), o.2, R, G, 0, 0) := by
  refine Con.mk RX9 (by decide) rfl (Nat.le_of_ble_eq_true rfl) (fun C _ hR hT _ _ hL hC hnm => ?_)
  revert hf
  unfold pX9_ith
  refine g_iload_n hC dX9_ith_0 (j := 1) rfl rfl ?_
  refine g_callS_i hC hR ⟨Nat.zero_le _, Nat.zero_le _⟩ mwX9_isLong ms_X9_isLong mlX9_299 (fun _ hq => kX9_isLong  hq) (Nat.le_of_ble_eq_true rfl) rfl (st := []) rfl (Nat.le_of_ble_eq_true rfl) dX9_ith_1 (fun q1 => ?_)
  refine g_if_eq hC dX9_ith_4 ?_ ?_
  · refine g_iconst hC dX9_ith_19 ic_m1 ?_
    exact g_iret_iV hC hT dX9_ith_20
  · refine g_iload_n hC dX9_ith_7 (j := 2) rfl rfl ?_
    refine g_i2l hC dX9_ith_8 ?_
    refine g_lconst hC dX9_ith_9 lc_0 ?_
    refine g_ldc2 hC dX9_ith_10 clX9_306 ?_
    refine g_callS_i hC hR ⟨Nat.zero_le _, Nat.zero_le _⟩ mwX9_isIn ms_X9_isIn mlX9_63 (fun _ hq => kX9_isIn  hq) (Nat.le_of_ble_eq_true rfl) rfl (st := []) rfl (Nat.le_of_ble_eq_true rfl) dX9_ith_13 (fun q2 => ?_)
    refine g_if_ne hC dX9_ith_16 ?_ ?_
    · refine g_iconst hC dX9_ith_19 ic_m1 ?_
      exact g_iret_iV hC hT dX9_ith_20
    · refine g_aload_n hC dX9_ith_21 (j := 0) rfl rfl ?_
      refine g_iload_n hC dX9_ith_22 (j := 1) rfl rfl ?_
      refine g_iconst hC dX9_ith_23 ic_0 ?_
      refine g_callV_vV hC hR ⟨Nat.zero_le _, Nat.zero_le _⟩ mwX9_findsPlans miX9_findsPlans (ci := 9) rfl h_b (Nat.le_of_ble_eq_true rfl) mlX9_302 (fun _ hq => kX9_findsPlans hG h_b hq) (Nat.le_of_ble_eq_true rfl) rfl (st := []) rfl (Nat.le_of_ble_eq_true rfl) dX9_ith_24 (fun q3 => ?_)
      refine g_iload_n hC dX9_ith_27 (j := 2) rfl rfl ?_
      refine g_aload_n hC dX9_ith_28 (j := 0) rfl rfl ?_
      refine g_getI hC fi_9_17 h_b dX9_ith_29 flX9_283 ?_
      refine g_icmp_ge hC dX9_ith_32 ?_ ?_
      · refine g_bipush hC dX9_ith_44 bc_m3 ?_
        exact g_iret_iV hC hT dX9_ith_46
      · refine g_aload_n hC dX9_ith_35 (j := 0) rfl rfl ?_
        refine g_getR hC fr_9_14 h_b (b := b + 7) rfl dX9_ith_36 flX9_28 ?_
        refine g_iload_n hC dX9_ith_39 (j := 2) rfl rfl ?_
        refine g_ialdV hC (gx_9_14 hG h_b) (gl_9_14 hG h_b) dX9_ith_40 (fun t4 => ?_)
        refine g_goto hC dX9_ith_41 ?_
        exact g_iret_iV hC hT dX9_ith_46
def pX9_ways (n : Nat) (V : V2) (b : Nat) (a1 : Int32) : Option (Int32 × V2) :=
  (pX9_isLong a1).bind fun q1 =>
  if q1 = 0 then (some ((-1), V))
  else ((pX9_findsPlans n V b a1 0).bind fun q2 =>
  some (q2 b 16, q2))
set_option maxHeartbeats 4000000 in
set_option maxRecDepth 100000 in
theorem kX9_ways {l : Launch} {D : Dx} {G : G2} {V : V2} {R : R2} {n : Nat} {b : Nat} {a1 : Int32} (hG : GX G) (h_b : own G b 19) {o : Int32 × V2} (hf : pX9_ways n V b a1 = some o) : Con l yX9_ways cX9_ways 2 (some .int) (rmN 13 0 0) D G V R [.ref b, .int a1] (some (.int o.1), o.2, R, G, 0, 0) := by
  refine Con.mk RX9 (by decide) rfl (Nat.le_of_ble_eq_true rfl) (fun C _ hR hT _ _ hL hC hnm => ?_)
  revert hf
  unfold pX9_ways
  refine g_iload_n hC dX9_ways_0 (j := 1) rfl rfl ?_
  refine g_callS_i hC hR ⟨Nat.zero_le _, Nat.zero_le _⟩ mwX9_isLong ms_X9_isLong mlX9_299 (fun _ hq => kX9_isLong  hq) (Nat.le_of_ble_eq_true rfl) rfl (st := []) rfl (Nat.le_of_ble_eq_true rfl) dX9_ways_1 (fun q1 => ?_)
  refine g_if_ne hC dX9_ways_4 ?_ ?_
  · refine g_iconst hC dX9_ways_7 ic_m1 ?_
    exact g_iret_iV hC hT dX9_ways_8
  · refine g_aload_n hC dX9_ways_9 (j := 0) rfl rfl ?_
    refine g_iload_n hC dX9_ways_10 (j := 1) rfl rfl ?_
    refine g_iconst hC dX9_ways_11 ic_0 ?_
    refine g_callV_vV hC hR ⟨Nat.zero_le _, Nat.zero_le _⟩ mwX9_findsPlans miX9_findsPlans (ci := 9) rfl h_b (Nat.le_of_ble_eq_true rfl) mlX9_302 (fun _ hq => kX9_findsPlans hG h_b hq) (Nat.le_of_ble_eq_true rfl) rfl (st := []) rfl (Nat.le_of_ble_eq_true rfl) dX9_ways_12 (fun q2 => ?_)
    refine g_aload_n hC dX9_ways_15 (j := 0) rfl rfl ?_
    refine g_getI hC fi_9_16 h_b dX9_ways_16 flX9_280 ?_
    exact g_iret_iV hC hT dX9_ways_19
def pX9_note (n : Nat) (V : V2) (b : Nat) (a1 : Int32) (a2 : Int32) : Option (Int32 × V2) :=
  (pX9_isLong a1).bind fun q1 =>
  if q1 = 0 then (some ((-1), V))
  else ((pX9_isSet V b a2).bind fun q2 =>
  if q2 = 0 then (some ((-1), V))
  else ((pX9_findsPlans n V b a1 a2).bind fun q3 =>
  if (9 : Int32) ≤ (q3 b 19) then (some ((-3), q3))
  else (some (q3 b 19, q3))))
set_option maxHeartbeats 4000000 in
set_option maxRecDepth 100000 in
theorem kX9_note {l : Launch} {D : Dx} {G : G2} {V : V2} {R : R2} {n : Nat} {b : Nat} {a1 : Int32} {a2 : Int32} (hG : GX G) (h_b : own G b 19) {o : Int32 × V2} (hf : pX9_note n V b a1 a2 = some o) : Con l yX9_note cX9_note 3 (some .int) (rmN 13 0 0) D G V R [.ref b, .int a1, .int a2] (some (.int o.1), o.2, R, G, 0, 0) := by
  refine Con.mk RX9 (by decide) rfl (Nat.le_of_ble_eq_true rfl) (fun C _ hR hT _ _ hL hC hnm => ?_)
  revert hf
  unfold pX9_note
  refine g_iload_n hC dX9_note_0 (j := 1) rfl rfl ?_
  refine g_callS_i hC hR ⟨Nat.zero_le _, Nat.zero_le _⟩ mwX9_isLong ms_X9_isLong mlX9_299 (fun _ hq => kX9_isLong  hq) (Nat.le_of_ble_eq_true rfl) rfl (st := []) rfl (Nat.le_of_ble_eq_true rfl) dX9_note_1 (fun q1 => ?_)
  refine g_if_eq hC dX9_note_4 ?_ ?_
  · refine g_iconst hC dX9_note_15 ic_m1 ?_
    exact g_iret_iV hC hT dX9_note_16
  · refine g_aload_n hC dX9_note_7 (j := 0) rfl rfl ?_
    refine g_iload_n hC dX9_note_8 (j := 2) rfl rfl ?_
    refine g_callV_i hC hR ⟨Nat.zero_le _, Nat.zero_le _⟩ mwX9_isSet miX9_isSet (ci := 9) rfl h_b (Nat.le_of_ble_eq_true rfl) mlX9_308 (fun _ hq => kX9_isSet hG h_b hq) (Nat.le_of_ble_eq_true rfl) rfl (st := []) rfl (Nat.le_of_ble_eq_true rfl) dX9_note_9 (fun q2 => ?_)
    refine g_if_ne hC dX9_note_12 ?_ ?_
    · refine g_iconst hC dX9_note_15 ic_m1 ?_
      exact g_iret_iV hC hT dX9_note_16
    · refine g_aload_n hC dX9_note_17 (j := 0) rfl rfl ?_
      refine g_iload_n hC dX9_note_18 (j := 1) rfl rfl ?_
      refine g_iload_n hC dX9_note_19 (j := 2) rfl rfl ?_
      refine g_callV_vV hC hR ⟨Nat.zero_le _, Nat.zero_le _⟩ mwX9_findsPlans miX9_findsPlans (ci := 9) rfl h_b (Nat.le_of_ble_eq_true rfl) mlX9_302 (fun _ hq => kX9_findsPlans hG h_b hq) (Nat.le_of_ble_eq_true rfl) rfl (st := []) rfl (Nat.le_of_ble_eq_true rfl) dX9_note_20 (fun q3 => ?_)
      refine g_aload_n hC dX9_note_23 (j := 0) rfl rfl ?_
      refine g_getI hC fi_9_19 h_b dX9_note_24 flX9_292 ?_
      refine g_bipush hC dX9_note_27 bc_9 ?_
      refine g_icmp_ge hC dX9_note_29 ?_ ?_
      · refine g_bipush hC dX9_note_39 bc_m3 ?_
        exact g_iret_iV hC hT dX9_note_41
      · refine g_aload_n hC dX9_note_32 (j := 0) rfl rfl ?_
        refine g_getI hC fi_9_19 h_b dX9_note_33 flX9_292 ?_
        refine g_goto hC dX9_note_36 ?_
        exact g_iret_iV hC hT dX9_note_41
def lX9_bars_25 (b : Nat) (a2 : Int32) (q3 : V2) : Nat → Int32 → (Unit → Option (Int32 × V2)) → Option (Int32 × V2)
  | 0, _, _ => none
  | f4 + 1, x5, K =>
    (ldI 572 (q3 (b + 1)) 0).bind fun t6 =>
    if t6 ≤ x5 then (K ())
    else (if (((a2 &&& ((q3 b 20) ^^^ (-1))) >>> (x5 &&& 31)) &&& 1) = (1 : Int32) then (some (x5, q3))
    else (letv (x5 + 1) fun x7 =>
    lX9_bars_25 b a2 q3 f4 x7 K))
def pX9_bars (n : Nat) (V : V2) (b : Nat) (a1 : Int32) (a2 : Int32) : Option (Int32 × V2) :=
  (pX9_isLong a1).bind fun q1 =>
  if q1 = 0 then (some ((-1), V))
  else ((pX9_isSet V b a2).bind fun q2 =>
  if q2 = 0 then (some ((-1), V))
  else ((pX9_findsPlans n V b a1 a2).bind fun q3 =>
  lX9_bars_25 b a2 q3 n 0 (fun _ =>
  some ((-3), q3))))
set_option maxHeartbeats 4000000 in
set_option maxRecDepth 100000 in
theorem wX9_bars_25 {C : Cx} (hC : CxOK C cX9_bars RX9 (some .int)) (hL : C.2.2.2.2 = 4) {G : G2} {R : R2} {b : Nat} {a2 : Int32} {q3 : V2} (hG : GX G) (h_b : own G b 19) {o : Int32 × V2} (hT : C.2.1 = (some (.int o.1), o.2, R, G, 0, 0)) {K : Unit → Option (Int32 × V2)} (hX : ∀ (_ : Unit), K () = some o → Go C 59 [] [] q3 R G 0 0) : ∀ (f : Nat) (x5 : Int32), lX9_bars_25 b a2 q3 f x5 K = some o → Go C 25 [(0, .ref b), (2, .int a2), (3, .int x5)] [] q3 R G 0 0 := by
  intro f
  induction f with
  | zero => intro _ hf; exact absurd hf (by unfold lX9_bars_25; exact fun z => nomatch z)
  | succ f4 ih =>
    intro x5
    unfold lX9_bars_25
    refine g_iload_n hC dX9_bars_25 (j := 2) rfl rfl ?_
    refine g_aload_n hC dX9_bars_26 (j := 0) rfl rfl ?_
    refine g_getR hC fr_9_0 h_b (b := b + 1) rfl dX9_bars_27 flX9_7 ?_
    refine g_iconst hC dX9_bars_30 ic_0 ?_
    refine g_ialdV hC (gx_9_0 hG h_b) (gl_9_0 hG h_b) dX9_bars_31 (fun t6 => ?_)
    refine g_icmp_ge hC dX9_bars_32 ?_ ?_
    · refine g_sub [] rfl ?_
      exact hX ()
    · refine g_iload_n hC dX9_bars_35 (j := 1) rfl rfl ?_
      refine g_aload_n hC dX9_bars_36 (j := 0) rfl rfl ?_
      refine g_getI hC fi_9_20 h_b dX9_bars_37 flX9_286 ?_
      refine g_iconst hC dX9_bars_40 ic_m1 ?_
      refine g_ixor hC dX9_bars_41 ?_
      refine g_iand hC dX9_bars_42 ?_
      refine g_iload_n hC dX9_bars_43 (j := 2) rfl rfl ?_
      refine g_ishr hC dX9_bars_44 ?_
      refine g_iconst hC dX9_bars_45 ic_1 ?_
      refine g_iand hC dX9_bars_46 ?_
      refine g_iconst hC dX9_bars_47 ic_1 ?_
      refine g_icmp_ne hC dX9_bars_48 ?_ ?_
      · refine g_iload_n hC dX9_bars_51 (j := 2) rfl rfl ?_
        exact g_iret_iV hC hT dX9_bars_52
      · refine g_iincL hC (n0 := 4) (j := 2) (lv' := fun x7 => [(3, .int x7), (0, .ref b), (2, .int a2)]) dX9_bars_53 rfl ic_1 (Nat.le_of_ble_eq_true rfl) hL (fun _ => rfl) (fun x7 => ?_)
        refine g_goto hC dX9_bars_56 ?_
        refine g_sub [1, 2, 0] rfl ?_
        exact ih x7
set_option maxHeartbeats 4000000 in
set_option maxRecDepth 100000 in
theorem kX9_bars {l : Launch} {D : Dx} {G : G2} {V : V2} {R : R2} {n : Nat} {b : Nat} {a1 : Int32} {a2 : Int32} (hG : GX G) (h_b : own G b 19) {o : Int32 × V2} (hf : pX9_bars n V b a1 a2 = some o) : Con l yX9_bars cX9_bars 4 (some .int) (rmN 13 0 0) D G V R [.ref b, .int a1, .int a2] (some (.int o.1), o.2, R, G, 0, 0) := by
  refine Con.mk RX9 (by decide) rfl (Nat.le_of_ble_eq_true rfl) (fun C _ hR hT _ _ hL hC hnm => ?_)
  revert hf
  unfold pX9_bars
  refine g_iload_n hC dX9_bars_0 (j := 1) rfl rfl ?_
  refine g_callS_i hC hR ⟨Nat.zero_le _, Nat.zero_le _⟩ mwX9_isLong ms_X9_isLong mlX9_299 (fun _ hq => kX9_isLong  hq) (Nat.le_of_ble_eq_true rfl) rfl (st := []) rfl (Nat.le_of_ble_eq_true rfl) dX9_bars_1 (fun q1 => ?_)
  refine g_if_eq hC dX9_bars_4 ?_ ?_
  · refine g_iconst hC dX9_bars_15 ic_m1 ?_
    exact g_iret_iV hC hT dX9_bars_16
  · refine g_aload_n hC dX9_bars_7 (j := 0) rfl rfl ?_
    refine g_iload_n hC dX9_bars_8 (j := 2) rfl rfl ?_
    refine g_callV_i hC hR ⟨Nat.zero_le _, Nat.zero_le _⟩ mwX9_isSet miX9_isSet (ci := 9) rfl h_b (Nat.le_of_ble_eq_true rfl) mlX9_308 (fun _ hq => kX9_isSet hG h_b hq) (Nat.le_of_ble_eq_true rfl) rfl (st := []) rfl (Nat.le_of_ble_eq_true rfl) dX9_bars_9 (fun q2 => ?_)
    refine g_if_ne hC dX9_bars_12 ?_ ?_
    · refine g_iconst hC dX9_bars_15 ic_m1 ?_
      exact g_iret_iV hC hT dX9_bars_16
    · refine g_aload_n hC dX9_bars_17 (j := 0) rfl rfl ?_
      refine g_iload_n hC dX9_bars_18 (j := 1) rfl rfl ?_
      refine g_iload_n hC dX9_bars_19 (j := 2) rfl rfl ?_
      refine g_callV_vV hC hR ⟨Nat.zero_le _, Nat.zero_le _⟩ mwX9_findsPlans miX9_findsPlans (ci := 9) rfl h_b (Nat.le_of_ble_eq_true rfl) mlX9_302 (fun _ hq => kX9_findsPlans hG h_b hq) (Nat.le_of_ble_eq_true rfl) rfl (st := []) rfl (Nat.le_of_ble_eq_true rfl) dX9_bars_20 (fun q3 => ?_)
      refine g_iconst hC dX9_bars_23 ic_0 ?_
      refine g_istore_n hC (n0 := 4) (lv' := [(3, .int 0), (0, .ref b), (1, .int a1), (2, .int a2)]) dX9_bars_24 rfl (Nat.le_of_ble_eq_true rfl) hL rfl ?_
      refine g_sub [1, 3, 0] rfl ?_
      refine wX9_bars_25 hC hL hG h_b hT (fun _ => ?_) n 0
      refine g_bipush hC dX9_bars_59 bc_m3 ?_
      exact g_iret_iV hC hT dX9_bars_61
def lX9_valueFrom_27 (rec : Nat → V2 → Nat → Int32 → Int32 → Option (Int32 × V2)) (n : Nat) (b : Nat) (a1 : Int32) (a2 : Int32) : Nat → V2 → Int32 → Int32 → Int32 → Option (V2 × Int32 × Int32)
  | 0, _, _, _, _ => none
  | f3 + 1, U4, x5, x6, x7 =>
    (ldI 572 (U4 (b + 1)) 0).bind fun t8 =>
    if t8 < x7 then (some (U4, x5, x6))
    else ((pX9_goesWith n U4 b x7).bind fun q9 =>
    (rec n q9.2 b (a1 + 1) a2).bind fun q10 =>
    letv (q9.1 + q10.1) fun x11 =>
    (pX9_laysBack n q10.2 b a1).bind fun q12 =>
    letv (fun (u14 : Unit) => (letv (x7 + 1) fun x15 =>
    lX9_valueFrom_27 rec n b a1 a2 f3 q12 x11 x7 x15)) fun j13 =>
    if x6 < 0 then (j13 ())
    else (if (jrem a1 2) = 0 then (if x11 ≤ x5 then (letv (x7 + 1) fun x16 =>
    lX9_valueFrom_27 rec n b a1 a2 f3 q12 x5 x6 x16)
    else (j13 ()))
    else (if x5 ≤ x11 then (letv (x7 + 1) fun x17 =>
    lX9_valueFrom_27 rec n b a1 a2 f3 q12 x5 x6 x17)
    else (j13 ()))))
def fX9_valueFrom (rec : Nat → V2 → Nat → Int32 → Int32 → Option (Int32 × V2)) (n : Nat) (V : V2) (b : Nat) (a1 : Int32) (a2 : Int32) : Option (Int32 × V2) :=
  if a1 = a2 then (some (0, V))
  else ((pX9_isOver V b).bind fun q1 =>
  if q1 = 0 then ((pX9_laysAside n V b a1).bind fun q2 =>
  (lX9_valueFrom_27 rec n b a1 a2 n q2 0 (-1) 0).bind fun w18 =>
  letv (up2 w18.1 b 21 w18.2.2) fun U19 =>
  some (w18.2.1, U19))
  else (some (0, V)))
set_option maxHeartbeats 4000000 in
set_option maxRecDepth 100000 in
theorem wX9_valueFrom_27 {C : Cx} (hC : CxOK C cX9_valueFrom RX9 (some .int)) (hL : C.2.2.2.2 = 8) {rec : Nat → V2 → Nat → Int32 → Int32 → Option (Int32 × V2)} {N : Nat} {n : Nat} {G : G2} {R : R2} {b : Nat} {a1 : Int32} {a2 : Int32} (hrec : ∀ {l : Launch} {D : Dx} {G : G2} {V : V2} {R : R2} {n : Nat} {b : Nat} {a1 : Int32} {a2 : Int32} (hG : GX G) (h_b : own G b 19) {o : Int32 × V2}, rec n V b a1 a2 = some o → Con l yX9_valueFrom cX9_valueFrom 8 (some .int) (rmN N 0 0) D G V R [.ref b, .int a1, .int a2] (some (.int o.1), o.2, R, G, 0, 0)) (hN : 5 ≤ N) (hG : GX G) (h_b : own G b 19) (hR : C.1.2.2.2.1 = rmN (N + 1) 0 0) {o : V2 × Int32 × Int32} (hX : Go C 103 [(0, .ref b), (3, .int o.2.1), (4, .int o.2.2)] [] o.1 R G 0 0) : ∀ (f : Nat) (U4 : V2) (x5 : Int32) (x6 : Int32) (x7 : Int32), lX9_valueFrom_27 rec n b a1 a2 f U4 x5 x6 x7 = some o → Go C 27 [(0, .ref b), (1, .int a1), (2, .int a2), (3, .int x5), (4, .int x6), (5, .int x7)] [] U4 R G 0 0 := by
  intro f
  induction f with
  | zero => intro _ _ _ _ hf; exact absurd hf (by unfold lX9_valueFrom_27; exact fun z => nomatch z)
  | succ f3 ih =>
    intro U4 x5 x6 x7
    unfold lX9_valueFrom_27
    refine g_iload hC dX9_valueFrom_27 (j := 5) rfl ?_
    refine g_aload_n hC dX9_valueFrom_29 (j := 0) rfl rfl ?_
    refine g_getR hC fr_9_0 h_b (b := b + 1) rfl dX9_valueFrom_30 flX9_7 ?_
    refine g_iconst hC dX9_valueFrom_33 ic_0 ?_
    refine g_ialdV hC (gx_9_0 hG h_b) (gl_9_0 hG h_b) dX9_valueFrom_34 (fun t8 => ?_)
    refine g_icmp_gt hC dX9_valueFrom_35 ?_ ?_
    · refine g_sub [0, 3, 4] rfl ?_
      exact fun e => by cases e; exact hX
    · refine g_aload_n hC dX9_valueFrom_38 (j := 0) rfl rfl ?_
      refine g_iload hC dX9_valueFrom_39 (j := 5) rfl ?_
      refine g_callV_iV hC hR ⟨Nat.zero_le _, Nat.zero_le _⟩ mwX9_goesWith miX9_goesWith (ci := 9) rfl h_b (Nat.le_of_ble_eq_true rfl) mlX9_255 (fun _ hq => kX9_goesWith hG h_b hq) (by have := hN; omega) rfl (st := []) rfl (Nat.le_of_ble_eq_true rfl) dX9_valueFrom_41 (fun q9 => ?_)
      refine g_istore hC (n0 := 8) (lv' := [(6, .int q9.1), (0, .ref b), (1, .int a1), (2, .int a2), (3, .int x5), (4, .int x6), (5, .int x7)]) dX9_valueFrom_44 (Nat.le_of_ble_eq_true rfl) hL rfl ?_
      refine g_iload hC dX9_valueFrom_46 (j := 0) rfl ?_
      refine g_aload_n hC dX9_valueFrom_48 (j := 1) rfl rfl ?_
      refine g_iload_n hC dX9_valueFrom_49 (j := 2) rfl rfl ?_
      refine g_iconst hC dX9_valueFrom_50 ic_1 ?_
      refine g_iadd hC dX9_valueFrom_51 ?_
      refine g_iload_n hC dX9_valueFrom_52 (j := 3) rfl rfl ?_
      refine g_callV_iV hC hR ⟨Nat.zero_le _, Nat.zero_le _⟩ mwX9_valueFrom miX9_valueFrom (ci := 9) rfl h_b (Nat.le_of_ble_eq_true rfl) mlX9_311 (fun _ hq => hrec hG h_b hq) (by have := hN; omega) rfl (st := [.int q9.1]) rfl (Nat.le_of_ble_eq_true rfl) dX9_valueFrom_53 (fun q10 => ?_)
      refine g_iadd hC dX9_valueFrom_56 ?_
      refine g_istoreL hC (n0 := 8) (lv' := fun x11 => [(7, .int x11), (6, .int q9.1), (0, .ref b), (1, .int a1), (2, .int a2), (3, .int x5), (4, .int x6), (5, .int x7)]) dX9_valueFrom_57 (Nat.le_of_ble_eq_true rfl) hL (fun _ => rfl) (fun x11 => ?_)
      refine g_aload_n hC dX9_valueFrom_59 (j := 2) rfl rfl ?_
      refine g_iload_n hC dX9_valueFrom_60 (j := 3) rfl rfl ?_
      refine g_callV_vV hC hR ⟨Nat.zero_le _, Nat.zero_le _⟩ mwX9_laysBack miX9_laysBack (ci := 9) rfl h_b (Nat.le_of_ble_eq_true rfl) mlX9_262 (fun _ hq => kX9_laysBack hG h_b hq) (by have := hN; omega) rfl (st := []) rfl (Nat.le_of_ble_eq_true rfl) dX9_valueFrom_61 (fun q12 => ?_)
      refine g_iload hC dX9_valueFrom_64 (j := 6) rfl ?_
      refine g_jn (J := fun j13 => ∀ (u14 : Unit), j13 u14 = some o → Go C 90 [(0, .ref b), (1, .int a1), (2, .int a2), (5, .int x7), (7, .int x11)] [] q12 R G 0 0) (fun u14 => ?_) (fun j13 hJ => ?_)
      · refine g_iload hC dX9_valueFrom_90 (j := 4) rfl ?_
        refine g_istore_n hC (n0 := 8) (lv' := [(3, .int x11), (0, .ref b), (1, .int a1), (2, .int a2), (5, .int x7), (7, .int x11)]) dX9_valueFrom_92 rfl (Nat.le_of_ble_eq_true rfl) hL rfl ?_
        refine g_iload hC dX9_valueFrom_93 (j := 4) rfl ?_
        refine g_istore hC (n0 := 8) (lv' := [(4, .int x7), (3, .int x11), (0, .ref b), (1, .int a1), (2, .int a2), (5, .int x7), (7, .int x11)]) dX9_valueFrom_95 (Nat.le_of_ble_eq_true rfl) hL rfl ?_
        refine g_iincL hC (n0 := 8) (j := 5) (lv' := fun x15 => [(5, .int x15), (4, .int x7), (3, .int x11), (0, .ref b), (1, .int a1), (2, .int a2), (7, .int x11)]) dX9_valueFrom_97 rfl ic_1 (Nat.le_of_ble_eq_true rfl) hL (fun _ => rfl) (fun x15 => ?_)
        refine g_goto hC dX9_valueFrom_100 ?_
        refine g_sub [3, 4, 5, 2, 1, 0] rfl ?_
        exact ih q12 x11 x7 x15
      · refine g_if_lt hC dX9_valueFrom_66 ?_ ?_
        · refine g_sub [2, 3, 4, 7, 0] rfl ?_
          exact hJ ()
        · refine g_iload_n hC dX9_valueFrom_69 (j := 3) rfl rfl ?_
          refine g_iconst hC dX9_valueFrom_70 ic_2 ?_
          refine g_iremC hC dX9_valueFrom_71 nzi_2 ?_
          refine g_if_ne hC dX9_valueFrom_72 ?_ ?_
          · refine g_iload hC dX9_valueFrom_75 (j := 0) rfl ?_
            refine g_iload_n hC dX9_valueFrom_77 (j := 5) rfl rfl ?_
            refine g_icmp_le hC dX9_valueFrom_78 ?_ ?_
            · refine g_iincL hC (n0 := 8) (j := 7) (lv' := fun x16 => [(5, .int x16), (7, .int x11), (6, .int q9.1), (0, .ref b), (1, .int a1), (2, .int a2), (3, .int x5), (4, .int x6)]) dX9_valueFrom_97 rfl ic_1 (Nat.le_of_ble_eq_true rfl) hL (fun _ => rfl) (fun x16 => ?_)
              refine g_goto hC dX9_valueFrom_100 ?_
              refine g_sub [3, 4, 5, 6, 7, 0] rfl ?_
              exact ih q12 x5 x6 x16
            · refine g_goto hC dX9_valueFrom_81 ?_
              refine g_sub [2, 3, 4, 7, 0] rfl ?_
              exact hJ ()
          · refine g_iload hC dX9_valueFrom_84 (j := 0) rfl ?_
            refine g_iload_n hC dX9_valueFrom_86 (j := 5) rfl rfl ?_
            refine g_icmp_ge hC dX9_valueFrom_87 ?_ ?_
            · refine g_iincL hC (n0 := 8) (j := 7) (lv' := fun x17 => [(5, .int x17), (7, .int x11), (6, .int q9.1), (0, .ref b), (1, .int a1), (2, .int a2), (3, .int x5), (4, .int x6)]) dX9_valueFrom_97 rfl ic_1 (Nat.le_of_ble_eq_true rfl) hL (fun _ => rfl) (fun x17 => ?_)
              refine g_goto hC dX9_valueFrom_100 ?_
              refine g_sub [3, 4, 5, 6, 7, 0] rfl ?_
              exact ih q12 x5 x6 x17
            · refine g_sub [2, 3, 4, 7, 0] rfl ?_
              exact hJ ()
set_option maxHeartbeats 4000000 in
set_option maxRecDepth 100000 in
theorem kfX9_valueFrom {l : Launch} {D : Dx} {G : G2} {V : V2} {R : R2} {rec : Nat → V2 → Nat → Int32 → Int32 → Option (Int32 × V2)} {N : Nat} {n : Nat} {b : Nat} {a1 : Int32} {a2 : Int32} (hrec : ∀ {l : Launch} {D : Dx} {G : G2} {V : V2} {R : R2} {n : Nat} {b : Nat} {a1 : Int32} {a2 : Int32} (hG : GX G) (h_b : own G b 19) {o : Int32 × V2}, rec n V b a1 a2 = some o → Con l yX9_valueFrom cX9_valueFrom 8 (some .int) (rmN N 0 0) D G V R [.ref b, .int a1, .int a2] (some (.int o.1), o.2, R, G, 0, 0)) (hN : 5 ≤ N) (hG : GX G) (h_b : own G b 19) {o : Int32 × V2} (hf : fX9_valueFrom rec n V b a1 a2 = some o) : Con l yX9_valueFrom cX9_valueFrom 8 (some .int) (rmN (N + 1) 0 0) D G V R [.ref b, .int a1, .int a2] (some (.int o.1), o.2, R, G, 0, 0) := by
  refine Con.mk RX9 (by decide) rfl (Nat.le_of_ble_eq_true rfl) (fun C _ hR hT _ _ hL hC hnm => ?_)
  revert hf
  unfold fX9_valueFrom
  refine g_iload_n hC dX9_valueFrom_0 (j := 1) rfl rfl ?_
  refine g_iload_n hC dX9_valueFrom_1 (j := 2) rfl rfl ?_
  refine g_icmp_eq hC dX9_valueFrom_2 ?_ ?_
  · refine g_iconst hC dX9_valueFrom_12 ic_0 ?_
    exact g_iret_iV hC hT dX9_valueFrom_13
  · refine g_aload_n hC dX9_valueFrom_5 (j := 0) rfl rfl ?_
    refine g_callV_i hC hR ⟨Nat.zero_le _, Nat.zero_le _⟩ mwX9_isOver miX9_isOver (ci := 9) rfl h_b (Nat.le_of_ble_eq_true rfl) mlX9_141 (fun _ hq => kX9_isOver hG h_b hq) (by have := hN; omega) rfl (st := []) rfl (Nat.le_of_ble_eq_true rfl) dX9_valueFrom_6 (fun q1 => ?_)
    refine g_if_eq hC dX9_valueFrom_9 ?_ ?_
    · refine g_aload_n hC dX9_valueFrom_14 (j := 0) rfl rfl ?_
      refine g_iload_n hC dX9_valueFrom_15 (j := 1) rfl rfl ?_
      refine g_callV_vV hC hR ⟨Nat.zero_le _, Nat.zero_le _⟩ mwX9_laysAside miX9_laysAside (ci := 9) rfl h_b (Nat.le_of_ble_eq_true rfl) mlX9_258 (fun _ hq => kX9_laysAside hG h_b hq) (by have := hN; omega) rfl (st := []) rfl (Nat.le_of_ble_eq_true rfl) dX9_valueFrom_16 (fun q2 => ?_)
      refine g_iconst hC dX9_valueFrom_19 ic_0 ?_
      refine g_istore_n hC (n0 := 8) (lv' := [(3, .int 0), (0, .ref b), (1, .int a1), (2, .int a2)]) dX9_valueFrom_20 rfl (Nat.le_of_ble_eq_true rfl) hL rfl ?_
      refine g_iconst hC dX9_valueFrom_21 ic_m1 ?_
      refine g_istore hC (n0 := 8) (lv' := [(4, .int (-1)), (3, .int 0), (0, .ref b), (1, .int a1), (2, .int a2)]) dX9_valueFrom_22 (Nat.le_of_ble_eq_true rfl) hL rfl ?_
      refine g_iconst hC dX9_valueFrom_24 ic_0 ?_
      refine g_istore hC (n0 := 8) (lv' := [(5, .int 0), (4, .int (-1)), (3, .int 0), (0, .ref b), (1, .int a1), (2, .int a2)]) dX9_valueFrom_25 (Nat.le_of_ble_eq_true rfl) hL rfl ?_
      refine g_sub [3, 4, 5, 2, 1, 0] rfl ?_
      refine g_bind (J := fun w18 => Go C 103 [(0, .ref b), (3, .int w18.2.1), (4, .int w18.2.2)] [] w18.1 R G 0 0) (fun w18 hJ => wX9_valueFrom_27 hC hL hrec hN hG h_b hR hJ n q2 0 (-1) 0) (fun w18 => ?_)
      refine g_aload_n hC dX9_valueFrom_103 (j := 0) rfl rfl ?_
      refine g_iload hC dX9_valueFrom_104 (j := 2) rfl ?_
      refine g_putIL hC fp_9_21 h_b dX9_valueFrom_106 flX9_314 (fun U19 => ?_)
      refine g_iload_n hC dX9_valueFrom_109 (j := 1) rfl rfl ?_
      exact g_iret_iV hC hT dX9_valueFrom_110
    · refine g_iconst hC dX9_valueFrom_12 ic_0 ?_
      exact g_iret_iV hC hT dX9_valueFrom_13
def pX9_valueFrom : Nat → Nat → V2 → Nat → Int32 → Int32 → Option (Int32 × V2)
  | 0 => fun _ _ _ _ _ => none
  | d + 1 => fX9_valueFrom (pX9_valueFrom d)
theorem kX9_valueFrom : ∀ (d : Nat) {l : Launch} {D : Dx} {G : G2} {V : V2} {R : R2} {n : Nat} {b : Nat} {a1 : Int32} {a2 : Int32} (hG : GX G) (h_b : own G b 19) {o : Int32 × V2}, pX9_valueFrom d n V b a1 a2 = some o → Con l yX9_valueFrom cX9_valueFrom 8 (some .int) (rmN (5 + 1 * d) 0 0) D G V R [.ref b, .int a1, .int a2] (some (.int o.1), o.2, R, G, 0, 0) := by
  intro d
  induction d with
  | zero => intro _ _ _ _ _ _ _ _ _ _ _ _ hf; exact absurd hf (by unfold pX9_valueFrom; exact fun z => nomatch z)
  | succ d ih =>
    intro l D G V R _ _ _ _ hG h_b _ hf
    have := kfX9_valueFrom (l := l) (D := D) (V := V) (R := R) (N := 5 + 1 * d) ih (by omega) hG h_b hf
    rw [show 5 + 1 * (d + 1) = 5 + 1 * d + 1 by omega]
    exact this
def pX9_game (n : Nat) (V : V2) (b : Nat) (a1 : Int32) : Option (Int32 × V2) :=
  (pX9_isIn a1.toInt64 1 4).bind fun q1 =>
  if q1 = 0 then (some ((-1), V))
  else ((pX9_valueFrom 6 n V b 0 a1).bind fun q2 =>
  some (q2.1, q2.2))
set_option maxHeartbeats 4000000 in
set_option maxRecDepth 100000 in
theorem kX9_game {l : Launch} {D : Dx} {G : G2} {V : V2} {R : R2} {n : Nat} {b : Nat} {a1 : Int32} (hG : GX G) (h_b : own G b 19) {o : Int32 × V2} (hf : pX9_game n V b a1 = some o) : Con l yX9_game cX9_game 2 (some .int) (rmN 12 0 0) D G V R [.ref b, .int a1] (some (.int o.1), o.2, R, G, 0, 0) := by
  refine Con.mk RX9 (by decide) rfl (Nat.le_of_ble_eq_true rfl) (fun C _ hR hT _ _ hL hC hnm => ?_)
  revert hf
  unfold pX9_game
  refine g_iload_n hC dX9_game_0 (j := 1) rfl rfl ?_
  refine g_i2l hC dX9_game_1 ?_
  refine g_lconst hC dX9_game_2 lc_1 ?_
  refine g_ldc2 hC dX9_game_3 clX9_129 ?_
  refine g_callS_i hC hR ⟨Nat.zero_le _, Nat.zero_le _⟩ mwX9_isIn ms_X9_isIn mlX9_63 (fun _ hq => kX9_isIn  hq) (Nat.le_of_ble_eq_true rfl) rfl (st := []) rfl (Nat.le_of_ble_eq_true rfl) dX9_game_6 (fun q1 => ?_)
  refine g_if_eq hC dX9_game_9 ?_ ?_
  · refine g_iconst hC dX9_game_21 ic_m1 ?_
    exact g_iret_iV hC hT dX9_game_22
  · refine g_aload_n hC dX9_game_12 (j := 0) rfl rfl ?_
    refine g_iconst hC dX9_game_13 ic_0 ?_
    refine g_iload_n hC dX9_game_14 (j := 1) rfl rfl ?_
    refine g_callV_iV hC hR ⟨Nat.zero_le _, Nat.zero_le _⟩ mwX9_valueFrom miX9_valueFrom (ci := 9) rfl h_b (Nat.le_of_ble_eq_true rfl) mlX9_311 (fun _ hq => kX9_valueFrom 6 hG h_b hq) (Nat.le_of_ble_eq_true rfl) rfl (st := []) rfl (Nat.le_of_ble_eq_true rfl) dX9_game_15 (fun q2 => ?_)
    refine g_goto hC dX9_game_18 ?_
    exact g_iret_iV hC hT dX9_game_22
def pX9_play (n : Nat) (V : V2) (b : Nat) (a1 : Int32) : Option (Int32 × V2) :=
  (pX9_isIn a1.toInt64 1 4).bind fun q1 =>
  if q1 = 0 then (some ((-1), V))
  else ((pX9_isOver V b).bind fun q2 =>
  if q2 = 0 then ((pX9_valueFrom 6 n V b 0 a1).bind fun q3 =>
  some (q3.2 b 21, q3.2))
  else (some ((-3), V)))
set_option maxHeartbeats 4000000 in
set_option maxRecDepth 100000 in
theorem kX9_play {l : Launch} {D : Dx} {G : G2} {V : V2} {R : R2} {n : Nat} {b : Nat} {a1 : Int32} (hG : GX G) (h_b : own G b 19) {o : Int32 × V2} (hf : pX9_play n V b a1 = some o) : Con l yX9_play cX9_play 3 (some .int) (rmN 12 0 0) D G V R [.ref b, .int a1] (some (.int o.1), o.2, R, G, 0, 0) := by
  refine Con.mk RX9 (by decide) rfl (Nat.le_of_ble_eq_true rfl) (fun C _ hR hT _ _ hL hC hnm => ?_)
  revert hf
  unfold pX9_play
  refine g_iload_n hC dX9_play_0 (j := 1) rfl rfl ?_
  refine g_i2l hC dX9_play_1 ?_
  refine g_lconst hC dX9_play_2 lc_1 ?_
  refine g_ldc2 hC dX9_play_3 clX9_129 ?_
  refine g_callS_i hC hR ⟨Nat.zero_le _, Nat.zero_le _⟩ mwX9_isIn ms_X9_isIn mlX9_63 (fun _ hq => kX9_isIn  hq) (Nat.le_of_ble_eq_true rfl) rfl (st := []) rfl (Nat.le_of_ble_eq_true rfl) dX9_play_6 (fun q1 => ?_)
  refine g_if_ne hC dX9_play_9 ?_ ?_
  · refine g_iconst hC dX9_play_12 ic_m1 ?_
    exact g_iret_iV hC hT dX9_play_13
  · refine g_aload_n hC dX9_play_14 (j := 0) rfl rfl ?_
    refine g_callV_i hC hR ⟨Nat.zero_le _, Nat.zero_le _⟩ mwX9_isOver miX9_isOver (ci := 9) rfl h_b (Nat.le_of_ble_eq_true rfl) mlX9_141 (fun _ hq => kX9_isOver hG h_b hq) (Nat.le_of_ble_eq_true rfl) rfl (st := []) rfl (Nat.le_of_ble_eq_true rfl) dX9_play_15 (fun q2 => ?_)
    refine g_if_eq hC dX9_play_18 ?_ ?_
    · refine g_aload_n hC dX9_play_24 (j := 0) rfl rfl ?_
      refine g_iconst hC dX9_play_25 ic_0 ?_
      refine g_iload_n hC dX9_play_26 (j := 1) rfl rfl ?_
      refine g_callV_iV hC hR ⟨Nat.zero_le _, Nat.zero_le _⟩ mwX9_valueFrom miX9_valueFrom (ci := 9) rfl h_b (Nat.le_of_ble_eq_true rfl) mlX9_311 (fun _ hq => kX9_valueFrom 6 hG h_b hq) (Nat.le_of_ble_eq_true rfl) rfl (st := []) rfl (Nat.le_of_ble_eq_true rfl) dX9_play_27 (fun q3 => ?_)
      refine g_istore_n hC (n0 := 3) (lv' := [(2, .int q3.1), (0, .ref b), (1, .int a1)]) dX9_play_30 rfl (Nat.le_of_ble_eq_true rfl) hL rfl ?_
      refine g_aload_n hC dX9_play_31 (j := 1) rfl rfl ?_
      refine g_getI hC fi_9_21 h_b dX9_play_32 flX9_314 ?_
      exact g_iret_iV hC hT dX9_play_35
    · refine g_bipush hC dX9_play_21 bc_m3 ?_
      exact g_iret_iV hC hT dX9_play_23
def pX9_report (V : V2) (b : Nat) (a1 : Int32) (a2 : Int32) (a3 : Int32) (a4 : Int32) : Option (Int32 × V2) :=
  letv ((if a2 = 0 then (99)
  else (16) : Int32)) fun j1 =>
  (pX9_isIn a1.toInt64 0 15).bind fun q2 =>
  if q2 = 0 then (some ((-1), V))
  else ((pX9_isIn a2.toInt64 0 1).bind fun q3 =>
  if q3 = 0 then (some ((-1), V))
  else ((pX9_isIn a3.toInt64 0 j1.toInt64).bind fun q4 =>
  if q4 = 0 then (some ((-1), V))
  else ((pX9_isIn a4.toInt64 a3.toInt64 j1.toInt64).bind fun q5 =>
  if q5 = 0 then (some ((-1), V))
  else ((ldI 572 (V (b + 1)) 6).bind fun t6 =>
  if t6 = (6 : Int32) then (some ((-2), V))
  else ((ldI 572 (V (b + 1)) 6).bind fun t7 =>
  letv (98 + (4 * t7)) fun x8 =>
  (stI 572 V (b + 1) x8 a1).bind fun U9 =>
  (stI 572 U9 (b + 1) (x8 + 1) a2).bind fun U10 =>
  (stI 572 U10 (b + 1) (x8 + 2) a3).bind fun U11 =>
  (stI 572 U11 (b + 1) (x8 + 3) a4).bind fun U12 =>
  (ldI 572 (U12 (b + 1)) 6).bind fun t13 =>
  (stI 572 U12 (b + 1) 6 (t13 + 1)).bind fun U14 =>
  (ldI 572 (U14 (b + 1)) 6).bind fun t15 =>
  some (t15 - 1, U14))))))
set_option maxHeartbeats 4000000 in
set_option maxRecDepth 100000 in
theorem kX9_report {l : Launch} {D : Dx} {G : G2} {V : V2} {R : R2} {b : Nat} {a1 : Int32} {a2 : Int32} {a3 : Int32} {a4 : Int32} (hG : GX G) (h_b : own G b 19) {o : Int32 × V2} (hf : pX9_report V b a1 a2 a3 a4 = some o) : Con l yX9_report cX9_report 7 (some .int) (rmN 1 0 0) D G V R [.ref b, .int a1, .int a2, .int a3, .int a4] (some (.int o.1), o.2, R, G, 0, 0) := by
  refine Con.mk RX9 (by decide) rfl (Nat.le_of_ble_eq_true rfl) (fun C _ hR hT _ _ hL hC hnm => ?_)
  revert hf
  unfold pX9_report
  refine g_iload_n hC dX9_report_0 (j := 2) rfl rfl ?_
  refine g_letJ (J := fun j1 => Go C 11 [(0, .ref b), (1, .int a1), (2, .int a2), (3, .int a3), (4, .int a4)] [.int j1] V R G 0 0) (fun j1 hJ => ?_) (fun j1 => ?_)
  · refine g_if_ne hC dX9_report_1 ?_ ?_
    · refine g_bipush hC dX9_report_4 bc_99 ?_
      refine g_goto hC dX9_report_6 ?_
      exact fun e => by cases e; exact hJ
    · refine g_bipush hC dX9_report_9 bc_16 ?_
      exact fun e => by cases e; exact hJ
  · refine g_istore hC (n0 := 7) (lv' := [(5, .int j1), (0, .ref b), (1, .int a1), (2, .int a2), (3, .int a3), (4, .int a4)]) dX9_report_11 (Nat.le_of_ble_eq_true rfl) hL rfl ?_
    refine g_iload_n hC dX9_report_13 (j := 2) rfl rfl ?_
    refine g_i2l hC dX9_report_14 ?_
    refine g_lconst hC dX9_report_15 lc_0 ?_
    refine g_ldc2 hC dX9_report_16 clX9_137 ?_
    refine g_callS_i hC hR ⟨Nat.zero_le _, Nat.zero_le _⟩ mwX9_isIn ms_X9_isIn mlX9_63 (fun _ hq => kX9_isIn  hq) (Nat.le_of_ble_eq_true rfl) rfl (st := []) rfl (Nat.le_of_ble_eq_true rfl) dX9_report_19 (fun q2 => ?_)
    refine g_if_eq hC dX9_report_22 ?_ ?_
    · refine g_iconst hC dX9_report_61 ic_m1 ?_
      exact g_iret_iV hC hT dX9_report_62
    · refine g_iload_n hC dX9_report_25 (j := 3) rfl rfl ?_
      refine g_i2l hC dX9_report_26 ?_
      refine g_lconst hC dX9_report_27 lc_0 ?_
      refine g_lconst hC dX9_report_28 lc_1 ?_
      refine g_callS_i hC hR ⟨Nat.zero_le _, Nat.zero_le _⟩ mwX9_isIn ms_X9_isIn mlX9_63 (fun _ hq => kX9_isIn  hq) (Nat.le_of_ble_eq_true rfl) rfl (st := []) rfl (Nat.le_of_ble_eq_true rfl) dX9_report_29 (fun q3 => ?_)
      refine g_if_eq hC dX9_report_32 ?_ ?_
      · refine g_iconst hC dX9_report_61 ic_m1 ?_
        exact g_iret_iV hC hT dX9_report_62
      · refine g_iload_n hC dX9_report_35 (j := 4) rfl rfl ?_
        refine g_i2l hC dX9_report_36 ?_
        refine g_lconst hC dX9_report_37 lc_0 ?_
        refine g_iload hC dX9_report_38 (j := 0) rfl ?_
        refine g_i2l hC dX9_report_40 ?_
        refine g_callS_i hC hR ⟨Nat.zero_le _, Nat.zero_le _⟩ mwX9_isIn ms_X9_isIn mlX9_63 (fun _ hq => kX9_isIn  hq) (Nat.le_of_ble_eq_true rfl) rfl (st := []) rfl (Nat.le_of_ble_eq_true rfl) dX9_report_41 (fun q4 => ?_)
        refine g_if_eq hC dX9_report_44 ?_ ?_
        · refine g_iconst hC dX9_report_61 ic_m1 ?_
          exact g_iret_iV hC hT dX9_report_62
        · refine g_iload hC dX9_report_47 (j := 5) rfl ?_
          refine g_i2l hC dX9_report_49 ?_
          refine g_iload_n hC dX9_report_50 (j := 4) rfl rfl ?_
          refine g_i2l hC dX9_report_51 ?_
          refine g_iload hC dX9_report_52 (j := 0) rfl ?_
          refine g_i2l hC dX9_report_54 ?_
          refine g_callS_i hC hR ⟨Nat.zero_le _, Nat.zero_le _⟩ mwX9_isIn ms_X9_isIn mlX9_63 (fun _ hq => kX9_isIn  hq) (Nat.le_of_ble_eq_true rfl) rfl (st := []) rfl (Nat.le_of_ble_eq_true rfl) dX9_report_55 (fun q5 => ?_)
          refine g_if_ne hC dX9_report_58 ?_ ?_
          · refine g_iconst hC dX9_report_61 ic_m1 ?_
            exact g_iret_iV hC hT dX9_report_62
          · refine g_aload_n hC dX9_report_63 (j := 1) rfl rfl ?_
            refine g_getR hC fr_9_0 h_b (b := b + 1) rfl dX9_report_64 flX9_7 ?_
            refine g_bipush hC dX9_report_67 bc_6 ?_
            refine g_ialdV hC (gx_9_0 hG h_b) (gl_9_0 hG h_b) dX9_report_69 (fun t6 => ?_)
            refine g_bipush hC dX9_report_70 bc_6 ?_
            refine g_icmp_ne hC dX9_report_72 ?_ ?_
            · refine g_bipush hC dX9_report_75 bc_m2 ?_
              exact g_iret_iV hC hT dX9_report_77
            · refine g_bipush hC dX9_report_78 bc_98 ?_
              refine g_iconst hC dX9_report_80 ic_4 ?_
              refine g_aload_n hC dX9_report_81 (j := 1) rfl rfl ?_
              refine g_getR hC fr_9_0 h_b (b := b + 1) rfl dX9_report_82 flX9_7 ?_
              refine g_bipush hC dX9_report_85 bc_6 ?_
              refine g_ialdV hC (gx_9_0 hG h_b) (gl_9_0 hG h_b) dX9_report_87 (fun t7 => ?_)
              refine g_imul hC dX9_report_88 ?_
              refine g_iadd hC dX9_report_89 ?_
              refine g_istoreL hC (n0 := 7) (lv' := fun x8 => [(6, .int x8), (5, .int j1), (0, .ref b), (1, .int a1), (2, .int a2), (3, .int a3), (4, .int a4)]) dX9_report_90 (Nat.le_of_ble_eq_true rfl) hL (fun _ => rfl) (fun x8 => ?_)
              refine g_aload_n hC dX9_report_92 (j := 2) rfl rfl ?_
              refine g_getR hC fr_9_0 h_b (b := b + 1) rfl dX9_report_93 flX9_7 ?_
              refine g_iload hC dX9_report_96 (j := 0) rfl ?_
              refine g_iload_n hC dX9_report_98 (j := 3) rfl rfl ?_
              refine g_iastV hC (gx_9_0 hG h_b) (gl_9_0 hG h_b) dX9_report_99 (fun U9 => ?_)
              refine g_aload_n hC dX9_report_100 (j := 2) rfl rfl ?_
              refine g_getR hC fr_9_0 h_b (b := b + 1) rfl dX9_report_101 flX9_7 ?_
              refine g_iload hC dX9_report_104 (j := 0) rfl ?_
              refine g_iconst hC dX9_report_106 ic_1 ?_
              refine g_iadd hC dX9_report_107 ?_
              refine g_iload_n hC dX9_report_108 (j := 4) rfl rfl ?_
              refine g_iastV hC (gx_9_0 hG h_b) (gl_9_0 hG h_b) dX9_report_109 (fun U10 => ?_)
              refine g_aload_n hC dX9_report_110 (j := 2) rfl rfl ?_
              refine g_getR hC fr_9_0 h_b (b := b + 1) rfl dX9_report_111 flX9_7 ?_
              refine g_iload hC dX9_report_114 (j := 0) rfl ?_
              refine g_iconst hC dX9_report_116 ic_2 ?_
              refine g_iadd hC dX9_report_117 ?_
              refine g_iload_n hC dX9_report_118 (j := 5) rfl rfl ?_
              refine g_iastV hC (gx_9_0 hG h_b) (gl_9_0 hG h_b) dX9_report_119 (fun U11 => ?_)
              refine g_aload_n hC dX9_report_120 (j := 2) rfl rfl ?_
              refine g_getR hC fr_9_0 h_b (b := b + 1) rfl dX9_report_121 flX9_7 ?_
              refine g_iload hC dX9_report_124 (j := 0) rfl ?_
              refine g_iconst hC dX9_report_126 ic_3 ?_
              refine g_iadd hC dX9_report_127 ?_
              refine g_iload hC dX9_report_128 (j := 6) rfl ?_
              refine g_iastV hC (gx_9_0 hG h_b) (gl_9_0 hG h_b) dX9_report_130 (fun U12 => ?_)
              refine g_aload_n hC dX9_report_131 (j := 2) rfl rfl ?_
              refine g_getR hC fr_9_0 h_b (b := b + 1) rfl dX9_report_132 flX9_7 ?_
              refine g_bipush hC dX9_report_135 bc_6 ?_
              refine g_dup2 hC dX9_report_137 rfl rfl ?_
              refine g_ialdV hC (gx_9_0 hG h_b) (gl_9_0 hG h_b) dX9_report_138 (fun t13 => ?_)
              refine g_iconst hC dX9_report_139 ic_1 ?_
              refine g_iadd hC dX9_report_140 ?_
              refine g_iastV hC (gx_9_0 hG h_b) (gl_9_0 hG h_b) dX9_report_141 (fun U14 => ?_)
              refine g_aload_n hC dX9_report_142 (j := 2) rfl rfl ?_
              refine g_getR hC fr_9_0 h_b (b := b + 1) rfl dX9_report_143 flX9_7 ?_
              refine g_bipush hC dX9_report_146 bc_6 ?_
              refine g_ialdV hC (gx_9_0 hG h_b) (gl_9_0 hG h_b) dX9_report_148 (fun t15 => ?_)
              refine g_iconst hC dX9_report_149 ic_1 ?_
              refine g_isub hC dX9_report_150 ?_
              exact g_iret_iV hC hT dX9_report_151
def pX9_forget (V : V2) (b : Nat) : Option (Int32 × V2) :=
  (pX9_becomes V b 6 0).bind fun q1 =>
  some (q1.1, q1.2)
set_option maxHeartbeats 4000000 in
set_option maxRecDepth 100000 in
theorem kX9_forget {l : Launch} {D : Dx} {G : G2} {V : V2} {R : R2} {b : Nat} (hG : GX G) (h_b : own G b 19) {o : Int32 × V2} (hf : pX9_forget V b = some o) : Con l yX9_forget cX9_forget 1 (some .int) (rmN 1 0 0) D G V R [.ref b] (some (.int o.1), o.2, R, G, 0, 0) := by
  refine Con.mk RX9 (by decide) rfl (Nat.le_of_ble_eq_true rfl) (fun C _ hR hT _ _ hL hC hnm => ?_)
  revert hf
  unfold pX9_forget
  refine g_aload_n hC dX9_forget_0 (j := 0) rfl rfl ?_
  refine g_bipush hC dX9_forget_1 bc_6 ?_
  refine g_iconst hC dX9_forget_3 ic_0 ?_
  refine g_callV_iV hC hR ⟨Nat.zero_le _, Nat.zero_le _⟩ mwX9_becomes miX9_becomes (ci := 9) rfl h_b (Nat.le_of_ble_eq_true rfl) mlX9_134 (fun _ hq => kX9_becomes hG h_b hq) (Nat.le_of_ble_eq_true rfl) rfl (st := []) rfl (Nat.le_of_ble_eq_true rfl) dX9_forget_4 (fun q1 => ?_)
  exact g_iret_iV hC hT dX9_forget_7
def lX9_lies_17 (b : Nat) (a1 : Int32) (a2 : Int32) : Nat → V2 → Int32 → Option (V2)
  | 0, _, _ => none
  | f3 + 1, U4, x5 =>
    if (15 : Int32) ≤ x5 then (some U4)
    else ((ldI 16 (U4 (b + 9)) x5).bind fun t6 =>
    (ldI 572 (U4 (b + 1)) (50 + x5)).bind fun t7 =>
    (ldI 16 (U4 (b + 8)) x5).bind fun t8 =>
    (pX9_needsBy a1 t8 a2).bind fun q9 =>
    letv ((if (4 * (t7 / 4)) < q9 then (0)
    else (1) : Int32)) fun j10 =>
    (stI 16 U4 (b + 9) (x5 + 1) (t6 + j10)).bind fun U11 =>
    (ldI 16 (U11 (b + 8)) x5).bind fun t12 =>
    (ldI 572 (U11 (b + 1)) (50 + x5)).bind fun t13 =>
    (pX9_swells a1 0 x5 t13).bind fun q14 =>
    (pX9_lesser 99 (t12 + q14)).bind fun q15 =>
    (stI 16 U11 (b + 8) (x5 + 1) q15).bind fun U16 =>
    letv (x5 + 1) fun x17 =>
    lX9_lies_17 b a1 a2 f3 U16 x17)
def pX9_lies (n : Nat) (V : V2) (b : Nat) (a1 : Int32) (a2 : Int32) (a3 : Int32) : Option (V2) :=
  (stI 16 V (b + 8) 0 a3).bind fun U1 =>
  (stI 16 U1 (b + 9) 0 0).bind fun U2 =>
  (lX9_lies_17 b a1 a2 n U2 0).bind fun w18 =>
  some w18
set_option maxHeartbeats 4000000 in
set_option maxRecDepth 100000 in
theorem wX9_lies_17 {C : Cx} (hC : CxOK C cX9_lies RX9 none) (hL : C.2.2.2.2 = 5) {G : G2} {R : R2} {b : Nat} {a1 : Int32} {a2 : Int32} (hG : GX G) (h_b : own G b 19) (hR : C.1.2.2.2.1 = rmN 2 0 0) {o : V2} (hX : Go C 120 [] [] o R G 0 0) : ∀ (f : Nat) (U4 : V2) (x5 : Int32), lX9_lies_17 b a1 a2 f U4 x5 = some o → Go C 17 [(0, .ref b), (1, .int a1), (2, .int a2), (4, .int x5)] [] U4 R G 0 0 := by
  intro f
  induction f with
  | zero => intro _ _ hf; exact absurd hf (by unfold lX9_lies_17; exact fun z => nomatch z)
  | succ f3 ih =>
    intro U4 x5
    unfold lX9_lies_17
    refine g_iload hC dX9_lies_17 (j := 3) rfl ?_
    refine g_bipush hC dX9_lies_19 bc_15 ?_
    refine g_icmp_ge hC dX9_lies_21 ?_ ?_
    · refine g_sub [] rfl ?_
      exact fun e => by cases e; exact hX
    · refine g_aload_n hC dX9_lies_24 (j := 0) rfl rfl ?_
      refine g_getR hC fr_9_23 h_b (b := b + 9) rfl dX9_lies_25 flX9_34 ?_
      refine g_iload hC dX9_lies_28 (j := 3) rfl ?_
      refine g_iconst hC dX9_lies_30 ic_1 ?_
      refine g_iadd hC dX9_lies_31 ?_
      refine g_aload_n hC dX9_lies_32 (j := 0) rfl rfl ?_
      refine g_getR hC fr_9_23 h_b (b := b + 9) rfl dX9_lies_33 flX9_34 ?_
      refine g_iload hC dX9_lies_36 (j := 3) rfl ?_
      refine g_ialdV hC (gx_9_23 hG h_b) (gl_9_23 hG h_b) dX9_lies_38 (fun t6 => ?_)
      refine g_iconst hC dX9_lies_39 ic_4 ?_
      refine g_aload_n hC dX9_lies_40 (j := 0) rfl rfl ?_
      refine g_getR hC fr_9_0 h_b (b := b + 1) rfl dX9_lies_41 flX9_7 ?_
      refine g_bipush hC dX9_lies_44 bc_50 ?_
      refine g_iload hC dX9_lies_46 (j := 3) rfl ?_
      refine g_iadd hC dX9_lies_48 ?_
      refine g_ialdV hC (gx_9_0 hG h_b) (gl_9_0 hG h_b) dX9_lies_49 (fun t7 => ?_)
      refine g_iconst hC dX9_lies_50 ic_4 ?_
      refine g_idivC hC dX9_lies_51 nzi_4 ?_
      refine g_imul hC dX9_lies_52 ?_
      refine g_iload_n hC dX9_lies_53 (j := 1) rfl rfl ?_
      refine g_aload_n hC dX9_lies_54 (j := 0) rfl rfl ?_
      refine g_getR hC fr_9_22 h_b (b := b + 8) rfl dX9_lies_55 flX9_31 ?_
      refine g_iload hC dX9_lies_58 (j := 3) rfl ?_
      refine g_ialdV hC (gx_9_22 hG h_b) (gl_9_22 hG h_b) dX9_lies_60 (fun t8 => ?_)
      refine g_iload_n hC dX9_lies_61 (j := 2) rfl rfl ?_
      refine g_callS_i hC hR ⟨Nat.zero_le _, Nat.zero_le _⟩ mwX9_needsBy ms_X9_needsBy mlX9_90 (fun _ hq => kX9_needsBy  hq) (Nat.le_of_ble_eq_true rfl) rfl (st := [.int (4 * (t7 / 4)), .int t6, .int (x5 + 1), .ref (b + 9)]) rfl (Nat.le_of_ble_eq_true rfl) dX9_lies_62 (fun q9 => ?_)
      refine g_letJ (J := fun j10 => Go C 73 [(0, .ref b), (1, .int a1), (2, .int a2), (4, .int x5)] [.int j10, .int t6, .int (x5 + 1), .ref (b + 9)] U4 R G 0 0) (fun j10 hJ => ?_) (fun j10 => ?_)
      · refine g_icmp_lt hC dX9_lies_65 ?_ ?_
        · refine g_iconst hC dX9_lies_72 ic_0 ?_
          exact fun e => by cases e; exact hJ
        · refine g_iconst hC dX9_lies_68 ic_1 ?_
          refine g_goto hC dX9_lies_69 ?_
          exact fun e => by cases e; exact hJ
      · refine g_iadd hC dX9_lies_73 ?_
        refine g_iastV hC (gx_9_23 hG h_b) (gl_9_23 hG h_b) dX9_lies_74 (fun U11 => ?_)
        refine g_aload_n hC dX9_lies_75 (j := 0) rfl rfl ?_
        refine g_getR hC fr_9_22 h_b (b := b + 8) rfl dX9_lies_76 flX9_31 ?_
        refine g_iload hC dX9_lies_79 (j := 3) rfl ?_
        refine g_iconst hC dX9_lies_81 ic_1 ?_
        refine g_iadd hC dX9_lies_82 ?_
        refine g_bipush hC dX9_lies_83 bc_99 ?_
        refine g_aload_n hC dX9_lies_85 (j := 0) rfl rfl ?_
        refine g_getR hC fr_9_22 h_b (b := b + 8) rfl dX9_lies_86 flX9_31 ?_
        refine g_iload hC dX9_lies_89 (j := 3) rfl ?_
        refine g_ialdV hC (gx_9_22 hG h_b) (gl_9_22 hG h_b) dX9_lies_91 (fun t12 => ?_)
        refine g_iload_n hC dX9_lies_92 (j := 1) rfl rfl ?_
        refine g_iconst hC dX9_lies_93 ic_0 ?_
        refine g_iload hC dX9_lies_94 (j := 3) rfl ?_
        refine g_aload_n hC dX9_lies_96 (j := 0) rfl rfl ?_
        refine g_getR hC fr_9_0 h_b (b := b + 1) rfl dX9_lies_97 flX9_7 ?_
        refine g_bipush hC dX9_lies_100 bc_50 ?_
        refine g_iload hC dX9_lies_102 (j := 3) rfl ?_
        refine g_iadd hC dX9_lies_104 ?_
        refine g_ialdV hC (gx_9_0 hG h_b) (gl_9_0 hG h_b) dX9_lies_105 (fun t13 => ?_)
        refine g_callS_i hC hR ⟨Nat.zero_le _, Nat.zero_le _⟩ mwX9_swells ms_X9_swells mlX9_86 (fun _ hq => kX9_swells  hq) (Nat.le_of_ble_eq_true rfl) rfl (st := [.int t12, .int 99, .int (x5 + 1), .ref (b + 8)]) rfl (Nat.le_of_ble_eq_true rfl) dX9_lies_106 (fun q14 => ?_)
        refine g_iadd hC dX9_lies_109 ?_
        refine g_callS_i hC hR ⟨Nat.zero_le _, Nat.zero_le _⟩ mwX9_lesser ms_X9_lesser mlX9_240 (fun _ hq => kX9_lesser  hq) (Nat.le_of_ble_eq_true rfl) rfl (st := [.int (x5 + 1), .ref (b + 8)]) rfl (Nat.le_of_ble_eq_true rfl) dX9_lies_110 (fun q15 => ?_)
        refine g_iastV hC (gx_9_22 hG h_b) (gl_9_22 hG h_b) dX9_lies_113 (fun U16 => ?_)
        refine g_iincL hC (n0 := 5) (j := 3) (lv' := fun x17 => [(4, .int x17), (0, .ref b), (1, .int a1), (2, .int a2)]) dX9_lies_114 rfl ic_1 (Nat.le_of_ble_eq_true rfl) hL (fun _ => rfl) (fun x17 => ?_)
        refine g_goto hC dX9_lies_117 ?_
        refine g_sub [1, 2, 3, 0] rfl ?_
        exact ih U16 x17
set_option maxHeartbeats 4000000 in
set_option maxRecDepth 100000 in
theorem kX9_lies {l : Launch} {D : Dx} {G : G2} {V : V2} {R : R2} {n : Nat} {b : Nat} {a1 : Int32} {a2 : Int32} {a3 : Int32} (hG : GX G) (h_b : own G b 19) {o : V2} (hf : pX9_lies n V b a1 a2 a3 = some o) : Con l yX9_lies cX9_lies 5 none (rmN 2 0 0) D G V R [.ref b, .int a1, .int a2, .int a3] (none, o, R, G, 0, 0) := by
  refine Con.mk RX9 (by decide) rfl (Nat.le_of_ble_eq_true rfl) (fun C _ hR hT _ _ hL hC hnm => ?_)
  revert hf
  unfold pX9_lies
  refine g_aload_n hC dX9_lies_0 (j := 0) rfl rfl ?_
  refine g_getR hC fr_9_22 h_b (b := b + 8) rfl dX9_lies_1 flX9_31 ?_
  refine g_iconst hC dX9_lies_4 ic_0 ?_
  refine g_iload_n hC dX9_lies_5 (j := 3) rfl rfl ?_
  refine g_iastV hC (gx_9_22 hG h_b) (gl_9_22 hG h_b) dX9_lies_6 (fun U1 => ?_)
  refine g_aload_n hC dX9_lies_7 (j := 0) rfl rfl ?_
  refine g_getR hC fr_9_23 h_b (b := b + 9) rfl dX9_lies_8 flX9_34 ?_
  refine g_iconst hC dX9_lies_11 ic_0 ?_
  refine g_iconst hC dX9_lies_12 ic_0 ?_
  refine g_iastV hC (gx_9_23 hG h_b) (gl_9_23 hG h_b) dX9_lies_13 (fun U2 => ?_)
  refine g_iconst hC dX9_lies_14 ic_0 ?_
  refine g_istore hC (n0 := 5) (lv' := [(4, .int 0), (0, .ref b), (1, .int a1), (2, .int a2), (3, .int a3)]) dX9_lies_15 (Nat.le_of_ble_eq_true rfl) hL rfl ?_
  refine g_sub [1, 2, 3, 0] rfl ?_
  refine g_bind (J := fun w18 => Go C 120 [] [] w18 R G 0 0) (fun w18 hJ => wX9_lies_17 hC hL hG h_b hR hJ n U2 0) (fun w18 => ?_)
  exact g_vret_vV hC hT dX9_lies_120
def lX9_isFit_4 (V : V2) (b : Nat) (a1 : Int32) : Nat → Int32 → Int32 → Option (Int32)
  | 0, _, _ => none
  | f1 + 1, x2, x3 =>
    (ldI 572 (V (b + 1)) 6).bind fun t4 =>
    if t4 ≤ x3 then (some x2)
    else (letv (98 + (4 * x3)) fun x5 =>
    (ldI 572 (V (b + 1)) (x5 + 1)).bind fun t6 =>
    ((if t6 = 0 then ((ldI 572 (V (b + 1)) x5).bind fun t8 =>
    (ldI 16 (V (b + 8)) t8).bind fun t9 =>
    some t9)
    else ((ldI 572 (V (b + 1)) x5).bind fun t10 =>
    (ldI 16 (V (b + 9)) t10).bind fun t11 =>
    some t11) : Option (Int32))).bind fun j7 =>
    letv (fun (u13 : Unit) => (letv (x2 &&& 1) fun x14 =>
    letv (x3 + 1) fun x15 =>
    lX9_isFit_4 V b a1 f1 x14 x15)) fun j12 =>
    if x3 = a1 then (j12 ())
    else ((ldI 572 (V (b + 1)) (x5 + 2)).bind fun t16 =>
    (ldI 572 (V (b + 1)) (x5 + 3)).bind fun t17 =>
    (pX9_isIn j7.toInt64 t16.toInt64 t17.toInt64).bind fun q18 =>
    if q18 = 0 then (letv (x2 &&& 0) fun x19 =>
    letv (x3 + 1) fun x20 =>
    lX9_isFit_4 V b a1 f1 x19 x20)
    else (j12 ())))
def pX9_isFit (n : Nat) (V : V2) (b : Nat) (a1 : Int32) : Option (Int32) :=
  (lX9_isFit_4 V b a1 n 1 0).bind fun w21 =>
  if isb w21 then some w21 else none
set_option maxHeartbeats 4000000 in
set_option maxRecDepth 100000 in
theorem wX9_isFit_4 {C : Cx} (hC : CxOK C cX9_isFit RX9 (some .boolean)) (hL : C.2.2.2.2 = 6) {G : G2} {V : V2} {R : R2} {b : Nat} {a1 : Int32} (hG : GX G) (h_b : own G b 19) (hR : C.1.2.2.2.1 = rmN 1 0 0) {o : Int32} (hX : Go C 112 [(2, .int o)] [] V R G 0 0) : ∀ (f : Nat) (x2 : Int32) (x3 : Int32), lX9_isFit_4 V b a1 f x2 x3 = some o → Go C 4 [(0, .ref b), (1, .int a1), (2, .int x2), (3, .int x3)] [] V R G 0 0 := by
  intro f
  induction f with
  | zero => intro _ _ hf; exact absurd hf (by unfold lX9_isFit_4; exact fun z => nomatch z)
  | succ f1 ih =>
    intro x2 x3
    unfold lX9_isFit_4
    refine g_iload_n hC dX9_isFit_4 (j := 3) rfl rfl ?_
    refine g_aload_n hC dX9_isFit_5 (j := 0) rfl rfl ?_
    refine g_getR hC fr_9_0 h_b (b := b + 1) rfl dX9_isFit_6 flX9_7 ?_
    refine g_bipush hC dX9_isFit_9 bc_6 ?_
    refine g_ialdV hC (gx_9_0 hG h_b) (gl_9_0 hG h_b) dX9_isFit_11 (fun t4 => ?_)
    refine g_icmp_ge hC dX9_isFit_12 ?_ ?_
    · refine g_sub [2] rfl ?_
      exact fun e => by cases e; exact hX
    · refine g_bipush hC dX9_isFit_15 bc_98 ?_
      refine g_iconst hC dX9_isFit_17 ic_4 ?_
      refine g_iload_n hC dX9_isFit_18 (j := 3) rfl rfl ?_
      refine g_imul hC dX9_isFit_19 ?_
      refine g_iadd hC dX9_isFit_20 ?_
      refine g_istoreL hC (n0 := 6) (lv' := fun x5 => [(4, .int x5), (0, .ref b), (1, .int a1), (2, .int x2), (3, .int x3)]) dX9_isFit_21 (Nat.le_of_ble_eq_true rfl) hL (fun _ => rfl) (fun x5 => ?_)
      refine g_aload_n hC dX9_isFit_23 (j := 1) rfl rfl ?_
      refine g_getR hC fr_9_0 h_b (b := b + 1) rfl dX9_isFit_24 flX9_7 ?_
      refine g_iload hC dX9_isFit_27 (j := 0) rfl ?_
      refine g_iconst hC dX9_isFit_29 ic_1 ?_
      refine g_iadd hC dX9_isFit_30 ?_
      refine g_ialdV hC (gx_9_0 hG h_b) (gl_9_0 hG h_b) dX9_isFit_31 (fun t6 => ?_)
      refine g_bind (J := fun j7 => Go C 62 [(0, .ref b), (1, .int a1), (2, .int x2), (3, .int x3), (4, .int x5)] [.int j7] V R G 0 0) (fun j7 hJ => ?_) (fun j7 => ?_)
      · refine g_if_ne hC dX9_isFit_32 ?_ ?_
        · refine g_aload_n hC dX9_isFit_35 (j := 1) rfl rfl ?_
          refine g_getR hC fr_9_22 h_b (b := b + 8) rfl dX9_isFit_36 flX9_31 ?_
          refine g_aload_n hC dX9_isFit_39 (j := 1) rfl rfl ?_
          refine g_getR hC fr_9_0 h_b (b := b + 1) rfl dX9_isFit_40 flX9_7 ?_
          refine g_iload hC dX9_isFit_43 (j := 0) rfl ?_
          refine g_ialdV hC (gx_9_0 hG h_b) (gl_9_0 hG h_b) dX9_isFit_45 (fun t8 => ?_)
          refine g_ialdV hC (gx_9_22 hG h_b) (gl_9_22 hG h_b) dX9_isFit_46 (fun t9 => ?_)
          refine g_goto hC dX9_isFit_47 ?_
          refine g_sub [1, 2, 3, 4, 0] rfl ?_
          exact fun e => by cases e; exact hJ
        · refine g_aload_n hC dX9_isFit_50 (j := 1) rfl rfl ?_
          refine g_getR hC fr_9_23 h_b (b := b + 9) rfl dX9_isFit_51 flX9_34 ?_
          refine g_aload_n hC dX9_isFit_54 (j := 1) rfl rfl ?_
          refine g_getR hC fr_9_0 h_b (b := b + 1) rfl dX9_isFit_55 flX9_7 ?_
          refine g_iload hC dX9_isFit_58 (j := 0) rfl ?_
          refine g_ialdV hC (gx_9_0 hG h_b) (gl_9_0 hG h_b) dX9_isFit_60 (fun t10 => ?_)
          refine g_ialdV hC (gx_9_23 hG h_b) (gl_9_23 hG h_b) dX9_isFit_61 (fun t11 => ?_)
          refine g_sub [1, 2, 3, 4, 0] rfl ?_
          exact fun e => by cases e; exact hJ
      · refine g_istore hC (n0 := 6) (lv' := [(5, .int j7), (0, .ref b), (1, .int a1), (2, .int x2), (3, .int x3), (4, .int x5)]) dX9_isFit_62 (Nat.le_of_ble_eq_true rfl) hL rfl ?_
        refine g_iload_n hC dX9_isFit_64 (j := 3) rfl rfl ?_
        refine g_iload_n hC dX9_isFit_65 (j := 4) rfl rfl ?_
        refine g_iload_n hC dX9_isFit_66 (j := 2) rfl rfl ?_
        refine g_jn (J := fun j12 => ∀ (u13 : Unit), j12 u13 = some o → Go C 99 [(0, .ref b), (1, .int a1), (3, .int x3)] [.int x2] V R G 0 0) (fun u13 => ?_) (fun j12 hJ => ?_)
        · refine g_iconst hC dX9_isFit_99 ic_1 ?_
          refine g_goto hC dX9_isFit_100 ?_
          refine g_iand hC dX9_isFit_104 ?_
          refine g_istore_nL hC (n0 := 6) (lv' := fun x14 => [(2, .int x14), (0, .ref b), (1, .int a1), (3, .int x3)]) dX9_isFit_105 rfl (Nat.le_of_ble_eq_true rfl) hL (fun _ => rfl) (fun x14 => ?_)
          refine g_iincL hC (n0 := 6) (j := 3) (lv' := fun x15 => [(3, .int x15), (2, .int x14), (0, .ref b), (1, .int a1)]) dX9_isFit_106 rfl ic_1 (Nat.le_of_ble_eq_true rfl) hL (fun _ => rfl) (fun x15 => ?_)
          refine g_goto hC dX9_isFit_109 ?_
          refine g_sub [2, 3, 1, 0] rfl ?_
          exact ih x14 x15
        · refine g_icmp_eq hC dX9_isFit_67 ?_ ?_
          · refine g_sub [1, 2, 4] rfl ?_
            exact hJ ()
          · refine g_iload hC dX9_isFit_70 (j := 0) rfl ?_
            refine g_i2l hC dX9_isFit_72 ?_
            refine g_aload_n hC dX9_isFit_73 (j := 1) rfl rfl ?_
            refine g_getR hC fr_9_0 h_b (b := b + 1) rfl dX9_isFit_74 flX9_7 ?_
            refine g_iload hC dX9_isFit_77 (j := 5) rfl ?_
            refine g_iconst hC dX9_isFit_79 ic_2 ?_
            refine g_iadd hC dX9_isFit_80 ?_
            refine g_ialdV hC (gx_9_0 hG h_b) (gl_9_0 hG h_b) dX9_isFit_81 (fun t16 => ?_)
            refine g_i2l hC dX9_isFit_82 ?_
            refine g_aload_n hC dX9_isFit_83 (j := 1) rfl rfl ?_
            refine g_getR hC fr_9_0 h_b (b := b + 1) rfl dX9_isFit_84 flX9_7 ?_
            refine g_iload hC dX9_isFit_87 (j := 5) rfl ?_
            refine g_iconst hC dX9_isFit_89 ic_3 ?_
            refine g_iadd hC dX9_isFit_90 ?_
            refine g_ialdV hC (gx_9_0 hG h_b) (gl_9_0 hG h_b) dX9_isFit_91 (fun t17 => ?_)
            refine g_i2l hC dX9_isFit_92 ?_
            refine g_callS_i hC hR ⟨Nat.zero_le _, Nat.zero_le _⟩ mwX9_isIn ms_X9_isIn mlX9_63 (fun _ hq => kX9_isIn  hq) (Nat.le_of_ble_eq_true rfl) rfl (st := [.int x2]) rfl (Nat.le_of_ble_eq_true rfl) dX9_isFit_93 (fun q18 => ?_)
            refine g_if_eq hC dX9_isFit_96 ?_ ?_
            · refine g_iconst hC dX9_isFit_103 ic_0 ?_
              refine g_iand hC dX9_isFit_104 ?_
              refine g_istore_nL hC (n0 := 6) (lv' := fun x19 => [(2, .int x19), (5, .int j7), (0, .ref b), (1, .int a1), (3, .int x3), (4, .int x5)]) dX9_isFit_105 rfl (Nat.le_of_ble_eq_true rfl) hL (fun _ => rfl) (fun x19 => ?_)
              refine g_iincL hC (n0 := 6) (j := 4) (lv' := fun x20 => [(3, .int x20), (2, .int x19), (5, .int j7), (0, .ref b), (1, .int a1), (4, .int x5)]) dX9_isFit_106 rfl ic_1 (Nat.le_of_ble_eq_true rfl) hL (fun _ => rfl) (fun x20 => ?_)
              refine g_goto hC dX9_isFit_109 ?_
              refine g_sub [3, 4, 1, 0] rfl ?_
              exact ih x19 x20
            · refine g_sub [1, 2, 4] rfl ?_
              exact hJ ()
set_option maxHeartbeats 4000000 in
set_option maxRecDepth 100000 in
theorem kX9_isFit {l : Launch} {D : Dx} {G : G2} {V : V2} {R : R2} {n : Nat} {b : Nat} {a1 : Int32} (hG : GX G) (h_b : own G b 19) {o : Int32} (hf : pX9_isFit n V b a1 = some o) : Con l yX9_isFit cX9_isFit 6 (some .boolean) (rmN 1 0 0) D G V R [.ref b, .int a1] (some (.int o), V, R, G, 0, 0) := by
  refine Con.mk RX9 (by decide) rfl (Nat.le_of_ble_eq_true rfl) (fun C _ hR hT _ _ hL hC hnm => ?_)
  revert hf
  unfold pX9_isFit
  refine g_iconst hC dX9_isFit_0 ic_1 ?_
  refine g_istore_n hC (n0 := 6) (lv' := [(2, .int 1), (0, .ref b), (1, .int a1)]) dX9_isFit_1 rfl (Nat.le_of_ble_eq_true rfl) hL rfl ?_
  refine g_iconst hC dX9_isFit_2 ic_0 ?_
  refine g_istore_n hC (n0 := 6) (lv' := [(3, .int 0), (2, .int 1), (0, .ref b), (1, .int a1)]) dX9_isFit_3 rfl (Nat.le_of_ble_eq_true rfl) hL rfl ?_
  refine g_sub [2, 3, 1, 0] rfl ?_
  refine g_bind (J := fun w21 => Go C 112 [(2, .int w21)] [] V R G 0 0) (fun w21 hJ => wX9_isFit_4 hC hL hG h_b hR hJ n 1 0) (fun w21 => ?_)
  refine g_iload_n hC dX9_isFit_112 (j := 0) rfl rfl ?_
  refine g_guardb (fun hz22 => ?_)
  exact g_zret_i hC hz22 hT dX9_isFit_113
