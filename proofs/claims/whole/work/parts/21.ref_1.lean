def pX9_isIn (a1 : Int64) (a2 : Int64) (a3 : Int64) : Option (Int32) :=
  if (lg_cmp a1 a2) < 0 then (some 0)
  else (if 0 < (lg_cmp a1 a3) then (some 0)
  else (some 1))
set_option maxHeartbeats 4000000 in
set_option maxRecDepth 100000 in
theorem kX9_isIn {l : Launch} {D : Dx} {G : G2} {V : V2} {R : R2} {a1 : Int64} {a2 : Int64} {a3 : Int64}  {o : Int32} (hf : pX9_isIn a1 a2 a3 = some o) : Con l yX9_isIn cX9_isIn 6 (some .boolean) (rmN 0 0 0) D G V R [.long a1, .long a2, .long a3] (some (.int o), V, R, G, 0, 0) := by
  refine Con.mk RX9 (by decide) rfl (Nat.le_of_ble_eq_true rfl) (fun C _ hR hT _ _ hL hC hnm => ?_)
  revert hf
  unfold pX9_isIn
  refine g_lload_n hC dX9_isIn_0 (j := 0) rfl rfl ?_
  refine g_lload_n hC dX9_isIn_1 (j := 1) rfl rfl ?_
  refine g_lcmp hC dX9_isIn_2 ?_
  refine g_if_lt hC dX9_isIn_3 ?_ ?_
  · refine g_iconst hC dX9_isIn_17 ic_0 ?_
    exact g_zret_i hC rfl hT dX9_isIn_18
  · refine g_lload_n hC dX9_isIn_6 (j := 0) rfl rfl ?_
    refine g_lload hC dX9_isIn_7 (j := 2) rfl ?_
    refine g_lcmp hC dX9_isIn_9 ?_
    refine g_if_gt hC dX9_isIn_10 ?_ ?_
    · refine g_iconst hC dX9_isIn_17 ic_0 ?_
      exact g_zret_i hC rfl hT dX9_isIn_18
    · refine g_iconst hC dX9_isIn_13 ic_1 ?_
      refine g_goto hC dX9_isIn_14 ?_
      exact g_zret_i hC rfl hT dX9_isIn_18
def pX9_isOne (V : V2) (b : Nat) (a1 : Int32) : Option (Int32) :=
  if a1 < 0 then (some 0)
  else ((ldI 572 (V (b + 1)) 0).bind fun t1 =>
  if t1 ≤ a1 then (some 0)
  else (some 1))
set_option maxHeartbeats 4000000 in
set_option maxRecDepth 100000 in
theorem kX9_isOne {l : Launch} {D : Dx} {G : G2} {V : V2} {R : R2} {b : Nat} {a1 : Int32} (hG : GX G) (h_b : own G b 19) {o : Int32} (hf : pX9_isOne V b a1 = some o) : Con l yX9_isOne cX9_isOne 2 (some .boolean) (rmN 0 0 0) D G V R [.ref b, .int a1] (some (.int o), V, R, G, 0, 0) := by
  refine Con.mk RX9 (by decide) rfl (Nat.le_of_ble_eq_true rfl) (fun C _ hR hT _ _ hL hC hnm => ?_)
  revert hf
  unfold pX9_isOne
  refine g_iload_n hC dX9_isOne_0 (j := 1) rfl rfl ?_
  refine g_if_lt hC dX9_isOne_1 ?_ ?_
  · refine g_iconst hC dX9_isOne_18 ic_0 ?_
    exact g_zret_i hC rfl hT dX9_isOne_19
  · refine g_iload_n hC dX9_isOne_4 (j := 1) rfl rfl ?_
    refine g_aload_n hC dX9_isOne_5 (j := 0) rfl rfl ?_
    refine g_getR hC fr_9_0 h_b (b := b + 1) rfl dX9_isOne_6 flX9_7 ?_
    refine g_iconst hC dX9_isOne_9 ic_0 ?_
    refine g_ialdV hC (gx_9_0 hG h_b) (gl_9_0 hG h_b) dX9_isOne_10 (fun t1 => ?_)
    refine g_icmp_ge hC dX9_isOne_11 ?_ ?_
    · refine g_iconst hC dX9_isOne_18 ic_0 ?_
      exact g_zret_i hC rfl hT dX9_isOne_19
    · refine g_iconst hC dX9_isOne_14 ic_1 ?_
      refine g_goto hC dX9_isOne_15 ?_
      exact g_zret_i hC rfl hT dX9_isOne_19
def pX9_isBoard (a1 : Int32) : Option (Int32) :=
  if a1 < 0 then (some 0)
  else (if (6 : Int32) ≤ a1 then (some 0)
  else (some 1))
set_option maxHeartbeats 4000000 in
set_option maxRecDepth 100000 in
theorem kX9_isBoard {l : Launch} {D : Dx} {G : G2} {V : V2} {R : R2} {a1 : Int32}  {o : Int32} (hf : pX9_isBoard a1 = some o) : Con l yX9_isBoard cX9_isBoard 1 (some .boolean) (rmN 0 0 0) D G V R [.int a1] (some (.int o), V, R, G, 0, 0) := by
  refine Con.mk RX9 (by decide) rfl (Nat.le_of_ble_eq_true rfl) (fun C _ hR hT _ _ hL hC hnm => ?_)
  revert hf
  unfold pX9_isBoard
  refine g_iload_n hC dX9_isBoard_0 (j := 0) rfl rfl ?_
  refine g_if_lt hC dX9_isBoard_1 ?_ ?_
  · refine g_iconst hC dX9_isBoard_14 ic_0 ?_
    exact g_zret_i hC rfl hT dX9_isBoard_15
  · refine g_iload_n hC dX9_isBoard_4 (j := 0) rfl rfl ?_
    refine g_bipush hC dX9_isBoard_5 bc_6 ?_
    refine g_icmp_ge hC dX9_isBoard_7 ?_ ?_
    · refine g_iconst hC dX9_isBoard_14 ic_0 ?_
      exact g_zret_i hC rfl hT dX9_isBoard_15
    · refine g_iconst hC dX9_isBoard_10 ic_1 ?_
      refine g_goto hC dX9_isBoard_11 ?_
      exact g_zret_i hC rfl hT dX9_isBoard_15
def pX9_its (V : V2) (b : Nat) (a1 : Int32) (a2 : Int32) : Option (Int32) :=
  (ldI 572 (V (b + 1)) ((8 + (5 * a1)) + a2)).bind fun t1 =>
  some t1
set_option maxHeartbeats 4000000 in
set_option maxRecDepth 100000 in
theorem kX9_its {l : Launch} {D : Dx} {G : G2} {V : V2} {R : R2} {b : Nat} {a1 : Int32} {a2 : Int32} (hG : GX G) (h_b : own G b 19) {o : Int32} (hf : pX9_its V b a1 a2 = some o) : Con l yX9_its cX9_its 3 (some .int) (rmN 0 0 0) D G V R [.ref b, .int a1, .int a2] (some (.int o), V, R, G, 0, 0) := by
  refine Con.mk RX9 (by decide) rfl (Nat.le_of_ble_eq_true rfl) (fun C _ hR hT _ _ hL hC hnm => ?_)
  revert hf
  unfold pX9_its
  refine g_aload_n hC dX9_its_0 (j := 0) rfl rfl ?_
  refine g_getR hC fr_9_0 h_b (b := b + 1) rfl dX9_its_1 flX9_7 ?_
  refine g_bipush hC dX9_its_4 bc_8 ?_
  refine g_iconst hC dX9_its_6 ic_5 ?_
  refine g_iload_n hC dX9_its_7 (j := 1) rfl rfl ?_
  refine g_imul hC dX9_its_8 ?_
  refine g_iadd hC dX9_its_9 ?_
  refine g_iload_n hC dX9_its_10 (j := 2) rfl rfl ?_
  refine g_iadd hC dX9_its_11 ?_
  refine g_ialdV hC (gx_9_0 hG h_b) (gl_9_0 hG h_b) dX9_its_12 (fun t1 => ?_)
  exact g_iret_i hC hT dX9_its_13
def pX9_becomes (V : V2) (b : Nat) (a1 : Int32) (a2 : Int32) : Option (Int32 × V2) :=
  (ldI 572 (V (b + 1)) a1).bind fun t1 =>
  (stI 572 V (b + 1) a1 a2).bind fun U2 =>
  some (t1, U2)
set_option maxHeartbeats 4000000 in
set_option maxRecDepth 100000 in
theorem kX9_becomes {l : Launch} {D : Dx} {G : G2} {V : V2} {R : R2} {b : Nat} {a1 : Int32} {a2 : Int32} (hG : GX G) (h_b : own G b 19) {o : Int32 × V2} (hf : pX9_becomes V b a1 a2 = some o) : Con l yX9_becomes cX9_becomes 4 (some .int) (rmN 0 0 0) D G V R [.ref b, .int a1, .int a2] (some (.int o.1), o.2, R, G, 0, 0) := by
  refine Con.mk RX9 (by decide) rfl (Nat.le_of_ble_eq_true rfl) (fun C _ hR hT _ _ hL hC hnm => ?_)
  revert hf
  unfold pX9_becomes
  refine g_aload_n hC dX9_becomes_0 (j := 0) rfl rfl ?_
  refine g_getR hC fr_9_0 h_b (b := b + 1) rfl dX9_becomes_1 flX9_7 ?_
  refine g_iload_n hC dX9_becomes_4 (j := 1) rfl rfl ?_
  refine g_ialdV hC (gx_9_0 hG h_b) (gl_9_0 hG h_b) dX9_becomes_5 (fun t1 => ?_)
  refine g_istore_n hC (n0 := 4) (lv' := [(3, .int t1), (0, .ref b), (1, .int a1), (2, .int a2)]) dX9_becomes_6 rfl (Nat.le_of_ble_eq_true rfl) hL rfl ?_
  refine g_aload_n hC dX9_becomes_7 (j := 1) rfl rfl ?_
  refine g_getR hC fr_9_0 h_b (b := b + 1) rfl dX9_becomes_8 flX9_7 ?_
  refine g_iload_n hC dX9_becomes_11 (j := 2) rfl rfl ?_
  refine g_iload_n hC dX9_becomes_12 (j := 3) rfl rfl ?_
  refine g_iastV hC (gx_9_0 hG h_b) (gl_9_0 hG h_b) dX9_becomes_13 (fun U2 => ?_)
  refine g_iload_n hC dX9_becomes_14 (j := 0) rfl rfl ?_
  exact g_iret_iV hC hT dX9_becomes_15
def lX9_laysAside_2 (b : Nat) (a1 : Int32) : Nat → V2 → Int32 → Option (V2)
  | 0, _, _ => none
  | f1 + 1, U2, x3 =>
    if (38 : Int32) ≤ x3 then (some U2)
    else ((ldI 572 (U2 (b + 1)) x3).bind fun t4 =>
    (stI 190 U2 (b + 3) ((38 * a1) + x3) t4).bind fun U5 =>
    letv (x3 + 1) fun x6 =>
    lX9_laysAside_2 b a1 f1 U5 x6)
def pX9_laysAside (n : Nat) (V : V2) (b : Nat) (a1 : Int32) : Option (V2) :=
  (lX9_laysAside_2 b a1 n V 0).bind fun w7 =>
  some w7
set_option maxHeartbeats 4000000 in
set_option maxRecDepth 100000 in
theorem wX9_laysAside_2 {C : Cx} (hC : CxOK C cX9_laysAside RX9 none) (hL : C.2.2.2.2 = 3) {G : G2} {R : R2} {b : Nat} {a1 : Int32} (hG : GX G) (h_b : own G b 19) {o : V2} (hX : Go C 31 [] [] o R G 0 0) : ∀ (f : Nat) (U2 : V2) (x3 : Int32), lX9_laysAside_2 b a1 f U2 x3 = some o → Go C 2 [(0, .ref b), (1, .int a1), (2, .int x3)] [] U2 R G 0 0 := by
  intro f
  induction f with
  | zero => intro _ _ hf; exact absurd hf (by unfold lX9_laysAside_2; exact fun z => nomatch z)
  | succ f1 ih =>
    intro U2 x3
    unfold lX9_laysAside_2
    refine g_iload_n hC dX9_laysAside_2 (j := 2) rfl rfl ?_
    refine g_bipush hC dX9_laysAside_3 bc_38 ?_
    refine g_icmp_ge hC dX9_laysAside_5 ?_ ?_
    · refine g_sub [] rfl ?_
      exact fun e => by cases e; exact hX
    · refine g_aload_n hC dX9_laysAside_8 (j := 0) rfl rfl ?_
      refine g_getR hC fr_9_3 h_b (b := b + 3) rfl dX9_laysAside_9 flX9_16 ?_
      refine g_bipush hC dX9_laysAside_12 bc_38 ?_
      refine g_iload_n hC dX9_laysAside_14 (j := 1) rfl rfl ?_
      refine g_imul hC dX9_laysAside_15 ?_
      refine g_iload_n hC dX9_laysAside_16 (j := 2) rfl rfl ?_
      refine g_iadd hC dX9_laysAside_17 ?_
      refine g_aload_n hC dX9_laysAside_18 (j := 0) rfl rfl ?_
      refine g_getR hC fr_9_0 h_b (b := b + 1) rfl dX9_laysAside_19 flX9_7 ?_
      refine g_iload_n hC dX9_laysAside_22 (j := 2) rfl rfl ?_
      refine g_ialdV hC (gx_9_0 hG h_b) (gl_9_0 hG h_b) dX9_laysAside_23 (fun t4 => ?_)
      refine g_iastV hC (gx_9_3 hG h_b) (gl_9_3 hG h_b) dX9_laysAside_24 (fun U5 => ?_)
      refine g_iincL hC (n0 := 3) (j := 2) (lv' := fun x6 => [(2, .int x6), (0, .ref b), (1, .int a1)]) dX9_laysAside_25 rfl ic_1 (Nat.le_of_ble_eq_true rfl) hL (fun _ => rfl) (fun x6 => ?_)
      refine g_goto hC dX9_laysAside_28 ?_
      refine g_sub [1, 2, 0] rfl ?_
      exact ih U5 x6
set_option maxHeartbeats 4000000 in
set_option maxRecDepth 100000 in
theorem kX9_laysAside {l : Launch} {D : Dx} {G : G2} {V : V2} {R : R2} {n : Nat} {b : Nat} {a1 : Int32} (hG : GX G) (h_b : own G b 19) {o : V2} (hf : pX9_laysAside n V b a1 = some o) : Con l yX9_laysAside cX9_laysAside 3 none (rmN 0 0 0) D G V R [.ref b, .int a1] (none, o, R, G, 0, 0) := by
  refine Con.mk RX9 (by decide) rfl (Nat.le_of_ble_eq_true rfl) (fun C _ hR hT _ _ hL hC hnm => ?_)
  revert hf
  unfold pX9_laysAside
  refine g_iconst hC dX9_laysAside_0 ic_0 ?_
  refine g_istore_n hC (n0 := 3) (lv' := [(2, .int 0), (0, .ref b), (1, .int a1)]) dX9_laysAside_1 rfl (Nat.le_of_ble_eq_true rfl) hL rfl ?_
  refine g_sub [1, 2, 0] rfl ?_
  refine g_bind (J := fun w7 => Go C 31 [] [] w7 R G 0 0) (fun w7 hJ => wX9_laysAside_2 hC hL hG h_b hJ n V 0) (fun w7 => ?_)
  exact g_vret_vV hC hT dX9_laysAside_31
def lX9_laysBack_2 (b : Nat) (a1 : Int32) : Nat → V2 → Int32 → Option (V2)
  | 0, _, _ => none
  | f1 + 1, U2, x3 =>
    if (38 : Int32) ≤ x3 then (some U2)
    else ((ldI 190 (U2 (b + 3)) ((38 * a1) + x3)).bind fun t4 =>
    (stI 572 U2 (b + 1) x3 t4).bind fun U5 =>
    letv (x3 + 1) fun x6 =>
    lX9_laysBack_2 b a1 f1 U5 x6)
def pX9_laysBack (n : Nat) (V : V2) (b : Nat) (a1 : Int32) : Option (V2) :=
  (lX9_laysBack_2 b a1 n V 0).bind fun w7 =>
  some w7
set_option maxHeartbeats 4000000 in
set_option maxRecDepth 100000 in
theorem wX9_laysBack_2 {C : Cx} (hC : CxOK C cX9_laysBack RX9 none) (hL : C.2.2.2.2 = 3) {G : G2} {R : R2} {b : Nat} {a1 : Int32} (hG : GX G) (h_b : own G b 19) {o : V2} (hX : Go C 31 [] [] o R G 0 0) : ∀ (f : Nat) (U2 : V2) (x3 : Int32), lX9_laysBack_2 b a1 f U2 x3 = some o → Go C 2 [(0, .ref b), (1, .int a1), (2, .int x3)] [] U2 R G 0 0 := by
  intro f
  induction f with
  | zero => intro _ _ hf; exact absurd hf (by unfold lX9_laysBack_2; exact fun z => nomatch z)
  | succ f1 ih =>
    intro U2 x3
    unfold lX9_laysBack_2
    refine g_iload_n hC dX9_laysBack_2 (j := 2) rfl rfl ?_
    refine g_bipush hC dX9_laysBack_3 bc_38 ?_
    refine g_icmp_ge hC dX9_laysBack_5 ?_ ?_
    · refine g_sub [] rfl ?_
      exact fun e => by cases e; exact hX
    · refine g_aload_n hC dX9_laysBack_8 (j := 0) rfl rfl ?_
      refine g_getR hC fr_9_0 h_b (b := b + 1) rfl dX9_laysBack_9 flX9_7 ?_
      refine g_iload_n hC dX9_laysBack_12 (j := 2) rfl rfl ?_
      refine g_aload_n hC dX9_laysBack_13 (j := 0) rfl rfl ?_
      refine g_getR hC fr_9_3 h_b (b := b + 3) rfl dX9_laysBack_14 flX9_16 ?_
      refine g_bipush hC dX9_laysBack_17 bc_38 ?_
      refine g_iload_n hC dX9_laysBack_19 (j := 1) rfl rfl ?_
      refine g_imul hC dX9_laysBack_20 ?_
      refine g_iload_n hC dX9_laysBack_21 (j := 2) rfl rfl ?_
      refine g_iadd hC dX9_laysBack_22 ?_
      refine g_ialdV hC (gx_9_3 hG h_b) (gl_9_3 hG h_b) dX9_laysBack_23 (fun t4 => ?_)
      refine g_iastV hC (gx_9_0 hG h_b) (gl_9_0 hG h_b) dX9_laysBack_24 (fun U5 => ?_)
      refine g_iincL hC (n0 := 3) (j := 2) (lv' := fun x6 => [(2, .int x6), (0, .ref b), (1, .int a1)]) dX9_laysBack_25 rfl ic_1 (Nat.le_of_ble_eq_true rfl) hL (fun _ => rfl) (fun x6 => ?_)
      refine g_goto hC dX9_laysBack_28 ?_
      refine g_sub [1, 2, 0] rfl ?_
      exact ih U5 x6
set_option maxHeartbeats 4000000 in
set_option maxRecDepth 100000 in
theorem kX9_laysBack {l : Launch} {D : Dx} {G : G2} {V : V2} {R : R2} {n : Nat} {b : Nat} {a1 : Int32} (hG : GX G) (h_b : own G b 19) {o : V2} (hf : pX9_laysBack n V b a1 = some o) : Con l yX9_laysBack cX9_laysBack 3 none (rmN 0 0 0) D G V R [.ref b, .int a1] (none, o, R, G, 0, 0) := by
  refine Con.mk RX9 (by decide) rfl (Nat.le_of_ble_eq_true rfl) (fun C _ hR hT _ _ hL hC hnm => ?_)
  revert hf
  unfold pX9_laysBack
  refine g_iconst hC dX9_laysBack_0 ic_0 ?_
  refine g_istore_n hC (n0 := 3) (lv' := [(2, .int 0), (0, .ref b), (1, .int a1)]) dX9_laysBack_1 rfl (Nat.le_of_ble_eq_true rfl) hL rfl ?_
  refine g_sub [1, 2, 0] rfl ?_
  refine g_bind (J := fun w7 => Go C 31 [] [] w7 R G 0 0) (fun w7 hJ => wX9_laysBack_2 hC hL hG h_b hJ n V 0) (fun w7 => ?_)
  exact g_vret_vV hC hT dX9_laysBack_31
def pX9_isOver (V : V2) (b : Nat) : Option (Int32) :=
  (ldI 572 (V (b + 1)) 1).bind fun t1 =>
  (ldI 572 (V (b + 1)) 2).bind fun t2 =>
  if t1 < t2 then (some 0)
  else (some 1)
set_option maxHeartbeats 4000000 in
set_option maxRecDepth 100000 in
theorem kX9_isOver {l : Launch} {D : Dx} {G : G2} {V : V2} {R : R2} {b : Nat} (hG : GX G) (h_b : own G b 19) {o : Int32} (hf : pX9_isOver V b = some o) : Con l yX9_isOver cX9_isOver 1 (some .boolean) (rmN 0 0 0) D G V R [.ref b] (some (.int o), V, R, G, 0, 0) := by
  refine Con.mk RX9 (by decide) rfl (Nat.le_of_ble_eq_true rfl) (fun C _ hR hT _ _ hL hC hnm => ?_)
  revert hf
  unfold pX9_isOver
  refine g_aload_n hC dX9_isOver_0 (j := 0) rfl rfl ?_
  refine g_getR hC fr_9_0 h_b (b := b + 1) rfl dX9_isOver_1 flX9_7 ?_
  refine g_iconst hC dX9_isOver_4 ic_1 ?_
  refine g_ialdV hC (gx_9_0 hG h_b) (gl_9_0 hG h_b) dX9_isOver_5 (fun t1 => ?_)
  refine g_aload_n hC dX9_isOver_6 (j := 0) rfl rfl ?_
  refine g_getR hC fr_9_0 h_b (b := b + 1) rfl dX9_isOver_7 flX9_7 ?_
  refine g_iconst hC dX9_isOver_10 ic_2 ?_
  refine g_ialdV hC (gx_9_0 hG h_b) (gl_9_0 hG h_b) dX9_isOver_11 (fun t2 => ?_)
  refine g_icmp_lt hC dX9_isOver_12 ?_ ?_
  · refine g_iconst hC dX9_isOver_19 ic_0 ?_
    exact g_zret_i hC rfl hT dX9_isOver_20
  · refine g_iconst hC dX9_isOver_15 ic_1 ?_
    refine g_goto hC dX9_isOver_16 ?_
    exact g_zret_i hC rfl hT dX9_isOver_20
def lX9_size_4  : Nat → Int32 → Int32 → Option (Int32)
  | 0, _, _ => none
  | f1 + 1, x2, x3 =>
    if x3 = 0 then (some x2)
    else (letv (x2 + 1) fun x4 =>
    letv (x3 &&& (x3 - 1)) fun x5 =>
    lX9_size_4 f1 x4 x5)
def pX9_size (n : Nat) (a1 : Int32) : Option (Int32) :=
  (lX9_size_4  n 0 a1).bind fun w6 =>
  some w6
set_option maxHeartbeats 4000000 in
set_option maxRecDepth 100000 in
theorem wX9_size_4 {C : Cx} (hC : CxOK C cX9_size RX9 (some .int)) (hL : C.2.2.2.2 = 3) {G : G2} {V : V2} {R : R2}  {o : Int32} (hX : Go C 20 [(1, .int o)] [] V R G 0 0) : ∀ (f : Nat) (x2 : Int32) (x3 : Int32), lX9_size_4  f x2 x3 = some o → Go C 4 [(1, .int x2), (2, .int x3)] [] V R G 0 0 := by
  intro f
  induction f with
  | zero => intro _ _ hf; exact absurd hf (by unfold lX9_size_4; exact fun z => nomatch z)
  | succ f1 ih =>
    intro x2 x3
    unfold lX9_size_4
    refine g_iload_n hC dX9_size_4 (j := 1) rfl rfl ?_
    refine g_if_eq hC dX9_size_5 ?_ ?_
    · refine g_sub [0] rfl ?_
      exact fun e => by cases e; exact hX
    · refine g_iincL hC (n0 := 3) (j := 0) (lv' := fun x4 => [(1, .int x4), (2, .int x3)]) dX9_size_8 rfl ic_1 (Nat.le_of_ble_eq_true rfl) hL (fun _ => rfl) (fun x4 => ?_)
      refine g_iload_n hC dX9_size_11 (j := 1) rfl rfl ?_
      refine g_iload_n hC dX9_size_12 (j := 1) rfl rfl ?_
      refine g_iconst hC dX9_size_13 ic_1 ?_
      refine g_isub hC dX9_size_14 ?_
      refine g_iand hC dX9_size_15 ?_
      refine g_istore_nL hC (n0 := 3) (lv' := fun x5 => [(2, .int x5), (1, .int x4)]) dX9_size_16 rfl (Nat.le_of_ble_eq_true rfl) hL (fun _ => rfl) (fun x5 => ?_)
      refine g_goto hC dX9_size_17 ?_
      refine g_sub [1, 0] rfl ?_
      exact ih x4 x5
set_option maxHeartbeats 4000000 in
set_option maxRecDepth 100000 in
theorem kX9_size {l : Launch} {D : Dx} {G : G2} {V : V2} {R : R2} {n : Nat} {a1 : Int32}  {o : Int32} (hf : pX9_size n a1 = some o) : Con l yX9_size cX9_size 3 (some .int) (rmN 0 0 0) D G V R [.int a1] (some (.int o), V, R, G, 0, 0) := by
  refine Con.mk RX9 (by decide) rfl (Nat.le_of_ble_eq_true rfl) (fun C _ hR hT _ _ hL hC hnm => ?_)
  revert hf
  unfold pX9_size
  refine g_iconst hC dX9_size_0 ic_0 ?_
  refine g_istore_n hC (n0 := 3) (lv' := [(1, .int 0), (0, .int a1)]) dX9_size_1 rfl (Nat.le_of_ble_eq_true rfl) hL rfl ?_
  refine g_iload_n hC dX9_size_2 (j := 1) rfl rfl ?_
  refine g_istore_n hC (n0 := 3) (lv' := [(2, .int a1), (1, .int 0), (0, .int a1)]) dX9_size_3 rfl (Nat.le_of_ble_eq_true rfl) hL rfl ?_
  refine g_sub [1, 0] rfl ?_
  refine g_bind (J := fun w6 => Go C 20 [(1, .int w6)] [] V R G 0 0) (fun w6 hJ => wX9_size_4 hC hL  hJ n 0 a1) (fun w6 => ?_)
  refine g_iload_n hC dX9_size_20 (j := 0) rfl rfl ?_
  exact g_iret_i hC hT dX9_size_21
def pX9_lesser (a1 : Int32) (a2 : Int32) : Option (Int32) :=
  if a2 ≤ a1 then (some a2)
  else (some a1)
set_option maxHeartbeats 4000000 in
set_option maxRecDepth 100000 in
theorem kX9_lesser {l : Launch} {D : Dx} {G : G2} {V : V2} {R : R2} {a1 : Int32} {a2 : Int32}  {o : Int32} (hf : pX9_lesser a1 a2 = some o) : Con l yX9_lesser cX9_lesser 2 (some .int) (rmN 0 0 0) D G V R [.int a1, .int a2] (some (.int o), V, R, G, 0, 0) := by
  refine Con.mk RX9 (by decide) rfl (Nat.le_of_ble_eq_true rfl) (fun C _ hR hT _ _ hL hC hnm => ?_)
  revert hf
  unfold pX9_lesser
  refine g_iload_n hC dX9_lesser_0 (j := 0) rfl rfl ?_
  refine g_iload_n hC dX9_lesser_1 (j := 1) rfl rfl ?_
  refine g_icmp_ge hC dX9_lesser_2 ?_ ?_
  · refine g_iload_n hC dX9_lesser_9 (j := 1) rfl rfl ?_
    exact g_iret_i hC hT dX9_lesser_10
  · refine g_iload_n hC dX9_lesser_5 (j := 0) rfl rfl ?_
    refine g_goto hC dX9_lesser_6 ?_
    exact g_iret_i hC hT dX9_lesser_10
def pX9_greatest (a1 : Int32) (a2 : Int32) : Option (Int32) :=
  if a1 ≤ a2 then (some a2)
  else (some a1)
set_option maxHeartbeats 4000000 in
set_option maxRecDepth 100000 in
theorem kX9_greatest {l : Launch} {D : Dx} {G : G2} {V : V2} {R : R2} {a1 : Int32} {a2 : Int32}  {o : Int32} (hf : pX9_greatest a1 a2 = some o) : Con l yX9_greatest cX9_greatest 2 (some .int) (rmN 0 0 0) D G V R [.int a1, .int a2] (some (.int o), V, R, G, 0, 0) := by
  refine Con.mk RX9 (by decide) rfl (Nat.le_of_ble_eq_true rfl) (fun C _ hR hT _ _ hL hC hnm => ?_)
  revert hf
  unfold pX9_greatest
  refine g_iload_n hC dX9_greatest_0 (j := 0) rfl rfl ?_
  refine g_iload_n hC dX9_greatest_1 (j := 1) rfl rfl ?_
  refine g_icmp_le hC dX9_greatest_2 ?_ ?_
  · refine g_iload_n hC dX9_greatest_9 (j := 1) rfl rfl ?_
    exact g_iret_i hC hT dX9_greatest_10
  · refine g_iload_n hC dX9_greatest_5 (j := 0) rfl rfl ?_
    refine g_goto hC dX9_greatest_6 ?_
    exact g_iret_i hC hT dX9_greatest_10
def pX9_thing (V : V2) (b : Nat) (a1 : Int32) (a2 : Int32) (a3 : Int32) (a4 : Int32) : Option (Int32 × V2) :=
  (pX9_isIn a1.toInt64 1 5).bind fun q1 =>
  if q1 = 0 then (some ((-1), V))
  else ((pX9_isIn a2.toInt64 0 99).bind fun q2 =>
  if q2 = 0 then (some ((-1), V))
  else ((pX9_isIn a3.toInt64 0 9).bind fun q3 =>
  if q3 = 0 then (some ((-1), V))
  else ((pX9_isBoard a4).bind fun q4 =>
  if q4 = 0 then (some ((-1), V))
  else ((ldI 572 (V (b + 1)) 0).bind fun t5 =>
  if t5 = (6 : Int32) then (some ((-2), V))
  else ((ldI 572 (V (b + 1)) 0).bind fun t6 =>
  letv (8 + (5 * t6)) fun x7 =>
  (stI 572 V (b + 1) x7 a1).bind fun U8 =>
  (stI 572 U8 (b + 1) (x7 + 1) a2).bind fun U9 =>
  (stI 572 U9 (b + 1) (x7 + 2) a3).bind fun U10 =>
  (stI 572 U10 (b + 1) (x7 + 3) a4).bind fun U11 =>
  (stI 572 U11 (b + 1) (x7 + 4) 0).bind fun U12 =>
  (ldI 572 (U12 (b + 1)) 0).bind fun t13 =>
  (stI 572 U12 (b + 1) 0 (t13 + 1)).bind fun U14 =>
  (ldI 572 (U14 (b + 1)) 0).bind fun t15 =>
  some (t15 - 1, U14))))))
set_option maxHeartbeats 4000000 in
set_option maxRecDepth 100000 in
theorem kX9_thing {l : Launch} {D : Dx} {G : G2} {V : V2} {R : R2} {b : Nat} {a1 : Int32} {a2 : Int32} {a3 : Int32} {a4 : Int32} (hG : GX G) (h_b : own G b 19) {o : Int32 × V2} (hf : pX9_thing V b a1 a2 a3 a4 = some o) : Con l yX9_thing cX9_thing 6 (some .int) (rmN 1 0 0) D G V R [.ref b, .int a1, .int a2, .int a3, .int a4] (some (.int o.1), o.2, R, G, 0, 0) := by
  refine Con.mk RX9 (by decide) rfl (Nat.le_of_ble_eq_true rfl) (fun C _ hR hT _ _ hL hC hnm => ?_)
  revert hf
  unfold pX9_thing
  refine g_iload_n hC dX9_thing_0 (j := 1) rfl rfl ?_
  refine g_i2l hC dX9_thing_1 ?_
  refine g_lconst hC dX9_thing_2 lc_1 ?_
  refine g_ldc2 hC dX9_thing_3 clX9_61 ?_
  refine g_callS_i hC hR ⟨Nat.zero_le _, Nat.zero_le _⟩ mwX9_isIn ms_X9_isIn mlX9_63 (fun _ hq => kX9_isIn  hq) (Nat.le_of_ble_eq_true rfl) rfl (st := []) rfl (Nat.le_of_ble_eq_true rfl) dX9_thing_6 (fun q1 => ?_)
  refine g_if_eq hC dX9_thing_9 ?_ ?_
  · refine g_iconst hC dX9_thing_44 ic_m1 ?_
    exact g_iret_iV hC hT dX9_thing_45
  · refine g_iload_n hC dX9_thing_12 (j := 2) rfl rfl ?_
    refine g_i2l hC dX9_thing_13 ?_
    refine g_lconst hC dX9_thing_14 lc_0 ?_
    refine g_ldc2 hC dX9_thing_15 clX9_67 ?_
    refine g_callS_i hC hR ⟨Nat.zero_le _, Nat.zero_le _⟩ mwX9_isIn ms_X9_isIn mlX9_63 (fun _ hq => kX9_isIn  hq) (Nat.le_of_ble_eq_true rfl) rfl (st := []) rfl (Nat.le_of_ble_eq_true rfl) dX9_thing_18 (fun q2 => ?_)
    refine g_if_eq hC dX9_thing_21 ?_ ?_
    · refine g_iconst hC dX9_thing_44 ic_m1 ?_
      exact g_iret_iV hC hT dX9_thing_45
    · refine g_iload_n hC dX9_thing_24 (j := 3) rfl rfl ?_
      refine g_i2l hC dX9_thing_25 ?_
      refine g_lconst hC dX9_thing_26 lc_0 ?_
      refine g_ldc2 hC dX9_thing_27 clX9_69 ?_
      refine g_callS_i hC hR ⟨Nat.zero_le _, Nat.zero_le _⟩ mwX9_isIn ms_X9_isIn mlX9_63 (fun _ hq => kX9_isIn  hq) (Nat.le_of_ble_eq_true rfl) rfl (st := []) rfl (Nat.le_of_ble_eq_true rfl) dX9_thing_30 (fun q3 => ?_)
      refine g_if_eq hC dX9_thing_33 ?_ ?_
      · refine g_iconst hC dX9_thing_44 ic_m1 ?_
        exact g_iret_iV hC hT dX9_thing_45
      · refine g_iload hC dX9_thing_36 (j := 4) rfl ?_
        refine g_callS_i hC hR ⟨Nat.zero_le _, Nat.zero_le _⟩ mwX9_isBoard ms_X9_isBoard mlX9_71 (fun _ hq => kX9_isBoard  hq) (Nat.le_of_ble_eq_true rfl) rfl (st := []) rfl (Nat.le_of_ble_eq_true rfl) dX9_thing_38 (fun q4 => ?_)
        refine g_if_ne hC dX9_thing_41 ?_ ?_
        · refine g_iconst hC dX9_thing_44 ic_m1 ?_
          exact g_iret_iV hC hT dX9_thing_45
        · refine g_aload_n hC dX9_thing_46 (j := 0) rfl rfl ?_
          refine g_getR hC fr_9_0 h_b (b := b + 1) rfl dX9_thing_47 flX9_7 ?_
          refine g_iconst hC dX9_thing_50 ic_0 ?_
          refine g_ialdV hC (gx_9_0 hG h_b) (gl_9_0 hG h_b) dX9_thing_51 (fun t5 => ?_)
          refine g_bipush hC dX9_thing_52 bc_6 ?_
          refine g_icmp_ne hC dX9_thing_54 ?_ ?_
          · refine g_bipush hC dX9_thing_57 bc_m2 ?_
            exact g_iret_iV hC hT dX9_thing_59
          · refine g_bipush hC dX9_thing_60 bc_8 ?_
            refine g_iconst hC dX9_thing_62 ic_5 ?_
            refine g_aload_n hC dX9_thing_63 (j := 0) rfl rfl ?_
            refine g_getR hC fr_9_0 h_b (b := b + 1) rfl dX9_thing_64 flX9_7 ?_
            refine g_iconst hC dX9_thing_67 ic_0 ?_
            refine g_ialdV hC (gx_9_0 hG h_b) (gl_9_0 hG h_b) dX9_thing_68 (fun t6 => ?_)
            refine g_imul hC dX9_thing_69 ?_
            refine g_iadd hC dX9_thing_70 ?_
            refine g_istoreL hC (n0 := 6) (lv' := fun x7 => [(5, .int x7), (0, .ref b), (1, .int a1), (2, .int a2), (3, .int a3), (4, .int a4)]) dX9_thing_71 (Nat.le_of_ble_eq_true rfl) hL (fun _ => rfl) (fun x7 => ?_)
            refine g_aload_n hC dX9_thing_73 (j := 1) rfl rfl ?_
            refine g_getR hC fr_9_0 h_b (b := b + 1) rfl dX9_thing_74 flX9_7 ?_
            refine g_iload hC dX9_thing_77 (j := 0) rfl ?_
            refine g_iload_n hC dX9_thing_79 (j := 2) rfl rfl ?_
            refine g_iastV hC (gx_9_0 hG h_b) (gl_9_0 hG h_b) dX9_thing_80 (fun U8 => ?_)
            refine g_aload_n hC dX9_thing_81 (j := 1) rfl rfl ?_
            refine g_getR hC fr_9_0 h_b (b := b + 1) rfl dX9_thing_82 flX9_7 ?_
            refine g_iload hC dX9_thing_85 (j := 0) rfl ?_
            refine g_iconst hC dX9_thing_87 ic_1 ?_
            refine g_iadd hC dX9_thing_88 ?_
            refine g_iload_n hC dX9_thing_89 (j := 3) rfl rfl ?_
            refine g_iastV hC (gx_9_0 hG h_b) (gl_9_0 hG h_b) dX9_thing_90 (fun U9 => ?_)
            refine g_aload_n hC dX9_thing_91 (j := 1) rfl rfl ?_
            refine g_getR hC fr_9_0 h_b (b := b + 1) rfl dX9_thing_92 flX9_7 ?_
            refine g_iload hC dX9_thing_95 (j := 0) rfl ?_
            refine g_iconst hC dX9_thing_97 ic_2 ?_
            refine g_iadd hC dX9_thing_98 ?_
            refine g_iload_n hC dX9_thing_99 (j := 4) rfl rfl ?_
            refine g_iastV hC (gx_9_0 hG h_b) (gl_9_0 hG h_b) dX9_thing_100 (fun U10 => ?_)
            refine g_aload_n hC dX9_thing_101 (j := 1) rfl rfl ?_
            refine g_getR hC fr_9_0 h_b (b := b + 1) rfl dX9_thing_102 flX9_7 ?_
            refine g_iload hC dX9_thing_105 (j := 0) rfl ?_
            refine g_iconst hC dX9_thing_107 ic_3 ?_
            refine g_iadd hC dX9_thing_108 ?_
            refine g_iload hC dX9_thing_109 (j := 5) rfl ?_
            refine g_iastV hC (gx_9_0 hG h_b) (gl_9_0 hG h_b) dX9_thing_111 (fun U11 => ?_)
            refine g_aload_n hC dX9_thing_112 (j := 1) rfl rfl ?_
            refine g_getR hC fr_9_0 h_b (b := b + 1) rfl dX9_thing_113 flX9_7 ?_
            refine g_iload hC dX9_thing_116 (j := 0) rfl ?_
            refine g_iconst hC dX9_thing_118 ic_4 ?_
            refine g_iadd hC dX9_thing_119 ?_
            refine g_iconst hC dX9_thing_120 ic_0 ?_
            refine g_iastV hC (gx_9_0 hG h_b) (gl_9_0 hG h_b) dX9_thing_121 (fun U12 => ?_)
            refine g_aload_n hC dX9_thing_122 (j := 1) rfl rfl ?_
            refine g_getR hC fr_9_0 h_b (b := b + 1) rfl dX9_thing_123 flX9_7 ?_
            refine g_iconst hC dX9_thing_126 ic_0 ?_
            refine g_dup2 hC dX9_thing_127 rfl rfl ?_
            refine g_ialdV hC (gx_9_0 hG h_b) (gl_9_0 hG h_b) dX9_thing_128 (fun t13 => ?_)
            refine g_iconst hC dX9_thing_129 ic_1 ?_
            refine g_iadd hC dX9_thing_130 ?_
            refine g_iastV hC (gx_9_0 hG h_b) (gl_9_0 hG h_b) dX9_thing_131 (fun U14 => ?_)
            refine g_aload_n hC dX9_thing_132 (j := 1) rfl rfl ?_
            refine g_getR hC fr_9_0 h_b (b := b + 1) rfl dX9_thing_133 flX9_7 ?_
            refine g_iconst hC dX9_thing_136 ic_0 ?_
            refine g_ialdV hC (gx_9_0 hG h_b) (gl_9_0 hG h_b) dX9_thing_137 (fun t15 => ?_)
            refine g_iconst hC dX9_thing_138 ic_1 ?_
            refine g_isub hC dX9_thing_139 ?_
            exact g_iret_iV hC hT dX9_thing_140
def pX9_ironOf (V : V2) (b : Nat) (a1 : Int32) : Option (Int32) :=
  if (16 : Int32) ≤ a1 then (some 0)
  else ((ldI 572 (V (b + 1)) (50 + a1)).bind fun t1 =>
  some t1)
set_option maxHeartbeats 4000000 in
set_option maxRecDepth 100000 in
theorem kX9_ironOf {l : Launch} {D : Dx} {G : G2} {V : V2} {R : R2} {b : Nat} {a1 : Int32} (hG : GX G) (h_b : own G b 19) {o : Int32} (hf : pX9_ironOf V b a1 = some o) : Con l yX9_ironOf cX9_ironOf 2 (some .int) (rmN 0 0 0) D G V R [.ref b, .int a1] (some (.int o), V, R, G, 0, 0) := by
  refine Con.mk RX9 (by decide) rfl (Nat.le_of_ble_eq_true rfl) (fun C _ hR hT _ _ hL hC hnm => ?_)
  revert hf
  unfold pX9_ironOf
  refine g_iload_n hC dX9_ironOf_0 (j := 1) rfl rfl ?_
  refine g_bipush hC dX9_ironOf_1 bc_16 ?_
  refine g_icmp_ge hC dX9_ironOf_3 ?_ ?_
  · refine g_iconst hC dX9_ironOf_18 ic_0 ?_
    exact g_iret_i hC hT dX9_ironOf_19
  · refine g_aload_n hC dX9_ironOf_6 (j := 0) rfl rfl ?_
    refine g_getR hC fr_9_0 h_b (b := b + 1) rfl dX9_ironOf_7 flX9_7 ?_
    refine g_bipush hC dX9_ironOf_10 bc_50 ?_
    refine g_iload_n hC dX9_ironOf_12 (j := 1) rfl rfl ?_
    refine g_iadd hC dX9_ironOf_13 ?_
    refine g_ialdV hC (gx_9_0 hG h_b) (gl_9_0 hG h_b) dX9_ironOf_14 (fun t1 => ?_)
    refine g_goto hC dX9_ironOf_15 ?_
    exact g_iret_i hC hT dX9_ironOf_19
def pX9_swells (a1 : Int32) (a2 : Int32) (a3 : Int32) (a4 : Int32) : Option (Int32) :=
  letv (1 + (jrem a4 4)) fun x1 =>
  if a1 = 1 then (some 0)
  else (if a1 = 2 then (some (2 * x1))
  else (if a1 = 3 then ((pX9_greatest 0 ((2 * x1) - 3)).bind fun q4 =>
  some q4)
  else (if a1 = 4 then (some (jrem a3 3))
  else (some ((jrem a3 3) + a2)))))
set_option maxHeartbeats 4000000 in
set_option maxRecDepth 100000 in
theorem kX9_swells {l : Launch} {D : Dx} {G : G2} {V : V2} {R : R2} {a1 : Int32} {a2 : Int32} {a3 : Int32} {a4 : Int32}  {o : Int32} (hf : pX9_swells a1 a2 a3 a4 = some o) : Con l yX9_swells cX9_swells 5 (some .int) (rmN 1 0 0) D G V R [.int a1, .int a2, .int a3, .int a4] (some (.int o), V, R, G, 0, 0) := by
  refine Con.mk RX9 (by decide) rfl (Nat.le_of_ble_eq_true rfl) (fun C _ hR hT _ _ hL hC hnm => ?_)
  revert hf
  unfold pX9_swells
  refine g_iconst hC dX9_swells_0 ic_1 ?_
  refine g_iload_n hC dX9_swells_1 (j := 3) rfl rfl ?_
  refine g_iconst hC dX9_swells_2 ic_4 ?_
  refine g_iremC hC dX9_swells_3 nzi_4 ?_
  refine g_iadd hC dX9_swells_4 ?_
  refine g_istoreL hC (n0 := 5) (lv' := fun x1 => [(4, .int x1), (0, .int a1), (1, .int a2), (2, .int a3), (3, .int a4)]) dX9_swells_5 (Nat.le_of_ble_eq_true rfl) hL (fun _ => rfl) (fun x1 => ?_)
  refine g_iload_n hC dX9_swells_7 (j := 1) rfl rfl ?_
  refine g_tsw hC 1 (32) (tgt := 40) dX9_swells_8 (by decide) rfl ?_ (fun hn2 => ?_)
  · refine g_iconst hC dX9_swells_40 ic_0 ?_
    exact g_iret_i hC hT dX9_swells_41
  refine g_tsw hC 2 (34) (tgt := 42) dX9_swells_8 (by decide) rfl ?_ (fun hn3 => ?_)
  · refine g_iconst hC dX9_swells_42 ic_2 ?_
    refine g_iload hC dX9_swells_43 (j := 0) rfl ?_
    refine g_imul hC dX9_swells_45 ?_
    exact g_iret_i hC hT dX9_swells_46
  refine g_tsw hC 3 (39) (tgt := 47) dX9_swells_8 (by decide) rfl ?_ (fun hn5 => ?_)
  · refine g_iconst hC dX9_swells_47 ic_0 ?_
    refine g_iconst hC dX9_swells_48 ic_2 ?_
    refine g_iload hC dX9_swells_49 (j := 0) rfl ?_
    refine g_imul hC dX9_swells_51 ?_
    refine g_iconst hC dX9_swells_52 ic_3 ?_
    refine g_isub hC dX9_swells_53 ?_
    refine g_callS_i hC hR ⟨Nat.zero_le _, Nat.zero_le _⟩ mwX9_greatest ms_X9_greatest mlX9_75 (fun _ hq => kX9_greatest  hq) (Nat.le_of_ble_eq_true rfl) rfl (st := []) rfl (Nat.le_of_ble_eq_true rfl) dX9_swells_54 (fun q4 => ?_)
    exact g_iret_i hC hT dX9_swells_57
  refine g_tsw hC 4 (50) (tgt := 58) dX9_swells_8 (by decide) rfl ?_ (fun hn6 => ?_)
  · refine g_iload_n hC dX9_swells_58 (j := 3) rfl rfl ?_
    refine g_iconst hC dX9_swells_59 ic_3 ?_
    refine g_iremC hC dX9_swells_60 nzi_3 ?_
    exact g_iret_i hC hT dX9_swells_61
  refine g_tswd hC (tgt := 62) dX9_swells_8 (by have := And.intro trivial trivial; have := lv_neT (a := 1) hn2 (by decide); have := lv_neT (a := 2) hn3 (by decide); have := lv_neT (a := 3) hn5 (by decide); have := lv_neT (a := 4) hn6 (by decide); omega) rfl ?_
  refine g_iload_n hC dX9_swells_62 (j := 3) rfl rfl ?_
  refine g_iconst hC dX9_swells_63 ic_3 ?_
  refine g_iremC hC dX9_swells_64 nzi_3 ?_
  refine g_iload_n hC dX9_swells_65 (j := 2) rfl rfl ?_
  refine g_iadd hC dX9_swells_66 ?_
  exact g_iret_i hC hT dX9_swells_67
def pX9_needsBy (a1 : Int32) (a2 : Int32) (a3 : Int32) : Option (Int32) :=
  letv ((a2 / 6) + a3) fun x1 =>
  if a1 = 1 then (some 30)
  else (if a1 = 2 then (some (x1 + 4))
  else (if a1 = 3 then (some (((x1 + 4) / 2) + 1))
  else (if a1 = 4 then (some (x1 / 2))
  else (some ((x1 / 2) + (a3 / 2))))))
set_option maxHeartbeats 4000000 in
set_option maxRecDepth 100000 in
theorem kX9_needsBy {l : Launch} {D : Dx} {G : G2} {V : V2} {R : R2} {a1 : Int32} {a2 : Int32} {a3 : Int32}  {o : Int32} (hf : pX9_needsBy a1 a2 a3 = some o) : Con l yX9_needsBy cX9_needsBy 4 (some .int) (rmN 0 0 0) D G V R [.int a1, .int a2, .int a3] (some (.int o), V, R, G, 0, 0) := by
  refine Con.mk RX9 (by decide) rfl (Nat.le_of_ble_eq_true rfl) (fun C _ hR hT _ _ hL hC hnm => ?_)
  revert hf
  unfold pX9_needsBy
  refine g_iload_n hC dX9_needsBy_0 (j := 1) rfl rfl ?_
  refine g_bipush hC dX9_needsBy_1 bc_6 ?_
  refine g_idivC hC dX9_needsBy_3 nzi_6 ?_
  refine g_iload_n hC dX9_needsBy_4 (j := 2) rfl rfl ?_
  refine g_iadd hC dX9_needsBy_5 ?_
  refine g_istore_nL hC (n0 := 4) (lv' := fun x1 => [(3, .int x1), (0, .int a1), (1, .int a2), (2, .int a3)]) dX9_needsBy_6 rfl (Nat.le_of_ble_eq_true rfl) hL (fun _ => rfl) (fun x1 => ?_)
  refine g_iload_n hC dX9_needsBy_7 (j := 1) rfl rfl ?_
  refine g_tsw hC 1 (32) (tgt := 40) dX9_needsBy_8 (by decide) rfl ?_ (fun hn2 => ?_)
  · refine g_bipush hC dX9_needsBy_40 bc_30 ?_
    exact g_iret_i hC hT dX9_needsBy_42
  refine g_tsw hC 2 (35) (tgt := 43) dX9_needsBy_8 (by decide) rfl ?_ (fun hn3 => ?_)
  · refine g_iload_n hC dX9_needsBy_43 (j := 0) rfl rfl ?_
    refine g_iconst hC dX9_needsBy_44 ic_4 ?_
    refine g_iadd hC dX9_needsBy_45 ?_
    exact g_iret_i hC hT dX9_needsBy_46
  refine g_tsw hC 3 (39) (tgt := 47) dX9_needsBy_8 (by decide) rfl ?_ (fun hn4 => ?_)
  · refine g_iload_n hC dX9_needsBy_47 (j := 0) rfl rfl ?_
    refine g_iconst hC dX9_needsBy_48 ic_4 ?_
    refine g_iadd hC dX9_needsBy_49 ?_
    refine g_iconst hC dX9_needsBy_50 ic_2 ?_
    refine g_idivC hC dX9_needsBy_51 nzi_2 ?_
    refine g_iconst hC dX9_needsBy_52 ic_1 ?_
    refine g_iadd hC dX9_needsBy_53 ?_
    exact g_iret_i hC hT dX9_needsBy_54
  refine g_tsw hC 4 (47) (tgt := 55) dX9_needsBy_8 (by decide) rfl ?_ (fun hn5 => ?_)
  · refine g_iload_n hC dX9_needsBy_55 (j := 0) rfl rfl ?_
    refine g_iconst hC dX9_needsBy_56 ic_2 ?_
    refine g_idivC hC dX9_needsBy_57 nzi_2 ?_
    exact g_iret_i hC hT dX9_needsBy_58
  refine g_tswd hC (tgt := 59) dX9_needsBy_8 (by have := And.intro trivial trivial; have := lv_neT (a := 1) hn2 (by decide); have := lv_neT (a := 2) hn3 (by decide); have := lv_neT (a := 3) hn4 (by decide); have := lv_neT (a := 4) hn5 (by decide); omega) rfl ?_
  refine g_iload_n hC dX9_needsBy_59 (j := 0) rfl rfl ?_
  refine g_iconst hC dX9_needsBy_60 ic_2 ?_
  refine g_idivC hC dX9_needsBy_61 nzi_2 ?_
  refine g_iload_n hC dX9_needsBy_62 (j := 3) rfl rfl ?_
  refine g_iconst hC dX9_needsBy_63 ic_2 ?_
  refine g_idivC hC dX9_needsBy_64 nzi_2 ?_
  refine g_iadd hC dX9_needsBy_65 ?_
  exact g_iret_i hC hT dX9_needsBy_66
def pX9_swollen (V : V2) (b : Nat) (a1 : Int32) : Option (Int32) :=
  (pX9_its V b a1 0).bind fun q1 =>
  (ldI 572 (V (b + 1)) 1).bind fun t2 =>
  (ldI 572 (V (b + 1)) 1).bind fun t3 =>
  (pX9_ironOf V b t3).bind fun q4 =>
  (pX9_swells q1 a1 t2 q4).bind fun q5 =>
  (pX9_its V b a1 3).bind fun q6 =>
  (ldI 572 (V (b + 1)) (44 + q6)).bind fun t7 =>
  (pX9_greatest 0 (q5 - (t7 / 3))).bind fun q8 =>
  some q8
set_option maxHeartbeats 4000000 in
set_option maxRecDepth 100000 in
theorem kX9_swollen {l : Launch} {D : Dx} {G : G2} {V : V2} {R : R2} {b : Nat} {a1 : Int32} (hG : GX G) (h_b : own G b 19) {o : Int32} (hf : pX9_swollen V b a1 = some o) : Con l yX9_swollen cX9_swollen 2 (some .int) (rmN 2 0 0) D G V R [.ref b, .int a1] (some (.int o), V, R, G, 0, 0) := by
  refine Con.mk RX9 (by decide) rfl (Nat.le_of_ble_eq_true rfl) (fun C _ hR hT _ _ hL hC hnm => ?_)
  revert hf
  unfold pX9_swollen
  refine g_iconst hC dX9_swollen_0 ic_0 ?_
  refine g_aload_n hC dX9_swollen_1 (j := 0) rfl rfl ?_
  refine g_iload_n hC dX9_swollen_2 (j := 1) rfl rfl ?_
  refine g_iconst hC dX9_swollen_3 ic_0 ?_
  refine g_callV_i hC hR ⟨Nat.zero_le _, Nat.zero_le _⟩ mwX9_its miX9_its (ci := 9) rfl h_b (Nat.le_of_ble_eq_true rfl) mlX9_79 (fun _ hq => kX9_its hG h_b hq) (Nat.le_of_ble_eq_true rfl) rfl (st := [.int 0]) rfl (Nat.le_of_ble_eq_true rfl) dX9_swollen_4 (fun q1 => ?_)
  refine g_iload_n hC dX9_swollen_7 (j := 1) rfl rfl ?_
  refine g_aload_n hC dX9_swollen_8 (j := 0) rfl rfl ?_
  refine g_getR hC fr_9_0 h_b (b := b + 1) rfl dX9_swollen_9 flX9_7 ?_
  refine g_iconst hC dX9_swollen_12 ic_1 ?_
  refine g_ialdV hC (gx_9_0 hG h_b) (gl_9_0 hG h_b) dX9_swollen_13 (fun t2 => ?_)
  refine g_aload_n hC dX9_swollen_14 (j := 0) rfl rfl ?_
  refine g_aload_n hC dX9_swollen_15 (j := 0) rfl rfl ?_
  refine g_getR hC fr_9_0 h_b (b := b + 1) rfl dX9_swollen_16 flX9_7 ?_
  refine g_iconst hC dX9_swollen_19 ic_1 ?_
  refine g_ialdV hC (gx_9_0 hG h_b) (gl_9_0 hG h_b) dX9_swollen_20 (fun t3 => ?_)
  refine g_callV_i hC hR ⟨Nat.zero_le _, Nat.zero_le _⟩ mwX9_ironOf miX9_ironOf (ci := 9) rfl h_b (Nat.le_of_ble_eq_true rfl) mlX9_82 (fun _ hq => kX9_ironOf hG h_b hq) (Nat.le_of_ble_eq_true rfl) rfl (st := [.int t2, .int a1, .int q1, .int 0]) rfl (Nat.le_of_ble_eq_true rfl) dX9_swollen_21 (fun q4 => ?_)
  refine g_callS_i hC hR ⟨Nat.zero_le _, Nat.zero_le _⟩ mwX9_swells ms_X9_swells mlX9_86 (fun _ hq => kX9_swells  hq) (Nat.le_of_ble_eq_true rfl) rfl (st := [.int 0]) rfl (Nat.le_of_ble_eq_true rfl) dX9_swollen_24 (fun q5 => ?_)
  refine g_aload_n hC dX9_swollen_27 (j := 0) rfl rfl ?_
  refine g_getR hC fr_9_0 h_b (b := b + 1) rfl dX9_swollen_28 flX9_7 ?_
  refine g_bipush hC dX9_swollen_31 bc_44 ?_
  refine g_aload_n hC dX9_swollen_33 (j := 0) rfl rfl ?_
  refine g_iload_n hC dX9_swollen_34 (j := 1) rfl rfl ?_
  refine g_iconst hC dX9_swollen_35 ic_3 ?_
  refine g_callV_i hC hR ⟨Nat.zero_le _, Nat.zero_le _⟩ mwX9_its miX9_its (ci := 9) rfl h_b (Nat.le_of_ble_eq_true rfl) mlX9_79 (fun _ hq => kX9_its hG h_b hq) (Nat.le_of_ble_eq_true rfl) rfl (st := [.int 44, .ref (b + 1), .int q5, .int 0]) rfl (Nat.le_of_ble_eq_true rfl) dX9_swollen_36 (fun q6 => ?_)
  refine g_iadd hC dX9_swollen_39 ?_
  refine g_ialdV hC (gx_9_0 hG h_b) (gl_9_0 hG h_b) dX9_swollen_40 (fun t7 => ?_)
  refine g_iconst hC dX9_swollen_41 ic_3 ?_
  refine g_idivC hC dX9_swollen_42 nzi_3 ?_
  refine g_isub hC dX9_swollen_43 ?_
  refine g_callS_i hC hR ⟨Nat.zero_le _, Nat.zero_le _⟩ mwX9_greatest ms_X9_greatest mlX9_75 (fun _ hq => kX9_greatest  hq) (Nat.le_of_ble_eq_true rfl) rfl (st := []) rfl (Nat.le_of_ble_eq_true rfl) dX9_swollen_44 (fun q8 => ?_)
  exact g_iret_i hC hT dX9_swollen_47
def pX9_needsOf (V : V2) (b : Nat) (a1 : Int32) : Option (Int32) :=
  (pX9_its V b a1 0).bind fun q1 =>
  (pX9_its V b a1 1).bind fun q2 =>
  (pX9_its V b a1 2).bind fun q3 =>
  (pX9_needsBy q1 q2 q3).bind fun q4 =>
  some q4
set_option maxHeartbeats 4000000 in
set_option maxRecDepth 100000 in
theorem kX9_needsOf {l : Launch} {D : Dx} {G : G2} {V : V2} {R : R2} {b : Nat} {a1 : Int32} (hG : GX G) (h_b : own G b 19) {o : Int32} (hf : pX9_needsOf V b a1 = some o) : Con l yX9_needsOf cX9_needsOf 2 (some .int) (rmN 1 0 0) D G V R [.ref b, .int a1] (some (.int o), V, R, G, 0, 0) := by
  refine Con.mk RX9 (by decide) rfl (Nat.le_of_ble_eq_true rfl) (fun C _ hR hT _ _ hL hC hnm => ?_)
  revert hf
  unfold pX9_needsOf
  refine g_aload_n hC dX9_needsOf_0 (j := 0) rfl rfl ?_
  refine g_iload_n hC dX9_needsOf_1 (j := 1) rfl rfl ?_
  refine g_iconst hC dX9_needsOf_2 ic_0 ?_
  refine g_callV_i hC hR ⟨Nat.zero_le _, Nat.zero_le _⟩ mwX9_its miX9_its (ci := 9) rfl h_b (Nat.le_of_ble_eq_true rfl) mlX9_79 (fun _ hq => kX9_its hG h_b hq) (Nat.le_of_ble_eq_true rfl) rfl (st := []) rfl (Nat.le_of_ble_eq_true rfl) dX9_needsOf_3 (fun q1 => ?_)
  refine g_aload_n hC dX9_needsOf_6 (j := 0) rfl rfl ?_
  refine g_iload_n hC dX9_needsOf_7 (j := 1) rfl rfl ?_
  refine g_iconst hC dX9_needsOf_8 ic_1 ?_
  refine g_callV_i hC hR ⟨Nat.zero_le _, Nat.zero_le _⟩ mwX9_its miX9_its (ci := 9) rfl h_b (Nat.le_of_ble_eq_true rfl) mlX9_79 (fun _ hq => kX9_its hG h_b hq) (Nat.le_of_ble_eq_true rfl) rfl (st := [.int q1]) rfl (Nat.le_of_ble_eq_true rfl) dX9_needsOf_9 (fun q2 => ?_)
  refine g_aload_n hC dX9_needsOf_12 (j := 0) rfl rfl ?_
  refine g_iload_n hC dX9_needsOf_13 (j := 1) rfl rfl ?_
  refine g_iconst hC dX9_needsOf_14 ic_2 ?_
  refine g_callV_i hC hR ⟨Nat.zero_le _, Nat.zero_le _⟩ mwX9_its miX9_its (ci := 9) rfl h_b (Nat.le_of_ble_eq_true rfl) mlX9_79 (fun _ hq => kX9_its hG h_b hq) (Nat.le_of_ble_eq_true rfl) rfl (st := [.int q2, .int q1]) rfl (Nat.le_of_ble_eq_true rfl) dX9_needsOf_15 (fun q3 => ?_)
  refine g_callS_i hC hR ⟨Nat.zero_le _, Nat.zero_le _⟩ mwX9_needsBy ms_X9_needsBy mlX9_90 (fun _ hq => kX9_needsBy  hq) (Nat.le_of_ble_eq_true rfl) rfl (st := []) rfl (Nat.le_of_ble_eq_true rfl) dX9_needsOf_18 (fun q4 => ?_)
  exact g_iret_i hC hT dX9_needsOf_21
def lX9_load_12 (V : V2) (b : Nat) (a1 : Int32) : Nat → Int32 → Int32 → Option (Int32)
  | 0, _, _ => none
  | f2 + 1, x3, x4 =>
    (ldI 572 (V (b + 1)) 0).bind fun t5 =>
    if t5 ≤ x4 then (some x3)
    else ((pX9_its V b x4 4).bind fun q6 =>
    if q6 = (1 : Int32) then ((pX9_its V b x4 3).bind fun q7 =>
    if q7 = a1 then (letv (x3 + 2) fun x8 =>
    letv (x4 + 1) fun x9 =>
    lX9_load_12 V b a1 f2 x8 x9)
    else (letv (x3 + 0) fun x10 =>
    letv (x4 + 1) fun x11 =>
    lX9_load_12 V b a1 f2 x10 x11))
    else (letv (x3 + 0) fun x12 =>
    letv (x4 + 1) fun x13 =>
    lX9_load_12 V b a1 f2 x12 x13))
def pX9_load (n : Nat) (V : V2) (b : Nat) (a1 : Int32) : Option (Int32) :=
  (ldI 572 (V (b + 1)) (38 + a1)).bind fun t1 =>
  (lX9_load_12 V b a1 n t1 0).bind fun w14 =>
  some w14
set_option maxHeartbeats 4000000 in
set_option maxRecDepth 100000 in
theorem wX9_load_12 {C : Cx} (hC : CxOK C cX9_load RX9 (some .int)) (hL : C.2.2.2.2 = 4) {G : G2} {V : V2} {R : R2} {b : Nat} {a1 : Int32} (hG : GX G) (h_b : own G b 19) (hR : C.1.2.2.2.1 = rmN 1 0 0) {o : Int32} (hX : Go C 56 [(2, .int o)] [] V R G 0 0) : ∀ (f : Nat) (x3 : Int32) (x4 : Int32), lX9_load_12 V b a1 f x3 x4 = some o → Go C 12 [(0, .ref b), (1, .int a1), (2, .int x3), (3, .int x4)] [] V R G 0 0 := by
  intro f
  induction f with
  | zero => intro _ _ hf; exact absurd hf (by unfold lX9_load_12; exact fun z => nomatch z)
  | succ f2 ih =>
    intro x3 x4
    unfold lX9_load_12
    refine g_iload_n hC dX9_load_12 (j := 3) rfl rfl ?_
    refine g_aload_n hC dX9_load_13 (j := 0) rfl rfl ?_
    refine g_getR hC fr_9_0 h_b (b := b + 1) rfl dX9_load_14 flX9_7 ?_
    refine g_iconst hC dX9_load_17 ic_0 ?_
    refine g_ialdV hC (gx_9_0 hG h_b) (gl_9_0 hG h_b) dX9_load_18 (fun t5 => ?_)
    refine g_icmp_ge hC dX9_load_19 ?_ ?_
    · refine g_sub [2] rfl ?_
      exact fun e => by cases e; exact hX
    · refine g_iload_n hC dX9_load_22 (j := 2) rfl rfl ?_
      refine g_aload_n hC dX9_load_23 (j := 0) rfl rfl ?_
      refine g_iload_n hC dX9_load_24 (j := 3) rfl rfl ?_
      refine g_iconst hC dX9_load_25 ic_4 ?_
      refine g_callV_i hC hR ⟨Nat.zero_le _, Nat.zero_le _⟩ mwX9_its miX9_its (ci := 9) rfl h_b (Nat.le_of_ble_eq_true rfl) mlX9_79 (fun _ hq => kX9_its hG h_b hq) (Nat.le_of_ble_eq_true rfl) rfl (st := [.int x3]) rfl (Nat.le_of_ble_eq_true rfl) dX9_load_26 (fun q6 => ?_)
      refine g_iconst hC dX9_load_29 ic_1 ?_
      refine g_icmp_ne hC dX9_load_30 ?_ ?_
      · refine g_aload_n hC dX9_load_33 (j := 0) rfl rfl ?_
        refine g_iload_n hC dX9_load_34 (j := 3) rfl rfl ?_
        refine g_iconst hC dX9_load_35 ic_3 ?_
        refine g_callV_i hC hR ⟨Nat.zero_le _, Nat.zero_le _⟩ mwX9_its miX9_its (ci := 9) rfl h_b (Nat.le_of_ble_eq_true rfl) mlX9_79 (fun _ hq => kX9_its hG h_b hq) (Nat.le_of_ble_eq_true rfl) rfl (st := [.int x3]) rfl (Nat.le_of_ble_eq_true rfl) dX9_load_36 (fun q7 => ?_)
        refine g_iload_n hC dX9_load_39 (j := 1) rfl rfl ?_
        refine g_icmp_ne hC dX9_load_40 ?_ ?_
        · refine g_iconst hC dX9_load_43 ic_2 ?_
          refine g_goto hC dX9_load_44 ?_
          refine g_iadd hC dX9_load_48 ?_
          refine g_istore_nL hC (n0 := 4) (lv' := fun x8 => [(2, .int x8), (0, .ref b), (1, .int a1), (3, .int x4)]) dX9_load_49 rfl (Nat.le_of_ble_eq_true rfl) hL (fun _ => rfl) (fun x8 => ?_)
          refine g_iincL hC (n0 := 4) (j := 3) (lv' := fun x9 => [(3, .int x9), (2, .int x8), (0, .ref b), (1, .int a1)]) dX9_load_50 rfl ic_1 (Nat.le_of_ble_eq_true rfl) hL (fun _ => rfl) (fun x9 => ?_)
          refine g_goto hC dX9_load_53 ?_
          refine g_sub [2, 3, 1, 0] rfl ?_
          exact ih x8 x9
        · refine g_iconst hC dX9_load_47 ic_0 ?_
          refine g_iadd hC dX9_load_48 ?_
          refine g_istore_nL hC (n0 := 4) (lv' := fun x10 => [(2, .int x10), (0, .ref b), (1, .int a1), (3, .int x4)]) dX9_load_49 rfl (Nat.le_of_ble_eq_true rfl) hL (fun _ => rfl) (fun x10 => ?_)
          refine g_iincL hC (n0 := 4) (j := 3) (lv' := fun x11 => [(3, .int x11), (2, .int x10), (0, .ref b), (1, .int a1)]) dX9_load_50 rfl ic_1 (Nat.le_of_ble_eq_true rfl) hL (fun _ => rfl) (fun x11 => ?_)
          refine g_goto hC dX9_load_53 ?_
          refine g_sub [2, 3, 1, 0] rfl ?_
          exact ih x10 x11
      · refine g_iconst hC dX9_load_47 ic_0 ?_
        refine g_iadd hC dX9_load_48 ?_
        refine g_istore_nL hC (n0 := 4) (lv' := fun x12 => [(2, .int x12), (0, .ref b), (1, .int a1), (3, .int x4)]) dX9_load_49 rfl (Nat.le_of_ble_eq_true rfl) hL (fun _ => rfl) (fun x12 => ?_)
        refine g_iincL hC (n0 := 4) (j := 3) (lv' := fun x13 => [(3, .int x13), (2, .int x12), (0, .ref b), (1, .int a1)]) dX9_load_50 rfl ic_1 (Nat.le_of_ble_eq_true rfl) hL (fun _ => rfl) (fun x13 => ?_)
        refine g_goto hC dX9_load_53 ?_
        refine g_sub [2, 3, 1, 0] rfl ?_
        exact ih x12 x13
set_option maxHeartbeats 4000000 in
set_option maxRecDepth 100000 in
theorem kX9_load {l : Launch} {D : Dx} {G : G2} {V : V2} {R : R2} {n : Nat} {b : Nat} {a1 : Int32} (hG : GX G) (h_b : own G b 19) {o : Int32} (hf : pX9_load n V b a1 = some o) : Con l yX9_load cX9_load 4 (some .int) (rmN 1 0 0) D G V R [.ref b, .int a1] (some (.int o), V, R, G, 0, 0) := by
  refine Con.mk RX9 (by decide) rfl (Nat.le_of_ble_eq_true rfl) (fun C _ hR hT _ _ hL hC hnm => ?_)
  revert hf
  unfold pX9_load
  refine g_aload_n hC dX9_load_0 (j := 0) rfl rfl ?_
  refine g_getR hC fr_9_0 h_b (b := b + 1) rfl dX9_load_1 flX9_7 ?_
  refine g_bipush hC dX9_load_4 bc_38 ?_
  refine g_iload_n hC dX9_load_6 (j := 1) rfl rfl ?_
  refine g_iadd hC dX9_load_7 ?_
  refine g_ialdV hC (gx_9_0 hG h_b) (gl_9_0 hG h_b) dX9_load_8 (fun t1 => ?_)
  refine g_istore_n hC (n0 := 4) (lv' := [(2, .int t1), (0, .ref b), (1, .int a1)]) dX9_load_9 rfl (Nat.le_of_ble_eq_true rfl) hL rfl ?_
  refine g_iconst hC dX9_load_10 ic_0 ?_
  refine g_istore_n hC (n0 := 4) (lv' := [(3, .int 0), (2, .int t1), (0, .ref b), (1, .int a1)]) dX9_load_11 rfl (Nat.le_of_ble_eq_true rfl) hL rfl ?_
  refine g_sub [2, 3, 1, 0] rfl ?_
  refine g_bind (J := fun w14 => Go C 56 [(2, .int w14)] [] V R G 0 0) (fun w14 hJ => wX9_load_12 hC hL hG h_b hR hJ n t1 0) (fun w14 => ?_)
  refine g_iload_n hC dX9_load_56 (j := 0) rfl rfl ?_
  exact g_iret_i hC hT dX9_load_57
def pX9_pays (n : Nat) (V : V2) (b : Nat) (a1 : Int32) : Option (Int32) :=
  (pX9_its V b a1 4).bind fun q1 =>
  ((if q1 = 0 then ((ldI 572 (V (b + 1)) 1).bind fun t3 =>
  (pX9_ironOf V b t3).bind fun q4 =>
  (pX9_its V b a1 3).bind fun q5 =>
  (pX9_load n V b q5).bind fun q6 =>
  (pX9_needsOf V b a1).bind fun q7 =>
  if ((4 * (q4 / 4)) + q6) < q7 then (some 0)
  else (some 1))
  else (some 0) : Option (Int32))).bind fun j2 =>
  if j2 = 0 then (some 0)
  else ((pX9_its V b a1 1).bind fun q8 =>
  some (4 + (q8 / 12)))
set_option maxHeartbeats 4000000 in
set_option maxRecDepth 100000 in
theorem kX9_pays {l : Launch} {D : Dx} {G : G2} {V : V2} {R : R2} {n : Nat} {b : Nat} {a1 : Int32} (hG : GX G) (h_b : own G b 19) {o : Int32} (hf : pX9_pays n V b a1 = some o) : Con l yX9_pays cX9_pays 3 (some .int) (rmN 2 0 0) D G V R [.ref b, .int a1] (some (.int o), V, R, G, 0, 0) := by
  refine Con.mk RX9 (by decide) rfl (Nat.le_of_ble_eq_true rfl) (fun C _ hR hT _ _ hL hC hnm => ?_)
  revert hf
  unfold pX9_pays
  refine g_aload_n hC dX9_pays_0 (j := 0) rfl rfl ?_
  refine g_iload_n hC dX9_pays_1 (j := 1) rfl rfl ?_
  refine g_iconst hC dX9_pays_2 ic_4 ?_
  refine g_callV_i hC hR ⟨Nat.zero_le _, Nat.zero_le _⟩ mwX9_its miX9_its (ci := 9) rfl h_b (Nat.le_of_ble_eq_true rfl) mlX9_79 (fun _ hq => kX9_its hG h_b hq) (Nat.le_of_ble_eq_true rfl) rfl (st := []) rfl (Nat.le_of_ble_eq_true rfl) dX9_pays_3 (fun q1 => ?_)
  refine g_bind (J := fun j2 => Go C 47 [(0, .ref b), (1, .int a1)] [.int j2] V R G 0 0) (fun j2 hJ => ?_) (fun j2 => ?_)
  · refine g_if_ne hC dX9_pays_6 ?_ ?_
    · refine g_iconst hC dX9_pays_9 ic_4 ?_
      refine g_aload_n hC dX9_pays_10 (j := 0) rfl rfl ?_
      refine g_aload_n hC dX9_pays_11 (j := 0) rfl rfl ?_
      refine g_getR hC fr_9_0 h_b (b := b + 1) rfl dX9_pays_12 flX9_7 ?_
      refine g_iconst hC dX9_pays_15 ic_1 ?_
      refine g_ialdV hC (gx_9_0 hG h_b) (gl_9_0 hG h_b) dX9_pays_16 (fun t3 => ?_)
      refine g_callV_i hC hR ⟨Nat.zero_le _, Nat.zero_le _⟩ mwX9_ironOf miX9_ironOf (ci := 9) rfl h_b (Nat.le_of_ble_eq_true rfl) mlX9_82 (fun _ hq => kX9_ironOf hG h_b hq) (Nat.le_of_ble_eq_true rfl) rfl (st := [.int 4]) rfl (Nat.le_of_ble_eq_true rfl) dX9_pays_17 (fun q4 => ?_)
      refine g_iconst hC dX9_pays_20 ic_4 ?_
      refine g_idivC hC dX9_pays_21 nzi_4 ?_
      refine g_imul hC dX9_pays_22 ?_
      refine g_aload_n hC dX9_pays_23 (j := 0) rfl rfl ?_
      refine g_aload_n hC dX9_pays_24 (j := 0) rfl rfl ?_
      refine g_iload_n hC dX9_pays_25 (j := 1) rfl rfl ?_
      refine g_iconst hC dX9_pays_26 ic_3 ?_
      refine g_callV_i hC hR ⟨Nat.zero_le _, Nat.zero_le _⟩ mwX9_its miX9_its (ci := 9) rfl h_b (Nat.le_of_ble_eq_true rfl) mlX9_79 (fun _ hq => kX9_its hG h_b hq) (Nat.le_of_ble_eq_true rfl) rfl (st := [.ref b, .int (4 * (q4 / 4))]) rfl (Nat.le_of_ble_eq_true rfl) dX9_pays_27 (fun q5 => ?_)
      refine g_callV_i hC hR ⟨Nat.zero_le _, Nat.zero_le _⟩ mwX9_load miX9_load (ci := 9) rfl h_b (Nat.le_of_ble_eq_true rfl) mlX9_94 (fun _ hq => kX9_load hG h_b hq) (Nat.le_of_ble_eq_true rfl) rfl (st := [.int (4 * (q4 / 4))]) rfl (Nat.le_of_ble_eq_true rfl) dX9_pays_30 (fun q6 => ?_)
      refine g_iadd hC dX9_pays_33 ?_
      refine g_aload_n hC dX9_pays_34 (j := 0) rfl rfl ?_
      refine g_iload_n hC dX9_pays_35 (j := 1) rfl rfl ?_
      refine g_callV_i hC hR ⟨Nat.zero_le _, Nat.zero_le _⟩ mwX9_needsOf miX9_needsOf (ci := 9) rfl h_b (Nat.le_of_ble_eq_true rfl) mlX9_97 (fun _ hq => kX9_needsOf hG h_b hq) (Nat.le_of_ble_eq_true rfl) rfl (st := [.int ((4 * (q4 / 4)) + q6)]) rfl (Nat.le_of_ble_eq_true rfl) dX9_pays_36 (fun q7 => ?_)
      refine g_icmp_lt hC dX9_pays_39 ?_ ?_
      · refine g_iconst hC dX9_pays_46 ic_0 ?_
        exact fun e => by cases e; exact hJ
      · refine g_iconst hC dX9_pays_42 ic_1 ?_
        refine g_goto hC dX9_pays_43 ?_
        exact fun e => by cases e; exact hJ
    · refine g_iconst hC dX9_pays_46 ic_0 ?_
      exact fun e => by cases e; exact hJ
  · refine g_istore_n hC (n0 := 3) (lv' := [(2, .int j2), (0, .ref b), (1, .int a1)]) dX9_pays_47 rfl (Nat.le_of_ble_eq_true rfl) hL rfl ?_
    refine g_iload_n hC dX9_pays_48 (j := 0) rfl rfl ?_
    refine g_if_eq hC dX9_pays_49 ?_ ?_
    · refine g_iconst hC dX9_pays_66 ic_0 ?_
      exact g_iret_i hC hT dX9_pays_67
    · refine g_iconst hC dX9_pays_52 ic_4 ?_
      refine g_aload_n hC dX9_pays_53 (j := 1) rfl rfl ?_
      refine g_iload_n hC dX9_pays_54 (j := 2) rfl rfl ?_
      refine g_iconst hC dX9_pays_55 ic_1 ?_
      refine g_callV_i hC hR ⟨Nat.zero_le _, Nat.zero_le _⟩ mwX9_its miX9_its (ci := 9) rfl h_b (Nat.le_of_ble_eq_true rfl) mlX9_79 (fun _ hq => kX9_its hG h_b hq) (Nat.le_of_ble_eq_true rfl) rfl (st := [.int 4]) rfl (Nat.le_of_ble_eq_true rfl) dX9_pays_56 (fun q8 => ?_)
      refine g_bipush hC dX9_pays_59 bc_12 ?_
      refine g_idivC hC dX9_pays_61 nzi_12 ?_
      refine g_iadd hC dX9_pays_62 ?_
      refine g_goto hC dX9_pays_63 ?_
      exact g_iret_i hC hT dX9_pays_67
def pX9_isUnder (a1 : Int32) (a2 : Int32) : Option (Int32) :=
  if a2 = 0 then (some 1)
  else (if a1 = a2 then (some 1)
  else (letv (fun (u2 : Unit) => (if a2 = (4 : Int32) then (if a1 = (5 : Int32) then (some 1)
  else (some 0))
  else (some 0))) fun j1 =>
  if a2 = (2 : Int32) then (if a1 = (3 : Int32) then (some 1)
  else (j1 ()))
  else (j1 ())))
set_option maxHeartbeats 4000000 in
set_option maxRecDepth 100000 in
theorem kX9_isUnder {l : Launch} {D : Dx} {G : G2} {V : V2} {R : R2} {a1 : Int32} {a2 : Int32}  {o : Int32} (hf : pX9_isUnder a1 a2 = some o) : Con l yX9_isUnder cX9_isUnder 2 (some .boolean) (rmN 0 0 0) D G V R [.int a1, .int a2] (some (.int o), V, R, G, 0, 0) := by
  refine Con.mk RX9 (by decide) rfl (Nat.le_of_ble_eq_true rfl) (fun C _ hR hT _ _ hL hC hnm => ?_)
  revert hf
  unfold pX9_isUnder
  refine g_iload_n hC dX9_isUnder_0 (j := 1) rfl rfl ?_
  refine g_if_eq hC dX9_isUnder_1 ?_ ?_
  · refine g_iconst hC dX9_isUnder_29 ic_1 ?_
    refine g_goto hC dX9_isUnder_30 ?_
    exact g_zret_i hC rfl hT dX9_isUnder_34
  · refine g_iload_n hC dX9_isUnder_4 (j := 0) rfl rfl ?_
    refine g_iload_n hC dX9_isUnder_5 (j := 1) rfl rfl ?_
    refine g_icmp_eq hC dX9_isUnder_6 ?_ ?_
    · refine g_iconst hC dX9_isUnder_29 ic_1 ?_
      refine g_goto hC dX9_isUnder_30 ?_
      exact g_zret_i hC rfl hT dX9_isUnder_34
    · refine g_iload_n hC dX9_isUnder_9 (j := 1) rfl rfl ?_
      refine g_iconst hC dX9_isUnder_10 ic_2 ?_
      refine g_jn (J := fun j1 => ∀ (u2 : Unit), j1 u2 = some o → Go C 19 [(0, .int a1), (1, .int a2)] [] V R G 0 0) (fun u2 => ?_) (fun j1 hJ => ?_)
      · refine g_iload_n hC dX9_isUnder_19 (j := 1) rfl rfl ?_
        refine g_iconst hC dX9_isUnder_20 ic_4 ?_
        refine g_icmp_ne hC dX9_isUnder_21 ?_ ?_
        · refine g_iload_n hC dX9_isUnder_24 (j := 0) rfl rfl ?_
          refine g_iconst hC dX9_isUnder_25 ic_5 ?_
          refine g_icmp_ne hC dX9_isUnder_26 ?_ ?_
          · refine g_iconst hC dX9_isUnder_29 ic_1 ?_
            refine g_goto hC dX9_isUnder_30 ?_
            exact g_zret_i hC rfl hT dX9_isUnder_34
          · refine g_iconst hC dX9_isUnder_33 ic_0 ?_
            exact g_zret_i hC rfl hT dX9_isUnder_34
        · refine g_iconst hC dX9_isUnder_33 ic_0 ?_
          exact g_zret_i hC rfl hT dX9_isUnder_34
      · refine g_icmp_ne hC dX9_isUnder_11 ?_ ?_
        · refine g_iload_n hC dX9_isUnder_14 (j := 0) rfl rfl ?_
          refine g_iconst hC dX9_isUnder_15 ic_3 ?_
          refine g_icmp_eq hC dX9_isUnder_16 ?_ ?_
          · refine g_iconst hC dX9_isUnder_29 ic_1 ?_
            refine g_goto hC dX9_isUnder_30 ?_
            exact g_zret_i hC rfl hT dX9_isUnder_34
          · exact hJ ()
        · exact hJ ()
def pX9_valueOf (V : V2) (b : Nat) (a1 : Int32) (a2 : Int32) : Option (Int32) :=
  letv (a1 - 10000) fun x1 =>
  if x1 = 0 then ((ldI 572 (V (b + 1)) 1).bind fun t2 =>
  some t2)
  else (if x1 = 1 then ((pX9_its V b a2 1).bind fun q4 =>
  some q4)
  else (if x1 = 2 then ((pX9_its V b a2 2).bind fun q6 =>
  some q6)
  else (if x1 = 3 then ((ldI 572 (V (b + 1)) 1).bind fun t8 =>
  (pX9_ironOf V b t8).bind fun q9 =>
  some (q9 / 4))
  else (if x1 = 4 then (some a2)
  else (some a1)))))
set_option maxHeartbeats 4000000 in
set_option maxRecDepth 100000 in
theorem kX9_valueOf {l : Launch} {D : Dx} {G : G2} {V : V2} {R : R2} {b : Nat} {a1 : Int32} {a2 : Int32} (hG : GX G) (h_b : own G b 19) {o : Int32} (hf : pX9_valueOf V b a1 a2 = some o) : Con l yX9_valueOf cX9_valueOf 3 (some .int) (rmN 1 0 0) D G V R [.ref b, .int a1, .int a2] (some (.int o), V, R, G, 0, 0) := by
  refine Con.mk RX9 (by decide) rfl (Nat.le_of_ble_eq_true rfl) (fun C _ hR hT _ _ hL hC hnm => ?_)
  revert hf
  unfold pX9_valueOf
  refine g_iload_n hC dX9_valueOf_0 (j := 1) rfl rfl ?_
  refine g_sipush hC dX9_valueOf_1 sc_10000 ?_
  refine g_isub hC dX9_valueOf_4 ?_
  refine g_letv (X := fun x1 => Go C 5 [(0, .ref b), (1, .int a1), (2, .int a2)] [.int x1] V R G 0 0) (fun x1 => ?_)
  refine g_tsw hC 0 (35) (tgt := 40) dX9_valueOf_5 (by decide) rfl ?_ (fun hn3 => ?_)
  · refine g_aload_n hC dX9_valueOf_40 (j := 0) rfl rfl ?_
    refine g_getR hC fr_9_0 h_b (b := b + 1) rfl dX9_valueOf_41 flX9_7 ?_
    refine g_iconst hC dX9_valueOf_44 ic_1 ?_
    refine g_ialdV hC (gx_9_0 hG h_b) (gl_9_0 hG h_b) dX9_valueOf_45 (fun t2 => ?_)
    exact g_iret_i hC hT dX9_valueOf_46
  refine g_tsw hC 1 (42) (tgt := 47) dX9_valueOf_5 (by decide) rfl ?_ (fun hn5 => ?_)
  · refine g_aload_n hC dX9_valueOf_47 (j := 0) rfl rfl ?_
    refine g_iload_n hC dX9_valueOf_48 (j := 2) rfl rfl ?_
    refine g_iconst hC dX9_valueOf_49 ic_1 ?_
    refine g_callV_i hC hR ⟨Nat.zero_le _, Nat.zero_le _⟩ mwX9_its miX9_its (ci := 9) rfl h_b (Nat.le_of_ble_eq_true rfl) mlX9_79 (fun _ hq => kX9_its hG h_b hq) (Nat.le_of_ble_eq_true rfl) rfl (st := []) rfl (Nat.le_of_ble_eq_true rfl) dX9_valueOf_50 (fun q4 => ?_)
    exact g_iret_i hC hT dX9_valueOf_53
  refine g_tsw hC 2 (49) (tgt := 54) dX9_valueOf_5 (by decide) rfl ?_ (fun hn7 => ?_)
  · refine g_aload_n hC dX9_valueOf_54 (j := 0) rfl rfl ?_
    refine g_iload_n hC dX9_valueOf_55 (j := 2) rfl rfl ?_
    refine g_iconst hC dX9_valueOf_56 ic_2 ?_
    refine g_callV_i hC hR ⟨Nat.zero_le _, Nat.zero_le _⟩ mwX9_its miX9_its (ci := 9) rfl h_b (Nat.le_of_ble_eq_true rfl) mlX9_79 (fun _ hq => kX9_its hG h_b hq) (Nat.le_of_ble_eq_true rfl) rfl (st := []) rfl (Nat.le_of_ble_eq_true rfl) dX9_valueOf_57 (fun q6 => ?_)
    exact g_iret_i hC hT dX9_valueOf_60
  refine g_tsw hC 3 (56) (tgt := 61) dX9_valueOf_5 (by decide) rfl ?_ (fun hn10 => ?_)
  · refine g_aload_n hC dX9_valueOf_61 (j := 0) rfl rfl ?_
    refine g_aload_n hC dX9_valueOf_62 (j := 0) rfl rfl ?_
    refine g_getR hC fr_9_0 h_b (b := b + 1) rfl dX9_valueOf_63 flX9_7 ?_
    refine g_iconst hC dX9_valueOf_66 ic_1 ?_
    refine g_ialdV hC (gx_9_0 hG h_b) (gl_9_0 hG h_b) dX9_valueOf_67 (fun t8 => ?_)
    refine g_callV_i hC hR ⟨Nat.zero_le _, Nat.zero_le _⟩ mwX9_ironOf miX9_ironOf (ci := 9) rfl h_b (Nat.le_of_ble_eq_true rfl) mlX9_82 (fun _ hq => kX9_ironOf hG h_b hq) (Nat.le_of_ble_eq_true rfl) rfl (st := []) rfl (Nat.le_of_ble_eq_true rfl) dX9_valueOf_68 (fun q9 => ?_)
    refine g_iconst hC dX9_valueOf_71 ic_4 ?_
    refine g_idivC hC dX9_valueOf_72 nzi_4 ?_
    exact g_iret_i hC hT dX9_valueOf_73
  refine g_tsw hC 4 (69) (tgt := 74) dX9_valueOf_5 (by decide) rfl ?_ (fun hn11 => ?_)
  · refine g_iload_n hC dX9_valueOf_74 (j := 2) rfl rfl ?_
    exact g_iret_i hC hT dX9_valueOf_75
  refine g_tswd hC (tgt := 76) dX9_valueOf_5 (by have := And.intro trivial trivial; have := lv_neT (a := 0) hn3 (by decide); have := lv_neT (a := 1) hn5 (by decide); have := lv_neT (a := 2) hn7 (by decide); have := lv_neT (a := 3) hn10 (by decide); have := lv_neT (a := 4) hn11 (by decide); omega) rfl ?_
  refine g_iload_n hC dX9_valueOf_76 (j := 1) rfl rfl ?_
  exact g_iret_i hC hT dX9_valueOf_77
def lX9_holds_17 (V : V2) (b : Nat) (a1 : Int32) (a2 : Int32) : Nat → Int64 → Int32 → Option (Int64)
  | 0, _, _ => none
  | f2 + 1, x3, x4 =>
    (ldI 572 (V (b + 1)) ((66 + (4 * a1)) + 3)).bind fun t5 =>
    if t5 ≤ x4 then (some x3)
    else ((ldI 572 (V (b + 1)) (122 + (3 * x4))).bind fun t6 =>
    if (3 : Int32) ≤ t6 then (if t6 = (3 : Int32) then (letv (x3 ^^^ 1) fun x7 =>
    letv (x4 + 1) fun x8 =>
    lX9_holds_17 V b a1 a2 f2 x7 x8)
    else (letv (x3 &&& 1) fun x9 =>
    letv (x3 / 2) fun x10 =>
    if t6 = (4 : Int32) then (if (lg_cmp x9 1) = 0 then (letv (x4 + 1) fun x11 =>
    lX9_holds_17 V b a1 a2 f2 x10 x11)
    else (letv (x10 &&& (-2)) fun x12 =>
    letv (x4 + 1) fun x13 =>
    lX9_holds_17 V b a1 a2 f2 x12 x13))
    else (letv (x10 ||| x9) fun x14 =>
    letv (x4 + 1) fun x15 =>
    lX9_holds_17 V b a1 a2 f2 x14 x15)))
    else ((ldI 572 (V (b + 1)) ((122 + (3 * x4)) + 1)).bind fun t16 =>
    (pX9_valueOf V b t16 a2).bind fun q17 =>
    (ldI 572 (V (b + 1)) ((122 + (3 * x4)) + 2)).bind fun t18 =>
    (pX9_valueOf V b t18 a2).bind fun q19 =>
    letv ((if t6 = 0 then (if q19 ≤ q17 then (0)
    else (1))
    else (if t6 = (1 : Int32) then (if q17 = q19 then (1)
    else (0))
    else (if q17 ≤ q19 then (0)
    else (1))) : Int32)) fun j20 =>
    if j20 = 0 then (letv ((2 * x3) + 0) fun x21 =>
    letv (x4 + 1) fun x22 =>
    lX9_holds_17 V b a1 a2 f2 x21 x22)
    else (letv ((2 * x3) + 1) fun x23 =>
    letv (x4 + 1) fun x24 =>
    lX9_holds_17 V b a1 a2 f2 x23 x24)))
def pX9_holds (n : Nat) (V : V2) (b : Nat) (a1 : Int32) (a2 : Int32) : Option (Int32) :=
  (ldI 572 (V (b + 1)) ((66 + (4 * a1)) + 2)).bind fun t1 =>
  (lX9_holds_17 V b a1 a2 n 1 t1).bind fun w25 =>
  if (lg_cmp (jreml w25 2) 1) = 0 then (some 1)
  else (some 0)
set_option maxHeartbeats 4000000 in
set_option maxRecDepth 100000 in
theorem wX9_holds_17 {C : Cx} (hC : CxOK C cX9_holds RX9 (some .boolean)) (hL : C.2.2.2.2 = 10) {G : G2} {V : V2} {R : R2} {b : Nat} {a1 : Int32} {a2 : Int32} (hG : GX G) (h_b : own G b 19) (hR : C.1.2.2.2.1 = rmN 2 0 0) {o : Int64} (hX : Go C 232 [(3, .long o)] [] V R G 0 0) : ∀ (f : Nat) (x3 : Int64) (x4 : Int32), lX9_holds_17 V b a1 a2 f x3 x4 = some o → Go C 17 [(0, .ref b), (1, .int a1), (2, .int a2), (3, .long x3), (5, .int x4)] [] V R G 0 0 := by
  intro f
  induction f with
  | zero => intro _ _ hf; exact absurd hf (by unfold lX9_holds_17; exact fun z => nomatch z)
  | succ f2 ih =>
    intro x3 x4
    unfold lX9_holds_17
    refine g_iload hC dX9_holds_17 (j := 4) rfl ?_
    refine g_aload_n hC dX9_holds_19 (j := 0) rfl rfl ?_
    refine g_getR hC fr_9_0 h_b (b := b + 1) rfl dX9_holds_20 flX9_7 ?_
    refine g_bipush hC dX9_holds_23 bc_66 ?_
    refine g_iconst hC dX9_holds_25 ic_4 ?_
    refine g_iload_n hC dX9_holds_26 (j := 1) rfl rfl ?_
    refine g_imul hC dX9_holds_27 ?_
    refine g_iadd hC dX9_holds_28 ?_
    refine g_iconst hC dX9_holds_29 ic_3 ?_
    refine g_iadd hC dX9_holds_30 ?_
    refine g_ialdV hC (gx_9_0 hG h_b) (gl_9_0 hG h_b) dX9_holds_31 (fun t5 => ?_)
    refine g_icmp_ge hC dX9_holds_32 ?_ ?_
    · refine g_sub [3] rfl ?_
      exact fun e => by cases e; exact hX
    · refine g_aload_n hC dX9_holds_35 (j := 0) rfl rfl ?_
      refine g_getR hC fr_9_0 h_b (b := b + 1) rfl dX9_holds_36 flX9_7 ?_
      refine g_bipush hC dX9_holds_39 bc_122 ?_
      refine g_iconst hC dX9_holds_41 ic_3 ?_
      refine g_iload hC dX9_holds_42 (j := 4) rfl ?_
      refine g_imul hC dX9_holds_44 ?_
      refine g_iadd hC dX9_holds_45 ?_
      refine g_ialdV hC (gx_9_0 hG h_b) (gl_9_0 hG h_b) dX9_holds_46 (fun t6 => ?_)
      refine g_istore hC (n0 := 10) (lv' := [(6, .int t6), (0, .ref b), (1, .int a1), (2, .int a2), (3, .long x3), (5, .int x4)]) dX9_holds_47 (Nat.le_of_ble_eq_true rfl) hL rfl ?_
      refine g_iload hC dX9_holds_49 (j := 0) rfl ?_
      refine g_iconst hC dX9_holds_51 ic_3 ?_
      refine g_icmp_ge hC dX9_holds_52 ?_ ?_
      · refine g_iload hC dX9_holds_172 (j := 0) rfl ?_
        refine g_iconst hC dX9_holds_174 ic_3 ?_
        refine g_icmp_ne hC dX9_holds_175 ?_ ?_
        · refine g_lload_n hC dX9_holds_178 (j := 4) rfl rfl ?_
          refine g_lconst hC dX9_holds_179 lc_1 ?_
          refine g_lxor hC dX9_holds_180 ?_
          refine g_lstore_nL hC (n0 := 10) (lv' := fun x7 => [(3, .long x7), (6, .int t6), (0, .ref b), (1, .int a1), (2, .int a2), (5, .int x4)]) dX9_holds_181 rfl (Nat.le_of_ble_eq_true rfl) hL (fun _ => rfl) (fun x7 => ?_)
          refine g_goto hC dX9_holds_182 ?_
          refine g_iincL hC (n0 := 10) (j := 5) (lv' := fun x8 => [(5, .int x8), (3, .long x7), (6, .int t6), (0, .ref b), (1, .int a1), (2, .int a2)]) dX9_holds_226 rfl ic_1 (Nat.le_of_ble_eq_true rfl) hL (fun _ => rfl) (fun x8 => ?_)
          refine g_goto hC dX9_holds_229 ?_
          refine g_sub [3, 4, 5, 1, 0] rfl ?_
          exact ih x7 x8
        · refine g_lload_n hC dX9_holds_185 (j := 4) rfl rfl ?_
          refine g_lconst hC dX9_holds_186 lc_1 ?_
          refine g_land hC dX9_holds_187 ?_
          refine g_lstoreL hC (n0 := 10) (lv' := fun x9 => [(7, .long x9), (6, .int t6), (0, .ref b), (1, .int a1), (2, .int a2), (3, .long x3), (5, .int x4)]) dX9_holds_188 (Nat.le_of_ble_eq_true rfl) hL (fun _ => rfl) (fun x9 => ?_)
          refine g_lload_n hC dX9_holds_190 (j := 5) rfl rfl ?_
          refine g_ldc2 hC dX9_holds_191 clX9_103 ?_
          refine g_ldivC hC dX9_holds_194 nzl_2 ?_
          refine g_lstore_nL hC (n0 := 10) (lv' := fun x10 => [(3, .long x10), (7, .long x9), (6, .int t6), (0, .ref b), (1, .int a1), (2, .int a2), (5, .int x4)]) dX9_holds_195 rfl (Nat.le_of_ble_eq_true rfl) hL (fun _ => rfl) (fun x10 => ?_)
          refine g_iload hC dX9_holds_196 (j := 2) rfl ?_
          refine g_iconst hC dX9_holds_198 ic_4 ?_
          refine g_icmp_eq hC dX9_holds_199 ?_ ?_
          · refine g_lload hC dX9_holds_209 (j := 1) rfl ?_
            refine g_lconst hC dX9_holds_211 lc_1 ?_
            refine g_lcmp hC dX9_holds_212 ?_
            refine g_if_ne hC dX9_holds_213 ?_ ?_
            · refine g_lload_n hC dX9_holds_216 (j := 0) rfl rfl ?_
              refine g_goto hC dX9_holds_217 ?_
              refine g_lstore_n hC (n0 := 10) (lv' := [(3, .long x10), (7, .long x9), (6, .int t6), (0, .ref b), (1, .int a1), (2, .int a2), (5, .int x4)]) dX9_holds_225 rfl (Nat.le_of_ble_eq_true rfl) hL rfl ?_
              refine g_iincL hC (n0 := 10) (j := 6) (lv' := fun x11 => [(5, .int x11), (3, .long x10), (7, .long x9), (6, .int t6), (0, .ref b), (1, .int a1), (2, .int a2)]) dX9_holds_226 rfl ic_1 (Nat.le_of_ble_eq_true rfl) hL (fun _ => rfl) (fun x11 => ?_)
              refine g_goto hC dX9_holds_229 ?_
              refine g_sub [4, 5, 6, 1, 0] rfl ?_
              exact ih x10 x11
            · refine g_lload_n hC dX9_holds_220 (j := 0) rfl rfl ?_
              refine g_ldc2 hC dX9_holds_221 clX9_105 ?_
              refine g_land hC dX9_holds_224 ?_
              refine g_lstore_nL hC (n0 := 10) (lv' := fun x12 => [(3, .long x12), (7, .long x9), (6, .int t6), (0, .ref b), (1, .int a1), (2, .int a2), (5, .int x4)]) dX9_holds_225 rfl (Nat.le_of_ble_eq_true rfl) hL (fun _ => rfl) (fun x12 => ?_)
              refine g_iincL hC (n0 := 10) (j := 6) (lv' := fun x13 => [(5, .int x13), (3, .long x12), (7, .long x9), (6, .int t6), (0, .ref b), (1, .int a1), (2, .int a2)]) dX9_holds_226 rfl ic_1 (Nat.le_of_ble_eq_true rfl) hL (fun _ => rfl) (fun x13 => ?_)
              refine g_goto hC dX9_holds_229 ?_
              refine g_sub [4, 5, 6, 1, 0] rfl ?_
              exact ih x12 x13
          · refine g_lload_n hC dX9_holds_202 (j := 0) rfl rfl ?_
            refine g_lload hC dX9_holds_203 (j := 1) rfl ?_
            refine g_lor hC dX9_holds_205 ?_
            refine g_goto hC dX9_holds_206 ?_
            refine g_lstore_nL hC (n0 := 10) (lv' := fun x14 => [(3, .long x14), (7, .long x9), (6, .int t6), (0, .ref b), (1, .int a1), (2, .int a2), (5, .int x4)]) dX9_holds_225 rfl (Nat.le_of_ble_eq_true rfl) hL (fun _ => rfl) (fun x14 => ?_)
            refine g_iincL hC (n0 := 10) (j := 6) (lv' := fun x15 => [(5, .int x15), (3, .long x14), (7, .long x9), (6, .int t6), (0, .ref b), (1, .int a1), (2, .int a2)]) dX9_holds_226 rfl ic_1 (Nat.le_of_ble_eq_true rfl) hL (fun _ => rfl) (fun x15 => ?_)
            refine g_goto hC dX9_holds_229 ?_
            refine g_sub [4, 5, 6, 1, 0] rfl ?_
            exact ih x14 x15
      · refine g_aload_n hC dX9_holds_55 (j := 1) rfl rfl ?_
        refine g_aload_n hC dX9_holds_56 (j := 1) rfl rfl ?_
        refine g_getR hC fr_9_0 h_b (b := b + 1) rfl dX9_holds_57 flX9_7 ?_
        refine g_bipush hC dX9_holds_60 bc_122 ?_
        refine g_iconst hC dX9_holds_62 ic_3 ?_
        refine g_iload hC dX9_holds_63 (j := 5) rfl ?_
        refine g_imul hC dX9_holds_65 ?_
        refine g_iadd hC dX9_holds_66 ?_
        refine g_iconst hC dX9_holds_67 ic_1 ?_
        refine g_iadd hC dX9_holds_68 ?_
        refine g_ialdV hC (gx_9_0 hG h_b) (gl_9_0 hG h_b) dX9_holds_69 (fun t16 => ?_)
        refine g_iload_n hC dX9_holds_70 (j := 3) rfl rfl ?_
        refine g_callV_i hC hR ⟨Nat.zero_le _, Nat.zero_le _⟩ mwX9_valueOf miX9_valueOf (ci := 9) rfl h_b (Nat.le_of_ble_eq_true rfl) mlX9_100 (fun _ hq => kX9_valueOf hG h_b hq) (Nat.le_of_ble_eq_true rfl) rfl (st := []) rfl (Nat.le_of_ble_eq_true rfl) dX9_holds_71 (fun q17 => ?_)
        refine g_istore hC (n0 := 10) (lv' := [(7, .int q17), (6, .int t6), (0, .ref b), (1, .int a1), (2, .int a2), (3, .long x3), (5, .int x4)]) dX9_holds_74 (Nat.le_of_ble_eq_true rfl) hL rfl ?_
        refine g_aload_n hC dX9_holds_76 (j := 2) rfl rfl ?_
        refine g_aload_n hC dX9_holds_77 (j := 2) rfl rfl ?_
        refine g_getR hC fr_9_0 h_b (b := b + 1) rfl dX9_holds_78 flX9_7 ?_
        refine g_bipush hC dX9_holds_81 bc_122 ?_
        refine g_iconst hC dX9_holds_83 ic_3 ?_
        refine g_iload hC dX9_holds_84 (j := 6) rfl ?_
        refine g_imul hC dX9_holds_86 ?_
        refine g_iadd hC dX9_holds_87 ?_
        refine g_iconst hC dX9_holds_88 ic_2 ?_
        refine g_iadd hC dX9_holds_89 ?_
        refine g_ialdV hC (gx_9_0 hG h_b) (gl_9_0 hG h_b) dX9_holds_90 (fun t18 => ?_)
        refine g_iload_n hC dX9_holds_91 (j := 4) rfl rfl ?_
        refine g_callV_i hC hR ⟨Nat.zero_le _, Nat.zero_le _⟩ mwX9_valueOf miX9_valueOf (ci := 9) rfl h_b (Nat.le_of_ble_eq_true rfl) mlX9_100 (fun _ hq => kX9_valueOf hG h_b hq) (Nat.le_of_ble_eq_true rfl) rfl (st := []) rfl (Nat.le_of_ble_eq_true rfl) dX9_holds_92 (fun q19 => ?_)
        refine g_istore hC (n0 := 10) (lv' := [(8, .int q19), (7, .int q17), (6, .int t6), (0, .ref b), (1, .int a1), (2, .int a2), (3, .long x3), (5, .int x4)]) dX9_holds_95 (Nat.le_of_ble_eq_true rfl) hL rfl ?_
        refine g_iload hC dX9_holds_97 (j := 2) rfl ?_
        refine g_letJ (J := fun j20 => Go C 150 [(0, .ref b), (1, .int a1), (2, .int a2), (3, .long x3), (5, .int x4)] [.int j20] V R G 0 0) (fun j20 hJ => ?_) (fun j20 => ?_)
        · refine g_if_ne hC dX9_holds_99 ?_ ?_
          · refine g_iload hC dX9_holds_102 (j := 1) rfl ?_
            refine g_iload hC dX9_holds_104 (j := 0) rfl ?_
            refine g_icmp_ge hC dX9_holds_106 ?_ ?_
            · refine g_iconst hC dX9_holds_113 ic_0 ?_
              refine g_goto hC dX9_holds_114 ?_
              refine g_sub [3, 4, 5, 6, 7] rfl ?_
              exact fun e => by cases e; exact hJ
            · refine g_iconst hC dX9_holds_109 ic_1 ?_
              refine g_goto hC dX9_holds_110 ?_
              refine g_sub [3, 4, 5, 6, 7] rfl ?_
              exact fun e => by cases e; exact hJ
          · refine g_iload hC dX9_holds_117 (j := 2) rfl ?_
            refine g_iconst hC dX9_holds_119 ic_1 ?_
            refine g_icmp_ne hC dX9_holds_120 ?_ ?_
            · refine g_iload hC dX9_holds_123 (j := 1) rfl ?_
              refine g_iload hC dX9_holds_125 (j := 0) rfl ?_
              refine g_icmp_ne hC dX9_holds_127 ?_ ?_
              · refine g_iconst hC dX9_holds_130 ic_1 ?_
                refine g_goto hC dX9_holds_131 ?_
                refine g_sub [3, 4, 5, 6, 7] rfl ?_
                exact fun e => by cases e; exact hJ
              · refine g_iconst hC dX9_holds_134 ic_0 ?_
                refine g_goto hC dX9_holds_135 ?_
                refine g_sub [3, 4, 5, 6, 7] rfl ?_
                exact fun e => by cases e; exact hJ
            · refine g_iload hC dX9_holds_138 (j := 1) rfl ?_
              refine g_iload hC dX9_holds_140 (j := 0) rfl ?_
              refine g_icmp_le hC dX9_holds_142 ?_ ?_
              · refine g_iconst hC dX9_holds_149 ic_0 ?_
                refine g_sub [3, 4, 5, 6, 7] rfl ?_
                exact fun e => by cases e; exact hJ
              · refine g_iconst hC dX9_holds_145 ic_1 ?_
                refine g_goto hC dX9_holds_146 ?_
                refine g_sub [3, 4, 5, 6, 7] rfl ?_
                exact fun e => by cases e; exact hJ
        · refine g_istore hC (n0 := 10) (lv' := [(9, .int j20), (0, .ref b), (1, .int a1), (2, .int a2), (3, .long x3), (5, .int x4)]) dX9_holds_150 (Nat.le_of_ble_eq_true rfl) hL rfl ?_
          refine g_ldc2 hC dX9_holds_152 clX9_103 ?_
          refine g_lload_n hC dX9_holds_155 (j := 4) rfl rfl ?_
          refine g_lmul hC dX9_holds_156 ?_
          refine g_iload hC dX9_holds_157 (j := 0) rfl ?_
          refine g_if_eq hC dX9_holds_159 ?_ ?_
          · refine g_lconst hC dX9_holds_166 lc_0 ?_
            refine g_ladd hC dX9_holds_167 ?_
            refine g_lstore_nL hC (n0 := 10) (lv' := fun x21 => [(3, .long x21), (9, .int j20), (0, .ref b), (1, .int a1), (2, .int a2), (5, .int x4)]) dX9_holds_168 rfl (Nat.le_of_ble_eq_true rfl) hL (fun _ => rfl) (fun x21 => ?_)
            refine g_goto hC dX9_holds_169 ?_
            refine g_iincL hC (n0 := 10) (j := 5) (lv' := fun x22 => [(5, .int x22), (3, .long x21), (9, .int j20), (0, .ref b), (1, .int a1), (2, .int a2)]) dX9_holds_226 rfl ic_1 (Nat.le_of_ble_eq_true rfl) hL (fun _ => rfl) (fun x22 => ?_)
            refine g_goto hC dX9_holds_229 ?_
            refine g_sub [3, 4, 5, 1, 0] rfl ?_
            exact ih x21 x22
          · refine g_lconst hC dX9_holds_162 lc_1 ?_
            refine g_goto hC dX9_holds_163 ?_
            refine g_ladd hC dX9_holds_167 ?_
            refine g_lstore_nL hC (n0 := 10) (lv' := fun x23 => [(3, .long x23), (9, .int j20), (0, .ref b), (1, .int a1), (2, .int a2), (5, .int x4)]) dX9_holds_168 rfl (Nat.le_of_ble_eq_true rfl) hL (fun _ => rfl) (fun x23 => ?_)
            refine g_goto hC dX9_holds_169 ?_
            refine g_iincL hC (n0 := 10) (j := 5) (lv' := fun x24 => [(5, .int x24), (3, .long x23), (9, .int j20), (0, .ref b), (1, .int a1), (2, .int a2)]) dX9_holds_226 rfl ic_1 (Nat.le_of_ble_eq_true rfl) hL (fun _ => rfl) (fun x24 => ?_)
            refine g_goto hC dX9_holds_229 ?_
            refine g_sub [3, 4, 5, 1, 0] rfl ?_
            exact ih x23 x24
set_option maxHeartbeats 4000000 in
set_option maxRecDepth 100000 in
theorem kX9_holds {l : Launch} {D : Dx} {G : G2} {V : V2} {R : R2} {n : Nat} {b : Nat} {a1 : Int32} {a2 : Int32} (hG : GX G) (h_b : own G b 19) {o : Int32} (hf : pX9_holds n V b a1 a2 = some o) : Con l yX9_holds cX9_holds 10 (some .boolean) (rmN 2 0 0) D G V R [.ref b, .int a1, .int a2] (some (.int o), V, R, G, 0, 0) := by
  refine Con.mk RX9 (by decide) rfl (Nat.le_of_ble_eq_true rfl) (fun C _ hR hT _ _ hL hC hnm => ?_)
  revert hf
  unfold pX9_holds
  refine g_lconst hC dX9_holds_0 lc_1 ?_
  refine g_lstore_n hC (n0 := 10) (lv' := [(3, .long 1), (0, .ref b), (1, .int a1), (2, .int a2)]) dX9_holds_1 rfl (Nat.le_of_ble_eq_true rfl) hL rfl ?_
  refine g_aload_n hC dX9_holds_2 (j := 1) rfl rfl ?_
  refine g_getR hC fr_9_0 h_b (b := b + 1) rfl dX9_holds_3 flX9_7 ?_
  refine g_bipush hC dX9_holds_6 bc_66 ?_
  refine g_iconst hC dX9_holds_8 ic_4 ?_
  refine g_iload_n hC dX9_holds_9 (j := 2) rfl rfl ?_
  refine g_imul hC dX9_holds_10 ?_
  refine g_iadd hC dX9_holds_11 ?_
  refine g_iconst hC dX9_holds_12 ic_2 ?_
  refine g_iadd hC dX9_holds_13 ?_
  refine g_ialdV hC (gx_9_0 hG h_b) (gl_9_0 hG h_b) dX9_holds_14 (fun t1 => ?_)
  refine g_istore hC (n0 := 10) (lv' := [(5, .int t1), (3, .long 1), (0, .ref b), (1, .int a1), (2, .int a2)]) dX9_holds_15 (Nat.le_of_ble_eq_true rfl) hL rfl ?_
  refine g_sub [2, 3, 4, 1, 0] rfl ?_
  refine g_bind (J := fun w25 => Go C 232 [(3, .long w25)] [] V R G 0 0) (fun w25 hJ => wX9_holds_17 hC hL hG h_b hR hJ n 1 t1) (fun w25 => ?_)
  refine g_lload_n hC dX9_holds_232 (j := 0) rfl rfl ?_
  refine g_ldc2 hC dX9_holds_233 clX9_103 ?_
  refine g_lremC hC dX9_holds_236 nzl_2 ?_
  refine g_lconst hC dX9_holds_237 lc_1 ?_
  refine g_lcmp hC dX9_holds_238 ?_
  refine g_if_ne hC dX9_holds_239 ?_ ?_
  · refine g_iconst hC dX9_holds_242 ic_1 ?_
    refine g_goto hC dX9_holds_243 ?_
    exact g_zret_i hC rfl hT dX9_holds_247
  · refine g_iconst hC dX9_holds_246 ic_0 ?_
    exact g_zret_i hC rfl hT dX9_holds_247
def lX9_will_2 (n : Nat) (V : V2) (b : Nat) (a1 : Int32) : Nat → Int32 → (Unit → Option (Int32)) → Option (Int32)
  | 0, _, _ => none
  | f1 + 1, x2, K =>
    (ldI 572 (V (b + 1)) 5).bind fun t3 =>
    if t3 ≤ x2 then (K ())
    else ((pX9_its V b a1 0).bind fun q4 =>
    (ldI 572 (V (b + 1)) (66 + (4 * x2))).bind fun t5 =>
    (pX9_isUnder q4 t5).bind fun q6 =>
    if q6 = 0 then (letv (x2 + 1) fun x7 =>
    lX9_will_2 n V b a1 f1 x7 K)
    else ((pX9_holds n V b x2 a1).bind fun q8 =>
    if q8 = 0 then (letv (x2 + 1) fun x9 =>
    lX9_will_2 n V b a1 f1 x9 K)
    else ((ldI 572 (V (b + 1)) ((66 + (4 * x2)) + 1)).bind fun t10 =>
    some t10)))
def pX9_will (n : Nat) (V : V2) (b : Nat) (a1 : Int32) : Option (Int32) :=
  lX9_will_2 n V b a1 n 0 (fun _ =>
  some 0)
set_option maxHeartbeats 4000000 in
set_option maxRecDepth 100000 in
theorem wX9_will_2 {C : Cx} (hC : CxOK C cX9_will RX9 (some .int)) (hL : C.2.2.2.2 = 3) {n : Nat} {G : G2} {V : V2} {R : R2} {b : Nat} {a1 : Int32} (hG : GX G) (h_b : own G b 19) (hR : C.1.2.2.2.1 = rmN 3 0 0) {o : Int32} (hT : C.2.1 = (some (.int o), V, R, G, 0, 0)) {K : Unit → Option (Int32)} (hX : ∀ (_ : Unit), K () = some o → Go C 64 [] [] V R G 0 0) : ∀ (f : Nat) (x2 : Int32), lX9_will_2 n V b a1 f x2 K = some o → Go C 2 [(0, .ref b), (1, .int a1), (2, .int x2)] [] V R G 0 0 := by
  intro f
  induction f with
  | zero => intro _ hf; exact absurd hf (by unfold lX9_will_2; exact fun z => nomatch z)
  | succ f1 ih =>
    intro x2
    unfold lX9_will_2
    refine g_iload_n hC dX9_will_2 (j := 2) rfl rfl ?_
    refine g_aload_n hC dX9_will_3 (j := 0) rfl rfl ?_
    refine g_getR hC fr_9_0 h_b (b := b + 1) rfl dX9_will_4 flX9_7 ?_
    refine g_iconst hC dX9_will_7 ic_5 ?_
    refine g_ialdV hC (gx_9_0 hG h_b) (gl_9_0 hG h_b) dX9_will_8 (fun t3 => ?_)
    refine g_icmp_ge hC dX9_will_9 ?_ ?_
    · refine g_sub [] rfl ?_
      exact hX ()
    · refine g_aload_n hC dX9_will_12 (j := 0) rfl rfl ?_
      refine g_iload_n hC dX9_will_13 (j := 1) rfl rfl ?_
      refine g_iconst hC dX9_will_14 ic_0 ?_
      refine g_callV_i hC hR ⟨Nat.zero_le _, Nat.zero_le _⟩ mwX9_its miX9_its (ci := 9) rfl h_b (Nat.le_of_ble_eq_true rfl) mlX9_79 (fun _ hq => kX9_its hG h_b hq) (Nat.le_of_ble_eq_true rfl) rfl (st := []) rfl (Nat.le_of_ble_eq_true rfl) dX9_will_15 (fun q4 => ?_)
      refine g_aload_n hC dX9_will_18 (j := 0) rfl rfl ?_
      refine g_getR hC fr_9_0 h_b (b := b + 1) rfl dX9_will_19 flX9_7 ?_
      refine g_bipush hC dX9_will_22 bc_66 ?_
      refine g_iconst hC dX9_will_24 ic_4 ?_
      refine g_iload_n hC dX9_will_25 (j := 2) rfl rfl ?_
      refine g_imul hC dX9_will_26 ?_
      refine g_iadd hC dX9_will_27 ?_
      refine g_ialdV hC (gx_9_0 hG h_b) (gl_9_0 hG h_b) dX9_will_28 (fun t5 => ?_)
      refine g_callS_i hC hR ⟨Nat.zero_le _, Nat.zero_le _⟩ mwX9_isUnder ms_X9_isUnder mlX9_107 (fun _ hq => kX9_isUnder  hq) (Nat.le_of_ble_eq_true rfl) rfl (st := []) rfl (Nat.le_of_ble_eq_true rfl) dX9_will_29 (fun q6 => ?_)
      refine g_if_eq hC dX9_will_32 ?_ ?_
      · refine g_iincL hC (n0 := 3) (j := 2) (lv' := fun x7 => [(2, .int x7), (0, .ref b), (1, .int a1)]) dX9_will_58 rfl ic_1 (Nat.le_of_ble_eq_true rfl) hL (fun _ => rfl) (fun x7 => ?_)
        refine g_goto hC dX9_will_61 ?_
        refine g_sub [1, 2, 0] rfl ?_
        exact ih x7
      · refine g_aload_n hC dX9_will_35 (j := 0) rfl rfl ?_
        refine g_iload_n hC dX9_will_36 (j := 2) rfl rfl ?_
        refine g_iload_n hC dX9_will_37 (j := 1) rfl rfl ?_
        refine g_callV_i hC hR ⟨Nat.zero_le _, Nat.zero_le _⟩ mwX9_holds miX9_holds (ci := 9) rfl h_b (Nat.le_of_ble_eq_true rfl) mlX9_111 (fun _ hq => kX9_holds hG h_b hq) (Nat.le_of_ble_eq_true rfl) rfl (st := []) rfl (Nat.le_of_ble_eq_true rfl) dX9_will_38 (fun q8 => ?_)
        refine g_if_eq hC dX9_will_41 ?_ ?_
        · refine g_iincL hC (n0 := 3) (j := 2) (lv' := fun x9 => [(2, .int x9), (0, .ref b), (1, .int a1)]) dX9_will_58 rfl ic_1 (Nat.le_of_ble_eq_true rfl) hL (fun _ => rfl) (fun x9 => ?_)
          refine g_goto hC dX9_will_61 ?_
          refine g_sub [1, 2, 0] rfl ?_
          exact ih x9
        · refine g_aload_n hC dX9_will_44 (j := 0) rfl rfl ?_
          refine g_getR hC fr_9_0 h_b (b := b + 1) rfl dX9_will_45 flX9_7 ?_
          refine g_bipush hC dX9_will_48 bc_66 ?_
          refine g_iconst hC dX9_will_50 ic_4 ?_
          refine g_iload_n hC dX9_will_51 (j := 2) rfl rfl ?_
          refine g_imul hC dX9_will_52 ?_
          refine g_iadd hC dX9_will_53 ?_
          refine g_iconst hC dX9_will_54 ic_1 ?_
          refine g_iadd hC dX9_will_55 ?_
          refine g_ialdV hC (gx_9_0 hG h_b) (gl_9_0 hG h_b) dX9_will_56 (fun t10 => ?_)
          exact g_iret_i hC hT dX9_will_57
set_option maxHeartbeats 4000000 in
set_option maxRecDepth 100000 in
theorem kX9_will {l : Launch} {D : Dx} {G : G2} {V : V2} {R : R2} {n : Nat} {b : Nat} {a1 : Int32} (hG : GX G) (h_b : own G b 19) {o : Int32} (hf : pX9_will n V b a1 = some o) : Con l yX9_will cX9_will 3 (some .int) (rmN 3 0 0) D G V R [.ref b, .int a1] (some (.int o), V, R, G, 0, 0) := by
  refine Con.mk RX9 (by decide) rfl (Nat.le_of_ble_eq_true rfl) (fun C _ hR hT _ _ hL hC hnm => ?_)
  revert hf
  unfold pX9_will
  refine g_iconst hC dX9_will_0 ic_0 ?_
  refine g_istore_n hC (n0 := 3) (lv' := [(2, .int 0), (0, .ref b), (1, .int a1)]) dX9_will_1 rfl (Nat.le_of_ble_eq_true rfl) hL rfl ?_
  refine g_sub [1, 2, 0] rfl ?_
  refine wX9_will_2 hC hL hG h_b hR hT (fun _ => ?_) n 0
  refine g_iconst hC dX9_will_64 ic_0 ?_
  exact g_iret_i hC hT dX9_will_65
def pX9_mayBe (n : Nat) (V : V2) (b : Nat) (a1 : Int32) : Option (Int32) :=
  (pX9_pays n V b a1).bind fun q1 =>
  if q1 ≤ 0 then (some 0)
  else ((pX9_will n V b a1).bind fun q2 =>
  if q2 = 0 then (some 1)
  else (some 0))
set_option maxHeartbeats 4000000 in
set_option maxRecDepth 100000 in
theorem kX9_mayBe {l : Launch} {D : Dx} {G : G2} {V : V2} {R : R2} {n : Nat} {b : Nat} {a1 : Int32} (hG : GX G) (h_b : own G b 19) {o : Int32} (hf : pX9_mayBe n V b a1 = some o) : Con l yX9_mayBe cX9_mayBe 2 (some .boolean) (rmN 4 0 0) D G V R [.ref b, .int a1] (some (.int o), V, R, G, 0, 0) := by
  refine Con.mk RX9 (by decide) rfl (Nat.le_of_ble_eq_true rfl) (fun C _ hR hT _ _ hL hC hnm => ?_)
  revert hf
  unfold pX9_mayBe
  refine g_aload_n hC dX9_mayBe_0 (j := 0) rfl rfl ?_
  refine g_iload_n hC dX9_mayBe_1 (j := 1) rfl rfl ?_
  refine g_callV_i hC hR ⟨Nat.zero_le _, Nat.zero_le _⟩ mwX9_pays miX9_pays (ci := 9) rfl h_b (Nat.le_of_ble_eq_true rfl) mlX9_114 (fun _ hq => kX9_pays hG h_b hq) (Nat.le_of_ble_eq_true rfl) rfl (st := []) rfl (Nat.le_of_ble_eq_true rfl) dX9_mayBe_2 (fun q1 => ?_)
  refine g_if_le hC dX9_mayBe_5 ?_ ?_
  · refine g_iconst hC dX9_mayBe_20 ic_0 ?_
    exact g_zret_i hC rfl hT dX9_mayBe_21
  · refine g_aload_n hC dX9_mayBe_8 (j := 0) rfl rfl ?_
    refine g_iload_n hC dX9_mayBe_9 (j := 1) rfl rfl ?_
    refine g_callV_i hC hR ⟨Nat.zero_le _, Nat.zero_le _⟩ mwX9_will miX9_will (ci := 9) rfl h_b (Nat.le_of_ble_eq_true rfl) mlX9_117 (fun _ hq => kX9_will hG h_b hq) (Nat.le_of_ble_eq_true rfl) rfl (st := []) rfl (Nat.le_of_ble_eq_true rfl) dX9_mayBe_10 (fun q2 => ?_)
    refine g_if_ne hC dX9_mayBe_13 ?_ ?_
    · refine g_iconst hC dX9_mayBe_16 ic_1 ?_
      refine g_goto hC dX9_mayBe_17 ?_
      exact g_zret_i hC rfl hT dX9_mayBe_21
    · refine g_iconst hC dX9_mayBe_20 ic_0 ?_
      exact g_zret_i hC rfl hT dX9_mayBe_21
def pX9_thingOf (n : Nat) (V : V2) (b : Nat) (a1 : Int32) (a2 : Int32) : Option (Int32) :=
  (pX9_isOne V b a1).bind fun q1 =>
  if q1 = 0 then (some (-1))
  else ((pX9_isIn a2.toInt64 0 9).bind fun q2 =>
  if q2 = 0 then (some (-1))
  else (if a2 = 5 then ((pX9_swollen V b a1).bind fun q3 =>
  some q3)
  else (if a2 = 6 then ((pX9_needsOf V b a1).bind fun q5 =>
  some q5)
  else (if a2 = 7 then ((pX9_pays n V b a1).bind fun q7 =>
  some q7)
  else (if a2 = 8 then ((pX9_mayBe n V b a1).bind fun q9 =>
  if q9 = 0 then (some 0)
  else (some 1))
  else (if a2 = 9 then ((pX9_will n V b a1).bind fun q11 =>
  some q11)
  else ((pX9_its V b a1 a2).bind fun q13 =>
  some q13)))))))
set_option maxHeartbeats 4000000 in
set_option maxRecDepth 100000 in
theorem kX9_thingOf {l : Launch} {D : Dx} {G : G2} {V : V2} {R : R2} {n : Nat} {b : Nat} {a1 : Int32} {a2 : Int32} (hG : GX G) (h_b : own G b 19) {o : Int32} (hf : pX9_thingOf n V b a1 a2 = some o) : Con l yX9_thingOf cX9_thingOf 3 (some .int) (rmN 5 0 0) D G V R [.ref b, .int a1, .int a2] (some (.int o), V, R, G, 0, 0) := by
  refine Con.mk RX9 (by decide) rfl (Nat.le_of_ble_eq_true rfl) (fun C _ hR hT _ _ hL hC hnm => ?_)
  revert hf
  unfold pX9_thingOf
  refine g_aload_n hC dX9_thingOf_0 (j := 0) rfl rfl ?_
  refine g_iload_n hC dX9_thingOf_1 (j := 1) rfl rfl ?_
  refine g_callV_i hC hR ⟨Nat.zero_le _, Nat.zero_le _⟩ mwX9_isOne miX9_isOne (ci := 9) rfl h_b (Nat.le_of_ble_eq_true rfl) mlX9_120 (fun _ hq => kX9_isOne hG h_b hq) (Nat.le_of_ble_eq_true rfl) rfl (st := []) rfl (Nat.le_of_ble_eq_true rfl) dX9_thingOf_2 (fun q1 => ?_)
  refine g_if_eq hC dX9_thingOf_5 ?_ ?_
  · refine g_iconst hC dX9_thingOf_20 ic_m1 ?_
    exact g_iret_i hC hT dX9_thingOf_21
  · refine g_iload_n hC dX9_thingOf_8 (j := 2) rfl rfl ?_
    refine g_i2l hC dX9_thingOf_9 ?_
    refine g_lconst hC dX9_thingOf_10 lc_0 ?_
    refine g_ldc2 hC dX9_thingOf_11 clX9_69 ?_
    refine g_callS_i hC hR ⟨Nat.zero_le _, Nat.zero_le _⟩ mwX9_isIn ms_X9_isIn mlX9_63 (fun _ hq => kX9_isIn  hq) (Nat.le_of_ble_eq_true rfl) rfl (st := []) rfl (Nat.le_of_ble_eq_true rfl) dX9_thingOf_14 (fun q2 => ?_)
    refine g_if_ne hC dX9_thingOf_17 ?_ ?_
    · refine g_iconst hC dX9_thingOf_20 ic_m1 ?_
      exact g_iret_i hC hT dX9_thingOf_21
    · refine g_iload_n hC dX9_thingOf_22 (j := 2) rfl rfl ?_
      refine g_tsw hC 5 (33) (tgt := 56) dX9_thingOf_23 (by decide) rfl ?_ (fun hn4 => ?_)
      · refine g_aload_n hC dX9_thingOf_56 (j := 0) rfl rfl ?_
        refine g_iload_n hC dX9_thingOf_57 (j := 1) rfl rfl ?_
        refine g_callV_i hC hR ⟨Nat.zero_le _, Nat.zero_le _⟩ mwX9_swollen miX9_swollen (ci := 9) rfl h_b (Nat.le_of_ble_eq_true rfl) mlX9_123 (fun _ hq => kX9_swollen hG h_b hq) (Nat.le_of_ble_eq_true rfl) rfl (st := []) rfl (Nat.le_of_ble_eq_true rfl) dX9_thingOf_58 (fun q3 => ?_)
        exact g_iret_i hC hT dX9_thingOf_61
      refine g_tsw hC 6 (39) (tgt := 62) dX9_thingOf_23 (by decide) rfl ?_ (fun hn6 => ?_)
      · refine g_aload_n hC dX9_thingOf_62 (j := 0) rfl rfl ?_
        refine g_iload_n hC dX9_thingOf_63 (j := 1) rfl rfl ?_
        refine g_callV_i hC hR ⟨Nat.zero_le _, Nat.zero_le _⟩ mwX9_needsOf miX9_needsOf (ci := 9) rfl h_b (Nat.le_of_ble_eq_true rfl) mlX9_97 (fun _ hq => kX9_needsOf hG h_b hq) (Nat.le_of_ble_eq_true rfl) rfl (st := []) rfl (Nat.le_of_ble_eq_true rfl) dX9_thingOf_64 (fun q5 => ?_)
        exact g_iret_i hC hT dX9_thingOf_67
      refine g_tsw hC 7 (45) (tgt := 68) dX9_thingOf_23 (by decide) rfl ?_ (fun hn8 => ?_)
      · refine g_aload_n hC dX9_thingOf_68 (j := 0) rfl rfl ?_
        refine g_iload_n hC dX9_thingOf_69 (j := 1) rfl rfl ?_
        refine g_callV_i hC hR ⟨Nat.zero_le _, Nat.zero_le _⟩ mwX9_pays miX9_pays (ci := 9) rfl h_b (Nat.le_of_ble_eq_true rfl) mlX9_114 (fun _ hq => kX9_pays hG h_b hq) (Nat.le_of_ble_eq_true rfl) rfl (st := []) rfl (Nat.le_of_ble_eq_true rfl) dX9_thingOf_70 (fun q7 => ?_)
        exact g_iret_i hC hT dX9_thingOf_73
      refine g_tsw hC 8 (51) (tgt := 74) dX9_thingOf_23 (by decide) rfl ?_ (fun hn10 => ?_)
      · refine g_aload_n hC dX9_thingOf_74 (j := 0) rfl rfl ?_
        refine g_iload_n hC dX9_thingOf_75 (j := 1) rfl rfl ?_
        refine g_callV_i hC hR ⟨Nat.zero_le _, Nat.zero_le _⟩ mwX9_mayBe miX9_mayBe (ci := 9) rfl h_b (Nat.le_of_ble_eq_true rfl) mlX9_126 (fun _ hq => kX9_mayBe hG h_b hq) (Nat.le_of_ble_eq_true rfl) rfl (st := []) rfl (Nat.le_of_ble_eq_true rfl) dX9_thingOf_76 (fun q9 => ?_)
        refine g_if_eq hC dX9_thingOf_79 ?_ ?_
        · refine g_iconst hC dX9_thingOf_86 ic_0 ?_
          exact g_iret_i hC hT dX9_thingOf_87
        · refine g_iconst hC dX9_thingOf_82 ic_1 ?_
          refine g_goto hC dX9_thingOf_83 ?_
          exact g_iret_i hC hT dX9_thingOf_87
      refine g_tsw hC 9 (65) (tgt := 88) dX9_thingOf_23 (by decide) rfl ?_ (fun hn12 => ?_)
      · refine g_aload_n hC dX9_thingOf_88 (j := 0) rfl rfl ?_
        refine g_iload_n hC dX9_thingOf_89 (j := 1) rfl rfl ?_
        refine g_callV_i hC hR ⟨Nat.zero_le _, Nat.zero_le _⟩ mwX9_will miX9_will (ci := 9) rfl h_b (Nat.le_of_ble_eq_true rfl) mlX9_117 (fun _ hq => kX9_will hG h_b hq) (Nat.le_of_ble_eq_true rfl) rfl (st := []) rfl (Nat.le_of_ble_eq_true rfl) dX9_thingOf_90 (fun q11 => ?_)
        exact g_iret_i hC hT dX9_thingOf_93
      refine g_tswd hC (tgt := 94) dX9_thingOf_23 (by have := And.intro trivial trivial; have := lv_neT (a := 5) hn4 (by decide); have := lv_neT (a := 6) hn6 (by decide); have := lv_neT (a := 7) hn8 (by decide); have := lv_neT (a := 8) hn10 (by decide); have := lv_neT (a := 9) hn12 (by decide); omega) rfl ?_
      refine g_aload_n hC dX9_thingOf_94 (j := 0) rfl rfl ?_
      refine g_iload_n hC dX9_thingOf_95 (j := 1) rfl rfl ?_
      refine g_iload_n hC dX9_thingOf_96 (j := 2) rfl rfl ?_
      refine g_callV_i hC hR ⟨Nat.zero_le _, Nat.zero_le _⟩ mwX9_its miX9_its (ci := 9) rfl h_b (Nat.le_of_ble_eq_true rfl) mlX9_79 (fun _ hq => kX9_its hG h_b hq) (Nat.le_of_ble_eq_true rfl) rfl (st := []) rfl (Nat.le_of_ble_eq_true rfl) dX9_thingOf_97 (fun q13 => ?_)
      exact g_iret_i hC hT dX9_thingOf_100
def pX9_greatestOf (a1 : Int32) : Option (Int32) :=
  if a1 = (1 : Int32) then (some 99)
  else (if a1 = (2 : Int32) then (some 9)
  else (if a1 = (3 : Int32) then (some 5)
  else (some 1)))
set_option maxHeartbeats 4000000 in
set_option maxRecDepth 100000 in
theorem kX9_greatestOf {l : Launch} {D : Dx} {G : G2} {V : V2} {R : R2} {a1 : Int32}  {o : Int32} (hf : pX9_greatestOf a1 = some o) : Con l yX9_greatestOf cX9_greatestOf 1 (some .int) (rmN 0 0 0) D G V R [.int a1] (some (.int o), V, R, G, 0, 0) := by
  refine Con.mk RX9 (by decide) rfl (Nat.le_of_ble_eq_true rfl) (fun C _ hR hT _ _ hL hC hnm => ?_)
  revert hf
  unfold pX9_greatestOf
  refine g_iload_n hC dX9_greatestOf_0 (j := 0) rfl rfl ?_
  refine g_iconst hC dX9_greatestOf_1 ic_1 ?_
  refine g_icmp_ne hC dX9_greatestOf_2 ?_ ?_
  · refine g_bipush hC dX9_greatestOf_5 bc_99 ?_
    refine g_goto hC dX9_greatestOf_7 ?_
    exact g_iret_i hC hT dX9_greatestOf_30
  · refine g_iload_n hC dX9_greatestOf_10 (j := 0) rfl rfl ?_
    refine g_iconst hC dX9_greatestOf_11 ic_2 ?_
    refine g_icmp_ne hC dX9_greatestOf_12 ?_ ?_
    · refine g_bipush hC dX9_greatestOf_15 bc_9 ?_
      refine g_goto hC dX9_greatestOf_17 ?_
      exact g_iret_i hC hT dX9_greatestOf_30
    · refine g_iload_n hC dX9_greatestOf_20 (j := 0) rfl rfl ?_
      refine g_iconst hC dX9_greatestOf_21 ic_3 ?_
      refine g_icmp_ne hC dX9_greatestOf_22 ?_ ?_
      · refine g_iconst hC dX9_greatestOf_25 ic_5 ?_
        refine g_goto hC dX9_greatestOf_26 ?_
        exact g_iret_i hC hT dX9_greatestOf_30
      · refine g_iconst hC dX9_greatestOf_29 ic_1 ?_
        exact g_iret_i hC hT dX9_greatestOf_30
def pX9_change (V : V2) (b : Nat) (a1 : Int32) (a2 : Int32) (a3 : Int32) : Option (Int32 × V2) :=
  (pX9_isOne V b a1).bind fun q1 =>
  ((if q1 = 0 then (some 0)
  else ((pX9_isIn a2.toInt64 1 4).bind fun q3 =>
  if q3 = 0 then (some 0)
  else ((pX9_greatestOf a2).bind fun q4 =>
  (pX9_isIn a3.toInt64 0 q4.toInt64).bind fun q5 =>
  if q5 = 0 then (some 0)
  else (some 1))) : Option (Int32))).bind fun j2 =>
  if j2 = 0 then (some ((-1), V))
  else ((pX9_becomes V b ((8 + (5 * a1)) + a2) a3).bind fun q6 =>
  some (q6.1, q6.2))
set_option maxHeartbeats 4000000 in
set_option maxRecDepth 100000 in
theorem kX9_change {l : Launch} {D : Dx} {G : G2} {V : V2} {R : R2} {b : Nat} {a1 : Int32} {a2 : Int32} {a3 : Int32} (hG : GX G) (h_b : own G b 19) {o : Int32 × V2} (hf : pX9_change V b a1 a2 a3 = some o) : Con l yX9_change cX9_change 5 (some .int) (rmN 1 0 0) D G V R [.ref b, .int a1, .int a2, .int a3] (some (.int o.1), o.2, R, G, 0, 0) := by
  refine Con.mk RX9 (by decide) rfl (Nat.le_of_ble_eq_true rfl) (fun C _ hR hT _ _ hL hC hnm => ?_)
  revert hf
  unfold pX9_change
  refine g_aload_n hC dX9_change_0 (j := 0) rfl rfl ?_
  refine g_iload_n hC dX9_change_1 (j := 1) rfl rfl ?_
  refine g_callV_i hC hR ⟨Nat.zero_le _, Nat.zero_le _⟩ mwX9_isOne miX9_isOne (ci := 9) rfl h_b (Nat.le_of_ble_eq_true rfl) mlX9_120 (fun _ hq => kX9_isOne hG h_b hq) (Nat.le_of_ble_eq_true rfl) rfl (st := []) rfl (Nat.le_of_ble_eq_true rfl) dX9_change_2 (fun q1 => ?_)
  refine g_bind (J := fun j2 => Go C 39 [(0, .ref b), (1, .int a1), (2, .int a2), (3, .int a3)] [.int j2] V R G 0 0) (fun j2 hJ => ?_) (fun j2 => ?_)
  · refine g_if_eq hC dX9_change_5 ?_ ?_
    · refine g_iconst hC dX9_change_38 ic_0 ?_
      exact fun e => by cases e; exact hJ
    · refine g_iload_n hC dX9_change_8 (j := 2) rfl rfl ?_
      refine g_i2l hC dX9_change_9 ?_
      refine g_lconst hC dX9_change_10 lc_1 ?_
      refine g_ldc2 hC dX9_change_11 clX9_129 ?_
      refine g_callS_i hC hR ⟨Nat.zero_le _, Nat.zero_le _⟩ mwX9_isIn ms_X9_isIn mlX9_63 (fun _ hq => kX9_isIn  hq) (Nat.le_of_ble_eq_true rfl) rfl (st := []) rfl (Nat.le_of_ble_eq_true rfl) dX9_change_14 (fun q3 => ?_)
      refine g_if_eq hC dX9_change_17 ?_ ?_
      · refine g_iconst hC dX9_change_38 ic_0 ?_
        exact fun e => by cases e; exact hJ
      · refine g_iload_n hC dX9_change_20 (j := 3) rfl rfl ?_
        refine g_i2l hC dX9_change_21 ?_
        refine g_lconst hC dX9_change_22 lc_0 ?_
        refine g_iload_n hC dX9_change_23 (j := 2) rfl rfl ?_
        refine g_callS_i hC hR ⟨Nat.zero_le _, Nat.zero_le _⟩ mwX9_greatestOf ms_X9_greatestOf mlX9_131 (fun _ hq => kX9_greatestOf  hq) (Nat.le_of_ble_eq_true rfl) rfl (st := [.long 0, .long a3.toInt64]) rfl (Nat.le_of_ble_eq_true rfl) dX9_change_24 (fun q4 => ?_)
        refine g_i2l hC dX9_change_27 ?_
        refine g_callS_i hC hR ⟨Nat.zero_le _, Nat.zero_le _⟩ mwX9_isIn ms_X9_isIn mlX9_63 (fun _ hq => kX9_isIn  hq) (Nat.le_of_ble_eq_true rfl) rfl (st := []) rfl (Nat.le_of_ble_eq_true rfl) dX9_change_28 (fun q5 => ?_)
        refine g_if_eq hC dX9_change_31 ?_ ?_
        · refine g_iconst hC dX9_change_38 ic_0 ?_
          exact fun e => by cases e; exact hJ
        · refine g_iconst hC dX9_change_34 ic_1 ?_
          refine g_goto hC dX9_change_35 ?_
          exact fun e => by cases e; exact hJ
  · refine g_istore hC (n0 := 5) (lv' := [(4, .int j2), (0, .ref b), (1, .int a1), (2, .int a2), (3, .int a3)]) dX9_change_39 (Nat.le_of_ble_eq_true rfl) hL rfl ?_
    refine g_iload hC dX9_change_41 (j := 0) rfl ?_
    refine g_if_eq hC dX9_change_43 ?_ ?_
    · refine g_iconst hC dX9_change_62 ic_m1 ?_
      exact g_iret_iV hC hT dX9_change_63
    · refine g_aload_n hC dX9_change_46 (j := 1) rfl rfl ?_
      refine g_bipush hC dX9_change_47 bc_8 ?_
      refine g_iconst hC dX9_change_49 ic_5 ?_
      refine g_iload_n hC dX9_change_50 (j := 2) rfl rfl ?_
      refine g_imul hC dX9_change_51 ?_
      refine g_iadd hC dX9_change_52 ?_
      refine g_iload_n hC dX9_change_53 (j := 3) rfl rfl ?_
      refine g_iadd hC dX9_change_54 ?_
      refine g_iload_n hC dX9_change_55 (j := 4) rfl rfl ?_
      refine g_callV_iV hC hR ⟨Nat.zero_le _, Nat.zero_le _⟩ mwX9_becomes miX9_becomes (ci := 9) rfl h_b (Nat.le_of_ble_eq_true rfl) mlX9_134 (fun _ hq => kX9_becomes hG h_b hq) (Nat.le_of_ble_eq_true rfl) rfl (st := []) rfl (Nat.le_of_ble_eq_true rfl) dX9_change_56 (fun q6 => ?_)
      refine g_goto hC dX9_change_59 ?_
      exact g_iret_iV hC hT dX9_change_63
def pX9_remake (V : V2) (b : Nat) (a1 : Int32) (a2 : Int32) : Option (Int32 × V2) :=
  (pX9_isOne V b a1).bind fun q1 =>
  if q1 = 0 then (some ((-1), V))
  else ((pX9_isIn a2.toInt64 1 5).bind fun q2 =>
  if q2 = 0 then (some ((-1), V))
  else ((pX9_becomes V b (8 + (5 * a1)) a2).bind fun q3 =>
  some (q3.1, q3.2)))
set_option maxHeartbeats 4000000 in
set_option maxRecDepth 100000 in
theorem kX9_remake {l : Launch} {D : Dx} {G : G2} {V : V2} {R : R2} {b : Nat} {a1 : Int32} {a2 : Int32} (hG : GX G) (h_b : own G b 19) {o : Int32 × V2} (hf : pX9_remake V b a1 a2 = some o) : Con l yX9_remake cX9_remake 3 (some .int) (rmN 1 0 0) D G V R [.ref b, .int a1, .int a2] (some (.int o.1), o.2, R, G, 0, 0) := by
  refine Con.mk RX9 (by decide) rfl (Nat.le_of_ble_eq_true rfl) (fun C _ hR hT _ _ hL hC hnm => ?_)
  revert hf
  unfold pX9_remake
  refine g_aload_n hC dX9_remake_0 (j := 0) rfl rfl ?_
  refine g_iload_n hC dX9_remake_1 (j := 1) rfl rfl ?_
  refine g_callV_i hC hR ⟨Nat.zero_le _, Nat.zero_le _⟩ mwX9_isOne miX9_isOne (ci := 9) rfl h_b (Nat.le_of_ble_eq_true rfl) mlX9_120 (fun _ hq => kX9_isOne hG h_b hq) (Nat.le_of_ble_eq_true rfl) rfl (st := []) rfl (Nat.le_of_ble_eq_true rfl) dX9_remake_2 (fun q1 => ?_)
  refine g_if_eq hC dX9_remake_5 ?_ ?_
  · refine g_iconst hC dX9_remake_34 ic_m1 ?_
    exact g_iret_iV hC hT dX9_remake_35
  · refine g_iload_n hC dX9_remake_8 (j := 2) rfl rfl ?_
    refine g_i2l hC dX9_remake_9 ?_
    refine g_lconst hC dX9_remake_10 lc_1 ?_
    refine g_ldc2 hC dX9_remake_11 clX9_61 ?_
    refine g_callS_i hC hR ⟨Nat.zero_le _, Nat.zero_le _⟩ mwX9_isIn ms_X9_isIn mlX9_63 (fun _ hq => kX9_isIn  hq) (Nat.le_of_ble_eq_true rfl) rfl (st := []) rfl (Nat.le_of_ble_eq_true rfl) dX9_remake_14 (fun q2 => ?_)
    refine g_if_eq hC dX9_remake_17 ?_ ?_
    · refine g_iconst hC dX9_remake_34 ic_m1 ?_
      exact g_iret_iV hC hT dX9_remake_35
    · refine g_aload_n hC dX9_remake_20 (j := 0) rfl rfl ?_
      refine g_bipush hC dX9_remake_21 bc_8 ?_
      refine g_iconst hC dX9_remake_23 ic_5 ?_
      refine g_iload_n hC dX9_remake_24 (j := 1) rfl rfl ?_
      refine g_imul hC dX9_remake_25 ?_
      refine g_iadd hC dX9_remake_26 ?_
      refine g_iload_n hC dX9_remake_27 (j := 2) rfl rfl ?_
      refine g_callV_iV hC hR ⟨Nat.zero_le _, Nat.zero_le _⟩ mwX9_becomes miX9_becomes (ci := 9) rfl h_b (Nat.le_of_ble_eq_true rfl) mlX9_134 (fun _ hq => kX9_becomes hG h_b hq) (Nat.le_of_ble_eq_true rfl) rfl (st := []) rfl (Nat.le_of_ble_eq_true rfl) dX9_remake_28 (fun q3 => ?_)
      refine g_goto hC dX9_remake_31 ?_
      exact g_iret_iV hC hT dX9_remake_35
def pX9_iron (V : V2) (b : Nat) (a1 : Int32) (a2 : Int32) : Option (Int32 × V2) :=
  (pX9_isIn a1.toInt64 0 15).bind fun q1 =>
  if q1 = 0 then (some ((-1), V))
  else ((pX9_isIn a2.toInt64 0 15).bind fun q2 =>
  if q2 = 0 then (some ((-1), V))
  else ((pX9_becomes V b (50 + a1) a2).bind fun q3 =>
  some (q3.1, q3.2)))
set_option maxHeartbeats 4000000 in
set_option maxRecDepth 100000 in
theorem kX9_iron {l : Launch} {D : Dx} {G : G2} {V : V2} {R : R2} {b : Nat} {a1 : Int32} {a2 : Int32} (hG : GX G) (h_b : own G b 19) {o : Int32 × V2} (hf : pX9_iron V b a1 a2 = some o) : Con l yX9_iron cX9_iron 3 (some .int) (rmN 1 0 0) D G V R [.ref b, .int a1, .int a2] (some (.int o.1), o.2, R, G, 0, 0) := by
  refine Con.mk RX9 (by decide) rfl (Nat.le_of_ble_eq_true rfl) (fun C _ hR hT _ _ hL hC hnm => ?_)
  revert hf
  unfold pX9_iron
  refine g_iload_n hC dX9_iron_0 (j := 1) rfl rfl ?_
  refine g_i2l hC dX9_iron_1 ?_
  refine g_lconst hC dX9_iron_2 lc_0 ?_
  refine g_ldc2 hC dX9_iron_3 clX9_137 ?_
  refine g_callS_i hC hR ⟨Nat.zero_le _, Nat.zero_le _⟩ mwX9_isIn ms_X9_isIn mlX9_63 (fun _ hq => kX9_isIn  hq) (Nat.le_of_ble_eq_true rfl) rfl (st := []) rfl (Nat.le_of_ble_eq_true rfl) dX9_iron_6 (fun q1 => ?_)
  refine g_if_eq hC dX9_iron_9 ?_ ?_
  · refine g_iconst hC dX9_iron_36 ic_m1 ?_
    exact g_iret_iV hC hT dX9_iron_37
  · refine g_iload_n hC dX9_iron_12 (j := 2) rfl rfl ?_
    refine g_i2l hC dX9_iron_13 ?_
    refine g_lconst hC dX9_iron_14 lc_0 ?_
    refine g_ldc2 hC dX9_iron_15 clX9_137 ?_
    refine g_callS_i hC hR ⟨Nat.zero_le _, Nat.zero_le _⟩ mwX9_isIn ms_X9_isIn mlX9_63 (fun _ hq => kX9_isIn  hq) (Nat.le_of_ble_eq_true rfl) rfl (st := []) rfl (Nat.le_of_ble_eq_true rfl) dX9_iron_18 (fun q2 => ?_)
    refine g_if_eq hC dX9_iron_21 ?_ ?_
    · refine g_iconst hC dX9_iron_36 ic_m1 ?_
      exact g_iret_iV hC hT dX9_iron_37
    · refine g_aload_n hC dX9_iron_24 (j := 0) rfl rfl ?_
      refine g_bipush hC dX9_iron_25 bc_50 ?_
      refine g_iload_n hC dX9_iron_27 (j := 1) rfl rfl ?_
      refine g_iadd hC dX9_iron_28 ?_
      refine g_iload_n hC dX9_iron_29 (j := 2) rfl rfl ?_
      refine g_callV_iV hC hR ⟨Nat.zero_le _, Nat.zero_le _⟩ mwX9_becomes miX9_becomes (ci := 9) rfl h_b (Nat.le_of_ble_eq_true rfl) mlX9_134 (fun _ hq => kX9_becomes hG h_b hq) (Nat.le_of_ble_eq_true rfl) rfl (st := []) rfl (Nat.le_of_ble_eq_true rfl) dX9_iron_30 (fun q3 => ?_)
      refine g_goto hC dX9_iron_33 ?_
      exact g_iret_iV hC hT dX9_iron_37
def pX9_board (V : V2) (b : Nat) (a1 : Int32) (a2 : Int32) (a3 : Int32) : Option (Int32 × V2) :=
  (pX9_isBoard a1).bind fun q1 =>
  if q1 = 0 then (some ((-1), V))
  else ((pX9_isIn a2.toInt64 0 1).bind fun q2 =>
  if q2 = 0 then (some ((-1), V))
  else ((pX9_isIn a3.toInt64 0 9).bind fun q3 =>
  if q3 = 0 then (some ((-1), V))
  else (letv ((if a2 = 0 then (38)
  else (44) : Int32)) fun j4 =>
  (pX9_becomes V b (j4 + a1) a3).bind fun q5 =>
  some (q5.1, q5.2))))
set_option maxHeartbeats 4000000 in
set_option maxRecDepth 100000 in
theorem kX9_board {l : Launch} {D : Dx} {G : G2} {V : V2} {R : R2} {b : Nat} {a1 : Int32} {a2 : Int32} {a3 : Int32} (hG : GX G) (h_b : own G b 19) {o : Int32 × V2} (hf : pX9_board V b a1 a2 a3 = some o) : Con l yX9_board cX9_board 4 (some .int) (rmN 1 0 0) D G V R [.ref b, .int a1, .int a2, .int a3] (some (.int o.1), o.2, R, G, 0, 0) := by
  refine Con.mk RX9 (by decide) rfl (Nat.le_of_ble_eq_true rfl) (fun C _ hR hT _ _ hL hC hnm => ?_)
  revert hf
  unfold pX9_board
  refine g_iload_n hC dX9_board_0 (j := 1) rfl rfl ?_
  refine g_callS_i hC hR ⟨Nat.zero_le _, Nat.zero_le _⟩ mwX9_isBoard ms_X9_isBoard mlX9_71 (fun _ hq => kX9_isBoard  hq) (Nat.le_of_ble_eq_true rfl) rfl (st := []) rfl (Nat.le_of_ble_eq_true rfl) dX9_board_1 (fun q1 => ?_)
  refine g_if_eq hC dX9_board_4 ?_ ?_
  · refine g_iconst hC dX9_board_29 ic_m1 ?_
    exact g_iret_iV hC hT dX9_board_30
  · refine g_iload_n hC dX9_board_7 (j := 2) rfl rfl ?_
    refine g_i2l hC dX9_board_8 ?_
    refine g_lconst hC dX9_board_9 lc_0 ?_
    refine g_lconst hC dX9_board_10 lc_1 ?_
    refine g_callS_i hC hR ⟨Nat.zero_le _, Nat.zero_le _⟩ mwX9_isIn ms_X9_isIn mlX9_63 (fun _ hq => kX9_isIn  hq) (Nat.le_of_ble_eq_true rfl) rfl (st := []) rfl (Nat.le_of_ble_eq_true rfl) dX9_board_11 (fun q2 => ?_)
    refine g_if_eq hC dX9_board_14 ?_ ?_
    · refine g_iconst hC dX9_board_29 ic_m1 ?_
      exact g_iret_iV hC hT dX9_board_30
    · refine g_iload_n hC dX9_board_17 (j := 3) rfl rfl ?_
      refine g_i2l hC dX9_board_18 ?_
      refine g_lconst hC dX9_board_19 lc_0 ?_
      refine g_ldc2 hC dX9_board_20 clX9_69 ?_
      refine g_callS_i hC hR ⟨Nat.zero_le _, Nat.zero_le _⟩ mwX9_isIn ms_X9_isIn mlX9_63 (fun _ hq => kX9_isIn  hq) (Nat.le_of_ble_eq_true rfl) rfl (st := []) rfl (Nat.le_of_ble_eq_true rfl) dX9_board_23 (fun q3 => ?_)
      refine g_if_ne hC dX9_board_26 ?_ ?_
      · refine g_iconst hC dX9_board_29 ic_m1 ?_
        exact g_iret_iV hC hT dX9_board_30
      · refine g_aload_n hC dX9_board_31 (j := 0) rfl rfl ?_
        refine g_iload_n hC dX9_board_32 (j := 2) rfl rfl ?_
        refine g_letJ (J := fun j4 => Go C 43 [(1, .int a1), (3, .int a3)] [.int j4, .ref b] V R G 0 0) (fun j4 hJ => ?_) (fun j4 => ?_)
        · refine g_if_ne hC dX9_board_33 ?_ ?_
          · refine g_bipush hC dX9_board_36 bc_38 ?_
            refine g_goto hC dX9_board_38 ?_
            refine g_sub [1, 3] rfl ?_
            exact fun e => by cases e; exact hJ
          · refine g_bipush hC dX9_board_41 bc_44 ?_
            refine g_sub [1, 3] rfl ?_
            exact fun e => by cases e; exact hJ
        · refine g_iload_n hC dX9_board_43 (j := 0) rfl rfl ?_
          refine g_iadd hC dX9_board_44 ?_
          refine g_iload_n hC dX9_board_45 (j := 1) rfl rfl ?_
          refine g_callV_iV hC hR ⟨Nat.zero_le _, Nat.zero_le _⟩ mwX9_becomes miX9_becomes (ci := 9) rfl h_b (Nat.le_of_ble_eq_true rfl) mlX9_134 (fun _ hq => kX9_becomes hG h_b hq) (Nat.le_of_ble_eq_true rfl) rfl (st := []) rfl (Nat.le_of_ble_eq_true rfl) dX9_board_46 (fun q5 => ?_)
          exact g_iret_iV hC hT dX9_board_49
