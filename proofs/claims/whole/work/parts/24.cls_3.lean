def pX8_isSetOfThings (V : V2) (b : Nat) (a1 : Int32) : Option (Int32) :=
  (pX8_within a1 0 ((1 <<< ((V (b + 2) 1) &&& 31)) - 1)).bind fun q1 =>
  if isb q1 then some q1 else none
set_option maxHeartbeats 4000000 in
set_option maxRecDepth 100000 in
theorem kX8_isSetOfThings {l : Launch} {D : Dx} {G : G2} {V : V2} {R : R2} {b : Nat} {a1 : Int32} (hG : GX G) (h_b : own G b 18) {o : Int32} (hf : pX8_isSetOfThings V b a1 = some o) : Con l yX8_isSetOfThings cX8_isSetOfThings 2 (some .boolean) (rmN 1 0 0) D G V R [.ref b, .int a1] (some (.int o), V, R, G, 0, 0) := by
  refine Con.mk RX8 (by decide) rfl (Nat.le_of_ble_eq_true rfl) (fun C _ hR hT _ _ hL hC hnm => ?_)
  revert hf
  unfold pX8_isSetOfThings
  refine g_iload_n hC dX8_isSetOfThings_0 (j := 1) rfl rfl ?_
  refine g_iconst hC dX8_isSetOfThings_1 ic_0 ?_
  refine g_iconst hC dX8_isSetOfThings_2 ic_1 ?_
  refine g_aload_n hC dX8_isSetOfThings_3 (j := 0) rfl rfl ?_
  refine g_getR hC fr_8_0 h_b (b := b + 1) rfl dX8_isSetOfThings_4 flX8_10 ?_
  refine g_getR hC fr_1_0 (gx_8_0 hG h_b) (b := b + 2) rfl dX8_isSetOfThings_7 flX8_81 ?_
  refine g_getI hC fi_2_1 (gx_1_0 hG (gx_8_0 hG h_b)) dX8_isSetOfThings_10 flX8_84 ?_
  refine g_ishl hC dX8_isSetOfThings_13 ?_
  refine g_iconst hC dX8_isSetOfThings_14 ic_1 ?_
  refine g_isub hC dX8_isSetOfThings_15 ?_
  refine g_callS_i hC hR ⟨Nat.zero_le _, Nat.zero_le _⟩ mwX8_within ms_X8_within mlX8_77 (fun _ hq => kX8_within  hq) (Nat.le_of_ble_eq_true rfl) rfl (st := []) rfl (Nat.le_of_ble_eq_true rfl) dX8_isSetOfThings_16 (fun q1 => ?_)
  refine g_guardb (fun hz2 => ?_)
  exact g_zret_i hC hz2 hT dX8_isSetOfThings_19
def pX8_note (n : Nat) (G : G2) (V : V2) (R : R2) (b : Nat) (a1 : Int32) (a2 : Int32) : Option (Int32 × V2) :=
  (pX8_within a1 0 4).bind fun q1 =>
  if q1 = 0 then (some ((-1), V))
  else ((pX8_isSetOfThings V b a2).bind fun q2 =>
  if q2 = 0 then (some ((-1), V))
  else ((pX6_tryAll n G V R (b + 36) (b + 1) a1 a2).bind fun q3 =>
  some (q3 (b + 36) 7, q3)))
set_option maxHeartbeats 4000000 in
set_option maxRecDepth 100000 in
theorem kX8_note {l : Launch} {D : Dx} {G : G2} {V : V2} {R : R2} {n : Nat} {b : Nat} {a1 : Int32} {a2 : Int32} (hG : GX G) (h_b : own G b 18) {o : Int32 × V2} (hf : pX8_note n G V R b a1 a2 = some o) : Con l yX8_note cX8_note 3 (some .int) (rmN 13 0 0) D G V R [.ref b, .int a1, .int a2] (some (.int o.1), o.2, R, G, 0, 0) := by
  refine Con.mk RX8 (by decide) rfl (Nat.le_of_ble_eq_true rfl) (fun C _ hR hT _ _ hL hC hnm => ?_)
  revert hf
  unfold pX8_note
  refine g_iload_n hC dX8_note_0 (j := 1) rfl rfl ?_
  refine g_iconst hC dX8_note_1 ic_0 ?_
  refine g_iconst hC dX8_note_2 ic_4 ?_
  refine g_callS_i hC hR ⟨Nat.zero_le _, Nat.zero_le _⟩ mwX8_within ms_X8_within mlX8_77 (fun _ hq => kX8_within  hq) (Nat.le_of_ble_eq_true rfl) rfl (st := []) rfl (Nat.le_of_ble_eq_true rfl) dX8_note_3 (fun q1 => ?_)
  refine g_if_eq hC dX8_note_6 ?_ ?_
  · refine g_iconst hC dX8_note_17 ic_m1 ?_
    exact g_iret_iV hC hT dX8_note_18
  · refine g_aload_n hC dX8_note_9 (j := 0) rfl rfl ?_
    refine g_iload_n hC dX8_note_10 (j := 2) rfl rfl ?_
    refine g_callV_i hC hR ⟨Nat.zero_le _, Nat.zero_le _⟩ mwX8_isSetOfThings miX8_isSetOfThings (ci := 8) rfl h_b (Nat.le_of_ble_eq_true rfl) mlX8_240 (fun _ hq => kX8_isSetOfThings hG h_b hq) (Nat.le_of_ble_eq_true rfl) rfl (st := []) rfl (Nat.le_of_ble_eq_true rfl) dX8_note_11 (fun q2 => ?_)
    refine g_if_ne hC dX8_note_14 ?_ ?_
    · refine g_iconst hC dX8_note_17 ic_m1 ?_
      exact g_iret_iV hC hT dX8_note_18
    · refine g_aload_n hC dX8_note_19 (j := 0) rfl rfl ?_
      refine g_getR hC fr_8_4 h_b (b := b + 36) rfl dX8_note_20 flX8_33 ?_
      refine g_aload_n hC dX8_note_23 (j := 0) rfl rfl ?_
      refine g_getR hC fr_8_0 h_b (b := b + 1) rfl dX8_note_24 flX8_10 ?_
      refine g_iload_n hC dX8_note_27 (j := 1) rfl rfl ?_
      refine g_iload_n hC dX8_note_28 (j := 2) rfl rfl ?_
      refine g_callV_vV hC hR ⟨Nat.zero_le _, Nat.zero_le _⟩ mwX6_tryAll miX6_tryAll (ci := 6) rfl (gx_8_4 hG h_b) (Nat.le_of_ble_eq_true rfl) mlX8_224 (fun _ hq => kX6_tryAll hG (gx_8_4 hG h_b) (gx_8_0 hG h_b) hq) (Nat.le_of_ble_eq_true rfl) rfl (st := []) rfl (Nat.le_of_ble_eq_true rfl) dX8_note_29 (fun q3 => ?_)
      refine g_aload_n hC dX8_note_32 (j := 0) rfl rfl ?_
      refine g_getR hC fr_8_4 h_b (b := b + 36) rfl dX8_note_33 flX8_33 ?_
      refine g_getI hC fi_6_7 (gx_8_4 hG h_b) dX8_note_36 flX8_243 ?_
      exact g_iret_iV hC hT dX8_note_39
def pX8_bars (n : Nat) (G : G2) (V : V2) (R : R2) (b : Nat) (a1 : Int32) (a2 : Int32) : Option (Int32 × V2) :=
  (pX8_within a1 0 4).bind fun q1 =>
  if q1 = 0 then (some ((-1), V))
  else ((pX8_isSetOfThings V b a2).bind fun q2 =>
  if q2 = 0 then (some ((-1), V))
  else ((pX6_tryAll n G V R (b + 36) (b + 1) a1 a2).bind fun q3 =>
  letv (a2 &&& ((q3 (b + 36) 8) ^^^ (-1))) fun x4 =>
  if x4 = 0 then (some ((-3), q3))
  else ((pJ6_numberOfTrailingZeros_0f7a4 x4).bind fun q5 =>
  some (q5, q3))))
set_option maxHeartbeats 4000000 in
set_option maxRecDepth 100000 in
theorem kX8_bars {l : Launch} {D : Dx} {G : G2} {V : V2} {R : R2} {n : Nat} {b : Nat} {a1 : Int32} {a2 : Int32} (hG : GX G) (h_b : own G b 18) {o : Int32 × V2} (hf : pX8_bars n G V R b a1 a2 = some o) : Con l yX8_bars cX8_bars 4 (some .int) (rmN 13 0 0) D G V R [.ref b, .int a1, .int a2] (some (.int o.1), o.2, R, G, 0, 0) := by
  refine Con.mk RX8 (by decide) rfl (Nat.le_of_ble_eq_true rfl) (fun C _ hR hT _ _ hL hC hnm => ?_)
  revert hf
  unfold pX8_bars
  refine g_iload_n hC dX8_bars_0 (j := 1) rfl rfl ?_
  refine g_iconst hC dX8_bars_1 ic_0 ?_
  refine g_iconst hC dX8_bars_2 ic_4 ?_
  refine g_callS_i hC hR ⟨Nat.zero_le _, Nat.zero_le _⟩ mwX8_within ms_X8_within mlX8_77 (fun _ hq => kX8_within  hq) (Nat.le_of_ble_eq_true rfl) rfl (st := []) rfl (Nat.le_of_ble_eq_true rfl) dX8_bars_3 (fun q1 => ?_)
  refine g_if_eq hC dX8_bars_6 ?_ ?_
  · refine g_iconst hC dX8_bars_17 ic_m1 ?_
    exact g_iret_iV hC hT dX8_bars_18
  · refine g_aload_n hC dX8_bars_9 (j := 0) rfl rfl ?_
    refine g_iload_n hC dX8_bars_10 (j := 2) rfl rfl ?_
    refine g_callV_i hC hR ⟨Nat.zero_le _, Nat.zero_le _⟩ mwX8_isSetOfThings miX8_isSetOfThings (ci := 8) rfl h_b (Nat.le_of_ble_eq_true rfl) mlX8_240 (fun _ hq => kX8_isSetOfThings hG h_b hq) (Nat.le_of_ble_eq_true rfl) rfl (st := []) rfl (Nat.le_of_ble_eq_true rfl) dX8_bars_11 (fun q2 => ?_)
    refine g_if_ne hC dX8_bars_14 ?_ ?_
    · refine g_iconst hC dX8_bars_17 ic_m1 ?_
      exact g_iret_iV hC hT dX8_bars_18
    · refine g_aload_n hC dX8_bars_19 (j := 0) rfl rfl ?_
      refine g_getR hC fr_8_4 h_b (b := b + 36) rfl dX8_bars_20 flX8_33 ?_
      refine g_aload_n hC dX8_bars_23 (j := 0) rfl rfl ?_
      refine g_getR hC fr_8_0 h_b (b := b + 1) rfl dX8_bars_24 flX8_10 ?_
      refine g_iload_n hC dX8_bars_27 (j := 1) rfl rfl ?_
      refine g_iload_n hC dX8_bars_28 (j := 2) rfl rfl ?_
      refine g_callV_vV hC hR ⟨Nat.zero_le _, Nat.zero_le _⟩ mwX6_tryAll miX6_tryAll (ci := 6) rfl (gx_8_4 hG h_b) (Nat.le_of_ble_eq_true rfl) mlX8_224 (fun _ hq => kX6_tryAll hG (gx_8_4 hG h_b) (gx_8_0 hG h_b) hq) (Nat.le_of_ble_eq_true rfl) rfl (st := []) rfl (Nat.le_of_ble_eq_true rfl) dX8_bars_29 (fun q3 => ?_)
      refine g_iload_n hC dX8_bars_32 (j := 2) rfl rfl ?_
      refine g_aload_n hC dX8_bars_33 (j := 0) rfl rfl ?_
      refine g_getR hC fr_8_4 h_b (b := b + 36) rfl dX8_bars_34 flX8_33 ?_
      refine g_getI hC fi_6_8 (gx_8_4 hG h_b) dX8_bars_37 flX8_246 ?_
      refine g_iconst hC dX8_bars_40 ic_m1 ?_
      refine g_ixor hC dX8_bars_41 ?_
      refine g_iand hC dX8_bars_42 ?_
      refine g_istore_nL hC (n0 := 4) (lv' := fun x4 => [(3, .int x4), (0, .ref b), (1, .int a1), (2, .int a2)]) dX8_bars_43 rfl (Nat.le_of_ble_eq_true rfl) hL (fun _ => rfl) (fun x4 => ?_)
      refine g_iload_n hC dX8_bars_44 (j := 0) rfl rfl ?_
      refine g_if_ne hC dX8_bars_45 ?_ ?_
      · refine g_bipush hC dX8_bars_48 bc_m3 ?_
        refine g_goto hC dX8_bars_50 ?_
        exact g_iret_iV hC hT dX8_bars_57
      · refine g_iload_n hC dX8_bars_53 (j := 0) rfl rfl ?_
        refine g_callS_i hC hR ⟨Nat.zero_le _, Nat.zero_le _⟩ mwJ6_numberOfTrailingZeros_0f7a4 ms_J6_numberOfTrailingZeros_0f7a4 mlX8_249 (fun _ hq => kJ6_numberOfTrailingZeros_0f7a4  hq) (Nat.le_of_ble_eq_true rfl) rfl (st := []) rfl (Nat.le_of_ble_eq_true rfl) dX8_bars_54 (fun q5 => ?_)
        exact g_iret_iV hC hT dX8_bars_57
def lX6_valueFrom_46 (rec : Nat → G2 → V2 → R2 → Nat → Nat → Int32 → Option (Int32 × V2)) (n : Nat) (G : G2) (R : R2) (b : Nat) (a1 : Nat) (a2 : Int32) (y2 : Nat) (y5 : Nat) (j7 : Int32) : Nat → V2 → Int32 → Int32 → Option (V2 × Int32)
  | 0, _, _, _ => none
  | f8 + 1, U9, x10, x11 =>
    if (U9 y2 1) < x11 then (some (U9, x10))
    else ((pX2_copy U9 y5 y2).bind fun q12 =>
    (pX1_goBy n G q12 R a1 y5 x11).bind fun q13 =>
    (rec n G q13.2 R b a1 (a2 + 1)).bind fun q14 =>
    letv (q13.1 + q14.1) fun x15 =>
    letv (fun (u17 : Unit) => (if a2 = 0 then (letv (up2 q14.2 b 9 x11) fun U18 =>
    letv (x11 + 1) fun x19 =>
    lX6_valueFrom_46 rec n G R b a1 a2 y2 y5 j7 f8 U18 x15 x19)
    else (letv (x11 + 1) fun x20 =>
    lX6_valueFrom_46 rec n G R b a1 a2 y2 y5 j7 f8 q14.2 x15 x20))) fun j16 =>
    if x11 = 0 then (j16 ())
    else (if j7 = 0 then (if x10 ≤ x15 then (letv (x11 + 1) fun x21 =>
    lX6_valueFrom_46 rec n G R b a1 a2 y2 y5 j7 f8 q14.2 x10 x21)
    else (j16 ()))
    else (if x15 ≤ x10 then (letv (x11 + 1) fun x22 =>
    lX6_valueFrom_46 rec n G R b a1 a2 y2 y5 j7 f8 q14.2 x10 x22)
    else (j16 ()))))
def fX6_valueFrom (rec : Nat → G2 → V2 → R2 → Nat → Nat → Int32 → Option (Int32 × V2)) (n : Nat) (G : G2) (V : V2) (R : R2) (b : Nat) (a1 : Nat) (a2 : Int32) : Option (Int32 × V2) :=
  if a2 < (V b 4) then ((ldR 5 (R (b + 1)) a2).bind fun q1 =>
  ocase q1 none fun y2 => if ownB G y2 12 then ((ldR 5 (R (b + 1)) (a2 + 1)).bind fun q4 =>
  ocase q4 none fun y5 => if ownB G y5 12 then (letv ((if (jrem a2 2) = 0 then (1)
  else (0) : Int32)) fun j7 =>
  (lX6_valueFrom_46 rec n G R b a1 a2 y2 y5 j7 n V 0 0).bind fun w23 =>
  some (w23.2, w23.1)) else none) else none)
  else (some (0, V))
set_option maxHeartbeats 4000000 in
set_option maxRecDepth 100000 in
theorem wX6_valueFrom_46 {C : Cx} (hC : CxOK C cX6_valueFrom RX6 (some .int)) (hL : C.2.2.2.2 = 9) {rec : Nat → G2 → V2 → R2 → Nat → Nat → Int32 → Option (Int32 × V2)} {N : Nat} {n : Nat} {G : G2} {R : R2} {b : Nat} {a1 : Nat} {a2 : Int32} {y2 : Nat} {y5 : Nat} {j7 : Int32} (hrec : ∀ {l : Launch} {D : Dx} {G : G2} {V : V2} {R : R2} {n : Nat} {b : Nat} {a1 : Nat} {a2 : Int32} (hG : GX G) (h_b : own G b 16) (h_a1 : own G a1 11) {o : Int32 × V2}, rec n G V R b a1 a2 = some o → Con l yX6_valueFrom cX6_valueFrom 9 (some .int) (rmN N 0 0) D G V R [.ref b, .ref a1, .int a2] (some (.int o.1), o.2, R, G, 0, 0)) (hN : 5 ≤ N) (hG : GX G) (h_b : own G b 16) (h_a1 : own G a1 11) (hR : C.1.2.2.2.1 = rmN (N + 1) 0 0) (hy3 : own G y2 12) (hy6 : own G y5 12) {o : V2 × Int32} (hX : Go C 131 [(6, .int o.2)] [] o.1 R G 0 0) : ∀ (f : Nat) (U9 : V2) (x10 : Int32) (x11 : Int32), lX6_valueFrom_46 rec n G R b a1 a2 y2 y5 j7 f U9 x10 x11 = some o → Go C 46 [(0, .ref b), (1, .ref a1), (2, .int a2), (3, .ref y2), (4, .ref y5), (5, .int j7), (6, .int x10), (7, .int x11)] [] U9 R G 0 0 := by
  intro f
  induction f with
  | zero => intro _ _ _ hf; exact absurd hf (by unfold lX6_valueFrom_46; exact fun z => nomatch z)
  | succ f8 ih =>
    intro U9 x10 x11
    unfold lX6_valueFrom_46
    refine g_iload hC dX6_valueFrom_46 (j := 7) rfl ?_
    refine g_aload_n hC dX6_valueFrom_48 (j := 3) rfl rfl ?_
    refine g_getI hC fi_2_1 hy3 dX6_valueFrom_49 flX6_84 ?_
    refine g_icmp_gt hC dX6_valueFrom_52 ?_ ?_
    · refine g_sub [6] rfl ?_
      exact fun e => by cases e; exact hX
    · refine g_aload hC dX6_valueFrom_55 (j := 4) rfl ?_
      refine g_aload_n hC dX6_valueFrom_57 (j := 3) rfl rfl ?_
      refine g_callV_vV hC hR ⟨Nat.zero_le _, Nat.zero_le _⟩ mwX2_copy miX2_copy (ci := 2) rfl hy6 (Nat.le_of_ble_eq_true rfl) mlX6_53 (fun _ hq => kX2_copy hG hy6 hy3 hq) (by have := hN; omega) rfl (st := []) rfl (Nat.le_of_ble_eq_true rfl) dX6_valueFrom_58 (fun q12 => ?_)
      refine g_aload_n hC dX6_valueFrom_61 (j := 1) rfl rfl ?_
      refine g_aload hC dX6_valueFrom_62 (j := 4) rfl ?_
      refine g_iload hC dX6_valueFrom_64 (j := 7) rfl ?_
      refine g_callV_iV hC hR ⟨Nat.zero_le _, Nat.zero_le _⟩ mwX1_goBy miX1_goBy (ci := 1) rfl h_a1 (Nat.le_of_ble_eq_true rfl) mlX6_87 (fun _ hq => kX1_goBy hG h_a1 hy6 hq) (by have := hN; omega) rfl (st := []) rfl (Nat.le_of_ble_eq_true rfl) dX6_valueFrom_66 (fun q13 => ?_)
      refine g_istore hC (n0 := 9) (lv' := [(8, .int q13.1), (0, .ref b), (1, .ref a1), (2, .int a2), (3, .ref y2), (4, .ref y5), (5, .int j7), (6, .int x10), (7, .int x11)]) dX6_valueFrom_69 (Nat.le_of_ble_eq_true rfl) hL rfl ?_
      refine g_iload hC dX6_valueFrom_71 (j := 0) rfl ?_
      refine g_aload_n hC dX6_valueFrom_73 (j := 1) rfl rfl ?_
      refine g_aload_n hC dX6_valueFrom_74 (j := 2) rfl rfl ?_
      refine g_iload_n hC dX6_valueFrom_75 (j := 3) rfl rfl ?_
      refine g_iconst hC dX6_valueFrom_76 ic_1 ?_
      refine g_iadd hC dX6_valueFrom_77 ?_
      refine g_callV_iV hC hR ⟨Nat.zero_le _, Nat.zero_le _⟩ mwX6_valueFrom miX6_valueFrom (ci := 6) rfl h_b (Nat.le_of_ble_eq_true rfl) mlX6_100 (fun _ hq => hrec hG h_b h_a1 hq) (by have := hN; omega) rfl (st := [.int q13.1]) rfl (Nat.le_of_ble_eq_true rfl) dX6_valueFrom_78 (fun q14 => ?_)
      refine g_iadd hC dX6_valueFrom_81 ?_
      refine g_istoreL hC (n0 := 9) (lv' := fun x15 => [(8, .int x15), (0, .ref b), (1, .ref a1), (2, .int a2), (3, .ref y2), (4, .ref y5), (5, .int j7), (6, .int x10), (7, .int x11)]) dX6_valueFrom_82 (Nat.le_of_ble_eq_true rfl) hL (fun _ => rfl) (fun x15 => ?_)
      refine g_iload hC dX6_valueFrom_84 (j := 8) rfl ?_
      refine g_jn (J := fun j16 => ∀ (u17 : Unit), j16 u17 = some o → Go C 111 [(0, .ref b), (1, .ref a1), (2, .int a2), (3, .ref y2), (4, .ref y5), (5, .int j7), (7, .int x11), (8, .int x15)] [] q14.2 R G 0 0) (fun u17 => ?_) (fun j16 hJ => ?_)
      · refine g_iload hC dX6_valueFrom_111 (j := 7) rfl ?_
        refine g_istore hC (n0 := 9) (lv' := [(6, .int x15), (0, .ref b), (1, .ref a1), (2, .int a2), (3, .ref y2), (4, .ref y5), (5, .int j7), (7, .int x11), (8, .int x15)]) dX6_valueFrom_113 (Nat.le_of_ble_eq_true rfl) hL rfl ?_
        refine g_iload_n hC dX6_valueFrom_115 (j := 3) rfl rfl ?_
        refine g_if_ne hC dX6_valueFrom_116 ?_ ?_
        · refine g_aload_n hC dX6_valueFrom_119 (j := 1) rfl rfl ?_
          refine g_iload hC dX6_valueFrom_120 (j := 7) rfl ?_
          refine g_putIL hC fp_6_9 h_b dX6_valueFrom_122 flX6_43 (fun U18 => ?_)
          refine g_iincL hC (n0 := 9) (j := 7) (lv' := fun x19 => [(7, .int x19), (6, .int x15), (0, .ref b), (1, .ref a1), (2, .int a2), (3, .ref y2), (4, .ref y5), (5, .int j7), (8, .int x15)]) dX6_valueFrom_125 rfl ic_1 (Nat.le_of_ble_eq_true rfl) hL (fun _ => rfl) (fun x19 => ?_)
          refine g_goto hC dX6_valueFrom_128 ?_
          refine g_sub [2, 3, 4, 5, 6, 7, 1, 0] rfl ?_
          exact ih U18 x15 x19
        · refine g_iincL hC (n0 := 9) (j := 7) (lv' := fun x20 => [(7, .int x20), (6, .int x15), (0, .ref b), (1, .ref a1), (2, .int a2), (3, .ref y2), (4, .ref y5), (5, .int j7), (8, .int x15)]) dX6_valueFrom_125 rfl ic_1 (Nat.le_of_ble_eq_true rfl) hL (fun _ => rfl) (fun x20 => ?_)
          refine g_goto hC dX6_valueFrom_128 ?_
          refine g_sub [2, 3, 4, 5, 6, 7, 1, 0] rfl ?_
          exact ih q14.2 x15 x20
      · refine g_if_eq hC dX6_valueFrom_86 ?_ ?_
        · refine g_sub [1, 2, 3, 4, 5, 6, 8, 0] rfl ?_
          exact hJ ()
        · refine g_iload hC dX6_valueFrom_89 (j := 6) rfl ?_
          refine g_if_eq hC dX6_valueFrom_91 ?_ ?_
          · refine g_iload hC dX6_valueFrom_104 (j := 0) rfl ?_
            refine g_iload hC dX6_valueFrom_106 (j := 7) rfl ?_
            refine g_icmp_ge hC dX6_valueFrom_108 ?_ ?_
            · refine g_iincL hC (n0 := 9) (j := 8) (lv' := fun x21 => [(7, .int x21), (8, .int x15), (0, .ref b), (1, .ref a1), (2, .int a2), (3, .ref y2), (4, .ref y5), (5, .int j7), (6, .int x10)]) dX6_valueFrom_125 rfl ic_1 (Nat.le_of_ble_eq_true rfl) hL (fun _ => rfl) (fun x21 => ?_)
              refine g_goto hC dX6_valueFrom_128 ?_
              refine g_sub [2, 3, 4, 5, 6, 7, 8, 0] rfl ?_
              exact ih q14.2 x10 x21
            · refine g_sub [1, 2, 3, 4, 5, 6, 8, 0] rfl ?_
              exact hJ ()
          · refine g_iload hC dX6_valueFrom_94 (j := 0) rfl ?_
            refine g_iload hC dX6_valueFrom_96 (j := 7) rfl ?_
            refine g_icmp_le hC dX6_valueFrom_98 ?_ ?_
            · refine g_iincL hC (n0 := 9) (j := 8) (lv' := fun x22 => [(7, .int x22), (8, .int x15), (0, .ref b), (1, .ref a1), (2, .int a2), (3, .ref y2), (4, .ref y5), (5, .int j7), (6, .int x10)]) dX6_valueFrom_125 rfl ic_1 (Nat.le_of_ble_eq_true rfl) hL (fun _ => rfl) (fun x22 => ?_)
              refine g_goto hC dX6_valueFrom_128 ?_
              refine g_sub [2, 3, 4, 5, 6, 7, 8, 0] rfl ?_
              exact ih q14.2 x10 x22
            · refine g_goto hC dX6_valueFrom_101 ?_
              refine g_sub [1, 2, 3, 4, 5, 6, 8, 0] rfl ?_
              exact hJ ()
set_option maxHeartbeats 4000000 in
set_option maxRecDepth 100000 in
theorem kfX6_valueFrom {l : Launch} {D : Dx} {G : G2} {V : V2} {R : R2} {rec : Nat → G2 → V2 → R2 → Nat → Nat → Int32 → Option (Int32 × V2)} {N : Nat} {n : Nat} {b : Nat} {a1 : Nat} {a2 : Int32} (hrec : ∀ {l : Launch} {D : Dx} {G : G2} {V : V2} {R : R2} {n : Nat} {b : Nat} {a1 : Nat} {a2 : Int32} (hG : GX G) (h_b : own G b 16) (h_a1 : own G a1 11) {o : Int32 × V2}, rec n G V R b a1 a2 = some o → Con l yX6_valueFrom cX6_valueFrom 9 (some .int) (rmN N 0 0) D G V R [.ref b, .ref a1, .int a2] (some (.int o.1), o.2, R, G, 0, 0)) (hN : 5 ≤ N) (hG : GX G) (h_b : own G b 16) (h_a1 : own G a1 11) {o : Int32 × V2} (hf : fX6_valueFrom rec n G V R b a1 a2 = some o) : Con l yX6_valueFrom cX6_valueFrom 9 (some .int) (rmN (N + 1) 0 0) D G V R [.ref b, .ref a1, .int a2] (some (.int o.1), o.2, R, G, 0, 0) := by
  refine Con.mk RX6 (by decide) rfl (Nat.le_of_ble_eq_true rfl) (fun C _ hR hT _ _ hL hC hnm => ?_)
  revert hf
  unfold fX6_valueFrom
  refine g_iload_n hC dX6_valueFrom_0 (j := 2) rfl rfl ?_
  refine g_aload_n hC dX6_valueFrom_1 (j := 0) rfl rfl ?_
  refine g_getI hC fi_6_4 h_b dX6_valueFrom_2 flX6_28 ?_
  refine g_icmp_lt hC dX6_valueFrom_5 ?_ ?_
  · refine g_aload_n hC dX6_valueFrom_10 (j := 0) rfl rfl ?_
    refine g_getR hC fr_6_0 h_b (b := b + 1) rfl dX6_valueFrom_11 flX6_11 ?_
    refine g_iload_n hC dX6_valueFrom_14 (j := 2) rfl rfl ?_
    refine g_aaldV hC (by decide) (gx_6_0 hG h_b) (gl_6_0 hG h_b) dX6_valueFrom_15 (fun q1 => ?_)
    cases q1 with
    | none => exact fun hf => nomatch hf
    | some y2 =>
      refine g_osome ?_
      refine g_guard (fun hy3 => ?_)
      refine g_astore_n hC (n0 := 9) (lv' := [(3, .ref y2), (0, .ref b), (1, .ref a1), (2, .int a2)]) dX6_valueFrom_16 rfl (Nat.le_of_ble_eq_true rfl) hL rfl ?_
      refine g_aload_n hC dX6_valueFrom_17 (j := 1) rfl rfl ?_
      refine g_getR hC fr_6_0 h_b (b := b + 1) rfl dX6_valueFrom_18 flX6_11 ?_
      refine g_iload_n hC dX6_valueFrom_21 (j := 3) rfl rfl ?_
      refine g_iconst hC dX6_valueFrom_22 ic_1 ?_
      refine g_iadd hC dX6_valueFrom_23 ?_
      refine g_aaldV hC (by decide) (gx_6_0 hG h_b) (gl_6_0 hG h_b) dX6_valueFrom_24 (fun q4 => ?_)
      cases q4 with
      | none => exact fun hf => nomatch hf
      | some y5 =>
        refine g_osome ?_
        refine g_guard (fun hy6 => ?_)
        refine g_astore hC (n0 := 9) (lv' := [(4, .ref y5), (3, .ref y2), (0, .ref b), (1, .ref a1), (2, .int a2)]) dX6_valueFrom_25 (Nat.le_of_ble_eq_true rfl) hL rfl ?_
        refine g_iload_n hC dX6_valueFrom_27 (j := 4) rfl rfl ?_
        refine g_iconst hC dX6_valueFrom_28 ic_2 ?_
        refine g_iremC hC dX6_valueFrom_29 nzi_2 ?_
        refine g_letJ (J := fun j7 => Go C 38 [(0, .ref b), (1, .ref a1), (2, .int a2), (3, .ref y2), (4, .ref y5)] [.int j7] V R G 0 0) (fun j7 hJ => ?_) (fun j7 => ?_)
        · refine g_if_ne hC dX6_valueFrom_30 ?_ ?_
          · refine g_iconst hC dX6_valueFrom_33 ic_1 ?_
            refine g_goto hC dX6_valueFrom_34 ?_
            refine g_sub [2, 3, 4, 1, 0] rfl ?_
            exact fun e => by cases e; exact hJ
          · refine g_iconst hC dX6_valueFrom_37 ic_0 ?_
            refine g_sub [2, 3, 4, 1, 0] rfl ?_
            exact fun e => by cases e; exact hJ
        · refine g_istore hC (n0 := 9) (lv' := [(5, .int j7), (0, .ref b), (1, .ref a1), (2, .int a2), (3, .ref y2), (4, .ref y5)]) dX6_valueFrom_38 (Nat.le_of_ble_eq_true rfl) hL rfl ?_
          refine g_iconst hC dX6_valueFrom_40 ic_0 ?_
          refine g_istore hC (n0 := 9) (lv' := [(6, .int 0), (5, .int j7), (0, .ref b), (1, .ref a1), (2, .int a2), (3, .ref y2), (4, .ref y5)]) dX6_valueFrom_41 (Nat.le_of_ble_eq_true rfl) hL rfl ?_
          refine g_iconst hC dX6_valueFrom_43 ic_0 ?_
          refine g_istore hC (n0 := 9) (lv' := [(7, .int 0), (6, .int 0), (5, .int j7), (0, .ref b), (1, .ref a1), (2, .int a2), (3, .ref y2), (4, .ref y5)]) dX6_valueFrom_44 (Nat.le_of_ble_eq_true rfl) hL rfl ?_
          refine g_sub [3, 4, 5, 6, 7, 2, 1, 0] rfl ?_
          refine g_bind (J := fun w23 => Go C 131 [(6, .int w23.2)] [] w23.1 R G 0 0) (fun w23 hJ => wX6_valueFrom_46 hC hL hrec hN hG h_b h_a1 hR hy3 hy6 hJ n V 0 0) (fun w23 => ?_)
          refine g_iload hC dX6_valueFrom_131 (j := 0) rfl ?_
          exact g_iret_iV hC hT dX6_valueFrom_133
  · refine g_iconst hC dX6_valueFrom_8 ic_0 ?_
    exact g_iret_iV hC hT dX6_valueFrom_9
def pX6_valueFrom : Nat → Nat → G2 → V2 → R2 → Nat → Nat → Int32 → Option (Int32 × V2)
  | 0 => fun _ _ _ _ _ _ _ => none
  | d + 1 => fX6_valueFrom (pX6_valueFrom d)
theorem kX6_valueFrom : ∀ (d : Nat) {l : Launch} {D : Dx} {G : G2} {V : V2} {R : R2} {n : Nat} {b : Nat} {a1 : Nat} {a2 : Int32} (hG : GX G) (h_b : own G b 16) (h_a1 : own G a1 11) {o : Int32 × V2}, pX6_valueFrom d n G V R b a1 a2 = some o → Con l yX6_valueFrom cX6_valueFrom 9 (some .int) (rmN (5 + 1 * d) 0 0) D G V R [.ref b, .ref a1, .int a2] (some (.int o.1), o.2, R, G, 0, 0) := by
  intro d
  induction d with
  | zero => intro _ _ _ _ _ _ _ _ _ _ _ _ _ hf; exact absurd hf (by unfold pX6_valueFrom; exact fun z => nomatch z)
  | succ d ih =>
    intro l D G V R _ _ _ _ hG h_b h_a1 _ hf
    have := kfX6_valueFrom (l := l) (D := D) (V := V) (R := R) (N := 5 + 1 * d) ih (by omega) hG h_b h_a1 hf
    rw [show 5 + 1 * (d + 1) = 5 + 1 * d + 1 by omega]
    exact this
def pX6_gameOf (n : Nat) (G : G2) (V : V2) (R : R2) (b : Nat) (a1 : Nat) (a2 : Int32) : Option (Int32 × V2) :=
  (pX6_begin G V R b a1 a2).bind fun q1 =>
  letv (up2 q1 b 9 0) fun U2 =>
  (pX6_valueFrom 6 n G U2 R b a1 0).bind fun q3 =>
  some (q3.1, q3.2)
set_option maxHeartbeats 4000000 in
set_option maxRecDepth 100000 in
theorem kX6_gameOf {l : Launch} {D : Dx} {G : G2} {V : V2} {R : R2} {n : Nat} {b : Nat} {a1 : Nat} {a2 : Int32} (hG : GX G) (h_b : own G b 16) (h_a1 : own G a1 11) {o : Int32 × V2} (hf : pX6_gameOf n G V R b a1 a2 = some o) : Con l yX6_gameOf cX6_gameOf 3 (some .int) (rmN 12 0 0) D G V R [.ref b, .ref a1, .int a2] (some (.int o.1), o.2, R, G, 0, 0) := by
  refine Con.mk RX6 (by decide) rfl (Nat.le_of_ble_eq_true rfl) (fun C _ hR hT _ _ hL hC hnm => ?_)
  revert hf
  unfold pX6_gameOf
  refine g_aload_n hC dX6_gameOf_0 (j := 0) rfl rfl ?_
  refine g_aload_n hC dX6_gameOf_1 (j := 1) rfl rfl ?_
  refine g_iload_n hC dX6_gameOf_2 (j := 2) rfl rfl ?_
  refine g_callV_vV hC hR ⟨Nat.zero_le _, Nat.zero_le _⟩ mwX6_begin miX6_begin (ci := 6) rfl h_b (Nat.le_of_ble_eq_true rfl) mlX6_72 (fun _ hq => kX6_begin hG h_b h_a1 hq) (Nat.le_of_ble_eq_true rfl) rfl (st := []) rfl (Nat.le_of_ble_eq_true rfl) dX6_gameOf_3 (fun q1 => ?_)
  refine g_aload_n hC dX6_gameOf_6 (j := 0) rfl rfl ?_
  refine g_iconst hC dX6_gameOf_7 ic_0 ?_
  refine g_putIL hC fp_6_9 h_b dX6_gameOf_8 flX6_43 (fun U2 => ?_)
  refine g_aload_n hC dX6_gameOf_11 (j := 0) rfl rfl ?_
  refine g_aload_n hC dX6_gameOf_12 (j := 1) rfl rfl ?_
  refine g_iconst hC dX6_gameOf_13 ic_0 ?_
  refine g_callV_iV hC hR ⟨Nat.zero_le _, Nat.zero_le _⟩ mwX6_valueFrom miX6_valueFrom (ci := 6) rfl h_b (Nat.le_of_ble_eq_true rfl) mlX6_100 (fun _ hq => kX6_valueFrom 6 hG h_b h_a1 hq) (Nat.le_of_ble_eq_true rfl) rfl (st := []) rfl (Nat.le_of_ble_eq_true rfl) dX6_gameOf_14 (fun q3 => ?_)
  exact g_iret_iV hC hT dX6_gameOf_17
def pX8_game (n : Nat) (G : G2) (V : V2) (R : R2) (b : Nat) (a1 : Int32) : Option (Int32 × V2) :=
  (pX8_within a1 1 4).bind fun q1 =>
  if q1 = 0 then (some ((-1), V))
  else ((pX6_gameOf n G V R (b + 36) (b + 1) a1).bind fun q2 =>
  some (q2.1, q2.2))
set_option maxHeartbeats 4000000 in
set_option maxRecDepth 100000 in
theorem kX8_game {l : Launch} {D : Dx} {G : G2} {V : V2} {R : R2} {n : Nat} {b : Nat} {a1 : Int32} (hG : GX G) (h_b : own G b 18) {o : Int32 × V2} (hf : pX8_game n G V R b a1 = some o) : Con l yX8_game cX8_game 2 (some .int) (rmN 13 0 0) D G V R [.ref b, .int a1] (some (.int o.1), o.2, R, G, 0, 0) := by
  refine Con.mk RX8 (by decide) rfl (Nat.le_of_ble_eq_true rfl) (fun C _ hR hT _ _ hL hC hnm => ?_)
  revert hf
  unfold pX8_game
  refine g_iload_n hC dX8_game_0 (j := 1) rfl rfl ?_
  refine g_iconst hC dX8_game_1 ic_1 ?_
  refine g_iconst hC dX8_game_2 ic_4 ?_
  refine g_callS_i hC hR ⟨Nat.zero_le _, Nat.zero_le _⟩ mwX8_within ms_X8_within mlX8_77 (fun _ hq => kX8_within  hq) (Nat.le_of_ble_eq_true rfl) rfl (st := []) rfl (Nat.le_of_ble_eq_true rfl) dX8_game_3 (fun q1 => ?_)
  refine g_if_ne hC dX8_game_6 ?_ ?_
  · refine g_iconst hC dX8_game_9 ic_m1 ?_
    exact g_iret_iV hC hT dX8_game_10
  · refine g_aload_n hC dX8_game_11 (j := 0) rfl rfl ?_
    refine g_getR hC fr_8_4 h_b (b := b + 36) rfl dX8_game_12 flX8_33 ?_
    refine g_aload_n hC dX8_game_15 (j := 0) rfl rfl ?_
    refine g_getR hC fr_8_0 h_b (b := b + 1) rfl dX8_game_16 flX8_10 ?_
    refine g_iload_n hC dX8_game_19 (j := 1) rfl rfl ?_
    refine g_callV_iV hC hR ⟨Nat.zero_le _, Nat.zero_le _⟩ mwX6_gameOf miX6_gameOf (ci := 6) rfl (gx_8_4 hG h_b) (Nat.le_of_ble_eq_true rfl) mlX8_254 (fun _ hq => kX6_gameOf hG (gx_8_4 hG h_b) (gx_8_0 hG h_b) hq) (Nat.le_of_ble_eq_true rfl) rfl (st := []) rfl (Nat.le_of_ble_eq_true rfl) dX8_game_20 (fun q2 => ?_)
    exact g_iret_iV hC hT dX8_game_23
def pX8_play (n : Nat) (G : G2) (V : V2) (R : R2) (b : Nat) (a1 : Int32) : Option (Int32 × V2) :=
  (pX8_within a1 1 4).bind fun q1 =>
  if q1 = 0 then (some ((-1), V))
  else ((pX1_isOver V (b + 1) (b + 2)).bind fun q2 =>
  if q2 = 0 then ((pX6_gameOf n G V R (b + 36) (b + 1) a1).bind fun q3 =>
  some (q3.2 (b + 36) 9, q3.2))
  else (some ((-3), V)))
set_option maxHeartbeats 4000000 in
set_option maxRecDepth 100000 in
theorem kX8_play {l : Launch} {D : Dx} {G : G2} {V : V2} {R : R2} {n : Nat} {b : Nat} {a1 : Int32} (hG : GX G) (h_b : own G b 18) {o : Int32 × V2} (hf : pX8_play n G V R b a1 = some o) : Con l yX8_play cX8_play 2 (some .int) (rmN 13 0 0) D G V R [.ref b, .int a1] (some (.int o.1), o.2, R, G, 0, 0) := by
  refine Con.mk RX8 (by decide) rfl (Nat.le_of_ble_eq_true rfl) (fun C _ hR hT _ _ hL hC hnm => ?_)
  revert hf
  unfold pX8_play
  refine g_iload_n hC dX8_play_0 (j := 1) rfl rfl ?_
  refine g_iconst hC dX8_play_1 ic_1 ?_
  refine g_iconst hC dX8_play_2 ic_4 ?_
  refine g_callS_i hC hR ⟨Nat.zero_le _, Nat.zero_le _⟩ mwX8_within ms_X8_within mlX8_77 (fun _ hq => kX8_within  hq) (Nat.le_of_ble_eq_true rfl) rfl (st := []) rfl (Nat.le_of_ble_eq_true rfl) dX8_play_3 (fun q1 => ?_)
  refine g_if_ne hC dX8_play_6 ?_ ?_
  · refine g_iconst hC dX8_play_9 ic_m1 ?_
    exact g_iret_iV hC hT dX8_play_10
  · refine g_aload_n hC dX8_play_11 (j := 0) rfl rfl ?_
    refine g_getR hC fr_8_0 h_b (b := b + 1) rfl dX8_play_12 flX8_10 ?_
    refine g_aload_n hC dX8_play_15 (j := 0) rfl rfl ?_
    refine g_getR hC fr_8_0 h_b (b := b + 1) rfl dX8_play_16 flX8_10 ?_
    refine g_getR hC fr_1_0 (gx_8_0 hG h_b) (b := b + 2) rfl dX8_play_19 flX8_81 ?_
    refine g_callV_i hC hR ⟨Nat.zero_le _, Nat.zero_le _⟩ mwX1_isOver miX1_isOver (ci := 1) rfl (gx_8_0 hG h_b) (Nat.le_of_ble_eq_true rfl) mlX8_160 (fun _ hq => kX1_isOver hG (gx_8_0 hG h_b) (gx_1_0 hG (gx_8_0 hG h_b)) hq) (Nat.le_of_ble_eq_true rfl) rfl (st := []) rfl (Nat.le_of_ble_eq_true rfl) dX8_play_22 (fun q2 => ?_)
    refine g_if_eq hC dX8_play_25 ?_ ?_
    · refine g_aload_n hC dX8_play_31 (j := 0) rfl rfl ?_
      refine g_getR hC fr_8_4 h_b (b := b + 36) rfl dX8_play_32 flX8_33 ?_
      refine g_aload_n hC dX8_play_35 (j := 0) rfl rfl ?_
      refine g_getR hC fr_8_0 h_b (b := b + 1) rfl dX8_play_36 flX8_10 ?_
      refine g_iload_n hC dX8_play_39 (j := 1) rfl rfl ?_
      refine g_callV_iV hC hR ⟨Nat.zero_le _, Nat.zero_le _⟩ mwX6_gameOf miX6_gameOf (ci := 6) rfl (gx_8_4 hG h_b) (Nat.le_of_ble_eq_true rfl) mlX8_254 (fun _ hq => kX6_gameOf hG (gx_8_4 hG h_b) (gx_8_0 hG h_b) hq) (Nat.le_of_ble_eq_true rfl) rfl (st := []) rfl (Nat.le_of_ble_eq_true rfl) dX8_play_40 (fun q3 => ?_)
      refine g_pop hC dX8_play_43 rfl ?_
      refine g_aload_n hC dX8_play_44 (j := 0) rfl rfl ?_
      refine g_getR hC fr_8_4 h_b (b := b + 36) rfl dX8_play_45 flX8_33 ?_
      refine g_getI hC fi_6_9 (gx_8_4 hG h_b) dX8_play_48 flX8_258 ?_
      exact g_iret_iV hC hT dX8_play_51
    · refine g_bipush hC dX8_play_28 bc_m3 ?_
      exact g_iret_iV hC hT dX8_play_30
def pX3_add (V : V2) (b : Nat) (a1 : Int32) (a2 : Int32) (a3 : Int32) (a4 : Int32) : Option (Int32 × V2) :=
  if (V b 0) < (6 : Int32) then ((stI 6 V (b + 1) (V b 0) a1).bind fun U1 =>
  (stI 6 U1 (b + 2) (U1 b 0) a2).bind fun U2 =>
  (stI 6 U2 (b + 3) (U2 b 0) a3).bind fun U3 =>
  (stI 6 U3 (b + 4) (U3 b 0) a4).bind fun U4 =>
  letv (up2 U4 b 0 ((U4 b 0) + 1)) fun U5 =>
  some ((U5 b 0) - 1, U5))
  else (some ((-2), V))
set_option maxHeartbeats 4000000 in
set_option maxRecDepth 100000 in
theorem kX3_add {l : Launch} {D : Dx} {G : G2} {V : V2} {R : R2} {b : Nat} {a1 : Int32} {a2 : Int32} {a3 : Int32} {a4 : Int32} (hG : GX G) (h_b : own G b 13) {o : Int32 × V2} (hf : pX3_add V b a1 a2 a3 a4 = some o) : Con l yX3_add cX3_add 5 (some .int) (rmN 0 0 0) D G V R [.ref b, .int a1, .int a2, .int a3, .int a4] (some (.int o.1), o.2, R, G, 0, 0) := by
  refine Con.mk RX3 (by decide) rfl (Nat.le_of_ble_eq_true rfl) (fun C _ hR hT _ _ hL hC hnm => ?_)
  revert hf
  unfold pX3_add
  refine g_aload_n hC dX3_add_0 (j := 0) rfl rfl ?_
  refine g_getI hC fi_3_0 h_b dX3_add_1 flX3_9 ?_
  refine g_bipush hC dX3_add_4 bc_6 ?_
  refine g_icmp_lt hC dX3_add_6 ?_ ?_
  · refine g_aload_n hC dX3_add_12 (j := 0) rfl rfl ?_
    refine g_getR hC fr_3_1 h_b (b := b + 1) rfl dX3_add_13 flX3_15 ?_
    refine g_aload_n hC dX3_add_16 (j := 0) rfl rfl ?_
    refine g_getI hC fi_3_0 h_b dX3_add_17 flX3_9 ?_
    refine g_iload_n hC dX3_add_20 (j := 1) rfl rfl ?_
    refine g_iastV hC (gx_3_1 hG h_b) (gl_3_1 hG h_b) dX3_add_21 (fun U1 => ?_)
    refine g_aload_n hC dX3_add_22 (j := 0) rfl rfl ?_
    refine g_getR hC fr_3_2 h_b (b := b + 2) rfl dX3_add_23 flX3_19 ?_
    refine g_aload_n hC dX3_add_26 (j := 0) rfl rfl ?_
    refine g_getI hC fi_3_0 h_b dX3_add_27 flX3_9 ?_
    refine g_iload_n hC dX3_add_30 (j := 2) rfl rfl ?_
    refine g_iastV hC (gx_3_2 hG h_b) (gl_3_2 hG h_b) dX3_add_31 (fun U2 => ?_)
    refine g_aload_n hC dX3_add_32 (j := 0) rfl rfl ?_
    refine g_getR hC fr_3_3 h_b (b := b + 3) rfl dX3_add_33 flX3_22 ?_
    refine g_aload_n hC dX3_add_36 (j := 0) rfl rfl ?_
    refine g_getI hC fi_3_0 h_b dX3_add_37 flX3_9 ?_
    refine g_iload_n hC dX3_add_40 (j := 3) rfl rfl ?_
    refine g_iastV hC (gx_3_3 hG h_b) (gl_3_3 hG h_b) dX3_add_41 (fun U3 => ?_)
    refine g_aload_n hC dX3_add_42 (j := 0) rfl rfl ?_
    refine g_getR hC fr_3_4 h_b (b := b + 4) rfl dX3_add_43 flX3_25 ?_
    refine g_aload_n hC dX3_add_46 (j := 0) rfl rfl ?_
    refine g_getI hC fi_3_0 h_b dX3_add_47 flX3_9 ?_
    refine g_iload hC dX3_add_50 (j := 4) rfl ?_
    refine g_iastV hC (gx_3_4 hG h_b) (gl_3_4 hG h_b) dX3_add_52 (fun U4 => ?_)
    refine g_aload_n hC dX3_add_53 (j := 0) rfl rfl ?_
    refine g_dup hC dX3_add_54 rfl ?_
    refine g_getI hC fi_3_0 h_b dX3_add_55 flX3_9 ?_
    refine g_iconst hC dX3_add_58 ic_1 ?_
    refine g_iadd hC dX3_add_59 ?_
    refine g_putIL hC fp_3_0 h_b dX3_add_60 flX3_9 (fun U5 => ?_)
    refine g_aload_n hC dX3_add_63 (j := 0) rfl rfl ?_
    refine g_getI hC fi_3_0 h_b dX3_add_64 flX3_9 ?_
    refine g_iconst hC dX3_add_67 ic_1 ?_
    refine g_isub hC dX3_add_68 ?_
    exact g_iret_iV hC hT dX3_add_69
  · refine g_bipush hC dX3_add_9 bc_m2 ?_
    exact g_iret_iV hC hT dX3_add_11
def pX8_report (V : V2) (b : Nat) (a1 : Int32) (a2 : Int32) (a3 : Int32) (a4 : Int32) : Option (Int32 × V2) :=
  (pX8_within a1 0 15).bind fun q1 =>
  if q1 = 0 then (some ((-1), V))
  else ((pX8_within a2 0 1).bind fun q2 =>
  if q2 = 0 then (some ((-1), V))
  else (letv ((if a2 = 0 then (99)
  else (16) : Int32)) fun j3 =>
  (pX8_within a3 0 j3).bind fun q4 =>
  if q4 = 0 then (some ((-1), V))
  else ((pX8_within a4 a3 j3).bind fun q5 =>
  if q5 = 0 then (some ((-1), V))
  else ((pX3_add V (b + 11) a1 a2 a3 a4).bind fun q6 =>
  some (q6.1, q6.2)))))
set_option maxHeartbeats 4000000 in
set_option maxRecDepth 100000 in
theorem kX8_report {l : Launch} {D : Dx} {G : G2} {V : V2} {R : R2} {b : Nat} {a1 : Int32} {a2 : Int32} {a3 : Int32} {a4 : Int32} (hG : GX G) (h_b : own G b 18) {o : Int32 × V2} (hf : pX8_report V b a1 a2 a3 a4 = some o) : Con l yX8_report cX8_report 6 (some .int) (rmN 1 0 0) D G V R [.ref b, .int a1, .int a2, .int a3, .int a4] (some (.int o.1), o.2, R, G, 0, 0) := by
  refine Con.mk RX8 (by decide) rfl (Nat.le_of_ble_eq_true rfl) (fun C _ hR hT _ _ hL hC hnm => ?_)
  revert hf
  unfold pX8_report
  refine g_iload_n hC dX8_report_0 (j := 1) rfl rfl ?_
  refine g_iconst hC dX8_report_1 ic_0 ?_
  refine g_bipush hC dX8_report_2 bc_15 ?_
  refine g_callS_i hC hR ⟨Nat.zero_le _, Nat.zero_le _⟩ mwX8_within ms_X8_within mlX8_77 (fun _ hq => kX8_within  hq) (Nat.le_of_ble_eq_true rfl) rfl (st := []) rfl (Nat.le_of_ble_eq_true rfl) dX8_report_4 (fun q1 => ?_)
  refine g_if_eq hC dX8_report_7 ?_ ?_
  · refine g_iconst hC dX8_report_19 ic_m1 ?_
    exact g_iret_iV hC hT dX8_report_20
  · refine g_iload_n hC dX8_report_10 (j := 2) rfl rfl ?_
    refine g_iconst hC dX8_report_11 ic_0 ?_
    refine g_iconst hC dX8_report_12 ic_1 ?_
    refine g_callS_i hC hR ⟨Nat.zero_le _, Nat.zero_le _⟩ mwX8_within ms_X8_within mlX8_77 (fun _ hq => kX8_within  hq) (Nat.le_of_ble_eq_true rfl) rfl (st := []) rfl (Nat.le_of_ble_eq_true rfl) dX8_report_13 (fun q2 => ?_)
    refine g_if_ne hC dX8_report_16 ?_ ?_
    · refine g_iconst hC dX8_report_19 ic_m1 ?_
      exact g_iret_iV hC hT dX8_report_20
    · refine g_iload_n hC dX8_report_21 (j := 2) rfl rfl ?_
      refine g_letJ (J := fun j3 => Go C 32 [(0, .ref b), (1, .int a1), (2, .int a2), (3, .int a3), (4, .int a4)] [.int j3] V R G 0 0) (fun j3 hJ => ?_) (fun j3 => ?_)
      · refine g_if_ne hC dX8_report_22 ?_ ?_
        · refine g_bipush hC dX8_report_25 bc_99 ?_
          refine g_goto hC dX8_report_27 ?_
          exact fun e => by cases e; exact hJ
        · refine g_bipush hC dX8_report_30 bc_16 ?_
          exact fun e => by cases e; exact hJ
      · refine g_istore hC (n0 := 6) (lv' := [(5, .int j3), (0, .ref b), (1, .int a1), (2, .int a2), (3, .int a3), (4, .int a4)]) dX8_report_32 (Nat.le_of_ble_eq_true rfl) hL rfl ?_
        refine g_iload_n hC dX8_report_34 (j := 4) rfl rfl ?_
        refine g_iconst hC dX8_report_35 ic_0 ?_
        refine g_iload hC dX8_report_36 (j := 0) rfl ?_
        refine g_callS_i hC hR ⟨Nat.zero_le _, Nat.zero_le _⟩ mwX8_within ms_X8_within mlX8_77 (fun _ hq => kX8_within  hq) (Nat.le_of_ble_eq_true rfl) rfl (st := []) rfl (Nat.le_of_ble_eq_true rfl) dX8_report_38 (fun q4 => ?_)
        refine g_if_eq hC dX8_report_41 ?_ ?_
        · refine g_iconst hC dX8_report_55 ic_m1 ?_
          exact g_iret_iV hC hT dX8_report_56
        · refine g_iload hC dX8_report_44 (j := 5) rfl ?_
          refine g_iload_n hC dX8_report_46 (j := 4) rfl rfl ?_
          refine g_iload hC dX8_report_47 (j := 0) rfl ?_
          refine g_callS_i hC hR ⟨Nat.zero_le _, Nat.zero_le _⟩ mwX8_within ms_X8_within mlX8_77 (fun _ hq => kX8_within  hq) (Nat.le_of_ble_eq_true rfl) rfl (st := []) rfl (Nat.le_of_ble_eq_true rfl) dX8_report_49 (fun q5 => ?_)
          refine g_if_ne hC dX8_report_52 ?_ ?_
          · refine g_iconst hC dX8_report_55 ic_m1 ?_
            exact g_iret_iV hC hT dX8_report_56
          · refine g_aload_n hC dX8_report_57 (j := 1) rfl rfl ?_
            refine g_getR hC fr_8_0 h_b (b := b + 1) rfl dX8_report_58 flX8_10 ?_
            refine g_getR hC fr_1_9 (gx_8_0 hG h_b) (b := b + 11) rfl dX8_report_61 flX8_261 ?_
            refine g_iload_n hC dX8_report_64 (j := 2) rfl rfl ?_
            refine g_iload_n hC dX8_report_65 (j := 3) rfl rfl ?_
            refine g_iload_n hC dX8_report_66 (j := 4) rfl rfl ?_
            refine g_iload hC dX8_report_67 (j := 5) rfl ?_
            refine g_callV_iV hC hR ⟨Nat.zero_le _, Nat.zero_le _⟩ mwX3_add miX3_add (ci := 3) rfl (gx_1_9 hG (gx_8_0 hG h_b)) (Nat.le_of_ble_eq_true rfl) mlX8_265 (fun _ hq => kX3_add hG (gx_1_9 hG (gx_8_0 hG h_b)) hq) (Nat.le_of_ble_eq_true rfl) rfl (st := []) rfl (Nat.le_of_ble_eq_true rfl) dX8_report_69 (fun q6 => ?_)
            exact g_iret_iV hC hT dX8_report_72
def pX8_forget (V : V2) (b : Nat) : Option (Int32 × V2) :=
  letv (V (b + 11) 0) fun x1 =>
  letv (up2 V (b + 11) 0 0) fun U2 =>
  some (x1, U2)
set_option maxHeartbeats 4000000 in
set_option maxRecDepth 100000 in
theorem kX8_forget {l : Launch} {D : Dx} {G : G2} {V : V2} {R : R2} {b : Nat} (hG : GX G) (h_b : own G b 18) {o : Int32 × V2} (hf : pX8_forget V b = some o) : Con l yX8_forget cX8_forget 2 (some .int) (rmN 0 0 0) D G V R [.ref b] (some (.int o.1), o.2, R, G, 0, 0) := by
  refine Con.mk RX8 (by decide) rfl (Nat.le_of_ble_eq_true rfl) (fun C _ hR hT _ _ hL hC hnm => ?_)
  revert hf
  unfold pX8_forget
  refine g_aload_n hC dX8_forget_0 (j := 0) rfl rfl ?_
  refine g_getR hC fr_8_0 h_b (b := b + 1) rfl dX8_forget_1 flX8_10 ?_
  refine g_getR hC fr_1_9 (gx_8_0 hG h_b) (b := b + 11) rfl dX8_forget_4 flX8_261 ?_
  refine g_getI hC fi_3_0 (gx_1_9 hG (gx_8_0 hG h_b)) dX8_forget_7 flX8_271 ?_
  refine g_istore_nL hC (n0 := 2) (lv' := fun x1 => [(1, .int x1), (0, .ref b)]) dX8_forget_10 rfl (Nat.le_of_ble_eq_true rfl) hL (fun _ => rfl) (fun x1 => ?_)
  refine g_aload_n hC dX8_forget_11 (j := 1) rfl rfl ?_
  refine g_getR hC fr_8_0 h_b (b := b + 1) rfl dX8_forget_12 flX8_10 ?_
  refine g_getR hC fr_1_9 (gx_8_0 hG h_b) (b := b + 11) rfl dX8_forget_15 flX8_261 ?_
  refine g_iconst hC dX8_forget_18 ic_0 ?_
  refine g_putIL hC fp_3_0 (gx_1_9 hG (gx_8_0 hG h_b)) dX8_forget_19 flX8_271 (fun U2 => ?_)
  refine g_iload_n hC dX8_forget_22 (j := 0) rfl rfl ?_
  exact g_iret_iV hC hT dX8_forget_23
def lX3_wrongBehind_6 (V : V2) (b : Nat) (a1 : Int32) (a2 : Int32) (a3 : Int32) : Nat → Int32 → Int32 → Option (Int32)
  | 0, _, _ => none
  | f1 + 1, x2, x3 =>
    if (V b 0) ≤ x3 then (some x2)
    else ((ldI 6 (V (b + 2)) x3).bind fun t4 =>
    letv ((if t4 = 0 then (a2)
    else (a3) : Int32)) fun j5 =>
    (ldI 6 (V (b + 1)) x3).bind fun t6 =>
    if t6 = a1 then ((ldI 6 (V (b + 3)) x3).bind fun t7 =>
    (ldI 6 (V (b + 4)) x3).bind fun t8 =>
    (pX8_within j5 t7 t8).bind fun q9 =>
    if q9 = 0 then (letv (x2 ||| (1 <<< (x3 &&& 31))) fun x10 =>
    letv (x3 + 1) fun x11 =>
    lX3_wrongBehind_6 V b a1 a2 a3 f1 x10 x11)
    else (letv (x3 + 1) fun x12 =>
    lX3_wrongBehind_6 V b a1 a2 a3 f1 x2 x12))
    else (letv (x3 + 1) fun x13 =>
    lX3_wrongBehind_6 V b a1 a2 a3 f1 x2 x13))
def pX3_wrongBehind (n : Nat) (V : V2) (b : Nat) (a1 : Int32) (a2 : Int32) (a3 : Int32) : Option (Int32) :=
  (lX3_wrongBehind_6 V b a1 a2 a3 n 0 0).bind fun w14 =>
  some w14
set_option maxHeartbeats 4000000 in
set_option maxRecDepth 100000 in
theorem wX3_wrongBehind_6 {C : Cx} (hC : CxOK C cX3_wrongBehind RX3 (some .int)) (hL : C.2.2.2.2 = 7) {G : G2} {V : V2} {R : R2} {b : Nat} {a1 : Int32} {a2 : Int32} {a3 : Int32} (hG : GX G) (h_b : own G b 13) (hR : C.1.2.2.2.1 = rmN 1 0 0) {o : Int32} (hX : Go C 80 [(4, .int o)] [] V R G 0 0) : ∀ (f : Nat) (x2 : Int32) (x3 : Int32), lX3_wrongBehind_6 V b a1 a2 a3 f x2 x3 = some o → Go C 6 [(0, .ref b), (1, .int a1), (2, .int a2), (3, .int a3), (4, .int x2), (5, .int x3)] [] V R G 0 0 := by
  intro f
  induction f with
  | zero => intro _ _ hf; exact absurd hf (by unfold lX3_wrongBehind_6; exact fun z => nomatch z)
  | succ f1 ih =>
    intro x2 x3
    unfold lX3_wrongBehind_6
    refine g_iload hC dX3_wrongBehind_6 (j := 5) rfl ?_
    refine g_aload_n hC dX3_wrongBehind_8 (j := 0) rfl rfl ?_
    refine g_getI hC fi_3_0 h_b dX3_wrongBehind_9 flX3_9 ?_
    refine g_icmp_ge hC dX3_wrongBehind_12 ?_ ?_
    · refine g_sub [4] rfl ?_
      exact fun e => by cases e; exact hX
    · refine g_aload_n hC dX3_wrongBehind_15 (j := 0) rfl rfl ?_
      refine g_getR hC fr_3_2 h_b (b := b + 2) rfl dX3_wrongBehind_16 flX3_19 ?_
      refine g_iload hC dX3_wrongBehind_19 (j := 5) rfl ?_
      refine g_ialdV hC (gx_3_2 hG h_b) (gl_3_2 hG h_b) dX3_wrongBehind_21 (fun t4 => ?_)
      refine g_letJ (J := fun j5 => Go C 30 [(0, .ref b), (1, .int a1), (2, .int a2), (3, .int a3), (4, .int x2), (5, .int x3)] [.int j5] V R G 0 0) (fun j5 hJ => ?_) (fun j5 => ?_)
      · refine g_if_ne hC dX3_wrongBehind_22 ?_ ?_
        · refine g_iload_n hC dX3_wrongBehind_25 (j := 2) rfl rfl ?_
          refine g_goto hC dX3_wrongBehind_26 ?_
          exact fun e => by cases e; exact hJ
        · refine g_iload_n hC dX3_wrongBehind_29 (j := 3) rfl rfl ?_
          exact fun e => by cases e; exact hJ
      · refine g_istore hC (n0 := 7) (lv' := [(6, .int j5), (0, .ref b), (1, .int a1), (2, .int a2), (3, .int a3), (4, .int x2), (5, .int x3)]) dX3_wrongBehind_30 (Nat.le_of_ble_eq_true rfl) hL rfl ?_
        refine g_aload_n hC dX3_wrongBehind_32 (j := 1) rfl rfl ?_
        refine g_getR hC fr_3_1 h_b (b := b + 1) rfl dX3_wrongBehind_33 flX3_15 ?_
        refine g_iload hC dX3_wrongBehind_36 (j := 6) rfl ?_
        refine g_ialdV hC (gx_3_1 hG h_b) (gl_3_1 hG h_b) dX3_wrongBehind_38 (fun t6 => ?_)
        refine g_iload_n hC dX3_wrongBehind_39 (j := 2) rfl rfl ?_
        refine g_icmp_ne hC dX3_wrongBehind_40 ?_ ?_
        · refine g_iload hC dX3_wrongBehind_43 (j := 0) rfl ?_
          refine g_aload_n hC dX3_wrongBehind_45 (j := 1) rfl rfl ?_
          refine g_getR hC fr_3_3 h_b (b := b + 3) rfl dX3_wrongBehind_46 flX3_22 ?_
          refine g_iload hC dX3_wrongBehind_49 (j := 6) rfl ?_
          refine g_ialdV hC (gx_3_3 hG h_b) (gl_3_3 hG h_b) dX3_wrongBehind_51 (fun t7 => ?_)
          refine g_aload_n hC dX3_wrongBehind_52 (j := 1) rfl rfl ?_
          refine g_getR hC fr_3_4 h_b (b := b + 4) rfl dX3_wrongBehind_53 flX3_25 ?_
          refine g_iload hC dX3_wrongBehind_56 (j := 6) rfl ?_
          refine g_ialdV hC (gx_3_4 hG h_b) (gl_3_4 hG h_b) dX3_wrongBehind_58 (fun t8 => ?_)
          refine g_callSN_i hC hR ⟨Nat.zero_le _, Nat.zero_le _⟩ mwX8_within ms_X8_within mlX3_80 (fun _ hq => kX8_within  hq) (Nat.le_of_ble_eq_true rfl) rfl (st := []) rfl (Nat.le_of_ble_eq_true rfl) dX3_wrongBehind_59 (fun q9 => ?_)
          refine g_if_ne hC dX3_wrongBehind_62 ?_ ?_
          · refine g_iload hC dX3_wrongBehind_65 (j := 5) rfl ?_
            refine g_iconst hC dX3_wrongBehind_67 ic_1 ?_
            refine g_iload hC dX3_wrongBehind_68 (j := 6) rfl ?_
            refine g_ishl hC dX3_wrongBehind_70 ?_
            refine g_ior hC dX3_wrongBehind_71 ?_
            refine g_istoreL hC (n0 := 7) (lv' := fun x10 => [(4, .int x10), (6, .int j5), (0, .ref b), (1, .int a1), (2, .int a2), (3, .int a3), (5, .int x3)]) dX3_wrongBehind_72 (Nat.le_of_ble_eq_true rfl) hL (fun _ => rfl) (fun x10 => ?_)
            refine g_iincL hC (n0 := 7) (j := 6) (lv' := fun x11 => [(5, .int x11), (4, .int x10), (6, .int j5), (0, .ref b), (1, .int a1), (2, .int a2), (3, .int a3)]) dX3_wrongBehind_74 rfl ic_1 (Nat.le_of_ble_eq_true rfl) hL (fun _ => rfl) (fun x11 => ?_)
            refine g_goto hC dX3_wrongBehind_77 ?_
            refine g_sub [3, 4, 5, 6, 1, 0] rfl ?_
            exact ih x10 x11
          · refine g_iincL hC (n0 := 7) (j := 6) (lv' := fun x12 => [(5, .int x12), (6, .int j5), (0, .ref b), (1, .int a1), (2, .int a2), (3, .int a3), (4, .int x2)]) dX3_wrongBehind_74 rfl ic_1 (Nat.le_of_ble_eq_true rfl) hL (fun _ => rfl) (fun x12 => ?_)
            refine g_goto hC dX3_wrongBehind_77 ?_
            refine g_sub [2, 3, 4, 5, 6, 0] rfl ?_
            exact ih x2 x12
        · refine g_iincL hC (n0 := 7) (j := 6) (lv' := fun x13 => [(5, .int x13), (6, .int j5), (0, .ref b), (1, .int a1), (2, .int a2), (3, .int a3), (4, .int x2)]) dX3_wrongBehind_74 rfl ic_1 (Nat.le_of_ble_eq_true rfl) hL (fun _ => rfl) (fun x13 => ?_)
          refine g_goto hC dX3_wrongBehind_77 ?_
          refine g_sub [2, 3, 4, 5, 6, 0] rfl ?_
          exact ih x2 x13
set_option maxHeartbeats 4000000 in
set_option maxRecDepth 100000 in
theorem kX3_wrongBehind {l : Launch} {D : Dx} {G : G2} {V : V2} {R : R2} {n : Nat} {b : Nat} {a1 : Int32} {a2 : Int32} {a3 : Int32} (hG : GX G) (h_b : own G b 13) {o : Int32} (hf : pX3_wrongBehind n V b a1 a2 a3 = some o) : Con l yX3_wrongBehind cX3_wrongBehind 7 (some .int) (rmN 1 0 0) D G V R [.ref b, .int a1, .int a2, .int a3] (some (.int o), V, R, G, 0, 0) := by
  refine Con.mk RX3 (by decide) rfl (Nat.le_of_ble_eq_true rfl) (fun C _ hR hT _ _ hL hC hnm => ?_)
  revert hf
  unfold pX3_wrongBehind
  refine g_iconst hC dX3_wrongBehind_0 ic_0 ?_
  refine g_istore hC (n0 := 7) (lv' := [(4, .int 0), (0, .ref b), (1, .int a1), (2, .int a2), (3, .int a3)]) dX3_wrongBehind_1 (Nat.le_of_ble_eq_true rfl) hL rfl ?_
  refine g_iconst hC dX3_wrongBehind_3 ic_0 ?_
  refine g_istore hC (n0 := 7) (lv' := [(5, .int 0), (4, .int 0), (0, .ref b), (1, .int a1), (2, .int a2), (3, .int a3)]) dX3_wrongBehind_4 (Nat.le_of_ble_eq_true rfl) hL rfl ?_
  refine g_sub [2, 3, 4, 5, 1, 0] rfl ?_
  refine g_bind (J := fun w14 => Go C 80 [(4, .int w14)] [] V R G 0 0) (fun w14 hJ => wX3_wrongBehind_6 hC hL hG h_b hR hJ n 0 0) (fun w14 => ?_)
  refine g_iload hC dX3_wrongBehind_80 (j := 0) rfl ?_
  exact g_iret_i hC hT dX3_wrongBehind_82
def lX3_wrongOf_12 (n : Nat) (G : G2) (V : V2) (b : Nat) (a1 : Int32) (a2 : Int32) (a4 : Nat) : Nat → Int32 → Int32 → Int32 → Int32 → Option (Int32)
  | 0, _, _, _, _ => none
  | f1 + 1, x2, x3, x4, x5 =>
    if (nI (G.2.2.1 a4)) ≤ x5 then (some x2)
    else ((pX3_wrongBehind n V b x5 x3 x4).bind fun q6 =>
    letv (x2 ||| q6) fun x7 =>
    (ldI (G.2.2.1 a4) (V a4) x5).bind fun t8 =>
    (pX8_needing a1 x3 a2).bind fun q9 =>
    letv ((if ((t8 / 4) * 4) < q9 then (x4)
    else (letv (x4 + 1) fun x11 =>
    x11) : Int32)) fun j10 =>
    (ldI (G.2.2.1 a4) (V a4) x5).bind fun t12 =>
    (pX8_swelling a1 0 (jrem t12 4) x5).bind fun q13 =>
    letv (jmin 99 (x3 + q13)) fun x14 =>
    letv (x5 + 1) fun x15 =>
    lX3_wrongOf_12 n G V b a1 a2 a4 f1 x7 x14 j10 x15)
def pX3_wrongOf (n : Nat) (G : G2) (V : V2) (b : Nat) (a1 : Int32) (a2 : Int32) (a3 : Int32) (a4 : Nat) : Option (Int32) :=
  (lX3_wrongOf_12 n G V b a1 a2 a4 n 0 a3 0 0).bind fun w16 =>
  some w16
set_option maxHeartbeats 4000000 in
set_option maxRecDepth 100000 in
theorem wX3_wrongOf_12 {C : Cx} (hC : CxOK C cX3_wrongOf RX3 (some .int)) (hL : C.2.2.2.2 = 9) {n : Nat} {G : G2} {V : V2} {R : R2} {b : Nat} {a1 : Int32} {a2 : Int32} {a4 : Nat} (hG : GX G) (h_b : own G b 13) (h_a4 : own G a4 1) (hR : C.1.2.2.2.1 = rmN 2 0 0) {o : Int32} (hX : Go C 87 [(5, .int o)] [] V R G 0 0) : ∀ (f : Nat) (x2 : Int32) (x3 : Int32) (x4 : Int32) (x5 : Int32), lX3_wrongOf_12 n G V b a1 a2 a4 f x2 x3 x4 x5 = some o → Go C 12 [(0, .ref b), (1, .int a1), (2, .int a2), (4, .ref a4), (5, .int x2), (6, .int x3), (7, .int x4), (8, .int x5)] [] V R G 0 0 := by
  intro f
  induction f with
  | zero => intro _ _ _ _ hf; exact absurd hf (by unfold lX3_wrongOf_12; exact fun z => nomatch z)
  | succ f1 ih =>
    intro x2 x3 x4 x5
    unfold lX3_wrongOf_12
    refine g_iload hC dX3_wrongOf_12 (j := 7) rfl ?_
    refine g_aload hC dX3_wrongOf_14 (j := 3) rfl ?_
    refine g_alenV hC h_a4 rfl dX3_wrongOf_16 ?_
    refine g_icmp_ge hC dX3_wrongOf_17 ?_ ?_
    · refine g_sub [4] rfl ?_
      exact fun e => by cases e; exact hX
    · refine g_iload hC dX3_wrongOf_20 (j := 4) rfl ?_
      refine g_aload_n hC dX3_wrongOf_22 (j := 0) rfl rfl ?_
      refine g_iload hC dX3_wrongOf_23 (j := 7) rfl ?_
      refine g_iload hC dX3_wrongOf_25 (j := 5) rfl ?_
      refine g_iload hC dX3_wrongOf_27 (j := 6) rfl ?_
      refine g_callV_i hC hR ⟨Nat.zero_le _, Nat.zero_le _⟩ mwX3_wrongBehind miX3_wrongBehind (ci := 3) rfl h_b (Nat.le_of_ble_eq_true rfl) mlX3_63 (fun _ hq => kX3_wrongBehind hG h_b hq) (Nat.le_of_ble_eq_true rfl) rfl (st := [.int x2]) rfl (Nat.le_of_ble_eq_true rfl) dX3_wrongOf_29 (fun q6 => ?_)
      refine g_ior hC dX3_wrongOf_32 ?_
      refine g_istoreL hC (n0 := 9) (lv' := fun x7 => [(5, .int x7), (0, .ref b), (1, .int a1), (2, .int a2), (4, .ref a4), (6, .int x3), (7, .int x4), (8, .int x5)]) dX3_wrongOf_33 (Nat.le_of_ble_eq_true rfl) hL (fun _ => rfl) (fun x7 => ?_)
      refine g_aload hC dX3_wrongOf_35 (j := 4) rfl ?_
      refine g_iload hC dX3_wrongOf_37 (j := 7) rfl ?_
      refine g_ialdV hC h_a4 rfl dX3_wrongOf_39 (fun t8 => ?_)
      refine g_iconst hC dX3_wrongOf_40 ic_4 ?_
      refine g_idivC hC dX3_wrongOf_41 nzi_4 ?_
      refine g_iconst hC dX3_wrongOf_42 ic_4 ?_
      refine g_imul hC dX3_wrongOf_43 ?_
      refine g_iload_n hC dX3_wrongOf_44 (j := 2) rfl rfl ?_
      refine g_iload hC dX3_wrongOf_45 (j := 5) rfl ?_
      refine g_iload_n hC dX3_wrongOf_47 (j := 3) rfl rfl ?_
      refine g_callSN_i hC hR ⟨Nat.zero_le _, Nat.zero_le _⟩ mwX8_needing ms_X8_needing mlX3_67 (fun _ hq => kX8_needing  hq) (Nat.le_of_ble_eq_true rfl) rfl (st := [.int ((t8 / 4) * 4)]) rfl (Nat.le_of_ble_eq_true rfl) dX3_wrongOf_48 (fun q9 => ?_)
      refine g_letJ (J := fun j10 => Go C 57 [(0, .ref b), (1, .int a1), (2, .int a2), (4, .ref a4), (5, .int x7), (6, .int x3), (7, .int j10), (8, .int x5)] [] V R G 0 0) (fun j10 hJ => ?_) (fun j10 => ?_)
      · refine g_icmp_lt hC dX3_wrongOf_51 ?_ ?_
        · refine g_sub [1, 2, 3, 4, 0, 5, 6, 7] rfl ?_
          exact fun e => by cases e; exact hJ
        · refine g_iincL hC (n0 := 9) (j := 6) (lv' := fun x11 => [(7, .int x11), (5, .int x7), (0, .ref b), (1, .int a1), (2, .int a2), (4, .ref a4), (6, .int x3), (8, .int x5)]) dX3_wrongOf_54 rfl ic_1 (Nat.le_of_ble_eq_true rfl) hL (fun _ => rfl) (fun x11 => ?_)
          refine g_sub [2, 3, 4, 5, 1, 6, 0, 7] rfl ?_
          exact fun e => by cases e; exact hJ
      · refine g_bipush hC dX3_wrongOf_57 bc_99 ?_
        refine g_iload hC dX3_wrongOf_59 (j := 5) rfl ?_
        refine g_iload_n hC dX3_wrongOf_61 (j := 1) rfl rfl ?_
        refine g_iconst hC dX3_wrongOf_62 ic_0 ?_
        refine g_aload hC dX3_wrongOf_63 (j := 3) rfl ?_
        refine g_iload hC dX3_wrongOf_65 (j := 7) rfl ?_
        refine g_ialdV hC h_a4 rfl dX3_wrongOf_67 (fun t12 => ?_)
        refine g_iconst hC dX3_wrongOf_68 ic_4 ?_
        refine g_iremC hC dX3_wrongOf_69 nzi_4 ?_
        refine g_iload hC dX3_wrongOf_70 (j := 7) rfl ?_
        refine g_callSN_i hC hR ⟨Nat.zero_le _, Nat.zero_le _⟩ mwX8_swelling ms_X8_swelling mlX3_70 (fun _ hq => kX8_swelling  hq) (Nat.le_of_ble_eq_true rfl) rfl (st := [.int x3, .int 99]) rfl (Nat.le_of_ble_eq_true rfl) dX3_wrongOf_72 (fun q13 => ?_)
        refine g_iadd hC dX3_wrongOf_75 ?_
        refine g_mmin hC hR (Nat.le_of_ble_eq_true rfl) ⟨Nat.le_refl _, Nat.le_refl _⟩ dX3_wrongOf_76 mlX3_74 (st := []) (Nat.le_of_ble_eq_true rfl) ?_
        refine g_istoreL hC (n0 := 9) (lv' := fun x14 => [(6, .int x14), (0, .ref b), (1, .int a1), (2, .int a2), (4, .ref a4), (5, .int x7), (7, .int j10), (8, .int x5)]) dX3_wrongOf_79 (Nat.le_of_ble_eq_true rfl) hL (fun _ => rfl) (fun x14 => ?_)
        refine g_iincL hC (n0 := 9) (j := 7) (lv' := fun x15 => [(8, .int x15), (6, .int x14), (0, .ref b), (1, .int a1), (2, .int a2), (4, .ref a4), (5, .int x7), (7, .int j10)]) dX3_wrongOf_81 rfl ic_1 (Nat.le_of_ble_eq_true rfl) hL (fun _ => rfl) (fun x15 => ?_)
        refine g_goto hC dX3_wrongOf_84 ?_
        refine g_sub [2, 3, 4, 5, 6, 1, 7, 0] rfl ?_
        exact ih x7 x14 j10 x15
set_option maxHeartbeats 4000000 in
set_option maxRecDepth 100000 in
theorem kX3_wrongOf {l : Launch} {D : Dx} {G : G2} {V : V2} {R : R2} {n : Nat} {b : Nat} {a1 : Int32} {a2 : Int32} {a3 : Int32} {a4 : Nat} (hG : GX G) (h_b : own G b 13) (h_a4 : own G a4 1) {o : Int32} (hf : pX3_wrongOf n G V b a1 a2 a3 a4 = some o) : Con l yX3_wrongOf cX3_wrongOf 9 (some .int) (rmN 2 0 0) D G V R [.ref b, .int a1, .int a2, .int a3, .ref a4] (some (.int o), V, R, G, 0, 0) := by
  refine Con.mk RX3 (by decide) rfl (Nat.le_of_ble_eq_true rfl) (fun C _ hR hT _ _ hL hC hnm => ?_)
  revert hf
  unfold pX3_wrongOf
  refine g_iconst hC dX3_wrongOf_0 ic_0 ?_
  refine g_istore hC (n0 := 9) (lv' := [(5, .int 0), (0, .ref b), (1, .int a1), (2, .int a2), (3, .int a3), (4, .ref a4)]) dX3_wrongOf_1 (Nat.le_of_ble_eq_true rfl) hL rfl ?_
  refine g_iload_n hC dX3_wrongOf_3 (j := 4) rfl rfl ?_
  refine g_istore hC (n0 := 9) (lv' := [(6, .int a3), (5, .int 0), (0, .ref b), (1, .int a1), (2, .int a2), (3, .int a3), (4, .ref a4)]) dX3_wrongOf_4 (Nat.le_of_ble_eq_true rfl) hL rfl ?_
  refine g_iconst hC dX3_wrongOf_6 ic_0 ?_
  refine g_istore hC (n0 := 9) (lv' := [(7, .int 0), (6, .int a3), (5, .int 0), (0, .ref b), (1, .int a1), (2, .int a2), (3, .int a3), (4, .ref a4)]) dX3_wrongOf_7 (Nat.le_of_ble_eq_true rfl) hL rfl ?_
  refine g_iconst hC dX3_wrongOf_9 ic_0 ?_
  refine g_istore hC (n0 := 9) (lv' := [(8, .int 0), (7, .int 0), (6, .int a3), (5, .int 0), (0, .ref b), (1, .int a1), (2, .int a2), (3, .int a3), (4, .ref a4)]) dX3_wrongOf_10 (Nat.le_of_ble_eq_true rfl) hL rfl ?_
  refine g_sub [4, 5, 6, 8, 3, 2, 1, 0] rfl ?_
  refine g_bind (J := fun w16 => Go C 87 [(5, .int w16)] [] V R G 0 0) (fun w16 hJ => wX3_wrongOf_12 hC hL hG h_b h_a4 hR hJ n 0 a3 0 0) (fun w16 => ?_)
  refine g_iload hC dX3_wrongOf_87 (j := 0) rfl ?_
  exact g_iret_i hC hT dX3_wrongOf_89
def pX3_weighOne (n : Nat) (G : G2) (V : V2) (b : Nat) (a1 : Int32) (a2 : Int32) (a3 : Int32) (a4 : Nat) : Option (V2) :=
  (pX3_wrongOf n G V b a1 a2 a3 a4).bind fun q1 =>
  if q1 = 0 then (letv ((if (V b 5) = 0 then (letv (up2 V b 6 a1) fun U3 =>
  letv (up2 U3 b 7 a2) fun U4 =>
  letv (up2 U4 b 8 a3) fun U5 =>
  U5)
  else (V) : V2)) fun j2 =>
  letv (up2 j2 b 5 ((j2 b 5) + 1)) fun U6 =>
  some U6)
  else ((pJ6_bitCount_0f7a4 q1).bind fun q7 =>
  if q7 = (1 : Int32) then (letv (up2 V b 9 ((V b 9) ||| q1)) fun U8 =>
  some U8)
  else (some V))
set_option maxHeartbeats 4000000 in
set_option maxRecDepth 100000 in
theorem kX3_weighOne {l : Launch} {D : Dx} {G : G2} {V : V2} {R : R2} {n : Nat} {b : Nat} {a1 : Int32} {a2 : Int32} {a3 : Int32} {a4 : Nat} (hG : GX G) (h_b : own G b 13) (h_a4 : own G a4 1) {o : V2} (hf : pX3_weighOne n G V b a1 a2 a3 a4 = some o) : Con l yX3_weighOne cX3_weighOne 6 none (rmN 3 0 0) D G V R [.ref b, .int a1, .int a2, .int a3, .ref a4] (none, o, R, G, 0, 0) := by
  refine Con.mk RX3 (by decide) rfl (Nat.le_of_ble_eq_true rfl) (fun C _ hR hT _ _ hL hC hnm => ?_)
  revert hf
  unfold pX3_weighOne
  refine g_aload_n hC dX3_weighOne_0 (j := 0) rfl rfl ?_
  refine g_iload_n hC dX3_weighOne_1 (j := 1) rfl rfl ?_
  refine g_iload_n hC dX3_weighOne_2 (j := 2) rfl rfl ?_
  refine g_iload_n hC dX3_weighOne_3 (j := 3) rfl rfl ?_
  refine g_aload hC dX3_weighOne_4 (j := 4) rfl ?_
  refine g_callV_i hC hR ⟨Nat.zero_le _, Nat.zero_le _⟩ mwX3_wrongOf miX3_wrongOf (ci := 3) rfl h_b (Nat.le_of_ble_eq_true rfl) mlX3_53 (fun _ hq => kX3_wrongOf hG h_b h_a4 hq) (Nat.le_of_ble_eq_true rfl) rfl (st := []) rfl (Nat.le_of_ble_eq_true rfl) dX3_weighOne_6 (fun q1 => ?_)
  refine g_istore hC (n0 := 6) (lv' := [(5, .int q1), (0, .ref b), (1, .int a1), (2, .int a2), (3, .int a3), (4, .ref a4)]) dX3_weighOne_9 (Nat.le_of_ble_eq_true rfl) hL rfl ?_
  refine g_iload hC dX3_weighOne_11 (j := 0) rfl ?_
  refine g_if_ne hC dX3_weighOne_13 ?_ ?_
  · refine g_aload_n hC dX3_weighOne_16 (j := 1) rfl rfl ?_
    refine g_getI hC fi_3_5 h_b dX3_weighOne_17 flX3_28 ?_
    refine g_letJ (J := fun j2 => Go C 38 [(0, .ref b)] [] j2 R G 0 0) (fun j2 hJ => ?_) (fun j2 => ?_)
    · refine g_if_ne hC dX3_weighOne_20 ?_ ?_
      · refine g_aload_n hC dX3_weighOne_23 (j := 1) rfl rfl ?_
        refine g_iload_n hC dX3_weighOne_24 (j := 2) rfl rfl ?_
        refine g_putIL hC fp_3_6 h_b dX3_weighOne_25 flX3_31 (fun U3 => ?_)
        refine g_aload_n hC dX3_weighOne_28 (j := 1) rfl rfl ?_
        refine g_iload_n hC dX3_weighOne_29 (j := 3) rfl rfl ?_
        refine g_putIL hC fp_3_7 h_b dX3_weighOne_30 flX3_34 (fun U4 => ?_)
        refine g_aload_n hC dX3_weighOne_33 (j := 1) rfl rfl ?_
        refine g_iload_n hC dX3_weighOne_34 (j := 4) rfl rfl ?_
        refine g_putIL hC fp_3_8 h_b dX3_weighOne_35 flX3_37 (fun U5 => ?_)
        refine g_sub [1] rfl ?_
        exact fun e => by cases e; exact hJ
      · refine g_sub [1] rfl ?_
        exact fun e => by cases e; exact hJ
    · refine g_aload_n hC dX3_weighOne_38 (j := 0) rfl rfl ?_
      refine g_dup hC dX3_weighOne_39 rfl ?_
      refine g_getI hC fi_3_5 h_b dX3_weighOne_40 flX3_28 ?_
      refine g_iconst hC dX3_weighOne_43 ic_1 ?_
      refine g_iadd hC dX3_weighOne_44 ?_
      refine g_putIL hC fp_3_5 h_b dX3_weighOne_45 flX3_28 (fun U6 => ?_)
      refine g_goto hC dX3_weighOne_48 ?_
      exact g_vret_vV hC hT dX3_weighOne_71
  · refine g_iload hC dX3_weighOne_51 (j := 0) rfl ?_
    refine g_callS_i hC hR ⟨Nat.zero_le _, Nat.zero_le _⟩ mwJ6_bitCount_0f7a4 ms_J6_bitCount_0f7a4 mlX3_57 (fun _ hq => kJ6_bitCount_0f7a4  hq) (Nat.le_of_ble_eq_true rfl) rfl (st := []) rfl (Nat.le_of_ble_eq_true rfl) dX3_weighOne_53 (fun q7 => ?_)
    refine g_iconst hC dX3_weighOne_56 ic_1 ?_
    refine g_icmp_ne hC dX3_weighOne_57 ?_ ?_
    · refine g_aload_n hC dX3_weighOne_60 (j := 1) rfl rfl ?_
      refine g_dup hC dX3_weighOne_61 rfl ?_
      refine g_getI hC fi_3_9 h_b dX3_weighOne_62 flX3_40 ?_
      refine g_iload hC dX3_weighOne_65 (j := 0) rfl ?_
      refine g_ior hC dX3_weighOne_67 ?_
      refine g_putIL hC fp_3_9 h_b dX3_weighOne_68 flX3_40 (fun U8 => ?_)
      exact g_vret_vV hC hT dX3_weighOne_71
    · exact g_vret_vV hC hT dX3_weighOne_71
def lX3_weighAll_28 (n : Nat) (G : G2) (b : Nat) (a1 : Nat) (x5 : Int32) (x8 : Int32) : Nat → V2 → Int32 → Option (V2)
  | 0, _, _ => none
  | f9 + 1, U10, x11 =>
    if (81 : Int32) < x11 then (some U10)
    else ((pX3_weighOne n G U10 b x5 x8 x11 a1).bind fun q12 =>
    letv (x11 + 9) fun x13 =>
    lX3_weighAll_28 n G b a1 x5 x8 f9 q12 x13)
def lX3_weighAll_19 (n : Nat) (G : G2) (b : Nat) (a1 : Nat) (x5 : Int32) : Nat → V2 → Int32 → Option (V2)
  | 0, _, _ => none
  | f6 + 1, U7, x8 =>
    if (9 : Int32) < x8 then (some U7)
    else ((lX3_weighAll_28 n G b a1 x5 x8 n U7 0).bind fun w14 =>
    letv (x8 + 1) fun x15 =>
    lX3_weighAll_19 n G b a1 x5 f6 w14 x15)
def lX3_weighAll_12 (n : Nat) (G : G2) (b : Nat) (a1 : Nat) : Nat → V2 → Int32 → Option (V2)
  | 0, _, _ => none
  | f3 + 1, U4, x5 =>
    if (5 : Int32) < x5 then (some U4)
    else ((lX3_weighAll_19 n G b a1 x5 n U4 0).bind fun w16 =>
    letv (x5 + 1) fun x17 =>
    lX3_weighAll_12 n G b a1 f3 w16 x17)
def pX3_weighAll (n : Nat) (G : G2) (V : V2) (b : Nat) (a1 : Nat) : Option (V2) :=
  letv (up2 V b 5 0) fun U1 =>
  letv (up2 U1 b 9 0) fun U2 =>
  (lX3_weighAll_12 n G b a1 n U2 1).bind fun w18 =>
  some w18
set_option maxHeartbeats 4000000 in
set_option maxRecDepth 100000 in
theorem wX3_weighAll_28 {C : Cx} (hC : CxOK C cX3_weighAll RX3 none) (hL : C.2.2.2.2 = 5) {n : Nat} {G : G2} {R : R2} {b : Nat} {a1 : Nat} {x5 : Int32} {x8 : Int32} (hG : GX G) (h_b : own G b 13) (h_a1 : own G a1 1) (hR : C.1.2.2.2.1 = rmN 4 0 0) {o : V2} (hX : Go C 50 [(0, .ref b), (1, .ref a1), (2, .int x5), (3, .int x8)] [] o R G 0 0) : ∀ (f : Nat) (U10 : V2) (x11 : Int32), lX3_weighAll_28 n G b a1 x5 x8 f U10 x11 = some o → Go C 28 [(0, .ref b), (1, .ref a1), (2, .int x5), (3, .int x8), (4, .int x11)] [] U10 R G 0 0 := by
  intro f
  induction f with
  | zero => intro _ _ hf; exact absurd hf (by unfold lX3_weighAll_28; exact fun z => nomatch z)
  | succ f9 ih =>
    intro U10 x11
    unfold lX3_weighAll_28
    refine g_iload hC dX3_weighAll_28 (j := 4) rfl ?_
    refine g_bipush hC dX3_weighAll_30 bc_81 ?_
    refine g_icmp_gt hC dX3_weighAll_32 ?_ ?_
    · refine g_sub [0, 1, 2, 3] rfl ?_
      exact fun e => by cases e; exact hX
    · refine g_aload_n hC dX3_weighAll_35 (j := 0) rfl rfl ?_
      refine g_iload_n hC dX3_weighAll_36 (j := 2) rfl rfl ?_
      refine g_iload_n hC dX3_weighAll_37 (j := 3) rfl rfl ?_
      refine g_iload hC dX3_weighAll_38 (j := 4) rfl ?_
      refine g_aload_n hC dX3_weighAll_40 (j := 1) rfl rfl ?_
      refine g_callV_vV hC hR ⟨Nat.zero_le _, Nat.zero_le _⟩ mwX3_weighOne miX3_weighOne (ci := 3) rfl h_b (Nat.le_of_ble_eq_true rfl) mlX3_49 (fun _ hq => kX3_weighOne hG h_b h_a1 hq) (Nat.le_of_ble_eq_true rfl) rfl (st := []) rfl (Nat.le_of_ble_eq_true rfl) dX3_weighAll_41 (fun q12 => ?_)
      refine g_iincL hC (n0 := 5) (j := 4) (lv' := fun x13 => [(4, .int x13), (0, .ref b), (1, .ref a1), (2, .int x5), (3, .int x8)]) dX3_weighAll_44 rfl ic_9 (Nat.le_of_ble_eq_true rfl) hL (fun _ => rfl) (fun x13 => ?_)
      refine g_goto hC dX3_weighAll_47 ?_
      refine g_sub [1, 2, 3, 4, 0] rfl ?_
      exact ih q12 x13
set_option maxHeartbeats 4000000 in
set_option maxRecDepth 100000 in
theorem wX3_weighAll_19 {C : Cx} (hC : CxOK C cX3_weighAll RX3 none) (hL : C.2.2.2.2 = 5) {n : Nat} {G : G2} {R : R2} {b : Nat} {a1 : Nat} {x5 : Int32} (hG : GX G) (h_b : own G b 13) (h_a1 : own G a1 1) (hR : C.1.2.2.2.1 = rmN 4 0 0) {o : V2} (hX : Go C 56 [(0, .ref b), (1, .ref a1), (2, .int x5)] [] o R G 0 0) : ∀ (f : Nat) (U7 : V2) (x8 : Int32), lX3_weighAll_19 n G b a1 x5 f U7 x8 = some o → Go C 19 [(0, .ref b), (1, .ref a1), (2, .int x5), (3, .int x8)] [] U7 R G 0 0 := by
  intro f
  induction f with
  | zero => intro _ _ hf; exact absurd hf (by unfold lX3_weighAll_19; exact fun z => nomatch z)
  | succ f6 ih =>
    intro U7 x8
    unfold lX3_weighAll_19
    refine g_iload_n hC dX3_weighAll_19 (j := 3) rfl rfl ?_
    refine g_bipush hC dX3_weighAll_20 bc_9 ?_
    refine g_icmp_gt hC dX3_weighAll_22 ?_ ?_
    · refine g_sub [0, 1, 2] rfl ?_
      exact fun e => by cases e; exact hX
    · refine g_iconst hC dX3_weighAll_25 ic_0 ?_
      refine g_istore hC (n0 := 5) (lv' := [(4, .int 0), (0, .ref b), (1, .ref a1), (2, .int x5), (3, .int x8)]) dX3_weighAll_26 (Nat.le_of_ble_eq_true rfl) hL rfl ?_
      refine g_sub [1, 2, 3, 4, 0] rfl ?_
      refine g_bind (J := fun w14 => Go C 50 [(0, .ref b), (1, .ref a1), (2, .int x5), (3, .int x8)] [] w14 R G 0 0) (fun w14 hJ => wX3_weighAll_28 hC hL hG h_b h_a1 hR hJ n U7 0) (fun w14 => ?_)
      refine g_iincL hC (n0 := 5) (j := 3) (lv' := fun x15 => [(3, .int x15), (0, .ref b), (1, .ref a1), (2, .int x5)]) dX3_weighAll_50 rfl ic_1 (Nat.le_of_ble_eq_true rfl) hL (fun _ => rfl) (fun x15 => ?_)
      refine g_goto hC dX3_weighAll_53 ?_
      refine g_sub [1, 2, 3, 0] rfl ?_
      exact ih w14 x15
set_option maxHeartbeats 4000000 in
set_option maxRecDepth 100000 in
theorem wX3_weighAll_12 {C : Cx} (hC : CxOK C cX3_weighAll RX3 none) (hL : C.2.2.2.2 = 5) {n : Nat} {G : G2} {R : R2} {b : Nat} {a1 : Nat} (hG : GX G) (h_b : own G b 13) (h_a1 : own G a1 1) (hR : C.1.2.2.2.1 = rmN 4 0 0) {o : V2} (hX : Go C 62 [] [] o R G 0 0) : ∀ (f : Nat) (U4 : V2) (x5 : Int32), lX3_weighAll_12 n G b a1 f U4 x5 = some o → Go C 12 [(0, .ref b), (1, .ref a1), (2, .int x5)] [] U4 R G 0 0 := by
  intro f
  induction f with
  | zero => intro _ _ hf; exact absurd hf (by unfold lX3_weighAll_12; exact fun z => nomatch z)
  | succ f3 ih =>
    intro U4 x5
    unfold lX3_weighAll_12
    refine g_iload_n hC dX3_weighAll_12 (j := 2) rfl rfl ?_
    refine g_iconst hC dX3_weighAll_13 ic_5 ?_
    refine g_icmp_gt hC dX3_weighAll_14 ?_ ?_
    · refine g_sub [] rfl ?_
      exact fun e => by cases e; exact hX
    · refine g_iconst hC dX3_weighAll_17 ic_0 ?_
      refine g_istore_n hC (n0 := 5) (lv' := [(3, .int 0), (0, .ref b), (1, .ref a1), (2, .int x5)]) dX3_weighAll_18 rfl (Nat.le_of_ble_eq_true rfl) hL rfl ?_
      refine g_sub [1, 2, 3, 0] rfl ?_
      refine g_bind (J := fun w16 => Go C 56 [(0, .ref b), (1, .ref a1), (2, .int x5)] [] w16 R G 0 0) (fun w16 hJ => wX3_weighAll_19 hC hL hG h_b h_a1 hR hJ n U4 0) (fun w16 => ?_)
      refine g_iincL hC (n0 := 5) (j := 2) (lv' := fun x17 => [(2, .int x17), (0, .ref b), (1, .ref a1)]) dX3_weighAll_56 rfl ic_1 (Nat.le_of_ble_eq_true rfl) hL (fun _ => rfl) (fun x17 => ?_)
      refine g_goto hC dX3_weighAll_59 ?_
      refine g_sub [1, 2, 0] rfl ?_
      exact ih w16 x17
set_option maxHeartbeats 4000000 in
set_option maxRecDepth 100000 in
theorem kX3_weighAll {l : Launch} {D : Dx} {G : G2} {V : V2} {R : R2} {n : Nat} {b : Nat} {a1 : Nat} (hG : GX G) (h_b : own G b 13) (h_a1 : own G a1 1) {o : V2} (hf : pX3_weighAll n G V b a1 = some o) : Con l yX3_weighAll cX3_weighAll 5 none (rmN 4 0 0) D G V R [.ref b, .ref a1] (none, o, R, G, 0, 0) := by
  refine Con.mk RX3 (by decide) rfl (Nat.le_of_ble_eq_true rfl) (fun C _ hR hT _ _ hL hC hnm => ?_)
  revert hf
  unfold pX3_weighAll
  refine g_aload_n hC dX3_weighAll_0 (j := 0) rfl rfl ?_
  refine g_iconst hC dX3_weighAll_1 ic_0 ?_
  refine g_putIL hC fp_3_5 h_b dX3_weighAll_2 flX3_28 (fun U1 => ?_)
  refine g_aload_n hC dX3_weighAll_5 (j := 0) rfl rfl ?_
  refine g_iconst hC dX3_weighAll_6 ic_0 ?_
  refine g_putIL hC fp_3_9 h_b dX3_weighAll_7 flX3_40 (fun U2 => ?_)
  refine g_iconst hC dX3_weighAll_10 ic_1 ?_
  refine g_istore_n hC (n0 := 5) (lv' := [(2, .int 1), (0, .ref b), (1, .ref a1)]) dX3_weighAll_11 rfl (Nat.le_of_ble_eq_true rfl) hL rfl ?_
  refine g_sub [1, 2, 0] rfl ?_
  refine g_bind (J := fun w18 => Go C 62 [] [] w18 R G 0 0) (fun w18 hJ => wX3_weighAll_12 hC hL hG h_b h_a1 hR hJ n U2 1) (fun w18 => ?_)
  exact g_vret_vV hC hT dX3_weighAll_62
def pX8_lone (n : Nat) (G : G2) (V : V2) (b : Nat) (a1 : Int32) : Option (Int32 × V2) :=
  (pX8_within a1 0 3).bind fun q1 =>
  if q1 = 0 then (some ((-1), V))
  else ((pX3_weighAll n G V (b + 11) (b + 7)).bind fun q2 =>
  if a1 = 0 then (some (q2 (b + 11) 5, q2))
  else (if (q2 (b + 11) 5) = 0 then (some ((-3), q2))
  else (if a1 = 1 then (some (q2 (b + 11) 6, q2))
  else (if a1 = 2 then (some (q2 (b + 11) 7, q2))
  else (some (q2 (b + 11) 8, q2))))))
set_option maxHeartbeats 4000000 in
set_option maxRecDepth 100000 in
theorem kX8_lone {l : Launch} {D : Dx} {G : G2} {V : V2} {R : R2} {n : Nat} {b : Nat} {a1 : Int32} (hG : GX G) (h_b : own G b 18) {o : Int32 × V2} (hf : pX8_lone n G V b a1 = some o) : Con l yX8_lone cX8_lone 3 (some .int) (rmN 5 0 0) D G V R [.ref b, .int a1] (some (.int o.1), o.2, R, G, 0, 0) := by
  refine Con.mk RX8 (by decide) rfl (Nat.le_of_ble_eq_true rfl) (fun C _ hR hT _ _ hL hC hnm => ?_)
  revert hf
  unfold pX8_lone
  refine g_iload_n hC dX8_lone_0 (j := 1) rfl rfl ?_
  refine g_iconst hC dX8_lone_1 ic_0 ?_
  refine g_iconst hC dX8_lone_2 ic_3 ?_
  refine g_callS_i hC hR ⟨Nat.zero_le _, Nat.zero_le _⟩ mwX8_within ms_X8_within mlX8_77 (fun _ hq => kX8_within  hq) (Nat.le_of_ble_eq_true rfl) rfl (st := []) rfl (Nat.le_of_ble_eq_true rfl) dX8_lone_3 (fun q1 => ?_)
  refine g_if_ne hC dX8_lone_6 ?_ ?_
  · refine g_iconst hC dX8_lone_9 ic_m1 ?_
    exact g_iret_iV hC hT dX8_lone_10
  · refine g_aload_n hC dX8_lone_11 (j := 0) rfl rfl ?_
    refine g_getR hC fr_8_0 h_b (b := b + 1) rfl dX8_lone_12 flX8_10 ?_
    refine g_getR hC fr_1_9 (gx_8_0 hG h_b) (b := b + 11) rfl dX8_lone_15 flX8_261 ?_
    refine g_astore_n hC (n0 := 3) (lv' := [(2, .ref (b + 11)), (0, .ref b), (1, .int a1)]) dX8_lone_18 rfl (Nat.le_of_ble_eq_true rfl) hL rfl ?_
    refine g_aload_n hC dX8_lone_19 (j := 0) rfl rfl ?_
    refine g_aload_n hC dX8_lone_20 (j := 1) rfl rfl ?_
    refine g_getR hC fr_8_0 h_b (b := b + 1) rfl dX8_lone_21 flX8_10 ?_
    refine g_getR hC fr_1_4 (gx_8_0 hG h_b) (b := b + 7) rfl dX8_lone_24 flX8_139 ?_
    refine g_callV_vV hC hR ⟨Nat.zero_le _, Nat.zero_le _⟩ mwX3_weighAll miX3_weighAll (ci := 3) rfl (gx_1_9 hG (gx_8_0 hG h_b)) (Nat.le_of_ble_eq_true rfl) mlX8_272 (fun _ hq => kX3_weighAll hG (gx_1_9 hG (gx_8_0 hG h_b)) (gx_1_4 hG (gx_8_0 hG h_b)) hq) (Nat.le_of_ble_eq_true rfl) rfl (st := []) rfl (Nat.le_of_ble_eq_true rfl) dX8_lone_27 (fun q2 => ?_)
    refine g_iload_n hC dX8_lone_30 (j := 2) rfl rfl ?_
    refine g_if_ne hC dX8_lone_31 ?_ ?_
    · refine g_aload_n hC dX8_lone_34 (j := 0) rfl rfl ?_
      refine g_getI hC fi_3_5 (gx_1_9 hG (gx_8_0 hG h_b)) dX8_lone_35 flX8_276 ?_
      exact g_iret_iV hC hT dX8_lone_38
    · refine g_aload_n hC dX8_lone_39 (j := 0) rfl rfl ?_
      refine g_getI hC fi_3_5 (gx_1_9 hG (gx_8_0 hG h_b)) dX8_lone_40 flX8_276 ?_
      refine g_if_ne hC dX8_lone_43 ?_ ?_
      · refine g_bipush hC dX8_lone_46 bc_m3 ?_
        exact g_iret_iV hC hT dX8_lone_48
      · refine g_iload_n hC dX8_lone_49 (j := 2) rfl rfl ?_
        refine g_lsw hC 1 (26) (tgt := 76) dX8_lone_50 (by decide) (by decide) rfl ?_ (fun hn3 => ?_)
        · refine g_aload_n hC dX8_lone_76 (j := 0) rfl rfl ?_
          refine g_getI hC fi_3_6 (gx_1_9 hG (gx_8_0 hG h_b)) dX8_lone_77 flX8_279 ?_
          exact g_iret_iV hC hT dX8_lone_80
        refine g_lsw hC 2 (31) (tgt := 81) dX8_lone_50 (by decide) (by decide) rfl ?_ (fun hn4 => ?_)
        · refine g_aload_n hC dX8_lone_81 (j := 0) rfl rfl ?_
          refine g_getI hC fi_3_7 (gx_1_9 hG (gx_8_0 hG h_b)) dX8_lone_82 flX8_282 ?_
          exact g_iret_iV hC hT dX8_lone_85
        refine g_lswd hC (tgt := 86) dX8_lone_50 (by decide) (by rw [lv_osw hn3 (by decide)]; rw [lv_osw hn4 (by decide)]; rfl) rfl ?_
        refine g_aload_n hC dX8_lone_86 (j := 0) rfl rfl ?_
        refine g_getI hC fi_3_8 (gx_1_9 hG (gx_8_0 hG h_b)) dX8_lone_87 flX8_285 ?_
        exact g_iret_iV hC hT dX8_lone_90
def pX8_liar (n : Nat) (G : G2) (V : V2) (b : Nat) : Option (Int32 × V2) :=
  (pX3_weighAll n G V (b + 11) (b + 7)).bind fun q1 =>
  if 0 < (q1 (b + 11) 5) then (some ((-3), q1))
  else (if (q1 (b + 11) 9) = 0 then (some ((-3), q1))
  else ((pJ6_numberOfTrailingZeros_0f7a4 (q1 (b + 11) 9)).bind fun q2 =>
  some (q2, q1)))
set_option maxHeartbeats 4000000 in
set_option maxRecDepth 100000 in
theorem kX8_liar {l : Launch} {D : Dx} {G : G2} {V : V2} {R : R2} {n : Nat} {b : Nat} (hG : GX G) (h_b : own G b 18) {o : Int32 × V2} (hf : pX8_liar n G V b = some o) : Con l yX8_liar cX8_liar 2 (some .int) (rmN 5 0 0) D G V R [.ref b] (some (.int o.1), o.2, R, G, 0, 0) := by
  refine Con.mk RX8 (by decide) rfl (Nat.le_of_ble_eq_true rfl) (fun C _ hR hT _ _ hL hC hnm => ?_)
  revert hf
  unfold pX8_liar
  refine g_aload_n hC dX8_liar_0 (j := 0) rfl rfl ?_
  refine g_getR hC fr_8_0 h_b (b := b + 1) rfl dX8_liar_1 flX8_10 ?_
  refine g_getR hC fr_1_9 (gx_8_0 hG h_b) (b := b + 11) rfl dX8_liar_4 flX8_261 ?_
  refine g_astore_n hC (n0 := 2) (lv' := [(1, .ref (b + 11)), (0, .ref b)]) dX8_liar_7 rfl (Nat.le_of_ble_eq_true rfl) hL rfl ?_
  refine g_aload_n hC dX8_liar_8 (j := 0) rfl rfl ?_
  refine g_aload_n hC dX8_liar_9 (j := 1) rfl rfl ?_
  refine g_getR hC fr_8_0 h_b (b := b + 1) rfl dX8_liar_10 flX8_10 ?_
  refine g_getR hC fr_1_4 (gx_8_0 hG h_b) (b := b + 7) rfl dX8_liar_13 flX8_139 ?_
  refine g_callV_vV hC hR ⟨Nat.zero_le _, Nat.zero_le _⟩ mwX3_weighAll miX3_weighAll (ci := 3) rfl (gx_1_9 hG (gx_8_0 hG h_b)) (Nat.le_of_ble_eq_true rfl) mlX8_272 (fun _ hq => kX3_weighAll hG (gx_1_9 hG (gx_8_0 hG h_b)) (gx_1_4 hG (gx_8_0 hG h_b)) hq) (Nat.le_of_ble_eq_true rfl) rfl (st := []) rfl (Nat.le_of_ble_eq_true rfl) dX8_liar_16 (fun q1 => ?_)
  refine g_aload_n hC dX8_liar_19 (j := 0) rfl rfl ?_
  refine g_getI hC fi_3_5 (gx_1_9 hG (gx_8_0 hG h_b)) dX8_liar_20 flX8_276 ?_
  refine g_if_gt hC dX8_liar_23 ?_ ?_
  · refine g_bipush hC dX8_liar_33 bc_m3 ?_
    exact g_iret_iV hC hT dX8_liar_35
  · refine g_aload_n hC dX8_liar_26 (j := 0) rfl rfl ?_
    refine g_getI hC fi_3_9 (gx_1_9 hG (gx_8_0 hG h_b)) dX8_liar_27 flX8_288 ?_
    refine g_if_ne hC dX8_liar_30 ?_ ?_
    · refine g_bipush hC dX8_liar_33 bc_m3 ?_
      exact g_iret_iV hC hT dX8_liar_35
    · refine g_aload_n hC dX8_liar_36 (j := 0) rfl rfl ?_
      refine g_getI hC fi_3_9 (gx_1_9 hG (gx_8_0 hG h_b)) dX8_liar_37 flX8_288 ?_
      refine g_callS_i hC hR ⟨Nat.zero_le _, Nat.zero_le _⟩ mwJ6_numberOfTrailingZeros_0f7a4 ms_J6_numberOfTrailingZeros_0f7a4 mlX8_249 (fun _ hq => kJ6_numberOfTrailingZeros_0f7a4  hq) (Nat.le_of_ble_eq_true rfl) rfl (st := []) rfl (Nat.le_of_ble_eq_true rfl) dX8_liar_40 (fun q2 => ?_)
      exact g_iret_iV hC hT dX8_liar_43
def pX8_seed (V : V2) (b : Nat) (a1 : Int32) : Option (Int32 × V2) :=
  letv (V (b + 1) 3) fun x1 =>
  letv (up2 V (b + 1) 3 a1) fun U2 =>
  some (x1, U2)
set_option maxHeartbeats 4000000 in
set_option maxRecDepth 100000 in
theorem kX8_seed {l : Launch} {D : Dx} {G : G2} {V : V2} {R : R2} {b : Nat} {a1 : Int32} (hG : GX G) (h_b : own G b 18) {o : Int32 × V2} (hf : pX8_seed V b a1 = some o) : Con l yX8_seed cX8_seed 3 (some .int) (rmN 0 0 0) D G V R [.ref b, .int a1] (some (.int o.1), o.2, R, G, 0, 0) := by
  refine Con.mk RX8 (by decide) rfl (Nat.le_of_ble_eq_true rfl) (fun C _ hR hT _ _ hL hC hnm => ?_)
  revert hf
  unfold pX8_seed
  refine g_aload_n hC dX8_seed_0 (j := 0) rfl rfl ?_
  refine g_getR hC fr_8_0 h_b (b := b + 1) rfl dX8_seed_1 flX8_10 ?_
  refine g_getI hC fi_1_3 (gx_8_0 hG h_b) dX8_seed_4 flX8_291 ?_
  refine g_istore_nL hC (n0 := 3) (lv' := fun x1 => [(2, .int x1), (0, .ref b), (1, .int a1)]) dX8_seed_7 rfl (Nat.le_of_ble_eq_true rfl) hL (fun _ => rfl) (fun x1 => ?_)
  refine g_aload_n hC dX8_seed_8 (j := 1) rfl rfl ?_
  refine g_getR hC fr_8_0 h_b (b := b + 1) rfl dX8_seed_9 flX8_10 ?_
  refine g_iload_n hC dX8_seed_12 (j := 2) rfl rfl ?_
  refine g_putIL hC fp_1_3 (gx_8_0 hG h_b) dX8_seed_13 flX8_291 (fun U2 => ?_)
  refine g_iload_n hC dX8_seed_16 (j := 0) rfl rfl ?_
  exact g_iret_iV hC hT dX8_seed_17
def pX8_nextLot (a1 : Int32) : Option (Int32) :=
  some ((a1 * 1103515245) + 12345)
set_option maxHeartbeats 4000000 in
set_option maxRecDepth 100000 in
theorem kX8_nextLot {l : Launch} {D : Dx} {G : G2} {V : V2} {R : R2} {a1 : Int32}  {o : Int32} (hf : pX8_nextLot a1 = some o) : Con l yX8_nextLot cX8_nextLot 1 (some .int) (rmN 0 0 0) D G V R [.int a1] (some (.int o), V, R, G, 0, 0) := by
  refine Con.mk RX8 (by decide) rfl (Nat.le_of_ble_eq_true rfl) (fun C _ hR hT _ _ hL hC hnm => ?_)
  revert hf
  unfold pX8_nextLot
  refine g_iload_n hC dX8_nextLot_0 (j := 0) rfl rfl ?_
  refine g_ldcw hC dX8_nextLot_1 clX8_357 ?_
  refine g_imul hC dX8_nextLot_4 ?_
  refine g_sipush hC dX8_nextLot_5 sc_12345 ?_
  refine g_iadd hC dX8_nextLot_8 ?_
  exact g_iret_i hC hT dX8_nextLot_9
def pX8_drawn (a1 : Int32) (a2 : Int32) : Option (Int32) :=
  if 0 ≤ a2 then ((rmI (jushr a1 16) (a2 + 1)).bind fun t1 =>
  some t1)
  else (some 0)
set_option maxHeartbeats 4000000 in
set_option maxRecDepth 100000 in
theorem kX8_drawn {l : Launch} {D : Dx} {G : G2} {V : V2} {R : R2} {a1 : Int32} {a2 : Int32}  {o : Int32} (hf : pX8_drawn a1 a2 = some o) : Con l yX8_drawn cX8_drawn 2 (some .int) (rmN 0 0 0) D G V R [.int a1, .int a2] (some (.int o), V, R, G, 0, 0) := by
  refine Con.mk RX8 (by decide) rfl (Nat.le_of_ble_eq_true rfl) (fun C _ hR hT _ _ hL hC hnm => ?_)
  revert hf
  unfold pX8_drawn
  refine g_iload_n hC dX8_drawn_0 (j := 1) rfl rfl ?_
  refine g_if_ge hC dX8_drawn_1 ?_ ?_
  · refine g_iload_n hC dX8_drawn_8 (j := 0) rfl rfl ?_
    refine g_bipush hC dX8_drawn_9 bc_16 ?_
    refine g_iushr hC dX8_drawn_11 ?_
    refine g_iload_n hC dX8_drawn_12 (j := 1) rfl rfl ?_
    refine g_iconst hC dX8_drawn_13 ic_1 ?_
    refine g_iadd hC dX8_drawn_14 ?_
    refine g_rmI hC dX8_drawn_15 (fun t1 => ?_)
    exact g_iret_i hC hT dX8_drawn_16
  · refine g_iconst hC dX8_drawn_4 ic_0 ?_
    refine g_goto hC dX8_drawn_5 ?_
    exact g_iret_i hC hT dX8_drawn_16
def pX8_lot (n : Nat) (G : G2) (V : V2) (R : R2) (b : Nat) : Option (Int32 × V2) :=
  (pX1_isOver V (b + 1) (b + 2)).bind fun q1 =>
  if q1 = 0 then ((pX8_nextLot (V (b + 1) 3)).bind fun q2 =>
  letv (up2 V (b + 1) 3 q2) fun U3 =>
  (pX8_drawn (U3 (b + 1) 3) (U3 (b + 2) 1)).bind fun q4 =>
  (pX8_goByNow n G U3 R b q4).bind fun q5 =>
  some (q5.1, q5.2))
  else (some ((-4), V))
set_option maxHeartbeats 4000000 in
set_option maxRecDepth 100000 in
theorem kX8_lot {l : Launch} {D : Dx} {G : G2} {V : V2} {R : R2} {n : Nat} {b : Nat} (hG : GX G) (h_b : own G b 18) {o : Int32 × V2} (hf : pX8_lot n G V R b = some o) : Con l yX8_lot cX8_lot 1 (some .int) (rmN 6 0 0) D G V R [.ref b] (some (.int o.1), o.2, R, G, 0, 0) := by
  refine Con.mk RX8 (by decide) rfl (Nat.le_of_ble_eq_true rfl) (fun C _ hR hT _ _ hL hC hnm => ?_)
  revert hf
  unfold pX8_lot
  refine g_aload_n hC dX8_lot_0 (j := 0) rfl rfl ?_
  refine g_getR hC fr_8_0 h_b (b := b + 1) rfl dX8_lot_1 flX8_10 ?_
  refine g_aload_n hC dX8_lot_4 (j := 0) rfl rfl ?_
  refine g_getR hC fr_8_0 h_b (b := b + 1) rfl dX8_lot_5 flX8_10 ?_
  refine g_getR hC fr_1_0 (gx_8_0 hG h_b) (b := b + 2) rfl dX8_lot_8 flX8_81 ?_
  refine g_callV_i hC hR ⟨Nat.zero_le _, Nat.zero_le _⟩ mwX1_isOver miX1_isOver (ci := 1) rfl (gx_8_0 hG h_b) (Nat.le_of_ble_eq_true rfl) mlX8_160 (fun _ hq => kX1_isOver hG (gx_8_0 hG h_b) (gx_1_0 hG (gx_8_0 hG h_b)) hq) (Nat.le_of_ble_eq_true rfl) rfl (st := []) rfl (Nat.le_of_ble_eq_true rfl) dX8_lot_11 (fun q1 => ?_)
  refine g_if_eq hC dX8_lot_14 ?_ ?_
  · refine g_aload_n hC dX8_lot_20 (j := 0) rfl rfl ?_
    refine g_getR hC fr_8_0 h_b (b := b + 1) rfl dX8_lot_21 flX8_10 ?_
    refine g_aload_n hC dX8_lot_24 (j := 0) rfl rfl ?_
    refine g_getR hC fr_8_0 h_b (b := b + 1) rfl dX8_lot_25 flX8_10 ?_
    refine g_getI hC fi_1_3 (gx_8_0 hG h_b) dX8_lot_28 flX8_291 ?_
    refine g_callS_i hC hR ⟨Nat.zero_le _, Nat.zero_le _⟩ mwX8_nextLot ms_X8_nextLot mlX8_294 (fun _ hq => kX8_nextLot  hq) (Nat.le_of_ble_eq_true rfl) rfl (st := [.ref (b + 1)]) rfl (Nat.le_of_ble_eq_true rfl) dX8_lot_31 (fun q2 => ?_)
    refine g_putIL hC fp_1_3 (gx_8_0 hG h_b) dX8_lot_34 flX8_291 (fun U3 => ?_)
    refine g_aload_n hC dX8_lot_37 (j := 0) rfl rfl ?_
    refine g_aload_n hC dX8_lot_38 (j := 0) rfl rfl ?_
    refine g_getR hC fr_8_0 h_b (b := b + 1) rfl dX8_lot_39 flX8_10 ?_
    refine g_getI hC fi_1_3 (gx_8_0 hG h_b) dX8_lot_42 flX8_291 ?_
    refine g_aload_n hC dX8_lot_45 (j := 0) rfl rfl ?_
    refine g_getR hC fr_8_0 h_b (b := b + 1) rfl dX8_lot_46 flX8_10 ?_
    refine g_getR hC fr_1_0 (gx_8_0 hG h_b) (b := b + 2) rfl dX8_lot_49 flX8_81 ?_
    refine g_getI hC fi_2_1 (gx_1_0 hG (gx_8_0 hG h_b)) dX8_lot_52 flX8_84 ?_
    refine g_callS_i hC hR ⟨Nat.zero_le _, Nat.zero_le _⟩ mwX8_drawn ms_X8_drawn mlX8_297 (fun _ hq => kX8_drawn  hq) (Nat.le_of_ble_eq_true rfl) rfl (st := [.ref b]) rfl (Nat.le_of_ble_eq_true rfl) dX8_lot_55 (fun q4 => ?_)
    refine g_callV_iV hC hR ⟨Nat.zero_le _, Nat.zero_le _⟩ mwX8_goByNow miX8_goByNow (ci := 8) rfl h_b (Nat.le_of_ble_eq_true rfl) mlX8_207 (fun _ hq => kX8_goByNow hG h_b hq) (Nat.le_of_ble_eq_true rfl) rfl (st := []) rfl (Nat.le_of_ble_eq_true rfl) dX8_lot_58 (fun q5 => ?_)
    exact g_iret_iV hC hT dX8_lot_61
  · refine g_bipush hC dX8_lot_17 bc_m4 ?_
    exact g_iret_iV hC hT dX8_lot_19
def lX8_times_63 (n : Nat) (G : G2) (R : R2) (b : Nat) : Nat → V2 → Int32 → Int32 → Int32 → Option (V2 × Int32 × Int32)
  | 0, _, _, _, _ => none
  | f10 + 1, U11, x12, x13, x14 =>
    if (16 : Int32) ≤ x14 then (some (U11, x12, x13))
    else ((pX1_isOver U11 (b + 1) (b + 31)).bind fun q15 =>
    if q15 = 0 then ((pX8_nextLot x12).bind fun q16 =>
    (pX8_drawn q16 (U11 (b + 31) 1)).bind fun q17 =>
    (pX1_goBy n G U11 R (b + 1) (b + 31) q17).bind fun q18 =>
    letv (x13 + q18.1) fun x19 =>
    letv (x14 + 1) fun x20 =>
    lX8_times_63 n G R b f10 q18.2 q16 x19 x20)
    else (some (U11, x12, x13)))
def lX8_times_37 (n : Nat) (G : G2) (R : R2) (b : Nat) (a1 : Int32) (a2 : Int32) : Nat → V2 → Int32 → Int32 → Int32 → Option (V2 × Int32)
  | 0, _, _, _, _ => none
  | f4 + 1, U5, x6, x7, x8 =>
    if a1 ≤ x8 then (some (U5, x7))
    else ((pX2_copy U5 (b + 31) (b + 2)).bind fun q9 =>
    (lX8_times_63 n G R b n q9 x6 0 0).bind fun w21 =>
    if w21.2.2 < a2 then (letv (x8 + 1) fun x22 =>
    lX8_times_37 n G R b a1 a2 f4 w21.1 w21.2.1 x7 x22)
    else (letv (x7 + 1) fun x23 =>
    letv (x8 + 1) fun x24 =>
    lX8_times_37 n G R b a1 a2 f4 w21.1 w21.2.1 x23 x24))
def pX8_times (n : Nat) (G : G2) (V : V2) (R : R2) (b : Nat) (a1 : Int32) (a2 : Int32) : Option (Int32 × V2) :=
  (pX8_within a1 1 40).bind fun q1 =>
  if q1 = 0 then (some ((-1), V))
  else ((pX8_within a2 0 999).bind fun q2 =>
  if q2 = 0 then (some ((-1), V))
  else (letv (V (b + 1) 3) fun x3 =>
  (lX8_times_37 n G R b a1 a2 n V x3 0 0).bind fun w25 =>
  some (w25.2, w25.1)))
set_option maxHeartbeats 4000000 in
set_option maxRecDepth 100000 in
theorem wX8_times_63 {C : Cx} (hC : CxOK C cX8_times RX8 (some .int)) (hL : C.2.2.2.2 = 8) {n : Nat} {G : G2} {R : R2} {b : Nat} {a1 : Int32} {a2 : Int32} {x7 : Int32} {x8 : Int32} (hG : GX G) (h_b : own G b 18) (hR : C.1.2.2.2.1 = rmN 5 0 0) {o : V2 × Int32 × Int32} (hX : Go C 122 [(0, .ref b), (1, .int a1), (2, .int a2), (3, .int o.2.1), (4, .int x7), (5, .int x8), (6, .int o.2.2)] [] o.1 R G 0 0) : ∀ (f : Nat) (U11 : V2) (x12 : Int32) (x13 : Int32) (x14 : Int32), lX8_times_63 n G R b f U11 x12 x13 x14 = some o → Go C 63 [(0, .ref b), (1, .int a1), (2, .int a2), (3, .int x12), (4, .int x7), (5, .int x8), (6, .int x13), (7, .int x14)] [] U11 R G 0 0 := by
  intro f
  induction f with
  | zero => intro _ _ _ _ hf; exact absurd hf (by unfold lX8_times_63; exact fun z => nomatch z)
  | succ f10 ih =>
    intro U11 x12 x13 x14
    unfold lX8_times_63
    refine g_iload hC dX8_times_63 (j := 7) rfl ?_
    refine g_bipush hC dX8_times_65 bc_16 ?_
    refine g_icmp_ge hC dX8_times_67 ?_ ?_
    · refine g_sub [0, 1, 2, 3, 4, 5, 6] rfl ?_
      exact fun e => by cases e; exact hX
    · refine g_aload_n hC dX8_times_70 (j := 0) rfl rfl ?_
      refine g_getR hC fr_8_0 h_b (b := b + 1) rfl dX8_times_71 flX8_10 ?_
      refine g_aload_n hC dX8_times_74 (j := 0) rfl rfl ?_
      refine g_getR hC fr_8_3 h_b (b := b + 31) rfl dX8_times_75 flX8_26 ?_
      refine g_callV_i hC hR ⟨Nat.zero_le _, Nat.zero_le _⟩ mwX1_isOver miX1_isOver (ci := 1) rfl (gx_8_0 hG h_b) (Nat.le_of_ble_eq_true rfl) mlX8_160 (fun _ hq => kX1_isOver hG (gx_8_0 hG h_b) (gx_8_3 hG h_b) hq) (Nat.le_of_ble_eq_true rfl) rfl (st := []) rfl (Nat.le_of_ble_eq_true rfl) dX8_times_78 (fun q15 => ?_)
      refine g_if_ne hC dX8_times_81 ?_ ?_
      · refine g_iload_n hC dX8_times_84 (j := 3) rfl rfl ?_
        refine g_callS_i hC hR ⟨Nat.zero_le _, Nat.zero_le _⟩ mwX8_nextLot ms_X8_nextLot mlX8_294 (fun _ hq => kX8_nextLot  hq) (Nat.le_of_ble_eq_true rfl) rfl (st := []) rfl (Nat.le_of_ble_eq_true rfl) dX8_times_85 (fun q16 => ?_)
        refine g_istore_n hC (n0 := 8) (lv' := [(3, .int q16), (0, .ref b), (1, .int a1), (2, .int a2), (4, .int x7), (5, .int x8), (6, .int x13), (7, .int x14)]) dX8_times_88 rfl (Nat.le_of_ble_eq_true rfl) hL rfl ?_
        refine g_iload hC dX8_times_89 (j := 6) rfl ?_
        refine g_aload_n hC dX8_times_91 (j := 1) rfl rfl ?_
        refine g_getR hC fr_8_0 h_b (b := b + 1) rfl dX8_times_92 flX8_10 ?_
        refine g_aload_n hC dX8_times_95 (j := 1) rfl rfl ?_
        refine g_getR hC fr_8_3 h_b (b := b + 31) rfl dX8_times_96 flX8_26 ?_
        refine g_iload_n hC dX8_times_99 (j := 0) rfl rfl ?_
        refine g_aload_n hC dX8_times_100 (j := 1) rfl rfl ?_
        refine g_getR hC fr_8_3 h_b (b := b + 31) rfl dX8_times_101 flX8_26 ?_
        refine g_getI hC fi_2_1 (gx_8_3 hG h_b) dX8_times_104 flX8_84 ?_
        refine g_callS_i hC hR ⟨Nat.zero_le _, Nat.zero_le _⟩ mwX8_drawn ms_X8_drawn mlX8_297 (fun _ hq => kX8_drawn  hq) (Nat.le_of_ble_eq_true rfl) rfl (st := [.ref (b + 31), .ref (b + 1), .int x13]) rfl (Nat.le_of_ble_eq_true rfl) dX8_times_107 (fun q17 => ?_)
        refine g_callV_iV hC hR ⟨Nat.zero_le _, Nat.zero_le _⟩ mwX1_goBy miX1_goBy (ci := 1) rfl (gx_8_0 hG h_b) (Nat.le_of_ble_eq_true rfl) mlX8_301 (fun _ hq => kX1_goBy hG (gx_8_0 hG h_b) (gx_8_3 hG h_b) hq) (Nat.le_of_ble_eq_true rfl) rfl (st := [.int x13]) rfl (Nat.le_of_ble_eq_true rfl) dX8_times_110 (fun q18 => ?_)
        refine g_iadd hC dX8_times_113 ?_
        refine g_istoreL hC (n0 := 8) (lv' := fun x19 => [(6, .int x19), (3, .int q16), (0, .ref b), (1, .int a1), (2, .int a2), (4, .int x7), (5, .int x8), (7, .int x14)]) dX8_times_114 (Nat.le_of_ble_eq_true rfl) hL (fun _ => rfl) (fun x19 => ?_)
        refine g_iincL hC (n0 := 8) (j := 7) (lv' := fun x20 => [(7, .int x20), (6, .int x19), (3, .int q16), (0, .ref b), (1, .int a1), (2, .int a2), (4, .int x7), (5, .int x8)]) dX8_times_116 rfl ic_1 (Nat.le_of_ble_eq_true rfl) hL (fun _ => rfl) (fun x20 => ?_)
        refine g_goto hC dX8_times_119 ?_
        refine g_sub [3, 4, 5, 2, 6, 7, 1, 0] rfl ?_
        exact ih q18.2 q16 x19 x20
      · refine g_sub [0, 1, 2, 3, 4, 5, 6] rfl ?_
        exact fun e => by cases e; exact hX
set_option maxHeartbeats 4000000 in
set_option maxRecDepth 100000 in
theorem wX8_times_37 {C : Cx} (hC : CxOK C cX8_times RX8 (some .int)) (hL : C.2.2.2.2 = 8) {n : Nat} {G : G2} {R : R2} {b : Nat} {a1 : Int32} {a2 : Int32} (hG : GX G) (h_b : own G b 18) (hR : C.1.2.2.2.1 = rmN 5 0 0) {o : V2 × Int32} (hX : Go C 137 [(4, .int o.2)] [] o.1 R G 0 0) : ∀ (f : Nat) (U5 : V2) (x6 : Int32) (x7 : Int32) (x8 : Int32), lX8_times_37 n G R b a1 a2 f U5 x6 x7 x8 = some o → Go C 37 [(0, .ref b), (1, .int a1), (2, .int a2), (3, .int x6), (4, .int x7), (5, .int x8)] [] U5 R G 0 0 := by
  intro f
  induction f with
  | zero => intro _ _ _ _ hf; exact absurd hf (by unfold lX8_times_37; exact fun z => nomatch z)
  | succ f4 ih =>
    intro U5 x6 x7 x8
    unfold lX8_times_37
    refine g_iload hC dX8_times_37 (j := 5) rfl ?_
    refine g_iload_n hC dX8_times_39 (j := 1) rfl rfl ?_
    refine g_icmp_ge hC dX8_times_40 ?_ ?_
    · refine g_sub [4] rfl ?_
      exact fun e => by cases e; exact hX
    · refine g_aload_n hC dX8_times_43 (j := 0) rfl rfl ?_
      refine g_getR hC fr_8_3 h_b (b := b + 31) rfl dX8_times_44 flX8_26 ?_
      refine g_aload_n hC dX8_times_47 (j := 0) rfl rfl ?_
      refine g_getR hC fr_8_0 h_b (b := b + 1) rfl dX8_times_48 flX8_10 ?_
      refine g_getR hC fr_1_0 (gx_8_0 hG h_b) (b := b + 2) rfl dX8_times_51 flX8_81 ?_
      refine g_callV_vV hC hR ⟨Nat.zero_le _, Nat.zero_le _⟩ mwX2_copy miX2_copy (ci := 2) rfl (gx_8_3 hG h_b) (Nat.le_of_ble_eq_true rfl) mlX8_210 (fun _ hq => kX2_copy hG (gx_8_3 hG h_b) (gx_1_0 hG (gx_8_0 hG h_b)) hq) (Nat.le_of_ble_eq_true rfl) rfl (st := []) rfl (Nat.le_of_ble_eq_true rfl) dX8_times_54 (fun q9 => ?_)
      refine g_iconst hC dX8_times_57 ic_0 ?_
      refine g_istore hC (n0 := 8) (lv' := [(6, .int 0), (0, .ref b), (1, .int a1), (2, .int a2), (3, .int x6), (4, .int x7), (5, .int x8)]) dX8_times_58 (Nat.le_of_ble_eq_true rfl) hL rfl ?_
      refine g_iconst hC dX8_times_60 ic_0 ?_
      refine g_istore hC (n0 := 8) (lv' := [(7, .int 0), (6, .int 0), (0, .ref b), (1, .int a1), (2, .int a2), (3, .int x6), (4, .int x7), (5, .int x8)]) dX8_times_61 (Nat.le_of_ble_eq_true rfl) hL rfl ?_
      refine g_sub [2, 3, 4, 5, 6, 7, 1, 0] rfl ?_
      refine g_bind (J := fun w21 => Go C 122 [(0, .ref b), (1, .int a1), (2, .int a2), (3, .int w21.2.1), (4, .int x7), (5, .int x8), (6, .int w21.2.2)] [] w21.1 R G 0 0) (fun w21 hJ => wX8_times_63 hC hL hG h_b hR hJ n q9 x6 0 0) (fun w21 => ?_)
      refine g_iload hC dX8_times_122 (j := 6) rfl ?_
      refine g_iload_n hC dX8_times_124 (j := 2) rfl rfl ?_
      refine g_icmp_lt hC dX8_times_125 ?_ ?_
      · refine g_iincL hC (n0 := 8) (j := 5) (lv' := fun x22 => [(5, .int x22), (0, .ref b), (1, .int a1), (2, .int a2), (3, .int w21.2.1), (4, .int x7), (6, .int w21.2.2)]) dX8_times_131 rfl ic_1 (Nat.le_of_ble_eq_true rfl) hL (fun _ => rfl) (fun x22 => ?_)
        refine g_goto hC dX8_times_134 ?_
        refine g_sub [1, 2, 3, 4, 5, 0] rfl ?_
        exact ih w21.1 w21.2.1 x7 x22
      · refine g_iincL hC (n0 := 8) (j := 4) (lv' := fun x23 => [(4, .int x23), (0, .ref b), (1, .int a1), (2, .int a2), (3, .int w21.2.1), (5, .int x8), (6, .int w21.2.2)]) dX8_times_128 rfl ic_1 (Nat.le_of_ble_eq_true rfl) hL (fun _ => rfl) (fun x23 => ?_)
        refine g_iincL hC (n0 := 8) (j := 5) (lv' := fun x24 => [(5, .int x24), (4, .int x23), (0, .ref b), (1, .int a1), (2, .int a2), (3, .int w21.2.1), (6, .int w21.2.2)]) dX8_times_131 rfl ic_1 (Nat.le_of_ble_eq_true rfl) hL (fun _ => rfl) (fun x24 => ?_)
        refine g_goto hC dX8_times_134 ?_
        refine g_sub [2, 3, 4, 5, 1, 0] rfl ?_
        exact ih w21.1 w21.2.1 x23 x24
set_option maxHeartbeats 4000000 in
set_option maxRecDepth 100000 in
theorem kX8_times {l : Launch} {D : Dx} {G : G2} {V : V2} {R : R2} {n : Nat} {b : Nat} {a1 : Int32} {a2 : Int32} (hG : GX G) (h_b : own G b 18) {o : Int32 × V2} (hf : pX8_times n G V R b a1 a2 = some o) : Con l yX8_times cX8_times 8 (some .int) (rmN 5 0 0) D G V R [.ref b, .int a1, .int a2] (some (.int o.1), o.2, R, G, 0, 0) := by
  refine Con.mk RX8 (by decide) rfl (Nat.le_of_ble_eq_true rfl) (fun C _ hR hT _ _ hL hC hnm => ?_)
  revert hf
  unfold pX8_times
  refine g_iload_n hC dX8_times_0 (j := 1) rfl rfl ?_
  refine g_iconst hC dX8_times_1 ic_1 ?_
  refine g_bipush hC dX8_times_2 bc_40 ?_
  refine g_callS_i hC hR ⟨Nat.zero_le _, Nat.zero_le _⟩ mwX8_within ms_X8_within mlX8_77 (fun _ hq => kX8_within  hq) (Nat.le_of_ble_eq_true rfl) rfl (st := []) rfl (Nat.le_of_ble_eq_true rfl) dX8_times_4 (fun q1 => ?_)
  refine g_if_eq hC dX8_times_7 ?_ ?_
  · refine g_iconst hC dX8_times_21 ic_m1 ?_
    exact g_iret_iV hC hT dX8_times_22
  · refine g_iload_n hC dX8_times_10 (j := 2) rfl rfl ?_
    refine g_iconst hC dX8_times_11 ic_0 ?_
    refine g_sipush hC dX8_times_12 sc_999 ?_
    refine g_callS_i hC hR ⟨Nat.zero_le _, Nat.zero_le _⟩ mwX8_within ms_X8_within mlX8_77 (fun _ hq => kX8_within  hq) (Nat.le_of_ble_eq_true rfl) rfl (st := []) rfl (Nat.le_of_ble_eq_true rfl) dX8_times_15 (fun q2 => ?_)
    refine g_if_ne hC dX8_times_18 ?_ ?_
    · refine g_iconst hC dX8_times_21 ic_m1 ?_
      exact g_iret_iV hC hT dX8_times_22
    · refine g_aload_n hC dX8_times_23 (j := 0) rfl rfl ?_
      refine g_getR hC fr_8_0 h_b (b := b + 1) rfl dX8_times_24 flX8_10 ?_
      refine g_getI hC fi_1_3 (gx_8_0 hG h_b) dX8_times_27 flX8_291 ?_
      refine g_istore_nL hC (n0 := 8) (lv' := fun x3 => [(3, .int x3), (0, .ref b), (1, .int a1), (2, .int a2)]) dX8_times_30 rfl (Nat.le_of_ble_eq_true rfl) hL (fun _ => rfl) (fun x3 => ?_)
      refine g_iconst hC dX8_times_31 ic_0 ?_
      refine g_istore hC (n0 := 8) (lv' := [(4, .int 0), (3, .int x3), (0, .ref b), (1, .int a1), (2, .int a2)]) dX8_times_32 (Nat.le_of_ble_eq_true rfl) hL rfl ?_
      refine g_iconst hC dX8_times_34 ic_0 ?_
      refine g_istore hC (n0 := 8) (lv' := [(5, .int 0), (4, .int 0), (3, .int x3), (0, .ref b), (1, .int a1), (2, .int a2)]) dX8_times_35 (Nat.le_of_ble_eq_true rfl) hL rfl ?_
      refine g_sub [3, 4, 5, 2, 1, 0] rfl ?_
      refine g_bind (J := fun w25 => Go C 137 [(4, .int w25.2)] [] w25.1 R G 0 0) (fun w25 hJ => wX8_times_37 hC hL hG h_b hR hJ n V x3 0 0) (fun w25 => ?_)
      refine g_iload hC dX8_times_137 (j := 0) rfl ?_
      exact g_iret_iV hC hT dX8_times_139
def lX8_prove_51 (n : Nat) (G : G2) (R : R2) (b : Nat) : Nat → V2 → Int32 → Option (V2)
  | 0, _, _ => none
  | f5 + 1, U6, x7 =>
    if (U6 b 7) ≤ x7 then (some U6)
    else ((ldI 4 (U6 (b + 39)) x7).bind fun t8 =>
    (stI 12 U6 (b + 69) (x7 * 3) t8).bind fun U9 =>
    (ldI 4 (U9 (b + 39)) x7).bind fun t10 =>
    (pX1_goBy n G U9 R (b + 1) (b + 31) t10).bind fun q11 =>
    (stI 12 q11.2 (b + 69) ((x7 * 3) + 1) q11.1).bind fun U12 =>
    (stI 12 U12 (b + 69) ((x7 * 3) + 2) (U12 (b + 31) 2)).bind fun U13 =>
    letv (x7 + 1) fun x14 =>
    lX8_prove_51 n G R b f5 U13 x14)
def pX8_prove (n : Nat) (G : G2) (V : V2) (R : R2) (b : Nat) (a1 : Int32) : Option (Int32 × V2) :=
  (pX8_within a1 0 4).bind fun q1 =>
  if q1 = 0 then (some ((-1), V))
  else ((pX6_tryAll n G V R (b + 36) (b + 1) a1 0).bind fun q2 =>
  (pX2_copy q2 (b + 31) (b + 2)).bind fun q3 =>
  letv (up2 q3 b 7 (q3 (b + 36) 4)) fun U4 =>
  (lX8_prove_51 n G R b n U4 0).bind fun w15 =>
  some (w15 b 7, w15))
set_option maxHeartbeats 4000000 in
set_option maxRecDepth 100000 in
theorem wX8_prove_51 {C : Cx} (hC : CxOK C cX8_prove RX8 (some .int)) (hL : C.2.2.2.2 = 3) {n : Nat} {G : G2} {R : R2} {b : Nat} (hG : GX G) (h_b : own G b 18) (hR : C.1.2.2.2.1 = rmN 13 0 0) {o : V2} (hX : Go C 129 [(0, .ref b)] [] o R G 0 0) : ∀ (f : Nat) (U6 : V2) (x7 : Int32), lX8_prove_51 n G R b f U6 x7 = some o → Go C 51 [(0, .ref b), (2, .int x7)] [] U6 R G 0 0 := by
  intro f
  induction f with
  | zero => intro _ _ hf; exact absurd hf (by unfold lX8_prove_51; exact fun z => nomatch z)
  | succ f5 ih =>
    intro U6 x7
    unfold lX8_prove_51
    refine g_iload_n hC dX8_prove_51 (j := 1) rfl rfl ?_
    refine g_aload_n hC dX8_prove_52 (j := 0) rfl rfl ?_
    refine g_getI hC fi_8_7 h_b dX8_prove_53 flX8_48 ?_
    refine g_icmp_ge hC dX8_prove_56 ?_ ?_
    · refine g_sub [0] rfl ?_
      exact fun e => by cases e; exact hX
    · refine g_aload_n hC dX8_prove_59 (j := 0) rfl rfl ?_
      refine g_getR hC fr_8_6 h_b (b := b + 69) rfl dX8_prove_60 flX8_44 ?_
      refine g_iload_n hC dX8_prove_63 (j := 1) rfl rfl ?_
      refine g_iconst hC dX8_prove_64 ic_3 ?_
      refine g_imul hC dX8_prove_65 ?_
      refine g_aload_n hC dX8_prove_66 (j := 0) rfl rfl ?_
      refine g_getR hC fr_8_4 h_b (b := b + 36) rfl dX8_prove_67 flX8_33 ?_
      refine g_getR hC fr_6_3 (gx_8_4 hG h_b) (b := b + 39) rfl dX8_prove_70 flX8_234 ?_
      refine g_iload_n hC dX8_prove_73 (j := 1) rfl rfl ?_
      refine g_ialdV hC (gx_6_3 hG (gx_8_4 hG h_b)) (gl_6_3 hG (gx_8_4 hG h_b)) dX8_prove_74 (fun t8 => ?_)
      refine g_iastV hC (gx_8_6 hG h_b) (gl_8_6 hG h_b) dX8_prove_75 (fun U9 => ?_)
      refine g_aload_n hC dX8_prove_76 (j := 0) rfl rfl ?_
      refine g_getR hC fr_8_6 h_b (b := b + 69) rfl dX8_prove_77 flX8_44 ?_
      refine g_iload_n hC dX8_prove_80 (j := 1) rfl rfl ?_
      refine g_iconst hC dX8_prove_81 ic_3 ?_
      refine g_imul hC dX8_prove_82 ?_
      refine g_iconst hC dX8_prove_83 ic_1 ?_
      refine g_iadd hC dX8_prove_84 ?_
      refine g_aload_n hC dX8_prove_85 (j := 0) rfl rfl ?_
      refine g_getR hC fr_8_0 h_b (b := b + 1) rfl dX8_prove_86 flX8_10 ?_
      refine g_aload_n hC dX8_prove_89 (j := 0) rfl rfl ?_
      refine g_getR hC fr_8_3 h_b (b := b + 31) rfl dX8_prove_90 flX8_26 ?_
      refine g_aload_n hC dX8_prove_93 (j := 0) rfl rfl ?_
      refine g_getR hC fr_8_4 h_b (b := b + 36) rfl dX8_prove_94 flX8_33 ?_
      refine g_getR hC fr_6_3 (gx_8_4 hG h_b) (b := b + 39) rfl dX8_prove_97 flX8_234 ?_
      refine g_iload_n hC dX8_prove_100 (j := 1) rfl rfl ?_
      refine g_ialdV hC (gx_6_3 hG (gx_8_4 hG h_b)) (gl_6_3 hG (gx_8_4 hG h_b)) dX8_prove_101 (fun t10 => ?_)
      refine g_callV_iV hC hR ⟨Nat.zero_le _, Nat.zero_le _⟩ mwX1_goBy miX1_goBy (ci := 1) rfl (gx_8_0 hG h_b) (Nat.le_of_ble_eq_true rfl) mlX8_301 (fun _ hq => kX1_goBy hG (gx_8_0 hG h_b) (gx_8_3 hG h_b) hq) (Nat.le_of_ble_eq_true rfl) rfl (st := [.int ((x7 * 3) + 1), .ref (b + 69)]) rfl (Nat.le_of_ble_eq_true rfl) dX8_prove_102 (fun q11 => ?_)
      refine g_iastV hC (gx_8_6 hG h_b) (gl_8_6 hG h_b) dX8_prove_105 (fun U12 => ?_)
      refine g_aload_n hC dX8_prove_106 (j := 0) rfl rfl ?_
      refine g_getR hC fr_8_6 h_b (b := b + 69) rfl dX8_prove_107 flX8_44 ?_
      refine g_iload_n hC dX8_prove_110 (j := 1) rfl rfl ?_
      refine g_iconst hC dX8_prove_111 ic_3 ?_
      refine g_imul hC dX8_prove_112 ?_
      refine g_iconst hC dX8_prove_113 ic_2 ?_
      refine g_iadd hC dX8_prove_114 ?_
      refine g_aload_n hC dX8_prove_115 (j := 0) rfl rfl ?_
      refine g_getR hC fr_8_3 h_b (b := b + 31) rfl dX8_prove_116 flX8_26 ?_
      refine g_getI hC fi_2_2 (gx_8_3 hG h_b) dX8_prove_119 flX8_154 ?_
      refine g_iastV hC (gx_8_6 hG h_b) (gl_8_6 hG h_b) dX8_prove_122 (fun U13 => ?_)
      refine g_iincL hC (n0 := 3) (j := 1) (lv' := fun x14 => [(2, .int x14), (0, .ref b)]) dX8_prove_123 rfl ic_1 (Nat.le_of_ble_eq_true rfl) hL (fun _ => rfl) (fun x14 => ?_)
      refine g_goto hC dX8_prove_126 ?_
      refine g_sub [1, 0] rfl ?_
      exact ih U13 x14
set_option maxHeartbeats 4000000 in
set_option maxRecDepth 100000 in
theorem kX8_prove {l : Launch} {D : Dx} {G : G2} {V : V2} {R : R2} {n : Nat} {b : Nat} {a1 : Int32} (hG : GX G) (h_b : own G b 18) {o : Int32 × V2} (hf : pX8_prove n G V R b a1 = some o) : Con l yX8_prove cX8_prove 3 (some .int) (rmN 13 0 0) D G V R [.ref b, .int a1] (some (.int o.1), o.2, R, G, 0, 0) := by
  refine Con.mk RX8 (by decide) rfl (Nat.le_of_ble_eq_true rfl) (fun C _ hR hT _ _ hL hC hnm => ?_)
  revert hf
  unfold pX8_prove
  refine g_iload_n hC dX8_prove_0 (j := 1) rfl rfl ?_
  refine g_iconst hC dX8_prove_1 ic_0 ?_
  refine g_iconst hC dX8_prove_2 ic_4 ?_
  refine g_callS_i hC hR ⟨Nat.zero_le _, Nat.zero_le _⟩ mwX8_within ms_X8_within mlX8_77 (fun _ hq => kX8_within  hq) (Nat.le_of_ble_eq_true rfl) rfl (st := []) rfl (Nat.le_of_ble_eq_true rfl) dX8_prove_3 (fun q1 => ?_)
  refine g_if_ne hC dX8_prove_6 ?_ ?_
  · refine g_iconst hC dX8_prove_9 ic_m1 ?_
    exact g_iret_iV hC hT dX8_prove_10
  · refine g_aload_n hC dX8_prove_11 (j := 0) rfl rfl ?_
    refine g_getR hC fr_8_4 h_b (b := b + 36) rfl dX8_prove_12 flX8_33 ?_
    refine g_aload_n hC dX8_prove_15 (j := 0) rfl rfl ?_
    refine g_getR hC fr_8_0 h_b (b := b + 1) rfl dX8_prove_16 flX8_10 ?_
    refine g_iload_n hC dX8_prove_19 (j := 1) rfl rfl ?_
    refine g_iconst hC dX8_prove_20 ic_0 ?_
    refine g_callV_vV hC hR ⟨Nat.zero_le _, Nat.zero_le _⟩ mwX6_tryAll miX6_tryAll (ci := 6) rfl (gx_8_4 hG h_b) (Nat.le_of_ble_eq_true rfl) mlX8_224 (fun _ hq => kX6_tryAll hG (gx_8_4 hG h_b) (gx_8_0 hG h_b) hq) (Nat.le_of_ble_eq_true rfl) rfl (st := []) rfl (Nat.le_of_ble_eq_true rfl) dX8_prove_21 (fun q2 => ?_)
    refine g_aload_n hC dX8_prove_24 (j := 0) rfl rfl ?_
    refine g_getR hC fr_8_3 h_b (b := b + 31) rfl dX8_prove_25 flX8_26 ?_
    refine g_aload_n hC dX8_prove_28 (j := 0) rfl rfl ?_
    refine g_getR hC fr_8_0 h_b (b := b + 1) rfl dX8_prove_29 flX8_10 ?_
    refine g_getR hC fr_1_0 (gx_8_0 hG h_b) (b := b + 2) rfl dX8_prove_32 flX8_81 ?_
    refine g_callV_vV hC hR ⟨Nat.zero_le _, Nat.zero_le _⟩ mwX2_copy miX2_copy (ci := 2) rfl (gx_8_3 hG h_b) (Nat.le_of_ble_eq_true rfl) mlX8_210 (fun _ hq => kX2_copy hG (gx_8_3 hG h_b) (gx_1_0 hG (gx_8_0 hG h_b)) hq) (Nat.le_of_ble_eq_true rfl) rfl (st := []) rfl (Nat.le_of_ble_eq_true rfl) dX8_prove_35 (fun q3 => ?_)
    refine g_aload_n hC dX8_prove_38 (j := 0) rfl rfl ?_
    refine g_aload_n hC dX8_prove_39 (j := 0) rfl rfl ?_
    refine g_getR hC fr_8_4 h_b (b := b + 36) rfl dX8_prove_40 flX8_33 ?_
    refine g_getI hC fi_6_4 (gx_8_4 hG h_b) dX8_prove_43 flX8_231 ?_
    refine g_putIL hC fp_8_7 h_b dX8_prove_46 flX8_48 (fun U4 => ?_)
    refine g_iconst hC dX8_prove_49 ic_0 ?_
    refine g_istore_n hC (n0 := 3) (lv' := [(2, .int 0), (0, .ref b), (1, .int a1)]) dX8_prove_50 rfl (Nat.le_of_ble_eq_true rfl) hL rfl ?_
    refine g_sub [1, 0] rfl ?_
    refine g_bind (J := fun w15 => Go C 129 [(0, .ref b)] [] w15 R G 0 0) (fun w15 hJ => wX8_prove_51 hC hL hG h_b hR hJ n U4 0) (fun w15 => ?_)
    refine g_aload_n hC dX8_prove_129 (j := 0) rfl rfl ?_
    refine g_getI hC fi_8_7 h_b dX8_prove_130 flX8_48 ?_
    exact g_iret_iV hC hT dX8_prove_133
def pX8_isCell (V : V2) (b : Nat) (a1 : Int32) (a2 : Int32) : Option (Int32) :=
  (pX8_within a1 0 ((V b 7) - 1)).bind fun q1 =>
  if q1 = 0 then (some 0)
  else ((pX8_within a2 0 2).bind fun q2 =>
  if q2 = 0 then (some 0)
  else (some 1))
set_option maxHeartbeats 4000000 in
set_option maxRecDepth 100000 in
theorem kX8_isCell {l : Launch} {D : Dx} {G : G2} {V : V2} {R : R2} {b : Nat} {a1 : Int32} {a2 : Int32} (hG : GX G) (h_b : own G b 18) {o : Int32} (hf : pX8_isCell V b a1 a2 = some o) : Con l yX8_isCell cX8_isCell 3 (some .boolean) (rmN 1 0 0) D G V R [.ref b, .int a1, .int a2] (some (.int o), V, R, G, 0, 0) := by
  refine Con.mk RX8 (by decide) rfl (Nat.le_of_ble_eq_true rfl) (fun C _ hR hT _ _ hL hC hnm => ?_)
  revert hf
  unfold pX8_isCell
  refine g_iload_n hC dX8_isCell_0 (j := 1) rfl rfl ?_
  refine g_iconst hC dX8_isCell_1 ic_0 ?_
  refine g_aload_n hC dX8_isCell_2 (j := 0) rfl rfl ?_
  refine g_getI hC fi_8_7 h_b dX8_isCell_3 flX8_48 ?_
  refine g_iconst hC dX8_isCell_6 ic_1 ?_
  refine g_isub hC dX8_isCell_7 ?_
  refine g_callS_i hC hR ⟨Nat.zero_le _, Nat.zero_le _⟩ mwX8_within ms_X8_within mlX8_77 (fun _ hq => kX8_within  hq) (Nat.le_of_ble_eq_true rfl) rfl (st := []) rfl (Nat.le_of_ble_eq_true rfl) dX8_isCell_8 (fun q1 => ?_)
  refine g_if_eq hC dX8_isCell_11 ?_ ?_
  · refine g_iconst hC dX8_isCell_27 ic_0 ?_
    exact g_zret_i hC rfl hT dX8_isCell_28
  · refine g_iload_n hC dX8_isCell_14 (j := 2) rfl rfl ?_
    refine g_iconst hC dX8_isCell_15 ic_0 ?_
    refine g_iconst hC dX8_isCell_16 ic_2 ?_
    refine g_callS_i hC hR ⟨Nat.zero_le _, Nat.zero_le _⟩ mwX8_within ms_X8_within mlX8_77 (fun _ hq => kX8_within  hq) (Nat.le_of_ble_eq_true rfl) rfl (st := []) rfl (Nat.le_of_ble_eq_true rfl) dX8_isCell_17 (fun q2 => ?_)
    refine g_if_eq hC dX8_isCell_20 ?_ ?_
    · refine g_iconst hC dX8_isCell_27 ic_0 ?_
      exact g_zret_i hC rfl hT dX8_isCell_28
    · refine g_iconst hC dX8_isCell_23 ic_1 ?_
      refine g_goto hC dX8_isCell_24 ?_
      exact g_zret_i hC rfl hT dX8_isCell_28
def pX8_row (V : V2) (b : Nat) (a1 : Int32) (a2 : Int32) : Option (Int32) :=
  (pX8_isCell V b a1 a2).bind fun q1 =>
  if q1 = 0 then (some (-9))
  else ((ldI 12 (V (b + 69)) ((a1 * 3) + a2)).bind fun t2 =>
  some t2)
set_option maxHeartbeats 4000000 in
set_option maxRecDepth 100000 in
theorem kX8_row {l : Launch} {D : Dx} {G : G2} {V : V2} {R : R2} {b : Nat} {a1 : Int32} {a2 : Int32} (hG : GX G) (h_b : own G b 18) {o : Int32} (hf : pX8_row V b a1 a2 = some o) : Con l yX8_row cX8_row 3 (some .int) (rmN 2 0 0) D G V R [.ref b, .int a1, .int a2] (some (.int o), V, R, G, 0, 0) := by
  refine Con.mk RX8 (by decide) rfl (Nat.le_of_ble_eq_true rfl) (fun C _ hR hT _ _ hL hC hnm => ?_)
  revert hf
  unfold pX8_row
  refine g_aload_n hC dX8_row_0 (j := 0) rfl rfl ?_
  refine g_iload_n hC dX8_row_1 (j := 1) rfl rfl ?_
  refine g_iload_n hC dX8_row_2 (j := 2) rfl rfl ?_
  refine g_callV_i hC hR ⟨Nat.zero_le _, Nat.zero_le _⟩ mwX8_isCell miX8_isCell (ci := 8) rfl h_b (Nat.le_of_ble_eq_true rfl) mlX8_304 (fun _ hq => kX8_isCell hG h_b hq) (Nat.le_of_ble_eq_true rfl) rfl (st := []) rfl (Nat.le_of_ble_eq_true rfl) dX8_row_3 (fun q1 => ?_)
  refine g_if_eq hC dX8_row_6 ?_ ?_
  · refine g_bipush hC dX8_row_22 bc_m9 ?_
    exact g_iret_i hC hT dX8_row_24
  · refine g_aload_n hC dX8_row_9 (j := 0) rfl rfl ?_
    refine g_getR hC fr_8_6 h_b (b := b + 69) rfl dX8_row_10 flX8_44 ?_
    refine g_iload_n hC dX8_row_13 (j := 1) rfl rfl ?_
    refine g_iconst hC dX8_row_14 ic_3 ?_
    refine g_imul hC dX8_row_15 ?_
    refine g_iload_n hC dX8_row_16 (j := 2) rfl rfl ?_
    refine g_iadd hC dX8_row_17 ?_
    refine g_ialdV hC (gx_8_6 hG h_b) (gl_8_6 hG h_b) dX8_row_18 (fun t2 => ?_)
    refine g_goto hC dX8_row_19 ?_
    exact g_iret_i hC hT dX8_row_24
def pX8_alterRow (V : V2) (b : Nat) (a1 : Int32) (a2 : Int32) (a3 : Int32) : Option (Int32 × V2) :=
  (pX8_isCell V b a1 a2).bind fun q1 =>
  if q1 = 0 then (some ((-9), V))
  else ((ldI 12 (V (b + 69)) ((a1 * 3) + a2)).bind fun t2 =>
  (stI 12 V (b + 69) ((a1 * 3) + a2) a3).bind fun U3 =>
  some (t2, U3))
set_option maxHeartbeats 4000000 in
set_option maxRecDepth 100000 in
theorem kX8_alterRow {l : Launch} {D : Dx} {G : G2} {V : V2} {R : R2} {b : Nat} {a1 : Int32} {a2 : Int32} {a3 : Int32} (hG : GX G) (h_b : own G b 18) {o : Int32 × V2} (hf : pX8_alterRow V b a1 a2 a3 = some o) : Con l yX8_alterRow cX8_alterRow 5 (some .int) (rmN 2 0 0) D G V R [.ref b, .int a1, .int a2, .int a3] (some (.int o.1), o.2, R, G, 0, 0) := by
  refine Con.mk RX8 (by decide) rfl (Nat.le_of_ble_eq_true rfl) (fun C _ hR hT _ _ hL hC hnm => ?_)
  revert hf
  unfold pX8_alterRow
  refine g_aload_n hC dX8_alterRow_0 (j := 0) rfl rfl ?_
  refine g_iload_n hC dX8_alterRow_1 (j := 1) rfl rfl ?_
  refine g_iload_n hC dX8_alterRow_2 (j := 2) rfl rfl ?_
  refine g_callV_i hC hR ⟨Nat.zero_le _, Nat.zero_le _⟩ mwX8_isCell miX8_isCell (ci := 8) rfl h_b (Nat.le_of_ble_eq_true rfl) mlX8_304 (fun _ hq => kX8_isCell hG h_b hq) (Nat.le_of_ble_eq_true rfl) rfl (st := []) rfl (Nat.le_of_ble_eq_true rfl) dX8_alterRow_3 (fun q1 => ?_)
  refine g_if_ne hC dX8_alterRow_6 ?_ ?_
  · refine g_bipush hC dX8_alterRow_9 bc_m9 ?_
    exact g_iret_iV hC hT dX8_alterRow_11
  · refine g_aload_n hC dX8_alterRow_12 (j := 0) rfl rfl ?_
    refine g_getR hC fr_8_6 h_b (b := b + 69) rfl dX8_alterRow_13 flX8_44 ?_
    refine g_iload_n hC dX8_alterRow_16 (j := 1) rfl rfl ?_
    refine g_iconst hC dX8_alterRow_17 ic_3 ?_
    refine g_imul hC dX8_alterRow_18 ?_
    refine g_iload_n hC dX8_alterRow_19 (j := 2) rfl rfl ?_
    refine g_iadd hC dX8_alterRow_20 ?_
    refine g_ialdV hC (gx_8_6 hG h_b) (gl_8_6 hG h_b) dX8_alterRow_21 (fun t2 => ?_)
    refine g_istore hC (n0 := 5) (lv' := [(4, .int t2), (0, .ref b), (1, .int a1), (2, .int a2), (3, .int a3)]) dX8_alterRow_22 (Nat.le_of_ble_eq_true rfl) hL rfl ?_
    refine g_aload_n hC dX8_alterRow_24 (j := 1) rfl rfl ?_
    refine g_getR hC fr_8_6 h_b (b := b + 69) rfl dX8_alterRow_25 flX8_44 ?_
    refine g_iload_n hC dX8_alterRow_28 (j := 2) rfl rfl ?_
    refine g_iconst hC dX8_alterRow_29 ic_3 ?_
    refine g_imul hC dX8_alterRow_30 ?_
    refine g_iload_n hC dX8_alterRow_31 (j := 3) rfl rfl ?_
    refine g_iadd hC dX8_alterRow_32 ?_
    refine g_iload_n hC dX8_alterRow_33 (j := 4) rfl rfl ?_
    refine g_iastV hC (gx_8_6 hG h_b) (gl_8_6 hG h_b) dX8_alterRow_34 (fun U3 => ?_)
    refine g_iload hC dX8_alterRow_35 (j := 0) rfl ?_
    exact g_iret_iV hC hT dX8_alterRow_37
def pX8_isRowRight (n : Nat) (G : G2) (V : V2) (R : R2) (b : Nat) (a1 : Int32) : Option (Int32 × V2) :=
  (ldI 12 (V (b + 69)) (a1 * 3)).bind fun t1 =>
  (pX1_isOver V (b + 1) (b + 31)).bind fun q2 =>
  if q2 = 0 then ((pX8_within t1 0 (V (b + 31) 1)).bind fun q3 =>
  if q3 = 0 then (some (0, V))
  else ((pX1_goBy n G V R (b + 1) (b + 31) t1).bind fun q4 =>
  (ldI 12 (q4.2 (b + 69)) ((a1 * 3) + 1)).bind fun t5 =>
  if q4.1 = t5 then ((ldI 12 (q4.2 (b + 69)) ((a1 * 3) + 2)).bind fun t6 =>
  if (q4.2 (b + 31) 2) = t6 then (some (1, q4.2))
  else (some (0, q4.2)))
  else (some (0, q4.2))))
  else (some (0, V))
set_option maxHeartbeats 4000000 in
set_option maxRecDepth 100000 in
theorem kX8_isRowRight {l : Launch} {D : Dx} {G : G2} {V : V2} {R : R2} {n : Nat} {b : Nat} {a1 : Int32} (hG : GX G) (h_b : own G b 18) {o : Int32 × V2} (hf : pX8_isRowRight n G V R b a1 = some o) : Con l yX8_isRowRight cX8_isRowRight 4 (some .boolean) (rmN 5 0 0) D G V R [.ref b, .int a1] (some (.int o.1), o.2, R, G, 0, 0) := by
  refine Con.mk RX8 (by decide) rfl (Nat.le_of_ble_eq_true rfl) (fun C _ hR hT _ _ hL hC hnm => ?_)
  revert hf
  unfold pX8_isRowRight
  refine g_aload_n hC dX8_isRowRight_0 (j := 0) rfl rfl ?_
  refine g_getR hC fr_8_6 h_b (b := b + 69) rfl dX8_isRowRight_1 flX8_44 ?_
  refine g_iload_n hC dX8_isRowRight_4 (j := 1) rfl rfl ?_
  refine g_iconst hC dX8_isRowRight_5 ic_3 ?_
  refine g_imul hC dX8_isRowRight_6 ?_
  refine g_ialdV hC (gx_8_6 hG h_b) (gl_8_6 hG h_b) dX8_isRowRight_7 (fun t1 => ?_)
  refine g_istore_n hC (n0 := 4) (lv' := [(2, .int t1), (0, .ref b), (1, .int a1)]) dX8_isRowRight_8 rfl (Nat.le_of_ble_eq_true rfl) hL rfl ?_
  refine g_aload_n hC dX8_isRowRight_9 (j := 1) rfl rfl ?_
  refine g_getR hC fr_8_0 h_b (b := b + 1) rfl dX8_isRowRight_10 flX8_10 ?_
  refine g_aload_n hC dX8_isRowRight_13 (j := 1) rfl rfl ?_
  refine g_getR hC fr_8_3 h_b (b := b + 31) rfl dX8_isRowRight_14 flX8_26 ?_
  refine g_callV_i hC hR ⟨Nat.zero_le _, Nat.zero_le _⟩ mwX1_isOver miX1_isOver (ci := 1) rfl (gx_8_0 hG h_b) (Nat.le_of_ble_eq_true rfl) mlX8_160 (fun _ hq => kX1_isOver hG (gx_8_0 hG h_b) (gx_8_3 hG h_b) hq) (Nat.le_of_ble_eq_true rfl) rfl (st := []) rfl (Nat.le_of_ble_eq_true rfl) dX8_isRowRight_17 (fun q2 => ?_)
  refine g_if_ne hC dX8_isRowRight_20 ?_ ?_
  · refine g_iload_n hC dX8_isRowRight_23 (j := 0) rfl rfl ?_
    refine g_iconst hC dX8_isRowRight_24 ic_0 ?_
    refine g_aload_n hC dX8_isRowRight_25 (j := 1) rfl rfl ?_
    refine g_getR hC fr_8_3 h_b (b := b + 31) rfl dX8_isRowRight_26 flX8_26 ?_
    refine g_getI hC fi_2_1 (gx_8_3 hG h_b) dX8_isRowRight_29 flX8_84 ?_
    refine g_callS_i hC hR ⟨Nat.zero_le _, Nat.zero_le _⟩ mwX8_within ms_X8_within mlX8_77 (fun _ hq => kX8_within  hq) (Nat.le_of_ble_eq_true rfl) rfl (st := []) rfl (Nat.le_of_ble_eq_true rfl) dX8_isRowRight_32 (fun q3 => ?_)
    refine g_if_ne hC dX8_isRowRight_35 ?_ ?_
    · refine g_iconst hC dX8_isRowRight_38 ic_0 ?_
      exact g_zret_iV hC rfl hT dX8_isRowRight_39
    · refine g_aload_n hC dX8_isRowRight_40 (j := 1) rfl rfl ?_
      refine g_getR hC fr_8_0 h_b (b := b + 1) rfl dX8_isRowRight_41 flX8_10 ?_
      refine g_aload_n hC dX8_isRowRight_44 (j := 1) rfl rfl ?_
      refine g_getR hC fr_8_3 h_b (b := b + 31) rfl dX8_isRowRight_45 flX8_26 ?_
      refine g_iload_n hC dX8_isRowRight_48 (j := 0) rfl rfl ?_
      refine g_callV_iV hC hR ⟨Nat.zero_le _, Nat.zero_le _⟩ mwX1_goBy miX1_goBy (ci := 1) rfl (gx_8_0 hG h_b) (Nat.le_of_ble_eq_true rfl) mlX8_301 (fun _ hq => kX1_goBy hG (gx_8_0 hG h_b) (gx_8_3 hG h_b) hq) (Nat.le_of_ble_eq_true rfl) rfl (st := []) rfl (Nat.le_of_ble_eq_true rfl) dX8_isRowRight_49 (fun q4 => ?_)
      refine g_istore_n hC (n0 := 4) (lv' := [(3, .int q4.1), (2, .int t1), (0, .ref b), (1, .int a1)]) dX8_isRowRight_52 rfl (Nat.le_of_ble_eq_true rfl) hL rfl ?_
      refine g_iload_n hC dX8_isRowRight_53 (j := 0) rfl rfl ?_
      refine g_aload_n hC dX8_isRowRight_54 (j := 2) rfl rfl ?_
      refine g_getR hC fr_8_6 h_b (b := b + 69) rfl dX8_isRowRight_55 flX8_44 ?_
      refine g_iload_n hC dX8_isRowRight_58 (j := 3) rfl rfl ?_
      refine g_iconst hC dX8_isRowRight_59 ic_3 ?_
      refine g_imul hC dX8_isRowRight_60 ?_
      refine g_iconst hC dX8_isRowRight_61 ic_1 ?_
      refine g_iadd hC dX8_isRowRight_62 ?_
      refine g_ialdV hC (gx_8_6 hG h_b) (gl_8_6 hG h_b) dX8_isRowRight_63 (fun t5 => ?_)
      refine g_icmp_ne hC dX8_isRowRight_64 ?_ ?_
      · refine g_aload_n hC dX8_isRowRight_67 (j := 2) rfl rfl ?_
        refine g_getR hC fr_8_3 h_b (b := b + 31) rfl dX8_isRowRight_68 flX8_26 ?_
        refine g_getI hC fi_2_2 (gx_8_3 hG h_b) dX8_isRowRight_71 flX8_154 ?_
        refine g_aload_n hC dX8_isRowRight_74 (j := 2) rfl rfl ?_
        refine g_getR hC fr_8_6 h_b (b := b + 69) rfl dX8_isRowRight_75 flX8_44 ?_
        refine g_iload_n hC dX8_isRowRight_78 (j := 3) rfl rfl ?_
        refine g_iconst hC dX8_isRowRight_79 ic_3 ?_
        refine g_imul hC dX8_isRowRight_80 ?_
        refine g_iconst hC dX8_isRowRight_81 ic_2 ?_
        refine g_iadd hC dX8_isRowRight_82 ?_
        refine g_ialdV hC (gx_8_6 hG h_b) (gl_8_6 hG h_b) dX8_isRowRight_83 (fun t6 => ?_)
        refine g_icmp_ne hC dX8_isRowRight_84 ?_ ?_
        · refine g_iconst hC dX8_isRowRight_87 ic_1 ?_
          refine g_goto hC dX8_isRowRight_88 ?_
          exact g_zret_iV hC rfl hT dX8_isRowRight_92
        · refine g_iconst hC dX8_isRowRight_91 ic_0 ?_
          exact g_zret_iV hC rfl hT dX8_isRowRight_92
      · refine g_iconst hC dX8_isRowRight_91 ic_0 ?_
        exact g_zret_iV hC rfl hT dX8_isRowRight_92
  · refine g_iconst hC dX8_isRowRight_38 ic_0 ?_
    exact g_zret_iV hC rfl hT dX8_isRowRight_39
def lX8_judge_16 (n : Nat) (G : G2) (R : R2) (b : Nat) : Nat → V2 → Int32 → (V2 → Option (Int32 × V2)) → Option (Int32 × V2)
  | 0, _, _, _ => none
  | f2 + 1, U3, x4, K =>
    if (U3 b 7) ≤ x4 then (K U3)
    else ((pX8_isRowRight n G U3 R b x4).bind fun q5 =>
    if q5.1 = 0 then (some (x4 + 1, q5.2))
    else (letv (x4 + 1) fun x6 =>
    lX8_judge_16 n G R b f2 q5.2 x6 K))
def pX8_judge (n : Nat) (G : G2) (V : V2) (R : R2) (b : Nat) : Option (Int32 × V2) :=
  (pX2_copy V (b + 31) (b + 2)).bind fun q1 =>
  lX8_judge_16 n G R b n q1 0 (fun w7 =>
  some (0, w7))
set_option maxHeartbeats 4000000 in
set_option maxRecDepth 100000 in
theorem wX8_judge_16 {C : Cx} (hC : CxOK C cX8_judge RX8 (some .int)) (hL : C.2.2.2.2 = 2) {n : Nat} {G : G2} {R : R2} {b : Nat} (hG : GX G) (h_b : own G b 18) (hR : C.1.2.2.2.1 = rmN 6 0 0) {o : Int32 × V2} (hT : C.2.1 = (some (.int o.1), o.2, R, G, 0, 0)) {K : V2 → Option (Int32 × V2)} (hX : ∀ (y1 : V2), K y1 = some o → Go C 42 [] [] y1 R G 0 0) : ∀ (f : Nat) (U3 : V2) (x4 : Int32), lX8_judge_16 n G R b f U3 x4 K = some o → Go C 16 [(0, .ref b), (1, .int x4)] [] U3 R G 0 0 := by
  intro f
  induction f with
  | zero => intro _ _ hf; exact absurd hf (by unfold lX8_judge_16; exact fun z => nomatch z)
  | succ f2 ih =>
    intro U3 x4
    unfold lX8_judge_16
    refine g_iload_n hC dX8_judge_16 (j := 1) rfl rfl ?_
    refine g_aload_n hC dX8_judge_17 (j := 0) rfl rfl ?_
    refine g_getI hC fi_8_7 h_b dX8_judge_18 flX8_48 ?_
    refine g_icmp_ge hC dX8_judge_21 ?_ ?_
    · refine g_sub [] rfl ?_
      exact hX U3
    · refine g_aload_n hC dX8_judge_24 (j := 0) rfl rfl ?_
      refine g_iload_n hC dX8_judge_25 (j := 1) rfl rfl ?_
      refine g_callV_iV hC hR ⟨Nat.zero_le _, Nat.zero_le _⟩ mwX8_isRowRight miX8_isRowRight (ci := 8) rfl h_b (Nat.le_of_ble_eq_true rfl) mlX8_308 (fun _ hq => kX8_isRowRight hG h_b hq) (Nat.le_of_ble_eq_true rfl) rfl (st := []) rfl (Nat.le_of_ble_eq_true rfl) dX8_judge_26 (fun q5 => ?_)
      refine g_if_ne hC dX8_judge_29 ?_ ?_
      · refine g_iload_n hC dX8_judge_32 (j := 1) rfl rfl ?_
        refine g_iconst hC dX8_judge_33 ic_1 ?_
        refine g_iadd hC dX8_judge_34 ?_
        exact g_iret_iV hC hT dX8_judge_35
      · refine g_iincL hC (n0 := 2) (j := 1) (lv' := fun x6 => [(1, .int x6), (0, .ref b)]) dX8_judge_36 rfl ic_1 (Nat.le_of_ble_eq_true rfl) hL (fun _ => rfl) (fun x6 => ?_)
        refine g_goto hC dX8_judge_39 ?_
        refine g_sub [1, 0] rfl ?_
        exact ih q5.2 x6
set_option maxHeartbeats 4000000 in
set_option maxRecDepth 100000 in
theorem kX8_judge {l : Launch} {D : Dx} {G : G2} {V : V2} {R : R2} {n : Nat} {b : Nat} (hG : GX G) (h_b : own G b 18) {o : Int32 × V2} (hf : pX8_judge n G V R b = some o) : Con l yX8_judge cX8_judge 2 (some .int) (rmN 6 0 0) D G V R [.ref b] (some (.int o.1), o.2, R, G, 0, 0) := by
  refine Con.mk RX8 (by decide) rfl (Nat.le_of_ble_eq_true rfl) (fun C _ hR hT _ _ hL hC hnm => ?_)
  revert hf
  unfold pX8_judge
  refine g_aload_n hC dX8_judge_0 (j := 0) rfl rfl ?_
  refine g_getR hC fr_8_3 h_b (b := b + 31) rfl dX8_judge_1 flX8_26 ?_
  refine g_aload_n hC dX8_judge_4 (j := 0) rfl rfl ?_
  refine g_getR hC fr_8_0 h_b (b := b + 1) rfl dX8_judge_5 flX8_10 ?_
  refine g_getR hC fr_1_0 (gx_8_0 hG h_b) (b := b + 2) rfl dX8_judge_8 flX8_81 ?_
  refine g_callV_vV hC hR ⟨Nat.zero_le _, Nat.zero_le _⟩ mwX2_copy miX2_copy (ci := 2) rfl (gx_8_3 hG h_b) (Nat.le_of_ble_eq_true rfl) mlX8_210 (fun _ hq => kX2_copy hG (gx_8_3 hG h_b) (gx_1_0 hG (gx_8_0 hG h_b)) hq) (Nat.le_of_ble_eq_true rfl) rfl (st := []) rfl (Nat.le_of_ble_eq_true rfl) dX8_judge_11 (fun q1 => ?_)
  refine g_iconst hC dX8_judge_14 ic_0 ?_
  refine g_istore_n hC (n0 := 2) (lv' := [(1, .int 0), (0, .ref b)]) dX8_judge_15 rfl (Nat.le_of_ble_eq_true rfl) hL rfl ?_
  refine g_sub [1, 0] rfl ?_
  refine wX8_judge_16 hC hL hG h_b hR hT (fun w7 => ?_) n q1 0
  refine g_iconst hC dX8_judge_42 ic_0 ?_
  exact g_iret_iV hC hT dX8_judge_43
def pX7_has (G : G2) (V : V2) (b : Nat) (a1 : Int32) : Option (Int32) :=
  (pX8_within a1 0 ((nI (G.2.2.1 (b + 1))) - 1)).bind fun q1 =>
  if isb q1 then some q1 else none
set_option maxHeartbeats 4000000 in
set_option maxRecDepth 100000 in
theorem kX7_has {l : Launch} {D : Dx} {G : G2} {V : V2} {R : R2} {b : Nat} {a1 : Int32} (hG : GX G) (h_b : own G b 17) {o : Int32} (hf : pX7_has G V b a1 = some o) : Con l yX7_has cX7_has 2 (some .boolean) (rmN 1 0 0) D G V R [.ref b, .int a1] (some (.int o), V, R, G, 0, 0) := by
  refine Con.mk RX7 (by decide) rfl (Nat.le_of_ble_eq_true rfl) (fun C _ hR hT _ _ hL hC hnm => ?_)
  revert hf
  unfold pX7_has
  refine g_iload_n hC dX7_has_0 (j := 1) rfl rfl ?_
  refine g_iconst hC dX7_has_1 ic_0 ?_
  refine g_aload_n hC dX7_has_2 (j := 0) rfl rfl ?_
  refine g_getR hC fr_7_1 h_b (b := b + 1) rfl dX7_has_3 flX7_21 ?_
  refine g_alenV hC (gx_7_1 hG h_b) rfl dX7_has_6 ?_
  refine g_iconst hC dX7_has_7 ic_1 ?_
  refine g_isub hC dX7_has_8 ?_
  refine g_callSN_i hC hR ⟨Nat.zero_le _, Nat.zero_le _⟩ mwX8_within ms_X8_within mlX7_25 (fun _ hq => kX8_within  hq) (Nat.le_of_ble_eq_true rfl) rfl (st := []) rfl (Nat.le_of_ble_eq_true rfl) dX7_has_9 (fun q1 => ?_)
  refine g_guardb (fun hz2 => ?_)
  exact g_zret_i hC hz2 hT dX7_has_12
def pX7_put (G : G2) (V : V2) (b : Nat) (a1 : Int32) (a2 : Int32) : Option (V2) :=
  letv (V b 0) fun x1 =>
  letv (fun (u3 : Unit) => ((stI (G.2.2.1 (b + 1)) V (b + 1) a1 a2).bind fun U4 =>
  some U4)) fun j2 =>
  if x1 = 0 then ((stI (G.2.2.1 (b + 1)) V (b + 1) a1 a2.toInt8.toInt32).bind fun U5 =>
  some U5)
  else (if x1 = 1 then ((stI (G.2.2.1 (b + 1)) V (b + 1) a1 a2.toInt16.toInt32).bind fun U7 =>
  some U7)
  else (if x1 = 2 then (j2 ())
  else (if x1 = 3 then (j2 ())
  else (if x1 = 4 then (letv ((if a2 = 0 then (0)
  else (1) : Int32)) fun j11 =>
  (stI (G.2.2.1 (b + 1)) V (b + 1) a1 j11).bind fun U12 =>
  some U12)
  else (j2 ())))))
set_option maxHeartbeats 4000000 in
set_option maxRecDepth 100000 in
theorem kX7_put {l : Launch} {D : Dx} {G : G2} {V : V2} {R : R2} {b : Nat} {a1 : Int32} {a2 : Int32} (hG : GX G) (h_b : own G b 17) {o : V2} (hf : pX7_put G V b a1 a2 = some o) : Con l yX7_put cX7_put 3 none (rmN 0 0 0) D G V R [.ref b, .int a1, .int a2] (none, o, R, G, 0, 0) := by
  refine Con.mk RX7 (by decide) rfl (Nat.le_of_ble_eq_true rfl) (fun C _ hR hT _ _ hL hC hnm => ?_)
  revert hf
  unfold pX7_put
  refine g_aload_n hC dX7_put_0 (j := 0) rfl rfl ?_
  refine g_getI hC fi_7_0 h_b dX7_put_1 flX7_9 ?_
  refine g_letv (X := fun x1 => Go C 4 [(0, .ref b), (1, .int a1), (2, .int a2)] [.int x1] V R G 0 0) (fun x1 => ?_)
  refine g_jn (J := fun j2 => ∀ (u3 : Unit), j2 u3 = some o → Go C 80 [(0, .ref b), (1, .int a1), (2, .int a2)] [] V R G 0 0) (fun u3 => ?_) (fun j2 hJ => ?_)
  · refine g_aload_n hC dX7_put_80 (j := 0) rfl rfl ?_
    refine g_getR hC fr_7_1 h_b (b := b + 1) rfl dX7_put_81 flX7_21 ?_
    refine g_iload_n hC dX7_put_84 (j := 1) rfl rfl ?_
    refine g_iload_n hC dX7_put_85 (j := 2) rfl rfl ?_
    refine g_iastV hC (gx_7_1 hG h_b) rfl dX7_put_86 (fun U4 => ?_)
    exact g_vret_vV hC hT dX7_put_87
  · refine g_tsw hC 0 (36) (tgt := 40) dX7_put_4 (by decide) rfl ?_ (fun hn6 => ?_)
    · refine g_aload_n hC dX7_put_40 (j := 0) rfl rfl ?_
      refine g_getR hC fr_7_1 h_b (b := b + 1) rfl dX7_put_41 flX7_21 ?_
      refine g_iload_n hC dX7_put_44 (j := 1) rfl rfl ?_
      refine g_iload_n hC dX7_put_45 (j := 2) rfl rfl ?_
      refine g_i2b hC dX7_put_46 ?_
      refine g_iastV hC (gx_7_1 hG h_b) rfl dX7_put_47 (fun U5 => ?_)
      refine g_goto hC dX7_put_48 ?_
      exact g_vret_vV hC hT dX7_put_87
    refine g_tsw hC 1 (47) (tgt := 51) dX7_put_4 (by decide) rfl ?_ (fun hn8 => ?_)
    · refine g_aload_n hC dX7_put_51 (j := 0) rfl rfl ?_
      refine g_getR hC fr_7_1 h_b (b := b + 1) rfl dX7_put_52 flX7_21 ?_
      refine g_iload_n hC dX7_put_55 (j := 1) rfl rfl ?_
      refine g_iload_n hC dX7_put_56 (j := 2) rfl rfl ?_
      refine g_i2s hC dX7_put_57 ?_
      refine g_iastV hC (gx_7_1 hG h_b) rfl dX7_put_58 (fun U7 => ?_)
      refine g_goto hC dX7_put_59 ?_
      exact g_vret_vV hC hT dX7_put_87
    refine g_tsw hC 2 (76) (tgt := 80) dX7_put_4 (by decide) rfl ?_ (fun hn9 => ?_)
    · exact hJ ()
    refine g_tsw hC 3 (76) (tgt := 80) dX7_put_4 (by decide) rfl ?_ (fun hn10 => ?_)
    · exact hJ ()
    refine g_tsw hC 4 (58) (tgt := 62) dX7_put_4 (by decide) rfl ?_ (fun hn13 => ?_)
    · refine g_aload_n hC dX7_put_62 (j := 0) rfl rfl ?_
      refine g_getR hC fr_7_1 h_b (b := b + 1) rfl dX7_put_63 flX7_21 ?_
      refine g_iload_n hC dX7_put_66 (j := 1) rfl rfl ?_
      refine g_iload_n hC dX7_put_67 (j := 2) rfl rfl ?_
      refine g_letJ (J := fun j11 => Go C 76 [] [.int j11, .int a1, .ref (b + 1)] V R G 0 0) (fun j11 hJ => ?_) (fun j11 => ?_)
      · refine g_if_eq hC dX7_put_68 ?_ ?_
        · refine g_iconst hC dX7_put_75 ic_0 ?_
          refine g_sub [] rfl ?_
          exact fun e => by cases e; exact hJ
        · refine g_iconst hC dX7_put_71 ic_1 ?_
          refine g_goto hC dX7_put_72 ?_
          refine g_sub [] rfl ?_
          exact fun e => by cases e; exact hJ
      · refine g_iastV hC (gx_7_1 hG h_b) rfl dX7_put_76 (fun U12 => ?_)
        refine g_goto hC dX7_put_77 ?_
        exact g_vret_vV hC hT dX7_put_87
    refine g_tswd hC (tgt := 80) dX7_put_4 (by have := And.intro trivial trivial; have := lv_neT (a := 0) hn6 (by decide); have := lv_neT (a := 1) hn8 (by decide); have := lv_neT (a := 2) hn9 (by decide); have := lv_neT (a := 3) hn10 (by decide); have := lv_neT (a := 4) hn13 (by decide); omega) rfl ?_
    exact hJ ()
def pX8_write (G : G2) (V : V2) (R : R2) (b : Nat) (a1 : Int32) (a2 : Int32) (a3 : Int32) : Option (Int32 × V2) :=
  (pX8_within a1 0 3).bind fun q1 =>
  if q1 = 0 then (some ((-1), V))
  else ((ldR 4 (R (b + 70)) a1).bind fun q2 =>
  ocase q2 (some ((-11), V)) fun y3 => if ownB G y3 17 then ((pX7_has G V y3 a2).bind fun q5 =>
  if q5 = 0 then (some ((-12), V))
  else ((pX7_put G V y3 a2 a3).bind fun q6 =>
  some (1, q6))) else none)
set_option maxHeartbeats 4000000 in
set_option maxRecDepth 100000 in
theorem kX8_write {l : Launch} {D : Dx} {G : G2} {V : V2} {R : R2} {b : Nat} {a1 : Int32} {a2 : Int32} {a3 : Int32} (hG : GX G) (h_b : own G b 18) {o : Int32 × V2} (hf : pX8_write G V R b a1 a2 a3 = some o) : Con l yX8_write cX8_write 5 (some .int) (rmN 2 0 0) D G V R [.ref b, .int a1, .int a2, .int a3] (some (.int o.1), o.2, R, G, 0, 0) := by
  refine Con.mk RX8 (by decide) rfl (Nat.le_of_ble_eq_true rfl) (fun C _ hR hT _ _ hL hC hnm => ?_)
  revert hf
  unfold pX8_write
  refine g_iload_n hC dX8_write_0 (j := 1) rfl rfl ?_
  refine g_iconst hC dX8_write_1 ic_0 ?_
  refine g_iconst hC dX8_write_2 ic_3 ?_
  refine g_callS_i hC hR ⟨Nat.zero_le _, Nat.zero_le _⟩ mwX8_within ms_X8_within mlX8_77 (fun _ hq => kX8_within  hq) (Nat.le_of_ble_eq_true rfl) rfl (st := []) rfl (Nat.le_of_ble_eq_true rfl) dX8_write_3 (fun q1 => ?_)
  refine g_if_ne hC dX8_write_6 ?_ ?_
  · refine g_iconst hC dX8_write_9 ic_m1 ?_
    exact g_iret_iV hC hT dX8_write_10
  · refine g_aload_n hC dX8_write_11 (j := 0) rfl rfl ?_
    refine g_getR hC fr_8_8 h_b (b := b + 70) rfl dX8_write_12 flX8_54 ?_
    refine g_iload_n hC dX8_write_15 (j := 1) rfl rfl ?_
    refine g_aaldV hC (by decide) (gx_8_8 hG h_b) (gl_8_8 hG h_b) dX8_write_16 (fun q2 => ?_)
    refine g_astoreq hC (n0 := 5) (lv' := [(4, va_rf q2), (0, .ref b), (1, .int a1), (2, .int a2), (3, .int a3)]) dX8_write_17 (Nat.le_of_ble_eq_true rfl) hL rfl ?_
    refine g_aloadq hC dX8_write_19 (j := 0) rfl ?_
    cases q2 with
    | none =>
      refine g_onone ?_
      refine g_ifnonnull_no hC dX8_write_21 ?_
      refine g_bipush hC dX8_write_24 bc_m11 ?_
      exact g_iret_iV hC hT dX8_write_26
    | some y3 =>
      refine g_osome ?_
      refine g_guard (fun hy4 => ?_)
      refine g_ifnonnull_yes hC dX8_write_21 ?_
      refine g_aload hC dX8_write_27 (j := 0) rfl ?_
      refine g_iload_n hC dX8_write_29 (j := 3) rfl rfl ?_
      refine g_callV_i hC hR ⟨Nat.zero_le _, Nat.zero_le _⟩ mwX7_has miX7_has (ci := 7) rfl hy4 (Nat.le_of_ble_eq_true rfl) mlX8_314 (fun _ hq => kX7_has hG hy4 hq) (Nat.le_of_ble_eq_true rfl) rfl (st := []) rfl (Nat.le_of_ble_eq_true rfl) dX8_write_30 (fun q5 => ?_)
      refine g_if_ne hC dX8_write_33 ?_ ?_
      · refine g_bipush hC dX8_write_36 bc_m12 ?_
        exact g_iret_iV hC hT dX8_write_38
      · refine g_aload hC dX8_write_39 (j := 0) rfl ?_
        refine g_iload_n hC dX8_write_41 (j := 3) rfl rfl ?_
        refine g_iload_n hC dX8_write_42 (j := 4) rfl rfl ?_
        refine g_callV_vV hC hR ⟨Nat.zero_le _, Nat.zero_le _⟩ mwX7_put miX7_put (ci := 7) rfl hy4 (Nat.le_of_ble_eq_true rfl) mlX8_317 (fun _ hq => kX7_put hG hy4 hq) (Nat.le_of_ble_eq_true rfl) rfl (st := []) rfl (Nat.le_of_ble_eq_true rfl) dX8_write_43 (fun q6 => ?_)
        refine g_iconst hC dX8_write_46 ic_1 ?_
        exact g_iret_iV hC hT dX8_write_47
