def pX9_sharesPlain (V : V2) (b : Nat) (a1 : Int32) : Option (Int32 × V2) :=
  (pX9_runs V b 12).bind fun q1 =>
  letv (((q1 b 37) - (q1 b 38)) + 2) fun x2 =>
  letv ((if (q1 b 39) = 0 then (if x2 = 0 then (1)
  else (0))
  else (1) : Int32)) fun j3 =>
  if isb j3 then (
  letv (up2 q1 b 39 j3) fun U4 =>
  if (U4 b 39) = 0 then ((dvI a1 x2).bind fun t6 =>
  some (t6, U4))
  else (some (0, U4))) else none
set_option maxHeartbeats 4000000 in
set_option maxRecDepth 100000 in
theorem kX9_sharesPlain {l : Launch} {D : Dx} {G : G2} {V : V2} {R : R2} {b : Nat} {a1 : Int32} (hG : GX G) (h_b : own G b 19) {o : Int32 × V2} (hf : pX9_sharesPlain V b a1 = some o) : Con l yX9_sharesPlain cX9_sharesPlain 3 (some .int) (rmN 1 0 0) D G V R [.ref b, .int a1] (some (.int o.1), o.2, R, G, 0, 0) := by
  refine Con.mk RX9 (by decide) rfl (Nat.le_of_ble_eq_true rfl) (fun C _ hR hT _ _ hL hC hnm => ?_)
  revert hf
  unfold pX9_sharesPlain
  refine g_aload_n hC dX9_sharesPlain_0 (j := 0) rfl rfl ?_
  refine g_bipush hC dX9_sharesPlain_1 bc_12 ?_
  refine g_callV_vV hC hR ⟨Nat.zero_le _, Nat.zero_le _⟩ mwX9_runs miX9_runs (ci := 9) rfl h_b (Nat.le_of_ble_eq_true rfl) mlX9_375 (fun _ hq => kX9_runs hG h_b hq) (Nat.le_of_ble_eq_true rfl) rfl (st := []) rfl (Nat.le_of_ble_eq_true rfl) dX9_sharesPlain_3 (fun q1 => ?_)
  refine g_aload_n hC dX9_sharesPlain_6 (j := 0) rfl rfl ?_
  refine g_getI hC fi_9_37 h_b dX9_sharesPlain_7 flX9_378 ?_
  refine g_aload_n hC dX9_sharesPlain_10 (j := 0) rfl rfl ?_
  refine g_getI hC fi_9_38 h_b dX9_sharesPlain_11 flX9_390 ?_
  refine g_isub hC dX9_sharesPlain_14 ?_
  refine g_iconst hC dX9_sharesPlain_15 ic_2 ?_
  refine g_iadd hC dX9_sharesPlain_16 ?_
  refine g_istore_nL hC (n0 := 3) (lv' := fun x2 => [(2, .int x2), (0, .ref b), (1, .int a1)]) dX9_sharesPlain_17 rfl (Nat.le_of_ble_eq_true rfl) hL (fun _ => rfl) (fun x2 => ?_)
  refine g_aload_n hC dX9_sharesPlain_18 (j := 1) rfl rfl ?_
  refine g_aload_n hC dX9_sharesPlain_19 (j := 1) rfl rfl ?_
  refine g_getI hC fi_9_39 h_b dX9_sharesPlain_20 flX9_396 ?_
  refine g_letJ (J := fun j3 => Go C 35 [(0, .ref b), (1, .int a1), (2, .int x2)] [.int j3, .ref b] q1 R G 0 0) (fun j3 hJ => ?_) (fun j3 => ?_)
  · refine g_if_ne hC dX9_sharesPlain_23 ?_ ?_
    · refine g_iload_n hC dX9_sharesPlain_26 (j := 0) rfl rfl ?_
      refine g_if_ne hC dX9_sharesPlain_27 ?_ ?_
      · refine g_iconst hC dX9_sharesPlain_30 ic_1 ?_
        refine g_goto hC dX9_sharesPlain_31 ?_
        refine g_sub [1, 2, 0] rfl ?_
        exact fun e => by cases e; exact hJ
      · refine g_iconst hC dX9_sharesPlain_34 ic_0 ?_
        refine g_sub [1, 2, 0] rfl ?_
        exact fun e => by cases e; exact hJ
    · refine g_iconst hC dX9_sharesPlain_30 ic_1 ?_
      refine g_goto hC dX9_sharesPlain_31 ?_
      refine g_sub [1, 2, 0] rfl ?_
      exact fun e => by cases e; exact hJ
  · refine g_guardb (fun hz5 => ?_)
    refine g_putZL hC fp_9_39 h_b hz5 dX9_sharesPlain_35 flX9_396 (fun U4 => ?_)
    refine g_aload_n hC dX9_sharesPlain_38 (j := 0) rfl rfl ?_
    refine g_getI hC fi_9_39 h_b dX9_sharesPlain_39 flX9_396 ?_
    refine g_if_eq hC dX9_sharesPlain_42 ?_ ?_
    · refine g_iload_n hC dX9_sharesPlain_49 (j := 1) rfl rfl ?_
      refine g_iload_n hC dX9_sharesPlain_50 (j := 2) rfl rfl ?_
      refine g_dvI hC dX9_sharesPlain_51 (fun t6 => ?_)
      exact g_iret_iV hC hT dX9_sharesPlain_52
    · refine g_iconst hC dX9_sharesPlain_45 ic_0 ?_
      refine g_goto hC dX9_sharesPlain_46 ?_
      exact g_iret_iV hC hT dX9_sharesPlain_52
def pX9_sharesOfLinen (V : V2) (b : Nat) (a1 : Int32) : Option (Int32 × V2) :=
  (pX9_runs V b 40).bind fun q1 =>
  (pX9_sharesPlain q1 b a1).bind fun q2 =>
  some (q2.1 + 8, q2.2)
set_option maxHeartbeats 4000000 in
set_option maxRecDepth 100000 in
theorem kX9_sharesOfLinen {l : Launch} {D : Dx} {G : G2} {V : V2} {R : R2} {b : Nat} {a1 : Int32} (hG : GX G) (h_b : own G b 19) {o : Int32 × V2} (hf : pX9_sharesOfLinen V b a1 = some o) : Con l yX9_sharesOfLinen cX9_sharesOfLinen 2 (some .int) (rmN 2 0 0) D G V R [.ref b, .int a1] (some (.int o.1), o.2, R, G, 0, 0) := by
  refine Con.mk RX9 (by decide) rfl (Nat.le_of_ble_eq_true rfl) (fun C _ hR hT _ _ hL hC hnm => ?_)
  revert hf
  unfold pX9_sharesOfLinen
  refine g_aload_n hC dX9_sharesOfLinen_0 (j := 0) rfl rfl ?_
  refine g_bipush hC dX9_sharesOfLinen_1 bc_40 ?_
  refine g_callV_vV hC hR ⟨Nat.zero_le _, Nat.zero_le _⟩ mwX9_runs miX9_runs (ci := 9) rfl h_b (Nat.le_of_ble_eq_true rfl) mlX9_375 (fun _ hq => kX9_runs hG h_b hq) (Nat.le_of_ble_eq_true rfl) rfl (st := []) rfl (Nat.le_of_ble_eq_true rfl) dX9_sharesOfLinen_3 (fun q1 => ?_)
  refine g_aload_n hC dX9_sharesOfLinen_6 (j := 0) rfl rfl ?_
  refine g_iload_n hC dX9_sharesOfLinen_7 (j := 1) rfl rfl ?_
  refine g_callV_iV hC hR ⟨Nat.zero_le _, Nat.zero_le _⟩ mwX9_sharesPlain miX9_sharesPlain (ci := 9) rfl h_b (Nat.le_of_ble_eq_true rfl) mlX9_399 (fun _ hq => kX9_sharesPlain hG h_b hq) (Nat.le_of_ble_eq_true rfl) rfl (st := []) rfl (Nat.le_of_ble_eq_true rfl) dX9_sharesOfLinen_8 (fun q2 => ?_)
  refine g_bipush hC dX9_sharesOfLinen_11 bc_8 ?_
  refine g_iadd hC dX9_sharesOfLinen_13 ?_
  exact g_iret_iV hC hT dX9_sharesOfLinen_14
def pX9_shares (V : V2) (b : Nat) (a1 : Int32) : Option (Int32 × V2) :=
  if (V b 36) = (4 : Int32) then ((pX9_sharesOfLinen V b a1).bind fun q1 =>
  some (q1.1, q1.2))
  else (if (V b 36) = (5 : Int32) then ((pX9_runs V b 61).bind fun q2 =>
  (pX9_sharesOfLinen q2 b a1).bind fun q3 =>
  if (q3.2 b 39) = 0 then ((pX9_folds q3.2 b (q3.2 b 37)).bind fun q4 =>
  some (q3.1 ^^^ q4.1, q4.2))
  else (some (0, q3.2)))
  else ((pX9_sharesPlain V b a1).bind fun q5 =>
  some (q5.1, q5.2)))
set_option maxHeartbeats 4000000 in
set_option maxRecDepth 100000 in
theorem kX9_shares {l : Launch} {D : Dx} {G : G2} {V : V2} {R : R2} {b : Nat} {a1 : Int32} (hG : GX G) (h_b : own G b 19) {o : Int32 × V2} (hf : pX9_shares V b a1 = some o) : Con l yX9_shares cX9_shares 3 (some .int) (rmN 3 0 0) D G V R [.ref b, .int a1] (some (.int o.1), o.2, R, G, 0, 0) := by
  refine Con.mk RX9 (by decide) rfl (Nat.le_of_ble_eq_true rfl) (fun C _ hR hT _ _ hL hC hnm => ?_)
  revert hf
  unfold pX9_shares
  refine g_aload_n hC dX9_shares_0 (j := 0) rfl rfl ?_
  refine g_getI hC fi_9_36 h_b dX9_shares_1 flX9_381 ?_
  refine g_iconst hC dX9_shares_4 ic_4 ?_
  refine g_icmp_ne hC dX9_shares_5 ?_ ?_
  · refine g_aload_n hC dX9_shares_8 (j := 0) rfl rfl ?_
    refine g_iload_n hC dX9_shares_9 (j := 1) rfl rfl ?_
    refine g_callV_iV hC hR ⟨Nat.zero_le _, Nat.zero_le _⟩ mwX9_sharesOfLinen miX9_sharesOfLinen (ci := 9) rfl h_b (Nat.le_of_ble_eq_true rfl) mlX9_402 (fun _ hq => kX9_sharesOfLinen hG h_b hq) (Nat.le_of_ble_eq_true rfl) rfl (st := []) rfl (Nat.le_of_ble_eq_true rfl) dX9_shares_10 (fun q1 => ?_)
    exact g_iret_iV hC hT dX9_shares_13
  · refine g_aload_n hC dX9_shares_14 (j := 0) rfl rfl ?_
    refine g_getI hC fi_9_36 h_b dX9_shares_15 flX9_381 ?_
    refine g_iconst hC dX9_shares_18 ic_5 ?_
    refine g_icmp_eq hC dX9_shares_19 ?_ ?_
    · refine g_aload_n hC dX9_shares_28 (j := 0) rfl rfl ?_
      refine g_bipush hC dX9_shares_29 bc_61 ?_
      refine g_callV_vV hC hR ⟨Nat.zero_le _, Nat.zero_le _⟩ mwX9_runs miX9_runs (ci := 9) rfl h_b (Nat.le_of_ble_eq_true rfl) mlX9_375 (fun _ hq => kX9_runs hG h_b hq) (Nat.le_of_ble_eq_true rfl) rfl (st := []) rfl (Nat.le_of_ble_eq_true rfl) dX9_shares_31 (fun q2 => ?_)
      refine g_aload_n hC dX9_shares_34 (j := 0) rfl rfl ?_
      refine g_iload_n hC dX9_shares_35 (j := 1) rfl rfl ?_
      refine g_callV_iV hC hR ⟨Nat.zero_le _, Nat.zero_le _⟩ mwX9_sharesOfLinen miX9_sharesOfLinen (ci := 9) rfl h_b (Nat.le_of_ble_eq_true rfl) mlX9_402 (fun _ hq => kX9_sharesOfLinen hG h_b hq) (Nat.le_of_ble_eq_true rfl) rfl (st := []) rfl (Nat.le_of_ble_eq_true rfl) dX9_shares_36 (fun q3 => ?_)
      refine g_istore_n hC (n0 := 3) (lv' := [(2, .int q3.1), (0, .ref b), (1, .int a1)]) dX9_shares_39 rfl (Nat.le_of_ble_eq_true rfl) hL rfl ?_
      refine g_aload_n hC dX9_shares_40 (j := 1) rfl rfl ?_
      refine g_getI hC fi_9_39 h_b dX9_shares_41 flX9_396 ?_
      refine g_if_eq hC dX9_shares_44 ?_ ?_
      · refine g_iload_n hC dX9_shares_51 (j := 0) rfl rfl ?_
        refine g_aload_n hC dX9_shares_52 (j := 1) rfl rfl ?_
        refine g_aload_n hC dX9_shares_53 (j := 1) rfl rfl ?_
        refine g_getI hC fi_9_37 h_b dX9_shares_54 flX9_378 ?_
        refine g_callV_iV hC hR ⟨Nat.zero_le _, Nat.zero_le _⟩ mwX9_folds miX9_folds (ci := 9) rfl h_b (Nat.le_of_ble_eq_true rfl) mlX9_387 (fun _ hq => kX9_folds hG h_b hq) (Nat.le_of_ble_eq_true rfl) rfl (st := [.int q3.1]) rfl (Nat.le_of_ble_eq_true rfl) dX9_shares_57 (fun q4 => ?_)
        refine g_ixor hC dX9_shares_60 ?_
        exact g_iret_iV hC hT dX9_shares_61
      · refine g_iconst hC dX9_shares_47 ic_0 ?_
        refine g_goto hC dX9_shares_48 ?_
        exact g_iret_iV hC hT dX9_shares_61
    · refine g_aload_n hC dX9_shares_22 (j := 0) rfl rfl ?_
      refine g_iload_n hC dX9_shares_23 (j := 1) rfl rfl ?_
      refine g_callV_iV hC hR ⟨Nat.zero_le _, Nat.zero_le _⟩ mwX9_sharesPlain miX9_sharesPlain (ci := 9) rfl h_b (Nat.le_of_ble_eq_true rfl) mlX9_399 (fun _ hq => kX9_sharesPlain hG h_b hq) (Nat.le_of_ble_eq_true rfl) rfl (st := []) rfl (Nat.le_of_ble_eq_true rfl) dX9_shares_24 (fun q5 => ?_)
      exact g_iret_iV hC hT dX9_shares_27
def pX9_storesPlain (V : V2) (b : Nat) (a1 : Int32) : Option (Int32 × V2) :=
  (pX9_runs V b 13).bind fun q1 =>
  (pX9_airs q1 b a1).bind fun q2 =>
  (pX9_shares q2.2 b a1).bind fun q3 =>
  some (q2.1 - q3.1, q3.2)
set_option maxHeartbeats 4000000 in
set_option maxRecDepth 100000 in
theorem kX9_storesPlain {l : Launch} {D : Dx} {G : G2} {V : V2} {R : R2} {b : Nat} {a1 : Int32} (hG : GX G) (h_b : own G b 19) {o : Int32 × V2} (hf : pX9_storesPlain V b a1 = some o) : Con l yX9_storesPlain cX9_storesPlain 3 (some .int) (rmN 5 0 0) D G V R [.ref b, .int a1] (some (.int o.1), o.2, R, G, 0, 0) := by
  refine Con.mk RX9 (by decide) rfl (Nat.le_of_ble_eq_true rfl) (fun C _ hR hT _ _ hL hC hnm => ?_)
  revert hf
  unfold pX9_storesPlain
  refine g_aload_n hC dX9_storesPlain_0 (j := 0) rfl rfl ?_
  refine g_bipush hC dX9_storesPlain_1 bc_13 ?_
  refine g_callV_vV hC hR ⟨Nat.zero_le _, Nat.zero_le _⟩ mwX9_runs miX9_runs (ci := 9) rfl h_b (Nat.le_of_ble_eq_true rfl) mlX9_375 (fun _ hq => kX9_runs hG h_b hq) (Nat.le_of_ble_eq_true rfl) rfl (st := []) rfl (Nat.le_of_ble_eq_true rfl) dX9_storesPlain_3 (fun q1 => ?_)
  refine g_aload_n hC dX9_storesPlain_6 (j := 0) rfl rfl ?_
  refine g_iload_n hC dX9_storesPlain_7 (j := 1) rfl rfl ?_
  refine g_callV_iV hC hR ⟨Nat.zero_le _, Nat.zero_le _⟩ mwX9_airs miX9_airs (ci := 9) rfl h_b (Nat.le_of_ble_eq_true rfl) mlX9_405 (fun _ hq => kX9_airs hG h_b hq) (Nat.le_of_ble_eq_true rfl) rfl (st := []) rfl (Nat.le_of_ble_eq_true rfl) dX9_storesPlain_8 (fun q2 => ?_)
  refine g_istore_n hC (n0 := 3) (lv' := [(2, .int q2.1), (0, .ref b), (1, .int a1)]) dX9_storesPlain_11 rfl (Nat.le_of_ble_eq_true rfl) hL rfl ?_
  refine g_iload_n hC dX9_storesPlain_12 (j := 0) rfl rfl ?_
  refine g_aload_n hC dX9_storesPlain_13 (j := 1) rfl rfl ?_
  refine g_iload_n hC dX9_storesPlain_14 (j := 2) rfl rfl ?_
  refine g_callV_iV hC hR ⟨Nat.zero_le _, Nat.zero_le _⟩ mwX9_shares miX9_shares (ci := 9) rfl h_b (Nat.le_of_ble_eq_true rfl) mlX9_408 (fun _ hq => kX9_shares hG h_b hq) (Nat.le_of_ble_eq_true rfl) rfl (st := [.int q2.1]) rfl (Nat.le_of_ble_eq_true rfl) dX9_storesPlain_15 (fun q3 => ?_)
  refine g_isub hC dX9_storesPlain_18 ?_
  exact g_iret_iV hC hT dX9_storesPlain_19
def pX9_stores (V : V2) (b : Nat) (a1 : Int32) : Option (Int32 × V2) :=
  if (V b 36) = (3 : Int32) then ((pX9_runs V b 51).bind fun q1 =>
  (pX9_storesPlain q1 b a1).bind fun q2 =>
  if (q2.2 b 39) = 0 then ((pX9_airs q2.2 b (q2.2 b 38)).bind fun q3 =>
  some (q2.1 - q3.1, q3.2))
  else (some (0, q2.2)))
  else ((pX9_storesPlain V b a1).bind fun q4 =>
  some (q4.1, q4.2))
set_option maxHeartbeats 4000000 in
set_option maxRecDepth 100000 in
theorem kX9_stores {l : Launch} {D : Dx} {G : G2} {V : V2} {R : R2} {b : Nat} {a1 : Int32} (hG : GX G) (h_b : own G b 19) {o : Int32 × V2} (hf : pX9_stores V b a1 = some o) : Con l yX9_stores cX9_stores 3 (some .int) (rmN 6 0 0) D G V R [.ref b, .int a1] (some (.int o.1), o.2, R, G, 0, 0) := by
  refine Con.mk RX9 (by decide) rfl (Nat.le_of_ble_eq_true rfl) (fun C _ hR hT _ _ hL hC hnm => ?_)
  revert hf
  unfold pX9_stores
  refine g_aload_n hC dX9_stores_0 (j := 0) rfl rfl ?_
  refine g_getI hC fi_9_36 h_b dX9_stores_1 flX9_381 ?_
  refine g_iconst hC dX9_stores_4 ic_3 ?_
  refine g_icmp_eq hC dX9_stores_5 ?_ ?_
  · refine g_aload_n hC dX9_stores_14 (j := 0) rfl rfl ?_
    refine g_bipush hC dX9_stores_15 bc_51 ?_
    refine g_callV_vV hC hR ⟨Nat.zero_le _, Nat.zero_le _⟩ mwX9_runs miX9_runs (ci := 9) rfl h_b (Nat.le_of_ble_eq_true rfl) mlX9_375 (fun _ hq => kX9_runs hG h_b hq) (Nat.le_of_ble_eq_true rfl) rfl (st := []) rfl (Nat.le_of_ble_eq_true rfl) dX9_stores_17 (fun q1 => ?_)
    refine g_aload_n hC dX9_stores_20 (j := 0) rfl rfl ?_
    refine g_iload_n hC dX9_stores_21 (j := 1) rfl rfl ?_
    refine g_callV_iV hC hR ⟨Nat.zero_le _, Nat.zero_le _⟩ mwX9_storesPlain miX9_storesPlain (ci := 9) rfl h_b (Nat.le_of_ble_eq_true rfl) mlX9_411 (fun _ hq => kX9_storesPlain hG h_b hq) (Nat.le_of_ble_eq_true rfl) rfl (st := []) rfl (Nat.le_of_ble_eq_true rfl) dX9_stores_22 (fun q2 => ?_)
    refine g_istore_n hC (n0 := 3) (lv' := [(2, .int q2.1), (0, .ref b), (1, .int a1)]) dX9_stores_25 rfl (Nat.le_of_ble_eq_true rfl) hL rfl ?_
    refine g_aload_n hC dX9_stores_26 (j := 1) rfl rfl ?_
    refine g_getI hC fi_9_39 h_b dX9_stores_27 flX9_396 ?_
    refine g_if_eq hC dX9_stores_30 ?_ ?_
    · refine g_iload_n hC dX9_stores_37 (j := 0) rfl rfl ?_
      refine g_aload_n hC dX9_stores_38 (j := 1) rfl rfl ?_
      refine g_aload_n hC dX9_stores_39 (j := 1) rfl rfl ?_
      refine g_getI hC fi_9_38 h_b dX9_stores_40 flX9_390 ?_
      refine g_callV_iV hC hR ⟨Nat.zero_le _, Nat.zero_le _⟩ mwX9_airs miX9_airs (ci := 9) rfl h_b (Nat.le_of_ble_eq_true rfl) mlX9_405 (fun _ hq => kX9_airs hG h_b hq) (Nat.le_of_ble_eq_true rfl) rfl (st := [.int q2.1]) rfl (Nat.le_of_ble_eq_true rfl) dX9_stores_43 (fun q3 => ?_)
      refine g_isub hC dX9_stores_46 ?_
      exact g_iret_iV hC hT dX9_stores_47
    · refine g_iconst hC dX9_stores_33 ic_0 ?_
      refine g_goto hC dX9_stores_34 ?_
      exact g_iret_iV hC hT dX9_stores_47
  · refine g_aload_n hC dX9_stores_8 (j := 0) rfl rfl ?_
    refine g_iload_n hC dX9_stores_9 (j := 1) rfl rfl ?_
    refine g_callV_iV hC hR ⟨Nat.zero_le _, Nat.zero_le _⟩ mwX9_storesPlain miX9_storesPlain (ci := 9) rfl h_b (Nat.le_of_ble_eq_true rfl) mlX9_411 (fun _ hq => kX9_storesPlain hG h_b hq) (Nat.le_of_ble_eq_true rfl) rfl (st := []) rfl (Nat.le_of_ble_eq_true rfl) dX9_stores_10 (fun q4 => ?_)
    exact g_iret_iV hC hT dX9_stores_13
def pX9_act (V : V2) (b : Nat) (a1 : Int32) (a2 : Int32) (a3 : Int32) : Option (Int32 × V2) :=
  letv (up2 V b 35 0) fun U1 =>
  (pX9_isShelf a1).bind fun q2 =>
  if q2 = 0 then (some (0, U1))
  else ((pX9_isIn a2.toInt64 0 3).bind fun q3 =>
  if q3 = 0 then (some (0, U1))
  else ((pX9_heldOn U1 b a1).bind fun q4 =>
  if q4 = (1 : Int32) then (letv (up2 U1 b 39 0) fun U5 =>
  (ldI 4 (U5 (b + 15)) a1).bind fun t6 =>
  (pX9_its U5 b t6 0).bind fun q7 =>
  letv (up2 U5 b 36 q7) fun U8 =>
  (ldI 4 (U8 (b + 15)) a1).bind fun t9 =>
  letv (up2 U8 b 37 t9) fun U10 =>
  (ldI 4 (U10 (b + 15)) a1).bind fun t11 =>
  (pX9_its U10 b t11 3).bind fun q12 =>
  letv (up2 U10 b 38 q12) fun U13 =>
  ((if a2 = 0 then ((pX9_folds U13 b a3).bind fun q15 =>
  some (q15.1, q15.2))
  else (if a2 = (1 : Int32) then ((pX9_airs U13 b a3).bind fun q16 =>
  some (q16.1, q16.2))
  else (if a2 = (2 : Int32) then ((pX9_shares U13 b a3).bind fun q17 =>
  some (q17.1, q17.2))
  else ((pX9_stores U13 b a3).bind fun q18 =>
  some (q18.1, q18.2)))) : Option (Int32 × V2))).bind fun j14 =>
  if (j14.2 b 39) = 0 then (some (j14.1, j14.2))
  else (some ((-15), j14.2)))
  else (some (0, U1))))
set_option maxHeartbeats 4000000 in
set_option maxRecDepth 100000 in
theorem kX9_act {l : Launch} {D : Dx} {G : G2} {V : V2} {R : R2} {b : Nat} {a1 : Int32} {a2 : Int32} {a3 : Int32} (hG : GX G) (h_b : own G b 19) {o : Int32 × V2} (hf : pX9_act V b a1 a2 a3 = some o) : Con l yX9_act cX9_act 5 (some .int) (rmN 7 0 0) D G V R [.ref b, .int a1, .int a2, .int a3] (some (.int o.1), o.2, R, G, 0, 0) := by
  refine Con.mk RX9 (by decide) rfl (Nat.le_of_ble_eq_true rfl) (fun C _ hR hT _ _ hL hC hnm => ?_)
  revert hf
  unfold pX9_act
  refine g_aload_n hC dX9_act_0 (j := 0) rfl rfl ?_
  refine g_iconst hC dX9_act_1 ic_0 ?_
  refine g_putIL hC fp_9_35 h_b dX9_act_2 flX9_372 (fun U1 => ?_)
  refine g_iload_n hC dX9_act_5 (j := 1) rfl rfl ?_
  refine g_callS_i hC hR ⟨Nat.zero_le _, Nat.zero_le _⟩ mwX9_isShelf ms_X9_isShelf mlX9_362 (fun _ hq => kX9_isShelf  hq) (Nat.le_of_ble_eq_true rfl) rfl (st := []) rfl (Nat.le_of_ble_eq_true rfl) dX9_act_6 (fun q2 => ?_)
  refine g_if_eq hC dX9_act_9 ?_ ?_
  · refine g_iconst hC dX9_act_33 ic_0 ?_
    exact g_iret_iV hC hT dX9_act_34
  · refine g_iload_n hC dX9_act_12 (j := 2) rfl rfl ?_
    refine g_i2l hC dX9_act_13 ?_
    refine g_lconst hC dX9_act_14 lc_0 ?_
    refine g_ldc2 hC dX9_act_15 clX9_306 ?_
    refine g_callS_i hC hR ⟨Nat.zero_le _, Nat.zero_le _⟩ mwX9_isIn ms_X9_isIn mlX9_63 (fun _ hq => kX9_isIn  hq) (Nat.le_of_ble_eq_true rfl) rfl (st := []) rfl (Nat.le_of_ble_eq_true rfl) dX9_act_18 (fun q3 => ?_)
    refine g_if_eq hC dX9_act_21 ?_ ?_
    · refine g_iconst hC dX9_act_33 ic_0 ?_
      exact g_iret_iV hC hT dX9_act_34
    · refine g_aload_n hC dX9_act_24 (j := 0) rfl rfl ?_
      refine g_iload_n hC dX9_act_25 (j := 1) rfl rfl ?_
      refine g_callV_i hC hR ⟨Nat.zero_le _, Nat.zero_le _⟩ mwX9_heldOn miX9_heldOn (ci := 9) rfl h_b (Nat.le_of_ble_eq_true rfl) mlX9_369 (fun _ hq => kX9_heldOn hG h_b hq) (Nat.le_of_ble_eq_true rfl) rfl (st := []) rfl (Nat.le_of_ble_eq_true rfl) dX9_act_26 (fun q4 => ?_)
      refine g_iconst hC dX9_act_29 ic_1 ?_
      refine g_icmp_eq hC dX9_act_30 ?_ ?_
      · refine g_aload_n hC dX9_act_35 (j := 0) rfl rfl ?_
        refine g_iconst hC dX9_act_36 ic_0 ?_
        refine g_putZL hC fp_9_39 h_b rfl dX9_act_37 flX9_396 (fun U5 => ?_)
        refine g_aload_n hC dX9_act_40 (j := 0) rfl rfl ?_
        refine g_aload_n hC dX9_act_41 (j := 0) rfl rfl ?_
        refine g_aload_n hC dX9_act_42 (j := 0) rfl rfl ?_
        refine g_getR hC fr_9_32 h_b (b := b + 15) rfl dX9_act_43 flX9_52 ?_
        refine g_iload_n hC dX9_act_46 (j := 1) rfl rfl ?_
        refine g_ialdV hC (gx_9_32 hG h_b) (gl_9_32 hG h_b) dX9_act_47 (fun t6 => ?_)
        refine g_iconst hC dX9_act_48 ic_0 ?_
        refine g_callV_i hC hR ⟨Nat.zero_le _, Nat.zero_le _⟩ mwX9_its miX9_its (ci := 9) rfl h_b (Nat.le_of_ble_eq_true rfl) mlX9_79 (fun _ hq => kX9_its hG h_b hq) (Nat.le_of_ble_eq_true rfl) rfl (st := [.ref b]) rfl (Nat.le_of_ble_eq_true rfl) dX9_act_49 (fun q7 => ?_)
        refine g_putIL hC fp_9_36 h_b dX9_act_52 flX9_381 (fun U8 => ?_)
        refine g_aload_n hC dX9_act_55 (j := 0) rfl rfl ?_
        refine g_aload_n hC dX9_act_56 (j := 0) rfl rfl ?_
        refine g_getR hC fr_9_32 h_b (b := b + 15) rfl dX9_act_57 flX9_52 ?_
        refine g_iload_n hC dX9_act_60 (j := 1) rfl rfl ?_
        refine g_ialdV hC (gx_9_32 hG h_b) (gl_9_32 hG h_b) dX9_act_61 (fun t9 => ?_)
        refine g_putIL hC fp_9_37 h_b dX9_act_62 flX9_378 (fun U10 => ?_)
        refine g_aload_n hC dX9_act_65 (j := 0) rfl rfl ?_
        refine g_aload_n hC dX9_act_66 (j := 0) rfl rfl ?_
        refine g_aload_n hC dX9_act_67 (j := 0) rfl rfl ?_
        refine g_getR hC fr_9_32 h_b (b := b + 15) rfl dX9_act_68 flX9_52 ?_
        refine g_iload_n hC dX9_act_71 (j := 1) rfl rfl ?_
        refine g_ialdV hC (gx_9_32 hG h_b) (gl_9_32 hG h_b) dX9_act_72 (fun t11 => ?_)
        refine g_iconst hC dX9_act_73 ic_3 ?_
        refine g_callV_i hC hR ⟨Nat.zero_le _, Nat.zero_le _⟩ mwX9_its miX9_its (ci := 9) rfl h_b (Nat.le_of_ble_eq_true rfl) mlX9_79 (fun _ hq => kX9_its hG h_b hq) (Nat.le_of_ble_eq_true rfl) rfl (st := [.ref b]) rfl (Nat.le_of_ble_eq_true rfl) dX9_act_74 (fun q12 => ?_)
        refine g_putIL hC fp_9_38 h_b dX9_act_77 flX9_390 (fun U13 => ?_)
        refine g_iload_n hC dX9_act_80 (j := 2) rfl rfl ?_
        refine g_bind (J := fun j14 => Go C 123 [(0, .ref b)] [.int j14.1] j14.2 R G 0 0) (fun j14 hJ => ?_) (fun j14 => ?_)
        · refine g_if_ne hC dX9_act_81 ?_ ?_
          · refine g_aload_n hC dX9_act_84 (j := 0) rfl rfl ?_
            refine g_iload_n hC dX9_act_85 (j := 3) rfl rfl ?_
            refine g_callV_iV hC hR ⟨Nat.zero_le _, Nat.zero_le _⟩ mwX9_folds miX9_folds (ci := 9) rfl h_b (Nat.le_of_ble_eq_true rfl) mlX9_387 (fun _ hq => kX9_folds hG h_b hq) (Nat.le_of_ble_eq_true rfl) rfl (st := []) rfl (Nat.le_of_ble_eq_true rfl) dX9_act_86 (fun q15 => ?_)
            refine g_goto hC dX9_act_89 ?_
            refine g_sub [0] rfl ?_
            exact fun e => by cases e; exact hJ
          · refine g_iload_n hC dX9_act_92 (j := 2) rfl rfl ?_
            refine g_iconst hC dX9_act_93 ic_1 ?_
            refine g_icmp_ne hC dX9_act_94 ?_ ?_
            · refine g_aload_n hC dX9_act_97 (j := 0) rfl rfl ?_
              refine g_iload_n hC dX9_act_98 (j := 3) rfl rfl ?_
              refine g_callV_iV hC hR ⟨Nat.zero_le _, Nat.zero_le _⟩ mwX9_airs miX9_airs (ci := 9) rfl h_b (Nat.le_of_ble_eq_true rfl) mlX9_405 (fun _ hq => kX9_airs hG h_b hq) (Nat.le_of_ble_eq_true rfl) rfl (st := []) rfl (Nat.le_of_ble_eq_true rfl) dX9_act_99 (fun q16 => ?_)
              refine g_goto hC dX9_act_102 ?_
              refine g_sub [0] rfl ?_
              exact fun e => by cases e; exact hJ
            · refine g_iload_n hC dX9_act_105 (j := 2) rfl rfl ?_
              refine g_iconst hC dX9_act_106 ic_2 ?_
              refine g_icmp_ne hC dX9_act_107 ?_ ?_
              · refine g_aload_n hC dX9_act_110 (j := 0) rfl rfl ?_
                refine g_iload_n hC dX9_act_111 (j := 3) rfl rfl ?_
                refine g_callV_iV hC hR ⟨Nat.zero_le _, Nat.zero_le _⟩ mwX9_shares miX9_shares (ci := 9) rfl h_b (Nat.le_of_ble_eq_true rfl) mlX9_408 (fun _ hq => kX9_shares hG h_b hq) (Nat.le_of_ble_eq_true rfl) rfl (st := []) rfl (Nat.le_of_ble_eq_true rfl) dX9_act_112 (fun q17 => ?_)
                refine g_goto hC dX9_act_115 ?_
                refine g_sub [0] rfl ?_
                exact fun e => by cases e; exact hJ
              · refine g_aload_n hC dX9_act_118 (j := 0) rfl rfl ?_
                refine g_iload_n hC dX9_act_119 (j := 3) rfl rfl ?_
                refine g_callV_iV hC hR ⟨Nat.zero_le _, Nat.zero_le _⟩ mwX9_stores miX9_stores (ci := 9) rfl h_b (Nat.le_of_ble_eq_true rfl) mlX9_414 (fun _ hq => kX9_stores hG h_b hq) (Nat.le_of_ble_eq_true rfl) rfl (st := []) rfl (Nat.le_of_ble_eq_true rfl) dX9_act_120 (fun q18 => ?_)
                refine g_sub [0] rfl ?_
                exact fun e => by cases e; exact hJ
        · refine g_istore hC (n0 := 5) (lv' := [(4, .int j14.1), (0, .ref b)]) dX9_act_123 (Nat.le_of_ble_eq_true rfl) hL rfl ?_
          refine g_aload_n hC dX9_act_125 (j := 1) rfl rfl ?_
          refine g_getI hC fi_9_39 h_b dX9_act_126 flX9_396 ?_
          refine g_if_eq hC dX9_act_129 ?_ ?_
          · refine g_iload hC dX9_act_137 (j := 0) rfl ?_
            exact g_iret_iV hC hT dX9_act_139
          · refine g_bipush hC dX9_act_132 bc_m15 ?_
            refine g_goto hC dX9_act_134 ?_
            exact g_iret_iV hC hT dX9_act_139
      · refine g_iconst hC dX9_act_33 ic_0 ?_
        exact g_iret_iV hC hT dX9_act_34
def pX9_trace (V : V2) (b : Nat) (a1 : Int32) : Option (Int32) :=
  (pX9_isIn a1.toInt64 0 (((V b 35) - 1).toInt64)).bind fun q1 =>
  if q1 = 0 then (some (-3))
  else ((ldI 30 (V (b + 17)) a1).bind fun t2 =>
  some t2)
set_option maxHeartbeats 4000000 in
set_option maxRecDepth 100000 in
theorem kX9_trace {l : Launch} {D : Dx} {G : G2} {V : V2} {R : R2} {b : Nat} {a1 : Int32} (hG : GX G) (h_b : own G b 19) {o : Int32} (hf : pX9_trace V b a1 = some o) : Con l yX9_trace cX9_trace 2 (some .int) (rmN 1 0 0) D G V R [.ref b, .int a1] (some (.int o), V, R, G, 0, 0) := by
  refine Con.mk RX9 (by decide) rfl (Nat.le_of_ble_eq_true rfl) (fun C _ hR hT _ _ hL hC hnm => ?_)
  revert hf
  unfold pX9_trace
  refine g_iload_n hC dX9_trace_0 (j := 1) rfl rfl ?_
  refine g_i2l hC dX9_trace_1 ?_
  refine g_lconst hC dX9_trace_2 lc_0 ?_
  refine g_aload_n hC dX9_trace_3 (j := 0) rfl rfl ?_
  refine g_getI hC fi_9_35 h_b dX9_trace_4 flX9_372 ?_
  refine g_iconst hC dX9_trace_7 ic_1 ?_
  refine g_isub hC dX9_trace_8 ?_
  refine g_i2l hC dX9_trace_9 ?_
  refine g_callS_i hC hR ⟨Nat.zero_le _, Nat.zero_le _⟩ mwX9_isIn ms_X9_isIn mlX9_63 (fun _ hq => kX9_isIn  hq) (Nat.le_of_ble_eq_true rfl) rfl (st := []) rfl (Nat.le_of_ble_eq_true rfl) dX9_trace_10 (fun q1 => ?_)
  refine g_if_eq hC dX9_trace_13 ?_ ?_
  · refine g_bipush hC dX9_trace_25 bc_m3 ?_
    exact g_iret_i hC hT dX9_trace_27
  · refine g_aload_n hC dX9_trace_16 (j := 0) rfl rfl ?_
    refine g_getR hC fr_9_34 h_b (b := b + 17) rfl dX9_trace_17 flX9_58 ?_
    refine g_iload_n hC dX9_trace_20 (j := 1) rfl rfl ?_
    refine g_ialdV hC (gx_9_34 hG h_b) (gl_9_34 hG h_b) dX9_trace_21 (fun t2 => ?_)
    refine g_goto hC dX9_trace_22 ?_
    exact g_iret_i hC hT dX9_trace_27
def pX9_many (n : Nat) (V : V2) (b : Nat) (a1 : Int32) : Option (Int32) :=
  if a1 = 0 then ((ldI 572 (V (b + 1)) 0).bind fun t1 =>
  some t1)
  else (if a1 = 1 then ((ldI 572 (V (b + 1)) 5).bind fun t3 =>
  some t3)
  else (if a1 = 2 then ((pX9_flatOnes n V b).bind fun q5 =>
  (pX9_size n q5).bind fun q6 =>
  some q6)
  else (if a1 = 3 then ((ldI 572 (V (b + 1)) 6).bind fun t8 =>
  some t8)
  else (if a1 = 4 then (some (V b 27))
  else (if a1 = 5 then (some (V b 5))
  else (if a1 = 6 then (some (V b 35))
  else (some (-1))))))))
set_option maxHeartbeats 4000000 in
set_option maxRecDepth 100000 in
theorem kX9_many {l : Launch} {D : Dx} {G : G2} {V : V2} {R : R2} {n : Nat} {b : Nat} {a1 : Int32} (hG : GX G) (h_b : own G b 19) {o : Int32} (hf : pX9_many n V b a1 = some o) : Con l yX9_many cX9_many 2 (some .int) (rmN 2 0 0) D G V R [.ref b, .int a1] (some (.int o), V, R, G, 0, 0) := by
  refine Con.mk RX9 (by decide) rfl (Nat.le_of_ble_eq_true rfl) (fun C _ hR hT _ _ hL hC hnm => ?_)
  revert hf
  unfold pX9_many
  refine g_iload_n hC dX9_many_0 (j := 1) rfl rfl ?_
  refine g_tsw hC 0 (43) (tgt := 44) dX9_many_1 (by decide) rfl ?_ (fun hn2 => ?_)
  · refine g_aload_n hC dX9_many_44 (j := 0) rfl rfl ?_
    refine g_getR hC fr_9_0 h_b (b := b + 1) rfl dX9_many_45 flX9_7 ?_
    refine g_iconst hC dX9_many_48 ic_0 ?_
    refine g_ialdV hC (gx_9_0 hG h_b) (gl_9_0 hG h_b) dX9_many_49 (fun t1 => ?_)
    exact g_iret_i hC hT dX9_many_50
  refine g_tsw hC 1 (50) (tgt := 51) dX9_many_1 (by decide) rfl ?_ (fun hn4 => ?_)
  · refine g_aload_n hC dX9_many_51 (j := 0) rfl rfl ?_
    refine g_getR hC fr_9_0 h_b (b := b + 1) rfl dX9_many_52 flX9_7 ?_
    refine g_iconst hC dX9_many_55 ic_5 ?_
    refine g_ialdV hC (gx_9_0 hG h_b) (gl_9_0 hG h_b) dX9_many_56 (fun t3 => ?_)
    exact g_iret_i hC hT dX9_many_57
  refine g_tsw hC 2 (57) (tgt := 58) dX9_many_1 (by decide) rfl ?_ (fun hn7 => ?_)
  · refine g_aload_n hC dX9_many_58 (j := 0) rfl rfl ?_
    refine g_callV_i hC hR ⟨Nat.zero_le _, Nat.zero_le _⟩ mwX9_flatOnes miX9_flatOnes (ci := 9) rfl h_b (Nat.le_of_ble_eq_true rfl) mlX9_145 (fun _ hq => kX9_flatOnes hG h_b hq) (Nat.le_of_ble_eq_true rfl) rfl (st := []) rfl (Nat.le_of_ble_eq_true rfl) dX9_many_59 (fun q5 => ?_)
    refine g_callS_i hC hR ⟨Nat.zero_le _, Nat.zero_le _⟩ mwX9_size ms_X9_size mlX9_249 (fun _ hq => kX9_size  hq) (Nat.le_of_ble_eq_true rfl) rfl (st := []) rfl (Nat.le_of_ble_eq_true rfl) dX9_many_62 (fun q6 => ?_)
    exact g_iret_i hC hT dX9_many_65
  refine g_tsw hC 3 (65) (tgt := 66) dX9_many_1 (by decide) rfl ?_ (fun hn9 => ?_)
  · refine g_aload_n hC dX9_many_66 (j := 0) rfl rfl ?_
    refine g_getR hC fr_9_0 h_b (b := b + 1) rfl dX9_many_67 flX9_7 ?_
    refine g_bipush hC dX9_many_70 bc_6 ?_
    refine g_ialdV hC (gx_9_0 hG h_b) (gl_9_0 hG h_b) dX9_many_72 (fun t8 => ?_)
    exact g_iret_i hC hT dX9_many_73
  refine g_tsw hC 4 (73) (tgt := 74) dX9_many_1 (by decide) rfl ?_ (fun hn10 => ?_)
  · refine g_aload_n hC dX9_many_74 (j := 0) rfl rfl ?_
    refine g_getI hC fi_9_27 h_b dX9_many_75 flX9_340 ?_
    exact g_iret_i hC hT dX9_many_78
  refine g_tsw hC 5 (78) (tgt := 79) dX9_many_1 (by decide) rfl ?_ (fun hn11 => ?_)
  · refine g_aload_n hC dX9_many_79 (j := 0) rfl rfl ?_
    refine g_getI hC fi_9_5 h_b dX9_many_80 flX9_154 ?_
    exact g_iret_i hC hT dX9_many_83
  refine g_tsw hC 6 (83) (tgt := 84) dX9_many_1 (by decide) rfl ?_ (fun hn12 => ?_)
  · refine g_aload_n hC dX9_many_84 (j := 0) rfl rfl ?_
    refine g_getI hC fi_9_35 h_b dX9_many_85 flX9_372 ?_
    exact g_iret_i hC hT dX9_many_88
  refine g_tswd hC (tgt := 89) dX9_many_1 (by have := And.intro trivial trivial; have := lv_neT (a := 0) hn2 (by decide); have := lv_neT (a := 1) hn4 (by decide); have := lv_neT (a := 2) hn7 (by decide); have := lv_neT (a := 3) hn9 (by decide); have := lv_neT (a := 4) hn10 (by decide); have := lv_neT (a := 5) hn11 (by decide); have := lv_neT (a := 6) hn12 (by decide); omega) rfl ?_
  refine g_iconst hC dX9_many_89 ic_m1 ?_
  exact g_iret_i hC hT dX9_many_90
def lX9_keep_2 (b : Nat) : Nat → V2 → Int32 → Option (V2)
  | 0, _, _ => none
  | f1 + 1, U2, x3 =>
    if (572 : Int32) ≤ x3 then (some U2)
    else ((ldI 572 (U2 (b + 1)) x3).bind fun t4 =>
    (stI 572 U2 (b + 2) x3 t4).bind fun U5 =>
    letv (x3 + 1) fun x6 =>
    lX9_keep_2 b f1 U5 x6)
def pX9_keep (n : Nat) (V : V2) (b : Nat) : Option (Int32 × V2) :=
  (lX9_keep_2 b n V 0).bind fun w7 =>
  letv (up2 w7 b 2 1) fun U8 =>
  some (1, U8)
set_option maxHeartbeats 4000000 in
set_option maxRecDepth 100000 in
theorem wX9_keep_2 {C : Cx} (hC : CxOK C cX9_keep RX9 (some .int)) (hL : C.2.2.2.2 = 2) {G : G2} {R : R2} {b : Nat} (hG : GX G) (h_b : own G b 19) {o : V2} (hX : Go C 27 [(0, .ref b)] [] o R G 0 0) : ∀ (f : Nat) (U2 : V2) (x3 : Int32), lX9_keep_2 b f U2 x3 = some o → Go C 2 [(0, .ref b), (1, .int x3)] [] U2 R G 0 0 := by
  intro f
  induction f with
  | zero => intro _ _ hf; exact absurd hf (by unfold lX9_keep_2; exact fun z => nomatch z)
  | succ f1 ih =>
    intro U2 x3
    unfold lX9_keep_2
    refine g_iload_n hC dX9_keep_2 (j := 1) rfl rfl ?_
    refine g_sipush hC dX9_keep_3 sc_572 ?_
    refine g_icmp_ge hC dX9_keep_6 ?_ ?_
    · refine g_sub [0] rfl ?_
      exact fun e => by cases e; exact hX
    · refine g_aload_n hC dX9_keep_9 (j := 0) rfl rfl ?_
      refine g_getR hC fr_9_1 h_b (b := b + 2) rfl dX9_keep_10 flX9_13 ?_
      refine g_iload_n hC dX9_keep_13 (j := 1) rfl rfl ?_
      refine g_aload_n hC dX9_keep_14 (j := 0) rfl rfl ?_
      refine g_getR hC fr_9_0 h_b (b := b + 1) rfl dX9_keep_15 flX9_7 ?_
      refine g_iload_n hC dX9_keep_18 (j := 1) rfl rfl ?_
      refine g_ialdV hC (gx_9_0 hG h_b) (gl_9_0 hG h_b) dX9_keep_19 (fun t4 => ?_)
      refine g_iastV hC (gx_9_1 hG h_b) (gl_9_1 hG h_b) dX9_keep_20 (fun U5 => ?_)
      refine g_iincL hC (n0 := 2) (j := 1) (lv' := fun x6 => [(1, .int x6), (0, .ref b)]) dX9_keep_21 rfl ic_1 (Nat.le_of_ble_eq_true rfl) hL (fun _ => rfl) (fun x6 => ?_)
      refine g_goto hC dX9_keep_24 ?_
      refine g_sub [1, 0] rfl ?_
      exact ih U5 x6
set_option maxHeartbeats 4000000 in
set_option maxRecDepth 100000 in
theorem kX9_keep {l : Launch} {D : Dx} {G : G2} {V : V2} {R : R2} {n : Nat} {b : Nat} (hG : GX G) (h_b : own G b 19) {o : Int32 × V2} (hf : pX9_keep n V b = some o) : Con l yX9_keep cX9_keep 2 (some .int) (rmN 0 0 0) D G V R [.ref b] (some (.int o.1), o.2, R, G, 0, 0) := by
  refine Con.mk RX9 (by decide) rfl (Nat.le_of_ble_eq_true rfl) (fun C _ hR hT _ _ hL hC hnm => ?_)
  revert hf
  unfold pX9_keep
  refine g_iconst hC dX9_keep_0 ic_0 ?_
  refine g_istore_n hC (n0 := 2) (lv' := [(1, .int 0), (0, .ref b)]) dX9_keep_1 rfl (Nat.le_of_ble_eq_true rfl) hL rfl ?_
  refine g_sub [1, 0] rfl ?_
  refine g_bind (J := fun w7 => Go C 27 [(0, .ref b)] [] w7 R G 0 0) (fun w7 hJ => wX9_keep_2 hC hL hG h_b hJ n V 0) (fun w7 => ?_)
  refine g_aload_n hC dX9_keep_27 (j := 0) rfl rfl ?_
  refine g_iconst hC dX9_keep_28 ic_1 ?_
  refine g_putZL hC fp_9_2 h_b rfl dX9_keep_29 flX9_417 (fun U8 => ?_)
  refine g_iconst hC dX9_keep_32 ic_1 ?_
  exact g_iret_iV hC hT dX9_keep_33
def lX9_again_12 (b : Nat) : Nat → V2 → Int32 → Option (V2)
  | 0, _, _ => none
  | f1 + 1, U2, x3 =>
    if (572 : Int32) ≤ x3 then (some U2)
    else ((ldI 572 (U2 (b + 2)) x3).bind fun t4 =>
    (stI 572 U2 (b + 1) x3 t4).bind fun U5 =>
    letv (x3 + 1) fun x6 =>
    lX9_again_12 b f1 U5 x6)
def pX9_again (n : Nat) (V : V2) (b : Nat) : Option (Int32 × V2) :=
  if (V b 2) = 0 then (some ((-3), V))
  else ((lX9_again_12 b n V 0).bind fun w7 =>
  (ldI 572 (w7 (b + 1)) 0).bind fun t8 =>
  some (t8, w7))
set_option maxHeartbeats 4000000 in
set_option maxRecDepth 100000 in
theorem wX9_again_12 {C : Cx} (hC : CxOK C cX9_again RX9 (some .int)) (hL : C.2.2.2.2 = 2) {G : G2} {R : R2} {b : Nat} (hG : GX G) (h_b : own G b 19) {o : V2} (hX : Go C 37 [(0, .ref b)] [] o R G 0 0) : ∀ (f : Nat) (U2 : V2) (x3 : Int32), lX9_again_12 b f U2 x3 = some o → Go C 12 [(0, .ref b), (1, .int x3)] [] U2 R G 0 0 := by
  intro f
  induction f with
  | zero => intro _ _ hf; exact absurd hf (by unfold lX9_again_12; exact fun z => nomatch z)
  | succ f1 ih =>
    intro U2 x3
    unfold lX9_again_12
    refine g_iload_n hC dX9_again_12 (j := 1) rfl rfl ?_
    refine g_sipush hC dX9_again_13 sc_572 ?_
    refine g_icmp_ge hC dX9_again_16 ?_ ?_
    · refine g_sub [0] rfl ?_
      exact fun e => by cases e; exact hX
    · refine g_aload_n hC dX9_again_19 (j := 0) rfl rfl ?_
      refine g_getR hC fr_9_0 h_b (b := b + 1) rfl dX9_again_20 flX9_7 ?_
      refine g_iload_n hC dX9_again_23 (j := 1) rfl rfl ?_
      refine g_aload_n hC dX9_again_24 (j := 0) rfl rfl ?_
      refine g_getR hC fr_9_1 h_b (b := b + 2) rfl dX9_again_25 flX9_13 ?_
      refine g_iload_n hC dX9_again_28 (j := 1) rfl rfl ?_
      refine g_ialdV hC (gx_9_1 hG h_b) (gl_9_1 hG h_b) dX9_again_29 (fun t4 => ?_)
      refine g_iastV hC (gx_9_0 hG h_b) (gl_9_0 hG h_b) dX9_again_30 (fun U5 => ?_)
      refine g_iincL hC (n0 := 2) (j := 1) (lv' := fun x6 => [(1, .int x6), (0, .ref b)]) dX9_again_31 rfl ic_1 (Nat.le_of_ble_eq_true rfl) hL (fun _ => rfl) (fun x6 => ?_)
      refine g_goto hC dX9_again_34 ?_
      refine g_sub [1, 0] rfl ?_
      exact ih U5 x6
set_option maxHeartbeats 4000000 in
set_option maxRecDepth 100000 in
theorem kX9_again {l : Launch} {D : Dx} {G : G2} {V : V2} {R : R2} {n : Nat} {b : Nat} (hG : GX G) (h_b : own G b 19) {o : Int32 × V2} (hf : pX9_again n V b = some o) : Con l yX9_again cX9_again 2 (some .int) (rmN 0 0 0) D G V R [.ref b] (some (.int o.1), o.2, R, G, 0, 0) := by
  refine Con.mk RX9 (by decide) rfl (Nat.le_of_ble_eq_true rfl) (fun C _ hR hT _ _ hL hC hnm => ?_)
  revert hf
  unfold pX9_again
  refine g_aload_n hC dX9_again_0 (j := 0) rfl rfl ?_
  refine g_getI hC fi_9_2 h_b dX9_again_1 flX9_417 ?_
  refine g_if_ne hC dX9_again_4 ?_ ?_
  · refine g_bipush hC dX9_again_7 bc_m3 ?_
    exact g_iret_iV hC hT dX9_again_9
  · refine g_iconst hC dX9_again_10 ic_0 ?_
    refine g_istore_n hC (n0 := 2) (lv' := [(1, .int 0), (0, .ref b)]) dX9_again_11 rfl (Nat.le_of_ble_eq_true rfl) hL rfl ?_
    refine g_sub [1, 0] rfl ?_
    refine g_bind (J := fun w7 => Go C 37 [(0, .ref b)] [] w7 R G 0 0) (fun w7 hJ => wX9_again_12 hC hL hG h_b hJ n V 0) (fun w7 => ?_)
    refine g_aload_n hC dX9_again_37 (j := 0) rfl rfl ?_
    refine g_getR hC fr_9_0 h_b (b := b + 1) rfl dX9_again_38 flX9_7 ?_
    refine g_iconst hC dX9_again_41 ic_0 ?_
    refine g_ialdV hC (gx_9_0 hG h_b) (gl_9_0 hG h_b) dX9_again_42 (fun t8 => ?_)
    exact g_iret_iV hC hT dX9_again_43
