def pX8_sheet (G : G2) (V : V2) (R : R2) (b : Nat) (a1 : Int32) (a2 : Int32) (a3 : Int32) : Option (Int32 × V2 × R2 × G2) :=
  (pX8_within a1 0 3).bind fun q1 =>
  if q1 = 0 then (some ((-1), V, R, G))
  else ((pX8_within a2 (-1) 4).bind fun q2 =>
  if q2 = 0 then (some ((-1), V, R, G))
  else (if a2 = (-1 : Int32) then ((stR 4 R (b + 70) a1 none).bind fun S3 =>
  some (1, V, S3, G))
  else (if a3 ≤ (40 : Int32) then (if 0 ≤ a3 then (if decide ((jmax 0 a3).toNatClampNeg ≤ 40) then (
  (stR 4 (shR R G.2.2.2) (b + 70) a1 (some G.2.2.2)).bind fun S7 =>
  some (1, (shV V G.2.2.2 a2), S7, (shG G (jmax 0 a3).toNatClampNeg))) else none)
  else (some ((-14), V, R, G)))
  else (some ((-1), V, R, G)))))
set_option maxHeartbeats 4000000 in
set_option maxRecDepth 100000 in
theorem kX8_sheet {l : Launch} {D : Dx} {G : G2} {V : V2} {R : R2} {b : Nat} {a1 : Int32} {a2 : Int32} {a3 : Int32} (hG : GX G) (h_b : own G b 18) {o : Int32 × V2 × R2 × G2} (hf : pX8_sheet G V R b a1 a2 a3 = some o) : Con l yX8_sheet cX8_sheet 4 (some .int) (rmN 2 2 42) D G V R [.ref b, .int a1, .int a2, .int a3] (some (.int o.1), o.2.1, o.2.2.1, o.2.2.2, 2, 42) := by
  refine Con.mk RX8 (by decide) rfl (Nat.le_of_ble_eq_true rfl) (fun C _ hR hT _ _ hL hC hnm => ?_)
  revert hf
  unfold pX8_sheet
  refine g_iload_n hC dX8_sheet_0 (j := 1) rfl rfl ?_
  refine g_iconst hC dX8_sheet_1 ic_0 ?_
  refine g_iconst hC dX8_sheet_2 ic_3 ?_
  refine g_callS_i hC hR ⟨Nat.zero_le _, Nat.zero_le _⟩ mwX8_within ms_X8_within mlX8_77 (fun _ hq => kX8_within  hq) (Nat.le_of_ble_eq_true rfl) rfl (st := []) rfl (Nat.le_of_ble_eq_true rfl) dX8_sheet_3 (fun q1 => ?_)
  refine g_if_eq hC dX8_sheet_6 ?_ ?_
  · refine g_iconst hC dX8_sheet_18 ic_m1 ?_
    exact g_iret_iG hC hT (by omega) (by omega) dX8_sheet_19
  · refine g_iload_n hC dX8_sheet_9 (j := 2) rfl rfl ?_
    refine g_iconst hC dX8_sheet_10 ic_m1 ?_
    refine g_iconst hC dX8_sheet_11 ic_4 ?_
    refine g_callS_i hC hR ⟨Nat.zero_le _, Nat.zero_le _⟩ mwX8_within ms_X8_within mlX8_77 (fun _ hq => kX8_within  hq) (Nat.le_of_ble_eq_true rfl) rfl (st := []) rfl (Nat.le_of_ble_eq_true rfl) dX8_sheet_12 (fun q2 => ?_)
    refine g_if_ne hC dX8_sheet_15 ?_ ?_
    · refine g_iconst hC dX8_sheet_18 ic_m1 ?_
      exact g_iret_iG hC hT (by omega) (by omega) dX8_sheet_19
    · refine g_iload_n hC dX8_sheet_20 (j := 2) rfl rfl ?_
      refine g_iconst hC dX8_sheet_21 ic_m1 ?_
      refine g_icmp_ne hC dX8_sheet_22 ?_ ?_
      · refine g_aload_n hC dX8_sheet_25 (j := 0) rfl rfl ?_
        refine g_getR hC fr_8_8 h_b (b := b + 70) rfl dX8_sheet_26 flX8_54 ?_
        refine g_iload_n hC dX8_sheet_29 (j := 1) rfl rfl ?_
        refine g_null hC dX8_sheet_30 ?_
        refine g_aastV hC (x := none) (ci := 7) ⟨Nat.le_of_ble_eq_true rfl, Nat.le_of_ble_eq_true rfl⟩ rfl rfl (Nat.le_of_ble_eq_true rfl) rfl (gx_8_8 hG h_b) (gl_8_8 hG h_b) dX8_sheet_31 (fun S3 => ?_)
        refine g_iconst hC dX8_sheet_32 ic_1 ?_
        exact g_iret_iG hC hT (by omega) (by omega) dX8_sheet_33
      · refine g_iload_n hC dX8_sheet_34 (j := 3) rfl rfl ?_
        refine g_bipush hC dX8_sheet_35 bc_40 ?_
        refine g_icmp_le hC dX8_sheet_37 ?_ ?_
        · refine g_iload_n hC dX8_sheet_42 (j := 3) rfl rfl ?_
          refine g_if_ge hC dX8_sheet_43 ?_ ?_
          · refine g_aload_n hC dX8_sheet_49 (j := 0) rfl rfl ?_
            refine g_getR hC fr_8_8 h_b (b := b + 70) rfl dX8_sheet_50 flX8_54 ?_
            refine g_iload_n hC dX8_sheet_53 (j := 1) rfl rfl ?_
            refine g_wf (fun hW5 => ?_)
            refine g_guardb (fun hz6 => ?_)
            refine g_mkSh hC hR hL (of_decide_eq_true hz6) ?_
            refine g_aastV hC (x := (some G.2.2.2)) (ci := 7) ⟨Nat.le_of_ble_eq_true rfl, Nat.le_of_ble_eq_true rfl⟩ rfl rfl (Nat.le_of_ble_eq_true rfl) (ownB_iff.mpr (sh_new G _)) (sh_old hW5 (gx_8_8 hG h_b)) ((sh_len hW5 (gx_8_8 hG h_b)).trans (gl_8_8 hG h_b)) dX8_sheet_63 (fun S7 => ?_)
            refine g_iconst hC dX8_sheet_64 ic_1 ?_
            exact g_iret_iG hC hT (by omega) (by omega) dX8_sheet_65
          · refine g_bipush hC dX8_sheet_46 bc_m14 ?_
            exact g_iret_iG hC hT (by omega) (by omega) dX8_sheet_48
        · refine g_iconst hC dX8_sheet_40 ic_m1 ?_
          exact g_iret_iG hC hT (by omega) (by omega) dX8_sheet_41

def pX5_readRule (n : Nat) (G : G2) (V : V2) (R : R2) (b : Nat) : Option (Int32 × V2 × R2 × G2) :=
  (pX5_isWord V b 0 5).bind fun q1 =>
  if q1 = 0 then (some (0, V, R, G))
  else (if (V b 9) < (8 : Int32) then (letv ((V b 5) - 0) fun x2 =>
  (pX5_goOn n V b).bind fun q3 =>
  letv (up2 q3 b 7 0) fun U4 =>
  letv (fun (z6 : V2) => ((pX5_isWord z6 b 6 8).bind fun q7 =>
  if q7 = 0 then (some (0, z6, R, G))
  else (letv ((z6 b 5) - 6) fun x8 =>
  (pX5_goOn n z6 b).bind fun q9 =>
  (pX5_isSign q9 b 59).bind fun q10 =>
  if q10 = 0 then (some (0, q9, R, G))
  else ((pX5_goOn n q9 b).bind fun q11 =>
  if decide (¬ (q11 b 7) < 0 ∧ (q11 b 7).toNatClampNeg < 300) then (
  (stR 8 (ruR R G.2.2.2) (b + 3) (q11 b 9) (some G.2.2.2)).bind fun S14 =>
  letv (up2 (ruV q11 G.2.2.2 (b + 2) (q11 b 7) x2 x8) b 9 (((ruV q11 G.2.2.2 (b + 2) (q11 b 7) x2 x8) b 9) + 1)) fun U16 =>
  some (1, U16, S14, (ruG G (q11 b 7).toNatClampNeg))) else none)))) fun j5 =>
  if (U4 b 5) = (14 : Int32) then ((pX5_goOn n U4 b).bind fun q17 =>
  (pX5_readCondition 6 n q17 b 0).bind fun q18 =>
  if q18.1 = 0 then (some (0, q18.2, R, G))
  else (j5 q18.2))
  else (j5 U4))
  else (some (0, V, R, G)))
set_option maxHeartbeats 4000000 in
set_option maxRecDepth 100000 in
theorem kX5_readRule {l : Launch} {D : Dx} {G : G2} {V : V2} {R : R2} {n : Nat} {b : Nat} (hG : GX G) (h_b : own G b 15) {o : Int32 × V2 × R2 × G2} (hf : pX5_readRule n G V R b = some o) : Con l yX5_readRule cX5_readRule 3 (some .boolean) (rmN 33 2 303) D G V R [.ref b] (some (.int o.1), o.2.1, o.2.2.1, o.2.2.2, 2, 303) := by
  refine Con.mk RX5 (by decide) rfl (Nat.le_of_ble_eq_true rfl) (fun C _ hR hT _ _ hL hC hnm => ?_)
  revert hf
  unfold pX5_readRule
  refine g_aload_n hC dX5_readRule_0 (j := 0) rfl rfl ?_
  refine g_iconst hC dX5_readRule_1 ic_0 ?_
  refine g_iconst hC dX5_readRule_2 ic_5 ?_
  refine g_callV_i hC hR ⟨Nat.zero_le _, Nat.zero_le _⟩ mwX5_isWord miX5_isWord (ci := 5) rfl h_b (Nat.le_of_ble_eq_true rfl) mlX5_70 (fun _ hq => kX5_isWord hG h_b hq) (Nat.le_of_ble_eq_true rfl) rfl (st := []) rfl (Nat.le_of_ble_eq_true rfl) dX5_readRule_3 (fun q1 => ?_)
  refine g_if_eq hC dX5_readRule_6 ?_ ?_
  · refine g_iconst hC dX5_readRule_18 ic_0 ?_
    exact g_zret_iG hC rfl hT (by omega) (by omega) dX5_readRule_19
  · refine g_aload_n hC dX5_readRule_9 (j := 0) rfl rfl ?_
    refine g_getI hC fi_5_9 h_b dX5_readRule_10 flX5_43 ?_
    refine g_bipush hC dX5_readRule_13 bc_8 ?_
    refine g_icmp_lt hC dX5_readRule_15 ?_ ?_
    · refine g_aload_n hC dX5_readRule_20 (j := 0) rfl rfl ?_
      refine g_getI hC fi_5_5 h_b dX5_readRule_21 flX5_28 ?_
      refine g_iconst hC dX5_readRule_24 ic_0 ?_
      refine g_isub hC dX5_readRule_25 ?_
      refine g_istore_nL hC (n0 := 3) (lv' := fun x2 => [(1, .int x2), (0, .ref b)]) dX5_readRule_26 rfl (Nat.le_of_ble_eq_true rfl) hL (fun _ => rfl) (fun x2 => ?_)
      refine g_aload_n hC dX5_readRule_27 (j := 1) rfl rfl ?_
      refine g_callV_vV hC hR ⟨Nat.zero_le _, Nat.zero_le _⟩ mwX5_goOn miX5_goOn (ci := 5) rfl h_b (Nat.le_of_ble_eq_true rfl) mlX5_48 (fun _ hq => kX5_goOn hG h_b hq) (Nat.le_of_ble_eq_true rfl) rfl (st := []) rfl (Nat.le_of_ble_eq_true rfl) dX5_readRule_28 (fun q3 => ?_)
      refine g_aload_n hC dX5_readRule_31 (j := 1) rfl rfl ?_
      refine g_iconst hC dX5_readRule_32 ic_0 ?_
      refine g_putIL hC fp_5_7 h_b dX5_readRule_33 flX5_36 (fun U4 => ?_)
      refine g_aload_n hC dX5_readRule_36 (j := 1) rfl rfl ?_
      refine g_getI hC fi_5_5 h_b dX5_readRule_37 flX5_28 ?_
      refine g_bipush hC dX5_readRule_40 bc_14 ?_
      refine g_jn (J := fun j5 => ∀ (z6 : V2), j5 z6 = some o → Go C 59 [(0, .ref b), (1, .int x2)] [] z6 R G 0 0) (fun z6 => ?_) (fun j5 hJ => ?_)
      · refine g_aload_n hC dX5_readRule_59 (j := 0) rfl rfl ?_
        refine g_bipush hC dX5_readRule_60 bc_6 ?_
        refine g_bipush hC dX5_readRule_62 bc_8 ?_
        refine g_callV_i hC hR ⟨Nat.zero_le _, Nat.zero_le _⟩ mwX5_isWord miX5_isWord (ci := 5) rfl h_b (Nat.le_of_ble_eq_true rfl) mlX5_70 (fun _ hq => kX5_isWord hG h_b hq) (Nat.le_of_ble_eq_true rfl) rfl (st := []) rfl (Nat.le_of_ble_eq_true rfl) dX5_readRule_64 (fun q7 => ?_)
        refine g_if_ne hC dX5_readRule_67 ?_ ?_
        · refine g_iconst hC dX5_readRule_70 ic_0 ?_
          exact g_zret_iG hC rfl hT (by omega) (by omega) dX5_readRule_71
        · refine g_aload_n hC dX5_readRule_72 (j := 0) rfl rfl ?_
          refine g_getI hC fi_5_5 h_b dX5_readRule_73 flX5_28 ?_
          refine g_bipush hC dX5_readRule_76 bc_6 ?_
          refine g_isub hC dX5_readRule_78 ?_
          refine g_istore_nL hC (n0 := 3) (lv' := fun x8 => [(2, .int x8), (0, .ref b), (1, .int x2)]) dX5_readRule_79 rfl (Nat.le_of_ble_eq_true rfl) hL (fun _ => rfl) (fun x8 => ?_)
          refine g_aload_n hC dX5_readRule_80 (j := 1) rfl rfl ?_
          refine g_callV_vV hC hR ⟨Nat.zero_le _, Nat.zero_le _⟩ mwX5_goOn miX5_goOn (ci := 5) rfl h_b (Nat.le_of_ble_eq_true rfl) mlX5_48 (fun _ hq => kX5_goOn hG h_b hq) (Nat.le_of_ble_eq_true rfl) rfl (st := []) rfl (Nat.le_of_ble_eq_true rfl) dX5_readRule_81 (fun q9 => ?_)
          refine g_aload_n hC dX5_readRule_84 (j := 1) rfl rfl ?_
          refine g_bipush hC dX5_readRule_85 bc_59 ?_
          refine g_callV_i hC hR ⟨Nat.zero_le _, Nat.zero_le _⟩ mwX5_isSign miX5_isSign (ci := 5) rfl h_b (Nat.le_of_ble_eq_true rfl) mlX5_78 (fun _ hq => kX5_isSign hG h_b hq) (Nat.le_of_ble_eq_true rfl) rfl (st := []) rfl (Nat.le_of_ble_eq_true rfl) dX5_readRule_87 (fun q10 => ?_)
          refine g_if_ne hC dX5_readRule_90 ?_ ?_
          · refine g_iconst hC dX5_readRule_93 ic_0 ?_
            exact g_zret_iG hC rfl hT (by omega) (by omega) dX5_readRule_94
          · refine g_aload_n hC dX5_readRule_95 (j := 1) rfl rfl ?_
            refine g_callV_vV hC hR ⟨Nat.zero_le _, Nat.zero_le _⟩ mwX5_goOn miX5_goOn (ci := 5) rfl h_b (Nat.le_of_ble_eq_true rfl) mlX5_48 (fun _ hq => kX5_goOn hG h_b hq) (Nat.le_of_ble_eq_true rfl) rfl (st := []) rfl (Nat.le_of_ble_eq_true rfl) dX5_readRule_96 (fun q11 => ?_)
            refine g_aload_n hC dX5_readRule_99 (j := 1) rfl rfl ?_
            refine g_getR hC fr_5_8 h_b (b := b + 3) rfl dX5_readRule_100 flX5_39 ?_
            refine g_aload_n hC dX5_readRule_103 (j := 1) rfl rfl ?_
            refine g_getI hC fi_5_9 h_b dX5_readRule_104 flX5_43 ?_
            refine g_wf (fun hW12 => ?_)
            refine g_guardb (fun hz13 => ?_)
            refine g_mkRu hC hR hL hG h_b hW12 ⟨1, rfl⟩ ⟨2, rfl⟩ ⟨0, rfl⟩ (Nat.le_of_ble_eq_true rfl) (of_decide_eq_true hz13) ?_
            refine g_aastV hC (x := (some G.2.2.2)) (ci := 4) ⟨Nat.le_of_ble_eq_true rfl, Nat.le_of_ble_eq_true rfl⟩ rfl rfl (Nat.le_of_ble_eq_true rfl) (ownB_iff.mpr (ru_new G _)) (ru_old hW12 (gx_5_8 hG h_b)) ((ru_len hW12 (gx_5_8 hG h_b)).trans (gl_5_8 hG h_b)) dX5_readRule_127 (fun S14 => ?_)
            refine g_aload_n hC dX5_readRule_128 (j := 1) rfl rfl ?_
            refine g_dup hC dX5_readRule_129 rfl ?_
            refine g_getI hC fi_5_9 (ru_old hW12 h_b) dX5_readRule_130 flX5_43 ?_
            refine g_iconst hC dX5_readRule_133 ic_1 ?_
            refine g_iadd hC dX5_readRule_134 ?_
            refine g_putIL hC fp_5_9 (ru_old hW12 h_b) dX5_readRule_135 flX5_43 (fun U16 => ?_)
            refine g_iconst hC dX5_readRule_138 ic_1 ?_
            exact g_zret_iG hC rfl hT (by omega) (by omega) dX5_readRule_139
      · refine g_icmp_ne hC dX5_readRule_42 ?_ ?_
        · refine g_aload_n hC dX5_readRule_45 (j := 1) rfl rfl ?_
          refine g_callV_vV hC hR ⟨Nat.zero_le _, Nat.zero_le _⟩ mwX5_goOn miX5_goOn (ci := 5) rfl h_b (Nat.le_of_ble_eq_true rfl) mlX5_48 (fun _ hq => kX5_goOn hG h_b hq) (Nat.le_of_ble_eq_true rfl) rfl (st := []) rfl (Nat.le_of_ble_eq_true rfl) dX5_readRule_46 (fun q17 => ?_)
          refine g_aload_n hC dX5_readRule_49 (j := 1) rfl rfl ?_
          refine g_iconst hC dX5_readRule_50 ic_0 ?_
          refine g_callV_iV hC hR ⟨Nat.zero_le _, Nat.zero_le _⟩ mwX5_readCondition miX5_readCondition (ci := 5) rfl h_b (Nat.le_of_ble_eq_true rfl) mlX5_74 (fun _ hq => kX5_readCondition 6 hG h_b hq) (Nat.le_of_ble_eq_true rfl) rfl (st := []) rfl (Nat.le_of_ble_eq_true rfl) dX5_readRule_51 (fun q18 => ?_)
          refine g_if_ne hC dX5_readRule_54 ?_ ?_
          · refine g_iconst hC dX5_readRule_57 ic_0 ?_
            exact g_zret_iG hC rfl hT (by omega) (by omega) dX5_readRule_58
          · refine g_sub [1, 0] rfl ?_
            exact hJ q18.2
        · refine g_sub [1, 0] rfl ?_
          exact hJ U4
    · refine g_iconst hC dX5_readRule_18 ic_0 ?_
      exact g_zret_iG hC rfl hT (by omega) (by omega) dX5_readRule_19

