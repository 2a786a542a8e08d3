def pJ6_bitCount_0f7a4 (a1 : Int32) : Option (Int32) :=
  letv (a1 - ((jushr a1 1) &&& 1431655765)) fun x1 =>
  letv ((x1 &&& 858993459) + ((jushr x1 2) &&& 858993459)) fun x2 =>
  letv ((x2 + (jushr x2 4)) &&& 252645135) fun x3 =>
  letv (x3 + (jushr x3 8)) fun x4 =>
  letv (x4 + (jushr x4 16)) fun x5 =>
  some (x5 &&& 63)
set_option maxHeartbeats 4000000 in
set_option maxRecDepth 100000 in
theorem kJ6_bitCount_0f7a4 {l : Launch} {D : Dx} {G : G2} {V : V2} {R : R2} {a1 : Int32}  {o : Int32} (hf : pJ6_bitCount_0f7a4 a1 = some o) : Con l yJ6_bitCount_0f7a4 cJ6_bitCount_0f7a4 1 (some .int) (rmN 0 0 0) D G V R [.int a1] (some (.int o), V, R, G, 0, 0) := by
  refine Con.mk RJ6 (by decide) rfl (Nat.le_of_ble_eq_true rfl) (fun C _ hR hT _ _ hL hC hnm => ?_)
  revert hf
  unfold pJ6_bitCount_0f7a4
  refine g_iload_n hC dJ6_bitCount_0f7a4_0 (j := 0) rfl rfl ?_
  refine g_iload_n hC dJ6_bitCount_0f7a4_1 (j := 0) rfl rfl ?_
  refine g_iconst hC dJ6_bitCount_0f7a4_2 ic_1 ?_
  refine g_iushr hC dJ6_bitCount_0f7a4_3 ?_
  refine g_ldcw hC dJ6_bitCount_0f7a4_4 clJ6_265 ?_
  refine g_iand hC dJ6_bitCount_0f7a4_7 ?_
  refine g_isub hC dJ6_bitCount_0f7a4_8 ?_
  refine g_istore_nL hC (n0 := 1) (lv' := fun x1 => [(0, .int x1)]) dJ6_bitCount_0f7a4_9 rfl (Nat.le_of_ble_eq_true rfl) hL (fun _ => rfl) (fun x1 => ?_)
  refine g_iload_n hC dJ6_bitCount_0f7a4_10 (j := 0) rfl rfl ?_
  refine g_ldcw hC dJ6_bitCount_0f7a4_11 clJ6_266 ?_
  refine g_iand hC dJ6_bitCount_0f7a4_14 ?_
  refine g_iload_n hC dJ6_bitCount_0f7a4_15 (j := 0) rfl rfl ?_
  refine g_iconst hC dJ6_bitCount_0f7a4_16 ic_2 ?_
  refine g_iushr hC dJ6_bitCount_0f7a4_17 ?_
  refine g_ldcw hC dJ6_bitCount_0f7a4_18 clJ6_266 ?_
  refine g_iand hC dJ6_bitCount_0f7a4_21 ?_
  refine g_iadd hC dJ6_bitCount_0f7a4_22 ?_
  refine g_istore_nL hC (n0 := 1) (lv' := fun x2 => [(0, .int x2)]) dJ6_bitCount_0f7a4_23 rfl (Nat.le_of_ble_eq_true rfl) hL (fun _ => rfl) (fun x2 => ?_)
  refine g_iload_n hC dJ6_bitCount_0f7a4_24 (j := 0) rfl rfl ?_
  refine g_iload_n hC dJ6_bitCount_0f7a4_25 (j := 0) rfl rfl ?_
  refine g_iconst hC dJ6_bitCount_0f7a4_26 ic_4 ?_
  refine g_iushr hC dJ6_bitCount_0f7a4_27 ?_
  refine g_iadd hC dJ6_bitCount_0f7a4_28 ?_
  refine g_ldcw hC dJ6_bitCount_0f7a4_29 clJ6_267 ?_
  refine g_iand hC dJ6_bitCount_0f7a4_32 ?_
  refine g_istore_nL hC (n0 := 1) (lv' := fun x3 => [(0, .int x3)]) dJ6_bitCount_0f7a4_33 rfl (Nat.le_of_ble_eq_true rfl) hL (fun _ => rfl) (fun x3 => ?_)
  refine g_iload_n hC dJ6_bitCount_0f7a4_34 (j := 0) rfl rfl ?_
  refine g_iload_n hC dJ6_bitCount_0f7a4_35 (j := 0) rfl rfl ?_
  refine g_bipush hC dJ6_bitCount_0f7a4_36 bc_8 ?_
  refine g_iushr hC dJ6_bitCount_0f7a4_38 ?_
  refine g_iadd hC dJ6_bitCount_0f7a4_39 ?_
  refine g_istore_nL hC (n0 := 1) (lv' := fun x4 => [(0, .int x4)]) dJ6_bitCount_0f7a4_40 rfl (Nat.le_of_ble_eq_true rfl) hL (fun _ => rfl) (fun x4 => ?_)
  refine g_iload_n hC dJ6_bitCount_0f7a4_41 (j := 0) rfl rfl ?_
  refine g_iload_n hC dJ6_bitCount_0f7a4_42 (j := 0) rfl rfl ?_
  refine g_bipush hC dJ6_bitCount_0f7a4_43 bc_16 ?_
  refine g_iushr hC dJ6_bitCount_0f7a4_45 ?_
  refine g_iadd hC dJ6_bitCount_0f7a4_46 ?_
  refine g_istore_nL hC (n0 := 1) (lv' := fun x5 => [(0, .int x5)]) dJ6_bitCount_0f7a4_47 rfl (Nat.le_of_ble_eq_true rfl) hL (fun _ => rfl) (fun x5 => ?_)
  refine g_iload_n hC dJ6_bitCount_0f7a4_48 (j := 0) rfl rfl ?_
  refine g_bipush hC dJ6_bitCount_0f7a4_49 bc_63 ?_
  refine g_iand hC dJ6_bitCount_0f7a4_51 ?_
  exact g_iret_i hC hT dJ6_bitCount_0f7a4_52
def pJ6_numberOfTrailingZeros_0f7a4 (a1 : Int32) : Option (Int32) :=
  letv ((a1 ^^^ (-1)) &&& (a1 - 1)) fun x1 =>
  if 0 < x1 then (letv ((if x1 ≤ (65536 : Int32) then ((x1, 1))
  else (letv (1 + 16) fun x3 =>
  letv (jushr x1 16) fun x4 =>
  (x4, x3)) : Int32 × Int32)) fun j2 =>
  letv ((if j2.1 ≤ (256 : Int32) then ((j2.1, j2.2))
  else (letv (j2.2 + 8) fun x6 =>
  letv (jushr j2.1 8) fun x7 =>
  (x7, x6)) : Int32 × Int32)) fun j5 =>
  letv ((if j5.1 ≤ (16 : Int32) then ((j5.1, j5.2))
  else (letv (j5.2 + 4) fun x9 =>
  letv (jushr j5.1 4) fun x10 =>
  (x10, x9)) : Int32 × Int32)) fun j8 =>
  if j8.1 ≤ (4 : Int32) then (some (j8.2 + (jushr j8.1 1)))
  else (letv (j8.2 + 2) fun x11 =>
  letv (jushr j8.1 2) fun x12 =>
  some (x11 + (jushr x12 1))))
  else (some (x1 &&& 32))
set_option maxHeartbeats 4000000 in
set_option maxRecDepth 100000 in
theorem kJ6_numberOfTrailingZeros_0f7a4 {l : Launch} {D : Dx} {G : G2} {V : V2} {R : R2} {a1 : Int32}  {o : Int32} (hf : pJ6_numberOfTrailingZeros_0f7a4 a1 = some o) : Con l yJ6_numberOfTrailingZeros_0f7a4 cJ6_numberOfTrailingZeros_0f7a4 2 (some .int) (rmN 0 0 0) D G V R [.int a1] (some (.int o), V, R, G, 0, 0) := by
  refine Con.mk RJ6 (by decide) rfl (Nat.le_of_ble_eq_true rfl) (fun C _ hR hT _ _ hL hC hnm => ?_)
  revert hf
  unfold pJ6_numberOfTrailingZeros_0f7a4
  refine g_iload_n hC dJ6_numberOfTrailingZeros_0f7a4_0 (j := 0) rfl rfl ?_
  refine g_iconst hC dJ6_numberOfTrailingZeros_0f7a4_1 ic_m1 ?_
  refine g_ixor hC dJ6_numberOfTrailingZeros_0f7a4_2 ?_
  refine g_iload_n hC dJ6_numberOfTrailingZeros_0f7a4_3 (j := 0) rfl rfl ?_
  refine g_iconst hC dJ6_numberOfTrailingZeros_0f7a4_4 ic_1 ?_
  refine g_isub hC dJ6_numberOfTrailingZeros_0f7a4_5 ?_
  refine g_iand hC dJ6_numberOfTrailingZeros_0f7a4_6 ?_
  refine g_istore_nL hC (n0 := 2) (lv' := fun x1 => [(0, .int x1)]) dJ6_numberOfTrailingZeros_0f7a4_7 rfl (Nat.le_of_ble_eq_true rfl) hL (fun _ => rfl) (fun x1 => ?_)
  refine g_iload_n hC dJ6_numberOfTrailingZeros_0f7a4_8 (j := 0) rfl rfl ?_
  refine g_if_gt hC dJ6_numberOfTrailingZeros_0f7a4_9 ?_ ?_
  · refine g_iconst hC dJ6_numberOfTrailingZeros_0f7a4_17 ic_1 ?_
    refine g_istore_n hC (n0 := 2) (lv' := [(1, .int 1), (0, .int x1)]) dJ6_numberOfTrailingZeros_0f7a4_18 rfl (Nat.le_of_ble_eq_true rfl) hL rfl ?_
    refine g_iload_n hC dJ6_numberOfTrailingZeros_0f7a4_19 (j := 1) rfl rfl ?_
    refine g_ldcw hC dJ6_numberOfTrailingZeros_0f7a4_20 clJ6_264 ?_
    refine g_letJ (J := fun j2 => Go C 34 [(0, .int j2.1), (1, .int j2.2)] [] V R G 0 0) (fun j2 hJ => ?_) (fun j2 => ?_)
    · refine g_icmp_le hC dJ6_numberOfTrailingZeros_0f7a4_23 ?_ ?_
      · refine g_sub [1, 0] rfl ?_
        exact fun e => by cases e; exact hJ
      · refine g_iincL hC (n0 := 2) (j := 0) (lv' := fun x3 => [(1, .int x3), (0, .int x1)]) dJ6_numberOfTrailingZeros_0f7a4_26 rfl ic_16 (Nat.le_of_ble_eq_true rfl) hL (fun _ => rfl) (fun x3 => ?_)
        refine g_iload_n hC dJ6_numberOfTrailingZeros_0f7a4_29 (j := 1) rfl rfl ?_
        refine g_bipush hC dJ6_numberOfTrailingZeros_0f7a4_30 bc_16 ?_
        refine g_iushr hC dJ6_numberOfTrailingZeros_0f7a4_32 ?_
        refine g_istore_nL hC (n0 := 2) (lv' := fun x4 => [(0, .int x4), (1, .int x3)]) dJ6_numberOfTrailingZeros_0f7a4_33 rfl (Nat.le_of_ble_eq_true rfl) hL (fun _ => rfl) (fun x4 => ?_)
        exact fun e => by cases e; exact hJ
    · refine g_iload_n hC dJ6_numberOfTrailingZeros_0f7a4_34 (j := 0) rfl rfl ?_
      refine g_sipush hC dJ6_numberOfTrailingZeros_0f7a4_35 sc_256 ?_
      refine g_letJ (J := fun j5 => Go C 49 [(0, .int j5.1), (1, .int j5.2)] [] V R G 0 0) (fun j5 hJ => ?_) (fun j5 => ?_)
      · refine g_icmp_le hC dJ6_numberOfTrailingZeros_0f7a4_38 ?_ ?_
        · exact fun e => by cases e; exact hJ
        · refine g_iincL hC (n0 := 2) (j := 1) (lv' := fun x6 => [(1, .int x6), (0, .int j2.1)]) dJ6_numberOfTrailingZeros_0f7a4_41 rfl ic_8 (Nat.le_of_ble_eq_true rfl) hL (fun _ => rfl) (fun x6 => ?_)
          refine g_iload_n hC dJ6_numberOfTrailingZeros_0f7a4_44 (j := 1) rfl rfl ?_
          refine g_bipush hC dJ6_numberOfTrailingZeros_0f7a4_45 bc_8 ?_
          refine g_iushr hC dJ6_numberOfTrailingZeros_0f7a4_47 ?_
          refine g_istore_nL hC (n0 := 2) (lv' := fun x7 => [(0, .int x7), (1, .int x6)]) dJ6_numberOfTrailingZeros_0f7a4_48 rfl (Nat.le_of_ble_eq_true rfl) hL (fun _ => rfl) (fun x7 => ?_)
          exact fun e => by cases e; exact hJ
      · refine g_iload_n hC dJ6_numberOfTrailingZeros_0f7a4_49 (j := 0) rfl rfl ?_
        refine g_bipush hC dJ6_numberOfTrailingZeros_0f7a4_50 bc_16 ?_
        refine g_letJ (J := fun j8 => Go C 62 [(0, .int j8.1), (1, .int j8.2)] [] V R G 0 0) (fun j8 hJ => ?_) (fun j8 => ?_)
        · refine g_icmp_le hC dJ6_numberOfTrailingZeros_0f7a4_52 ?_ ?_
          · exact fun e => by cases e; exact hJ
          · refine g_iincL hC (n0 := 2) (j := 1) (lv' := fun x9 => [(1, .int x9), (0, .int j5.1)]) dJ6_numberOfTrailingZeros_0f7a4_55 rfl ic_4 (Nat.le_of_ble_eq_true rfl) hL (fun _ => rfl) (fun x9 => ?_)
            refine g_iload_n hC dJ6_numberOfTrailingZeros_0f7a4_58 (j := 1) rfl rfl ?_
            refine g_iconst hC dJ6_numberOfTrailingZeros_0f7a4_59 ic_4 ?_
            refine g_iushr hC dJ6_numberOfTrailingZeros_0f7a4_60 ?_
            refine g_istore_nL hC (n0 := 2) (lv' := fun x10 => [(0, .int x10), (1, .int x9)]) dJ6_numberOfTrailingZeros_0f7a4_61 rfl (Nat.le_of_ble_eq_true rfl) hL (fun _ => rfl) (fun x10 => ?_)
            exact fun e => by cases e; exact hJ
        · refine g_iload_n hC dJ6_numberOfTrailingZeros_0f7a4_62 (j := 0) rfl rfl ?_
          refine g_iconst hC dJ6_numberOfTrailingZeros_0f7a4_63 ic_4 ?_
          refine g_icmp_le hC dJ6_numberOfTrailingZeros_0f7a4_64 ?_ ?_
          · refine g_iload_n hC dJ6_numberOfTrailingZeros_0f7a4_74 (j := 1) rfl rfl ?_
            refine g_iload_n hC dJ6_numberOfTrailingZeros_0f7a4_75 (j := 0) rfl rfl ?_
            refine g_iconst hC dJ6_numberOfTrailingZeros_0f7a4_76 ic_1 ?_
            refine g_iushr hC dJ6_numberOfTrailingZeros_0f7a4_77 ?_
            refine g_iadd hC dJ6_numberOfTrailingZeros_0f7a4_78 ?_
            exact g_iret_i hC hT dJ6_numberOfTrailingZeros_0f7a4_79
          · refine g_iincL hC (n0 := 2) (j := 1) (lv' := fun x11 => [(1, .int x11), (0, .int j8.1)]) dJ6_numberOfTrailingZeros_0f7a4_67 rfl ic_2 (Nat.le_of_ble_eq_true rfl) hL (fun _ => rfl) (fun x11 => ?_)
            refine g_iload_n hC dJ6_numberOfTrailingZeros_0f7a4_70 (j := 1) rfl rfl ?_
            refine g_iconst hC dJ6_numberOfTrailingZeros_0f7a4_71 ic_2 ?_
            refine g_iushr hC dJ6_numberOfTrailingZeros_0f7a4_72 ?_
            refine g_istore_nL hC (n0 := 2) (lv' := fun x12 => [(0, .int x12), (1, .int x11)]) dJ6_numberOfTrailingZeros_0f7a4_73 rfl (Nat.le_of_ble_eq_true rfl) hL (fun _ => rfl) (fun x12 => ?_)
            refine g_iload_n hC dJ6_numberOfTrailingZeros_0f7a4_74 (j := 1) rfl rfl ?_
            refine g_iload_n hC dJ6_numberOfTrailingZeros_0f7a4_75 (j := 0) rfl rfl ?_
            refine g_iconst hC dJ6_numberOfTrailingZeros_0f7a4_76 ic_1 ?_
            refine g_iushr hC dJ6_numberOfTrailingZeros_0f7a4_77 ?_
            refine g_iadd hC dJ6_numberOfTrailingZeros_0f7a4_78 ?_
            exact g_iret_i hC hT dJ6_numberOfTrailingZeros_0f7a4_79
  · refine g_iload_n hC dJ6_numberOfTrailingZeros_0f7a4_12 (j := 0) rfl rfl ?_
    refine g_bipush hC dJ6_numberOfTrailingZeros_0f7a4_13 bc_32 ?_
    refine g_iand hC dJ6_numberOfTrailingZeros_0f7a4_15 ?_
    exact g_iret_i hC hT dJ6_numberOfTrailingZeros_0f7a4_16
def lJ7_fill_53178_5 (G : G2) (a1 : Nat) (a2 : Int32) (x1 : Int32) : Nat → V2 → Int32 → Option (V2)
  | 0, _, _ => none
  | f2 + 1, U3, x4 =>
    if x1 ≤ x4 then (some U3)
    else ((stI (G.2.2.1 a1) U3 a1 x4 a2).bind fun U5 =>
    letv (x4 + 1) fun x6 =>
    lJ7_fill_53178_5 G a1 a2 x1 f2 U5 x6)
def pJ7_fill_53178 (n : Nat) (G : G2) (V : V2) (a1 : Nat) (a2 : Int32) : Option (V2) :=
  letv (nI (G.2.2.1 a1)) fun x1 =>
  (lJ7_fill_53178_5 G a1 a2 x1 n V 0).bind fun w7 =>
  some w7
set_option maxHeartbeats 4000000 in
set_option maxRecDepth 100000 in
theorem wJ7_fill_53178_5 {C : Cx} (hC : CxOK C cJ7_fill_53178 RJ7 none) (hL : C.2.2.2.2 = 4) {G : G2} {R : R2} {a1 : Nat} {a2 : Int32} {x1 : Int32} (h_a1 : own G a1 1) {o : V2} (hX : Go C 20 [] [] o R G 0 0) : ∀ (f : Nat) (U3 : V2) (x4 : Int32), lJ7_fill_53178_5 G a1 a2 x1 f U3 x4 = some o → Go C 5 [(0, .ref a1), (1, .int a2), (2, .int x4), (3, .int x1)] [] U3 R G 0 0 := by
  intro f
  induction f with
  | zero => intro _ _ hf; exact absurd hf (by unfold lJ7_fill_53178_5; exact fun z => nomatch z)
  | succ f2 ih =>
    intro U3 x4
    unfold lJ7_fill_53178_5
    refine g_iload_n hC dJ7_fill_53178_5 (j := 2) rfl rfl ?_
    refine g_iload_n hC dJ7_fill_53178_6 (j := 3) rfl rfl ?_
    refine g_icmp_ge hC dJ7_fill_53178_7 ?_ ?_
    · refine g_sub [] rfl ?_
      exact fun e => by cases e; exact hX
    · refine g_aload_n hC dJ7_fill_53178_10 (j := 0) rfl rfl ?_
      refine g_iload_n hC dJ7_fill_53178_11 (j := 2) rfl rfl ?_
      refine g_iload_n hC dJ7_fill_53178_12 (j := 1) rfl rfl ?_
      refine g_iastV hC h_a1 rfl dJ7_fill_53178_13 (fun U5 => ?_)
      refine g_iincL hC (n0 := 4) (j := 2) (lv' := fun x6 => [(2, .int x6), (0, .ref a1), (1, .int a2), (3, .int x1)]) dJ7_fill_53178_14 rfl ic_1 (Nat.le_of_ble_eq_true rfl) hL (fun _ => rfl) (fun x6 => ?_)
      refine g_goto hC dJ7_fill_53178_17 ?_
      refine g_sub [1, 2, 0, 3] rfl ?_
      exact ih U5 x6
set_option maxHeartbeats 4000000 in
set_option maxRecDepth 100000 in
theorem kJ7_fill_53178 {l : Launch} {D : Dx} {G : G2} {V : V2} {R : R2} {n : Nat} {a1 : Nat} {a2 : Int32} (h_a1 : own G a1 1) {o : V2} (hf : pJ7_fill_53178 n G V a1 a2 = some o) : Con l yJ7_fill_53178 cJ7_fill_53178 4 none (rmN 0 0 0) D G V R [.ref a1, .int a2] (none, o, R, G, 0, 0) := by
  refine Con.mk RJ7 (by decide) rfl (Nat.le_of_ble_eq_true rfl) (fun C _ hR hT _ _ hL hC hnm => ?_)
  revert hf
  unfold pJ7_fill_53178
  refine g_iconst hC dJ7_fill_53178_0 ic_0 ?_
  refine g_istore_n hC (n0 := 4) (lv' := [(2, .int 0), (0, .ref a1), (1, .int a2)]) dJ7_fill_53178_1 rfl (Nat.le_of_ble_eq_true rfl) hL rfl ?_
  refine g_aload_n hC dJ7_fill_53178_2 (j := 1) rfl rfl ?_
  refine g_alenV hC h_a1 rfl dJ7_fill_53178_3 ?_
  refine g_istore_nL hC (n0 := 4) (lv' := fun x1 => [(3, .int x1), (2, .int 0), (0, .ref a1), (1, .int a2)]) dJ7_fill_53178_4 rfl (Nat.le_of_ble_eq_true rfl) hL (fun _ => rfl) (fun x1 => ?_)
  refine g_sub [2, 3, 1, 0] rfl ?_
  refine g_bind (J := fun w7 => Go C 20 [] [] w7 R G 0 0) (fun w7 hJ => wJ7_fill_53178_5 hC hL h_a1 hJ n V 0) (fun w7 => ?_)
  exact g_vret_vV hC hT dJ7_fill_53178_20
