/-! Numbers, fields, what lies where -/
theorem ic_m1 : Int32.ofInt (-1) = (-1 : Int32) := by decide
theorem ic_0 : Int32.ofInt 0 = (0 : Int32) := by decide
theorem ic_1 : Int32.ofInt 1 = (1 : Int32) := by decide
theorem ic_2 : Int32.ofInt 2 = (2 : Int32) := by decide
theorem ic_3 : Int32.ofInt 3 = (3 : Int32) := by decide
theorem ic_4 : Int32.ofInt 4 = (4 : Int32) := by decide
theorem ic_5 : Int32.ofInt 5 = (5 : Int32) := by decide
theorem ic_8 : Int32.ofInt 8 = (8 : Int32) := by decide
theorem ic_9 : Int32.ofInt 9 = (9 : Int32) := by decide
theorem ic_16 : Int32.ofInt 16 = (16 : Int32) := by decide
theorem bc_m100 : (Int8.ofInt (-100)).toInt32 = (-100 : Int32) := by decide
theorem bc_m15 : (Int8.ofInt (-15)).toInt32 = (-15 : Int32) := by decide
theorem bc_m14 : (Int8.ofInt (-14)).toInt32 = (-14 : Int32) := by decide
theorem bc_m13 : (Int8.ofInt (-13)).toInt32 = (-13 : Int32) := by decide
theorem bc_m12 : (Int8.ofInt (-12)).toInt32 = (-12 : Int32) := by decide
theorem bc_m11 : (Int8.ofInt (-11)).toInt32 = (-11 : Int32) := by decide
theorem bc_m9 : (Int8.ofInt (-9)).toInt32 = (-9 : Int32) := by decide
theorem bc_m4 : (Int8.ofInt (-4)).toInt32 = (-4 : Int32) := by decide
theorem bc_m3 : (Int8.ofInt (-3)).toInt32 = (-3 : Int32) := by decide
theorem bc_m2 : (Int8.ofInt (-2)).toInt32 = (-2 : Int32) := by decide
theorem bc_6 : (Int8.ofInt 6).toInt32 = (6 : Int32) := by decide
theorem bc_7 : (Int8.ofInt 7).toInt32 = (7 : Int32) := by decide
theorem bc_8 : (Int8.ofInt 8).toInt32 = (8 : Int32) := by decide
theorem bc_9 : (Int8.ofInt 9).toInt32 = (9 : Int32) := by decide
theorem bc_10 : (Int8.ofInt 10).toInt32 = (10 : Int32) := by decide
theorem bc_11 : (Int8.ofInt 11).toInt32 = (11 : Int32) := by decide
theorem bc_12 : (Int8.ofInt 12).toInt32 = (12 : Int32) := by decide
theorem bc_13 : (Int8.ofInt 13).toInt32 = (13 : Int32) := by decide
theorem bc_14 : (Int8.ofInt 14).toInt32 = (14 : Int32) := by decide
theorem bc_15 : (Int8.ofInt 15).toInt32 = (15 : Int32) := by decide
theorem bc_16 : (Int8.ofInt 16).toInt32 = (16 : Int32) := by decide
theorem bc_17 : (Int8.ofInt 17).toInt32 = (17 : Int32) := by decide
theorem bc_20 : (Int8.ofInt 20).toInt32 = (20 : Int32) := by decide
theorem bc_23 : (Int8.ofInt 23).toInt32 = (23 : Int32) := by decide
theorem bc_25 : (Int8.ofInt 25).toInt32 = (25 : Int32) := by decide
theorem bc_30 : (Int8.ofInt 30).toInt32 = (30 : Int32) := by decide
theorem bc_32 : (Int8.ofInt 32).toInt32 = (32 : Int32) := by decide
theorem bc_38 : (Int8.ofInt 38).toInt32 = (38 : Int32) := by decide
theorem bc_40 : (Int8.ofInt 40).toInt32 = (40 : Int32) := by decide
theorem bc_41 : (Int8.ofInt 41).toInt32 = (41 : Int32) := by decide
theorem bc_44 : (Int8.ofInt 44).toInt32 = (44 : Int32) := by decide
theorem bc_48 : (Int8.ofInt 48).toInt32 = (48 : Int32) := by decide
theorem bc_50 : (Int8.ofInt 50).toInt32 = (50 : Int32) := by decide
theorem bc_51 : (Int8.ofInt 51).toInt32 = (51 : Int32) := by decide
theorem bc_57 : (Int8.ofInt 57).toInt32 = (57 : Int32) := by decide
theorem bc_59 : (Int8.ofInt 59).toInt32 = (59 : Int32) := by decide
theorem bc_60 : (Int8.ofInt 60).toInt32 = (60 : Int32) := by decide
theorem bc_61 : (Int8.ofInt 61).toInt32 = (61 : Int32) := by decide
theorem bc_62 : (Int8.ofInt 62).toInt32 = (62 : Int32) := by decide
theorem bc_63 : (Int8.ofInt 63).toInt32 = (63 : Int32) := by decide
theorem bc_66 : (Int8.ofInt 66).toInt32 = (66 : Int32) := by decide
theorem bc_81 : (Int8.ofInt 81).toInt32 = (81 : Int32) := by decide
theorem bc_97 : (Int8.ofInt 97).toInt32 = (97 : Int32) := by decide
theorem bc_98 : (Int8.ofInt 98).toInt32 = (98 : Int32) := by decide
theorem bc_99 : (Int8.ofInt 99).toInt32 = (99 : Int32) := by decide
theorem bc_100 : (Int8.ofInt 100).toInt32 = (100 : Int32) := by decide
theorem bc_101 : (Int8.ofInt 101).toInt32 = (101 : Int32) := by decide
theorem bc_102 : (Int8.ofInt 102).toInt32 = (102 : Int32) := by decide
theorem bc_103 : (Int8.ofInt 103).toInt32 = (103 : Int32) := by decide
theorem bc_104 : (Int8.ofInt 104).toInt32 = (104 : Int32) := by decide
theorem bc_105 : (Int8.ofInt 105).toInt32 = (105 : Int32) := by decide
theorem bc_107 : (Int8.ofInt 107).toInt32 = (107 : Int32) := by decide
theorem bc_108 : (Int8.ofInt 108).toInt32 = (108 : Int32) := by decide
theorem bc_109 : (Int8.ofInt 109).toInt32 = (109 : Int32) := by decide
theorem bc_110 : (Int8.ofInt 110).toInt32 = (110 : Int32) := by decide
theorem bc_111 : (Int8.ofInt 111).toInt32 = (111 : Int32) := by decide
theorem bc_112 : (Int8.ofInt 112).toInt32 = (112 : Int32) := by decide
theorem bc_114 : (Int8.ofInt 114).toInt32 = (114 : Int32) := by decide
theorem bc_115 : (Int8.ofInt 115).toInt32 = (115 : Int32) := by decide
theorem bc_116 : (Int8.ofInt 116).toInt32 = (116 : Int32) := by decide
theorem bc_117 : (Int8.ofInt 117).toInt32 = (117 : Int32) := by decide
theorem bc_118 : (Int8.ofInt 118).toInt32 = (118 : Int32) := by decide
theorem bc_119 : (Int8.ofInt 119).toInt32 = (119 : Int32) := by decide
theorem bc_122 : (Int8.ofInt 122).toInt32 = (122 : Int32) := by decide
theorem sc_160 : (Int16.ofInt 160).toInt32 = (160 : Int32) := by decide
theorem sc_190 : (Int16.ofInt 190).toInt32 = (190 : Int32) := by decide
theorem sc_200 : (Int16.ofInt 200).toInt32 = (200 : Int32) := by decide
theorem sc_255 : (Int16.ofInt 255).toInt32 = (255 : Int32) := by decide
theorem sc_256 : (Int16.ofInt 256).toInt32 = (256 : Int32) := by decide
theorem sc_300 : (Int16.ofInt 300).toInt32 = (300 : Int32) := by decide
theorem sc_572 : (Int16.ofInt 572).toInt32 = (572 : Int32) := by decide
theorem sc_600 : (Int16.ofInt 600).toInt32 = (600 : Int32) := by decide
theorem sc_999 : (Int16.ofInt 999).toInt32 = (999 : Int32) := by decide
theorem sc_9999 : (Int16.ofInt 9999).toInt32 = (9999 : Int32) := by decide
theorem sc_10000 : (Int16.ofInt 10000).toInt32 = (10000 : Int32) := by decide
theorem sc_12345 : (Int16.ofInt 12345).toInt32 = (12345 : Int32) := by decide
theorem nzi_m100 : ¬ (-100 : Int32) = 0 := by decide
theorem nzi_m15 : ¬ (-15 : Int32) = 0 := by decide
theorem nzi_m14 : ¬ (-14 : Int32) = 0 := by decide
theorem nzi_m13 : ¬ (-13 : Int32) = 0 := by decide
theorem nzi_m12 : ¬ (-12 : Int32) = 0 := by decide
theorem nzi_m11 : ¬ (-11 : Int32) = 0 := by decide
theorem nzi_m9 : ¬ (-9 : Int32) = 0 := by decide
theorem nzi_m4 : ¬ (-4 : Int32) = 0 := by decide
theorem nzi_m3 : ¬ (-3 : Int32) = 0 := by decide
theorem nzi_m2 : ¬ (-2 : Int32) = 0 := by decide
theorem nzi_m1 : ¬ (-1 : Int32) = 0 := by decide
theorem nzi_1 : ¬ (1 : Int32) = 0 := by decide
theorem nzi_2 : ¬ (2 : Int32) = 0 := by decide
theorem nzi_3 : ¬ (3 : Int32) = 0 := by decide
theorem nzi_4 : ¬ (4 : Int32) = 0 := by decide
theorem nzi_5 : ¬ (5 : Int32) = 0 := by decide
theorem nzi_6 : ¬ (6 : Int32) = 0 := by decide
theorem nzi_7 : ¬ (7 : Int32) = 0 := by decide
theorem nzi_8 : ¬ (8 : Int32) = 0 := by decide
theorem nzi_9 : ¬ (9 : Int32) = 0 := by decide
theorem nzi_10 : ¬ (10 : Int32) = 0 := by decide
theorem nzi_11 : ¬ (11 : Int32) = 0 := by decide
theorem nzi_12 : ¬ (12 : Int32) = 0 := by decide
theorem nzi_13 : ¬ (13 : Int32) = 0 := by decide
theorem nzi_14 : ¬ (14 : Int32) = 0 := by decide
theorem nzi_15 : ¬ (15 : Int32) = 0 := by decide
theorem nzi_16 : ¬ (16 : Int32) = 0 := by decide
theorem nzi_17 : ¬ (17 : Int32) = 0 := by decide
theorem nzi_20 : ¬ (20 : Int32) = 0 := by decide
theorem nzi_23 : ¬ (23 : Int32) = 0 := by decide
theorem nzi_25 : ¬ (25 : Int32) = 0 := by decide
theorem nzi_30 : ¬ (30 : Int32) = 0 := by decide
theorem nzi_32 : ¬ (32 : Int32) = 0 := by decide
theorem nzi_38 : ¬ (38 : Int32) = 0 := by decide
theorem nzi_40 : ¬ (40 : Int32) = 0 := by decide
theorem nzi_41 : ¬ (41 : Int32) = 0 := by decide
theorem nzi_44 : ¬ (44 : Int32) = 0 := by decide
theorem nzi_48 : ¬ (48 : Int32) = 0 := by decide
theorem nzi_50 : ¬ (50 : Int32) = 0 := by decide
theorem nzi_51 : ¬ (51 : Int32) = 0 := by decide
theorem nzi_57 : ¬ (57 : Int32) = 0 := by decide
theorem nzi_59 : ¬ (59 : Int32) = 0 := by decide
theorem nzi_60 : ¬ (60 : Int32) = 0 := by decide
theorem nzi_61 : ¬ (61 : Int32) = 0 := by decide
theorem nzi_62 : ¬ (62 : Int32) = 0 := by decide
theorem nzi_63 : ¬ (63 : Int32) = 0 := by decide
theorem nzi_66 : ¬ (66 : Int32) = 0 := by decide
theorem nzi_81 : ¬ (81 : Int32) = 0 := by decide
theorem nzi_97 : ¬ (97 : Int32) = 0 := by decide
theorem nzi_98 : ¬ (98 : Int32) = 0 := by decide
theorem nzi_99 : ¬ (99 : Int32) = 0 := by decide
theorem nzi_100 : ¬ (100 : Int32) = 0 := by decide
theorem nzi_101 : ¬ (101 : Int32) = 0 := by decide
theorem nzi_102 : ¬ (102 : Int32) = 0 := by decide
theorem nzi_103 : ¬ (103 : Int32) = 0 := by decide
theorem nzi_104 : ¬ (104 : Int32) = 0 := by decide
theorem nzi_105 : ¬ (105 : Int32) = 0 := by decide
theorem nzi_107 : ¬ (107 : Int32) = 0 := by decide
theorem nzi_108 : ¬ (108 : Int32) = 0 := by decide
theorem nzi_109 : ¬ (109 : Int32) = 0 := by decide
theorem nzi_110 : ¬ (110 : Int32) = 0 := by decide
theorem nzi_111 : ¬ (111 : Int32) = 0 := by decide
theorem nzi_112 : ¬ (112 : Int32) = 0 := by decide
theorem nzi_114 : ¬ (114 : Int32) = 0 := by decide
theorem nzi_115 : ¬ (115 : Int32) = 0 := by decide
theorem nzi_116 : ¬ (116 : Int32) = 0 := by decide
theorem nzi_117 : ¬ (117 : Int32) = 0 := by decide
theorem nzi_118 : ¬ (118 : Int32) = 0 := by decide
theorem nzi_119 : ¬ (119 : Int32) = 0 := by decide
theorem nzi_122 : ¬ (122 : Int32) = 0 := by decide
theorem nzi_160 : ¬ (160 : Int32) = 0 := by decide
theorem nzi_190 : ¬ (190 : Int32) = 0 := by decide
theorem nzi_200 : ¬ (200 : Int32) = 0 := by decide
theorem nzi_255 : ¬ (255 : Int32) = 0 := by decide
theorem nzi_256 : ¬ (256 : Int32) = 0 := by decide
theorem nzi_300 : ¬ (300 : Int32) = 0 := by decide
theorem nzi_572 : ¬ (572 : Int32) = 0 := by decide
theorem nzi_600 : ¬ (600 : Int32) = 0 := by decide
theorem nzi_999 : ¬ (999 : Int32) = 0 := by decide
theorem nzi_9999 : ¬ (9999 : Int32) = 0 := by decide
theorem nzi_10000 : ¬ (10000 : Int32) = 0 := by decide
theorem nzi_12345 : ¬ (12345 : Int32) = 0 := by decide
theorem nzl_2 : ¬ (2 : Int64) = 0 := by decide
theorem lc_0 : Int64.ofNat ((0 : Fin 2) : Nat) = (0 : Int64) := by decide
theorem lc_1 : Int64.ofNat ((1 : Fin 2) : Nat) = (1 : Int64) := by decide
/-- by class and field: the kind of the part, its length (0: not always the same) -/
def kTt (ci k : Nat) : Nat := match ci with
  | 0 => [1, 0, 0, 0, 0, 0].getD k 0
  | 1 => [12, 0, 0, 0, 1, 1, 1, 2, 0, 13].getD k 0
  | 2 => [0, 0, 0, 1, 1, 1, 1].getD k 0
  | 3 => [0, 1, 1, 1, 1, 0, 0, 0, 0, 0].getD k 0
  | 4 => [0, 0, 1].getD k 0
  | 5 => [1, 0, 0, 0, 0, 0, 1, 0, 2, 0].getD k 0
  | 6 => [4, 1, 0, 1, 0, 0, 0, 0, 0, 0].getD k 0
  | 7 => [0, 1].getD k 0
  | 8 => [11, 11, 0, 12, 16, 15, 1, 0, 3, 1, 3, 10].getD k 0
  | _ => [1, 1, 0, 1, 1, 0, 0, 0, 0, 0, 0, 0, 1, 1, 1, 0, 0, 0, 0, 0, 0, 0, 1, 1, 0, 0, 1, 0, 1, 1, 1, 1, 1, 1, 1, 0, 0, 0, 0, 0].getD k 0
def lTt (ci k : Nat) : Nat := match ci with
  | 0 => [30, 0, 0, 0, 0, 0].getD k 0
  | 1 => [0, 0, 0, 0, 16, 6, 6, 8, 0, 0].getD k 0
  | 2 => [0, 0, 0, 6, 6, 6, 6].getD k 0
  | 3 => [0, 6, 6, 6, 6, 0, 0, 0, 0, 0].getD k 0
  | 4 => [0, 0, 0].getD k 0
  | 5 => [200, 0, 0, 0, 0, 0, 300, 0, 8, 0].getD k 0
  | 6 => [5, 4, 0, 4, 0, 0, 0, 0, 0, 0].getD k 0
  | 7 => [0, 0].getD k 0
  | 8 => [0, 0, 0, 0, 0, 0, 12, 0, 4, 4, 4, 0].getD k 0
  | _ => [572, 572, 0, 190, 200, 0, 0, 0, 0, 0, 0, 0, 572, 4, 4, 0, 0, 0, 0, 0, 0, 0, 16, 16, 0, 0, 12, 0, 4, 4, 160, 4, 4, 4, 30, 0, 0, 0, 0, 0].getD k 0
/-- an object's parts lie behind it, each of its kind and length -/
def GX (G : G2) : Prop := ∀ x ci, own G x (ci + 10) → ci < 10 → ∀ k, k < nfs ci → ¬ offT ci k = 0 → own G (x + offT ci k) (kTt ci k) ∧ (¬ lTt ci k = 0 → G.2.2.1 (x + offT ci k) = lTt ci k)
theorem fr_0_0 : Fi 0 0 RX0 TX0 6 "bodies" "[I" (0 + 1) := ⟨iwX0, rfl, by decide, by decide, rfl, rfl, rfl⟩
theorem gx_0_0 {G : G2} {a : Nat} (hG : GX G) (h : own G a 10) : own G (a + 1) 1 := (hG a 0 h (by decide) 0 (by decide) (by decide)).1
theorem gl_0_0 {G : G2} {a : Nat} (hG : GX G) (h : own G a 10) : G.2.2.1 (a + 1) = 30 := (hG a 0 h (by decide) 0 (by decide) (by decide)).2 (by decide)
theorem fi_0_1 : Fi 0 1 RX0 TX0 6 "ran" "I" 0 := ⟨iwX0, rfl, by decide, by decide, rfl, rfl, rfl⟩
theorem fp_0_1 : Fp 0 1 RX0 TX0 6 "ran" "I" .int := ⟨fi_0_1, ⟨tyX0, tyX0_ok⟩, nmX0, rfl, by decide +kernel⟩
theorem fi_0_2 : Fi 0 2 RX0 TX0 6 "kind" "I" 0 := ⟨iwX0, rfl, by decide, by decide, rfl, rfl, rfl⟩
theorem fp_0_2 : Fp 0 2 RX0 TX0 6 "kind" "I" .int := ⟨fi_0_2, ⟨tyX0, tyX0_ok⟩, nmX0, rfl, by decide +kernel⟩
theorem fi_0_3 : Fi 0 3 RX0 TX0 6 "number" "I" 0 := ⟨iwX0, rfl, by decide, by decide, rfl, rfl, rfl⟩
theorem fp_0_3 : Fp 0 3 RX0 TX0 6 "number" "I" .int := ⟨fi_0_3, ⟨tyX0, tyX0_ok⟩, nmX0, rfl, by decide +kernel⟩
theorem fi_0_4 : Fi 0 4 RX0 TX0 6 "board" "I" 0 := ⟨iwX0, rfl, by decide, by decide, rfl, rfl, rfl⟩
theorem fp_0_4 : Fp 0 4 RX0 TX0 6 "board" "I" .int := ⟨fi_0_4, ⟨tyX0, tyX0_ok⟩, nmX0, rfl, by decide +kernel⟩
theorem fi_0_5 : Fi 0 5 RX0 TX0 6 "parted" "Z" 0 := ⟨iwX0, rfl, by decide, by decide, rfl, rfl, rfl⟩
theorem fp_0_5 : Fp 0 5 RX0 TX0 6 "parted" "Z" .boolean := ⟨fi_0_5, ⟨tyX0, tyX0_ok⟩, nmX0, rfl, by decide +kernel⟩
theorem fr_1_0 : Fi 1 0 RX1 TX1 10 "load" "LIronedFlat$Load;" (0 + 1) := ⟨iwX1, rfl, by decide, by decide, rfl, rfl, rfl⟩
theorem gx_1_0 {G : G2} {a : Nat} (hG : GX G) (h : own G a 11) : own G (a + 1) 12 := (hG a 1 h (by decide) 0 (by decide) (by decide)).1
theorem fi_1_1 : Fi 1 1 RX1 TX1 10 "end" "I" 0 := ⟨iwX1, rfl, by decide, by decide, rfl, rfl, rfl⟩
theorem fp_1_1 : Fp 1 1 RX1 TX1 10 "end" "I" .int := ⟨fi_1_1, ⟨tyX1, tyX1_ok⟩, nmX1, rfl, by decide +kernel⟩
theorem fi_1_2 : Fi 1 2 RX1 TX1 10 "score" "I" 0 := ⟨iwX1, rfl, by decide, by decide, rfl, rfl, rfl⟩
theorem fp_1_2 : Fp 1 2 RX1 TX1 10 "score" "I" .int := ⟨fi_1_2, ⟨tyX1, tyX1_ok⟩, nmX1, rfl, by decide +kernel⟩
theorem fi_1_3 : Fi 1 3 RX1 TX1 10 "z" "I" 0 := ⟨iwX1, rfl, by decide, by decide, rfl, rfl, rfl⟩
theorem fp_1_3 : Fp 1 3 RX1 TX1 10 "z" "I" .int := ⟨fi_1_3, ⟨tyX1, tyX1_ok⟩, nmX1, rfl, by decide +kernel⟩
theorem fr_1_4 : Fi 1 4 RX1 TX1 10 "iron" "[I" (5 + 1) := ⟨iwX1, rfl, by decide, by decide, rfl, rfl, rfl⟩
theorem gx_1_4 {G : G2} {a : Nat} (hG : GX G) (h : own G a 11) : own G (a + 6) 1 := (hG a 1 h (by decide) 4 (by decide) (by decide)).1
theorem gl_1_4 {G : G2} {a : Nat} (hG : GX G) (h : own G a 11) : G.2.2.1 (a + 6) = 16 := (hG a 1 h (by decide) 4 (by decide) (by decide)).2 (by decide)
theorem fr_1_5 : Fi 1 5 RX1 TX1 10 "weight" "[I" (6 + 1) := ⟨iwX1, rfl, by decide, by decide, rfl, rfl, rfl⟩
theorem gx_1_5 {G : G2} {a : Nat} (hG : GX G) (h : own G a 11) : own G (a + 7) 1 := (hG a 1 h (by decide) 5 (by decide) (by decide)).1
theorem gl_1_5 {G : G2} {a : Nat} (hG : GX G) (h : own G a 11) : G.2.2.1 (a + 7) = 6 := (hG a 1 h (by decide) 5 (by decide) (by decide)).2 (by decide)
theorem fr_1_6 : Fi 1 6 RX1 TX1 10 "rope" "[I" (7 + 1) := ⟨iwX1, rfl, by decide, by decide, rfl, rfl, rfl⟩
theorem gx_1_6 {G : G2} {a : Nat} (hG : GX G) (h : own G a 11) : own G (a + 8) 1 := (hG a 1 h (by decide) 6 (by decide) (by decide)).1
theorem gl_1_6 {G : G2} {a : Nat} (hG : GX G) (h : own G a 11) : G.2.2.1 (a + 8) = 6 := (hG a 1 h (by decide) 6 (by decide) (by decide)).2 (by decide)
theorem fr_1_7 : Fi 1 7 RX1 TX1 10 "rules" "[LIronedFlat$Rule;" (8 + 1) := ⟨iwX1, rfl, by decide, by decide, rfl, rfl, rfl⟩
theorem gx_1_7 {G : G2} {a : Nat} (hG : GX G) (h : own G a 11) : own G (a + 9) 2 := (hG a 1 h (by decide) 7 (by decide) (by decide)).1
theorem gl_1_7 {G : G2} {a : Nat} (hG : GX G) (h : own G a 11) : G.2.2.1 (a + 9) = 8 := (hG a 1 h (by decide) 7 (by decide) (by decide)).2 (by decide)
theorem fi_1_8 : Fi 1 8 RX1 TX1 10 "ruleCount" "I" 0 := ⟨iwX1, rfl, by decide, by decide, rfl, rfl, rfl⟩
theorem fp_1_8 : Fp 1 8 RX1 TX1 10 "ruleCount" "I" .int := ⟨fi_1_8, ⟨tyX1, tyX1_ok⟩, nmX1, rfl, by decide +kernel⟩
theorem fr_1_9 : Fi 1 9 RX1 TX1 10 "reports" "LIronedFlat$Reports;" (9 + 1) := ⟨iwX1, rfl, by decide, by decide, rfl, rfl, rfl⟩
theorem gx_1_9 {G : G2} {a : Nat} (hG : GX G) (h : own G a 11) : own G (a + 10) 13 := (hG a 1 h (by decide) 9 (by decide) (by decide)).1
theorem fi_2_0 : Fi 2 0 RX2 TX2 7 "wash" "I" 0 := ⟨iwX2, rfl, by decide, by decide, rfl, rfl, rfl⟩
theorem fp_2_0 : Fp 2 0 RX2 TX2 7 "wash" "I" .int := ⟨fi_2_0, ⟨tyX2, tyX2_ok⟩, nmX2, rfl, by decide +kernel⟩
theorem fi_2_1 : Fi 2 1 RX2 TX2 7 "count" "I" 0 := ⟨iwX2, rfl, by decide, by decide, rfl, rfl, rfl⟩
theorem fp_2_1 : Fp 2 1 RX2 TX2 7 "count" "I" .int := ⟨fi_2_1, ⟨tyX2, tyX2_ok⟩, nmX2, rfl, by decide +kernel⟩
theorem fi_2_2 : Fi 2 2 RX2 TX2 7 "flat" "I" 0 := ⟨iwX2, rfl, by decide, by decide, rfl, rfl, rfl⟩
theorem fp_2_2 : Fp 2 2 RX2 TX2 7 "flat" "I" .int := ⟨fi_2_2, ⟨tyX2, tyX2_ok⟩, nmX2, rfl, by decide +kernel⟩
theorem fr_2_3 : Fi 2 3 RX2 TX2 7 "kind" "[I" (0 + 1) := ⟨iwX2, rfl, by decide, by decide, rfl, rfl, rfl⟩
theorem gx_2_3 {G : G2} {a : Nat} (hG : GX G) (h : own G a 12) : own G (a + 1) 1 := (hG a 2 h (by decide) 3 (by decide) (by decide)).1
theorem gl_2_3 {G : G2} {a : Nat} (hG : GX G) (h : own G a 12) : G.2.2.1 (a + 1) = 6 := (hG a 2 h (by decide) 3 (by decide) (by decide)).2 (by decide)
theorem fr_2_4 : Fi 2 4 RX2 TX2 7 "bulk" "[I" (1 + 1) := ⟨iwX2, rfl, by decide, by decide, rfl, rfl, rfl⟩
theorem gx_2_4 {G : G2} {a : Nat} (hG : GX G) (h : own G a 12) : own G (a + 2) 1 := (hG a 2 h (by decide) 4 (by decide) (by decide)).1
theorem gl_2_4 {G : G2} {a : Nat} (hG : GX G) (h : own G a 12) : G.2.2.1 (a + 2) = 6 := (hG a 2 h (by decide) 4 (by decide) (by decide)).2 (by decide)
theorem fr_2_5 : Fi 2 5 RX2 TX2 7 "crease" "[I" (2 + 1) := ⟨iwX2, rfl, by decide, by decide, rfl, rfl, rfl⟩
theorem gx_2_5 {G : G2} {a : Nat} (hG : GX G) (h : own G a 12) : own G (a + 3) 1 := (hG a 2 h (by decide) 5 (by decide) (by decide)).1
theorem gl_2_5 {G : G2} {a : Nat} (hG : GX G) (h : own G a 12) : G.2.2.1 (a + 3) = 6 := (hG a 2 h (by decide) 5 (by decide) (by decide)).2 (by decide)
theorem fr_2_6 : Fi 2 6 RX2 TX2 7 "board" "[I" (3 + 1) := ⟨iwX2, rfl, by decide, by decide, rfl, rfl, rfl⟩
theorem gx_2_6 {G : G2} {a : Nat} (hG : GX G) (h : own G a 12) : own G (a + 4) 1 := (hG a 2 h (by decide) 6 (by decide) (by decide)).1
theorem gl_2_6 {G : G2} {a : Nat} (hG : GX G) (h : own G a 12) : G.2.2.1 (a + 4) = 6 := (hG a 2 h (by decide) 6 (by decide) (by decide)).2 (by decide)
theorem fi_3_0 : Fi 3 0 RX3 TX3 10 "count" "I" 0 := ⟨iwX3, rfl, by decide, by decide, rfl, rfl, rfl⟩
theorem fp_3_0 : Fp 3 0 RX3 TX3 10 "count" "I" .int := ⟨fi_3_0, ⟨tyX3, tyX3_ok⟩, nmX3, rfl, by decide +kernel⟩
theorem fr_3_1 : Fi 3 1 RX3 TX3 10 "behind" "[I" (0 + 1) := ⟨iwX3, rfl, by decide, by decide, rfl, rfl, rfl⟩
theorem gx_3_1 {G : G2} {a : Nat} (hG : GX G) (h : own G a 13) : own G (a + 1) 1 := (hG a 3 h (by decide) 1 (by decide) (by decide)).1
theorem gl_3_1 {G : G2} {a : Nat} (hG : GX G) (h : own G a 13) : G.2.2.1 (a + 1) = 6 := (hG a 3 h (by decide) 1 (by decide) (by decide)).2 (by decide)
theorem fr_3_2 : Fi 3 2 RX3 TX3 10 "asked" "[I" (1 + 1) := ⟨iwX3, rfl, by decide, by decide, rfl, rfl, rfl⟩
theorem gx_3_2 {G : G2} {a : Nat} (hG : GX G) (h : own G a 13) : own G (a + 2) 1 := (hG a 3 h (by decide) 2 (by decide) (by decide)).1
theorem gl_3_2 {G : G2} {a : Nat} (hG : GX G) (h : own G a 13) : G.2.2.1 (a + 2) = 6 := (hG a 3 h (by decide) 2 (by decide) (by decide)).2 (by decide)
theorem fr_3_3 : Fi 3 3 RX3 TX3 10 "lowest" "[I" (2 + 1) := ⟨iwX3, rfl, by decide, by decide, rfl, rfl, rfl⟩
theorem gx_3_3 {G : G2} {a : Nat} (hG : GX G) (h : own G a 13) : own G (a + 3) 1 := (hG a 3 h (by decide) 3 (by decide) (by decide)).1
theorem gl_3_3 {G : G2} {a : Nat} (hG : GX G) (h : own G a 13) : G.2.2.1 (a + 3) = 6 := (hG a 3 h (by decide) 3 (by decide) (by decide)).2 (by decide)
theorem fr_3_4 : Fi 3 4 RX3 TX3 10 "highest" "[I" (3 + 1) := ⟨iwX3, rfl, by decide, by decide, rfl, rfl, rfl⟩
theorem gx_3_4 {G : G2} {a : Nat} (hG : GX G) (h : own G a 13) : own G (a + 4) 1 := (hG a 3 h (by decide) 4 (by decide) (by decide)).1
theorem gl_3_4 {G : G2} {a : Nat} (hG : GX G) (h : own G a 13) : G.2.2.1 (a + 4) = 6 := (hG a 3 h (by decide) 4 (by decide) (by decide)).2 (by decide)
theorem fi_3_5 : Fi 3 5 RX3 TX3 10 "fitting" "I" 0 := ⟨iwX3, rfl, by decide, by decide, rfl, rfl, rfl⟩
theorem fp_3_5 : Fp 3 5 RX3 TX3 10 "fitting" "I" .int := ⟨fi_3_5, ⟨tyX3, tyX3_ok⟩, nmX3, rfl, by decide +kernel⟩
theorem fi_3_6 : Fi 3 6 RX3 TX3 10 "firstKind" "I" 0 := ⟨iwX3, rfl, by decide, by decide, rfl, rfl, rfl⟩
theorem fp_3_6 : Fp 3 6 RX3 TX3 10 "firstKind" "I" .int := ⟨fi_3_6, ⟨tyX3, tyX3_ok⟩, nmX3, rfl, by decide +kernel⟩
theorem fi_3_7 : Fi 3 7 RX3 TX3 10 "firstCrease" "I" 0 := ⟨iwX3, rfl, by decide, by decide, rfl, rfl, rfl⟩
theorem fp_3_7 : Fp 3 7 RX3 TX3 10 "firstCrease" "I" .int := ⟨fi_3_7, ⟨tyX3, tyX3_ok⟩, nmX3, rfl, by decide +kernel⟩
theorem fi_3_8 : Fi 3 8 RX3 TX3 10 "firstBulk" "I" 0 := ⟨iwX3, rfl, by decide, by decide, rfl, rfl, rfl⟩
theorem fp_3_8 : Fp 3 8 RX3 TX3 10 "firstBulk" "I" .int := ⟨fi_3_8, ⟨tyX3, tyX3_ok⟩, nmX3, rfl, by decide +kernel⟩
theorem fi_3_9 : Fi 3 9 RX3 TX3 10 "soleWrong" "I" 0 := ⟨iwX3, rfl, by decide, by decide, rfl, rfl, rfl⟩
theorem fp_3_9 : Fp 3 9 RX3 TX3 10 "soleWrong" "I" .int := ⟨fi_3_9, ⟨tyX3, tyX3_ok⟩, nmX3, rfl, by decide +kernel⟩
theorem fi_4_0 : Fi 4 0 RX4 TX4 3 "kind" "I" 0 := ⟨iwX4, rfl, by decide, by decide, rfl, rfl, rfl⟩
-- final
theorem fi_4_1 : Fi 4 1 RX4 TX4 3 "will" "I" 0 := ⟨iwX4, rfl, by decide, by decide, rfl, rfl, rfl⟩
-- final
theorem fr_4_2 : Fi 4 2 RX4 TX4 3 "steps" "[I" (0 + 1) := ⟨iwX4, rfl, by decide, by decide, rfl, rfl, rfl⟩
theorem gx_4_2 {G : G2} {a : Nat} (hG : GX G) (h : own G a 14) : own G (a + 1) 1 := (hG a 4 h (by decide) 2 (by decide) (by decide)).1
theorem fr_5_0 : Fi 5 0 RX5 TX5 10 "tape" "[I" (0 + 1) := ⟨iwX5, rfl, by decide, by decide, rfl, rfl, rfl⟩
theorem gx_5_0 {G : G2} {a : Nat} (hG : GX G) (h : own G a 15) : own G (a + 1) 1 := (hG a 5 h (by decide) 0 (by decide) (by decide)).1
theorem gl_5_0 {G : G2} {a : Nat} (hG : GX G) (h : own G a 15) : G.2.2.1 (a + 1) = 200 := (hG a 5 h (by decide) 0 (by decide) (by decide)).2 (by decide)
theorem fi_5_1 : Fi 5 1 RX5 TX5 10 "size" "I" 0 := ⟨iwX5, rfl, by decide, by decide, rfl, rfl, rfl⟩
theorem fp_5_1 : Fp 5 1 RX5 TX5 10 "size" "I" .int := ⟨fi_5_1, ⟨tyX5, tyX5_ok⟩, nmX5, rfl, by decide +kernel⟩
theorem fi_5_2 : Fi 5 2 RX5 TX5 10 "start" "I" 0 := ⟨iwX5, rfl, by decide, by decide, rfl, rfl, rfl⟩
theorem fp_5_2 : Fp 5 2 RX5 TX5 10 "start" "I" .int := ⟨fi_5_2, ⟨tyX5, tyX5_ok⟩, nmX5, rfl, by decide +kernel⟩
theorem fi_5_3 : Fi 5 3 RX5 TX5 10 "stop" "I" 0 := ⟨iwX5, rfl, by decide, by decide, rfl, rfl, rfl⟩
theorem fp_5_3 : Fp 5 3 RX5 TX5 10 "stop" "I" .int := ⟨fi_5_3, ⟨tyX5, tyX5_ok⟩, nmX5, rfl, by decide +kernel⟩
theorem fi_5_4 : Fi 5 4 RX5 TX5 10 "sort" "I" 0 := ⟨iwX5, rfl, by decide, by decide, rfl, rfl, rfl⟩
theorem fp_5_4 : Fp 5 4 RX5 TX5 10 "sort" "I" .int := ⟨fi_5_4, ⟨tyX5, tyX5_ok⟩, nmX5, rfl, by decide +kernel⟩
theorem fi_5_5 : Fi 5 5 RX5 TX5 10 "word" "I" 0 := ⟨iwX5, rfl, by decide, by decide, rfl, rfl, rfl⟩
theorem fp_5_5 : Fp 5 5 RX5 TX5 10 "word" "I" .int := ⟨fi_5_5, ⟨tyX5, tyX5_ok⟩, nmX5, rfl, by decide +kernel⟩
theorem fr_5_6 : Fi 5 6 RX5 TX5 10 "steps" "[I" (1 + 1) := ⟨iwX5, rfl, by decide, by decide, rfl, rfl, rfl⟩
theorem gx_5_6 {G : G2} {a : Nat} (hG : GX G) (h : own G a 15) : own G (a + 2) 1 := (hG a 5 h (by decide) 6 (by decide) (by decide)).1
theorem gl_5_6 {G : G2} {a : Nat} (hG : GX G) (h : own G a 15) : G.2.2.1 (a + 2) = 300 := (hG a 5 h (by decide) 6 (by decide) (by decide)).2 (by decide)
theorem fi_5_7 : Fi 5 7 RX5 TX5 10 "stepsUsed" "I" 0 := ⟨iwX5, rfl, by decide, by decide, rfl, rfl, rfl⟩
theorem fp_5_7 : Fp 5 7 RX5 TX5 10 "stepsUsed" "I" .int := ⟨fi_5_7, ⟨tyX5, tyX5_ok⟩, nmX5, rfl, by decide +kernel⟩
theorem fr_5_8 : Fi 5 8 RX5 TX5 10 "made" "[LIronedFlat$Rule;" (2 + 1) := ⟨iwX5, rfl, by decide, by decide, rfl, rfl, rfl⟩
theorem gx_5_8 {G : G2} {a : Nat} (hG : GX G) (h : own G a 15) : own G (a + 3) 2 := (hG a 5 h (by decide) 8 (by decide) (by decide)).1
theorem gl_5_8 {G : G2} {a : Nat} (hG : GX G) (h : own G a 15) : G.2.2.1 (a + 3) = 8 := (hG a 5 h (by decide) 8 (by decide) (by decide)).2 (by decide)
theorem fi_5_9 : Fi 5 9 RX5 TX5 10 "count" "I" 0 := ⟨iwX5, rfl, by decide, by decide, rfl, rfl, rfl⟩
theorem fp_5_9 : Fp 5 9 RX5 TX5 10 "count" "I" .int := ⟨fi_5_9, ⟨tyX5, tyX5_ok⟩, nmX5, rfl, by decide +kernel⟩
theorem fr_6_0 : Fi 6 0 RX6 TX6 10 "behind" "[LIronedFlat$Load;" (0 + 1) := ⟨iwX6, rfl, by decide, by decide, rfl, rfl, rfl⟩
theorem gx_6_0 {G : G2} {a : Nat} (hG : GX G) (h : own G a 16) : own G (a + 1) 4 := (hG a 6 h (by decide) 0 (by decide) (by decide)).1
theorem gl_6_0 {G : G2} {a : Nat} (hG : GX G) (h : own G a 16) : G.2.2.1 (a + 1) = 5 := (hG a 6 h (by decide) 0 (by decide) (by decide)).2 (by decide)
theorem fr_6_1 : Fi 6 1 RX6 TX6 10 "acts" "[I" (1 + 1) := ⟨iwX6, rfl, by decide, by decide, rfl, rfl, rfl⟩
theorem gx_6_1 {G : G2} {a : Nat} (hG : GX G) (h : own G a 16) : own G (a + 2) 1 := (hG a 6 h (by decide) 1 (by decide) (by decide)).1
theorem gl_6_1 {G : G2} {a : Nat} (hG : GX G) (h : own G a 16) : G.2.2.1 (a + 2) = 4 := (hG a 6 h (by decide) 1 (by decide) (by decide)).2 (by decide)
theorem fi_6_2 : Fi 6 2 RX6 TX6 10 "wanted" "I" 0 := ⟨iwX6, rfl, by decide, by decide, rfl, rfl, rfl⟩
theorem fp_6_2 : Fp 6 2 RX6 TX6 10 "wanted" "I" .int := ⟨fi_6_2, ⟨tyX6, tyX6_ok⟩, nmX6, rfl, by decide +kernel⟩
theorem fr_6_3 : Fi 6 3 RX6 TX6 10 "first" "[I" (2 + 1) := ⟨iwX6, rfl, by decide, by decide, rfl, rfl, rfl⟩
theorem gx_6_3 {G : G2} {a : Nat} (hG : GX G) (h : own G a 16) : own G (a + 3) 1 := (hG a 6 h (by decide) 3 (by decide) (by decide)).1
theorem gl_6_3 {G : G2} {a : Nat} (hG : GX G) (h : own G a 16) : G.2.2.1 (a + 3) = 4 := (hG a 6 h (by decide) 3 (by decide) (by decide)).2 (by decide)
theorem fi_6_4 : Fi 6 4 RX6 TX6 10 "length" "I" 0 := ⟨iwX6, rfl, by decide, by decide, rfl, rfl, rfl⟩
theorem fp_6_4 : Fp 6 4 RX6 TX6 10 "length" "I" .int := ⟨fi_6_4, ⟨tyX6, tyX6_ok⟩, nmX6, rfl, by decide +kernel⟩
theorem fi_6_5 : Fi 6 5 RX6 TX6 10 "most" "I" 0 := ⟨iwX6, rfl, by decide, by decide, rfl, rfl, rfl⟩
theorem fp_6_5 : Fp 6 5 RX6 TX6 10 "most" "I" .int := ⟨fi_6_5, ⟨tyX6, tyX6_ok⟩, nmX6, rfl, by decide +kernel⟩
theorem fi_6_6 : Fi 6 6 RX6 TX6 10 "bestPlans" "I" 0 := ⟨iwX6, rfl, by decide, by decide, rfl, rfl, rfl⟩
theorem fp_6_6 : Fp 6 6 RX6 TX6 10 "bestPlans" "I" .int := ⟨fi_6_6, ⟨tyX6, tyX6_ok⟩, nmX6, rfl, by decide +kernel⟩
theorem fi_6_7 : Fi 6 7 RX6 TX6 10 "fewest" "I" 0 := ⟨iwX6, rfl, by decide, by decide, rfl, rfl, rfl⟩
theorem fp_6_7 : Fp 6 7 RX6 TX6 10 "fewest" "I" .int := ⟨fi_6_7, ⟨tyX6, tyX6_ok⟩, nmX6, rfl, by decide +kernel⟩
theorem fi_6_8 : Fi 6 8 RX6 TX6 10 "everFlat" "I" 0 := ⟨iwX6, rfl, by decide, by decide, rfl, rfl, rfl⟩
theorem fp_6_8 : Fp 6 8 RX6 TX6 10 "everFlat" "I" .int := ⟨fi_6_8, ⟨tyX6, tyX6_ok⟩, nmX6, rfl, by decide +kernel⟩
theorem fi_6_9 : Fi 6 9 RX6 TX6 10 "opening" "I" 0 := ⟨iwX6, rfl, by decide, by decide, rfl, rfl, rfl⟩
theorem fp_6_9 : Fp 6 9 RX6 TX6 10 "opening" "I" .int := ⟨fi_6_9, ⟨tyX6, tyX6_ok⟩, nmX6, rfl, by decide +kernel⟩
theorem fi_7_0 : Fi 7 0 RX7 TX7 2 "sort" "I" 0 := ⟨iwX7, rfl, by decide, by decide, rfl, rfl, rfl⟩
-- final
theorem fr_7_1 : Fi 7 1 RX7 TX7 2 "items" "[I" (0 + 1) := ⟨iwX7, rfl, by decide, by decide, rfl, rfl, rfl⟩
theorem gx_7_1 {G : G2} {a : Nat} (hG : GX G) (h : own G a 17) : own G (a + 1) 1 := (hG a 7 h (by decide) 1 (by decide) (by decide)).1
theorem fr_8_0 : Fi 8 0 RX8 TX8 12 "now" "LIronedFlat$Laundry;" (0 + 1) := ⟨iwX8, rfl, by decide, by decide, rfl, rfl, rfl⟩
theorem gx_8_0 {G : G2} {a : Nat} (hG : GX G) (h : own G a 18) : own G (a + 1) 11 := (hG a 8 h (by decide) 0 (by decide) (by decide)).1
theorem fr_8_1 : Fi 8 1 RX8 TX8 12 "kept" "LIronedFlat$Laundry;" (15 + 1) := ⟨iwX8, rfl, by decide, by decide, rfl, rfl, rfl⟩
theorem gx_8_1 {G : G2} {a : Nat} (hG : GX G) (h : own G a 18) : own G (a + 16) 11 := (hG a 8 h (by decide) 1 (by decide) (by decide)).1
theorem fi_8_2 : Fi 8 2 RX8 TX8 12 "anyKept" "Z" 0 := ⟨iwX8, rfl, by decide, by decide, rfl, rfl, rfl⟩
theorem fp_8_2 : Fp 8 2 RX8 TX8 12 "anyKept" "Z" .boolean := ⟨fi_8_2, ⟨tyX8, tyX8_ok⟩, nmX8, rfl, by decide +kernel⟩
theorem fr_8_3 : Fi 8 3 RX8 TX8 12 "trial" "LIronedFlat$Load;" (30 + 1) := ⟨iwX8, rfl, by decide, by decide, rfl, rfl, rfl⟩
theorem gx_8_3 {G : G2} {a : Nat} (hG : GX G) (h : own G a 18) : own G (a + 31) 12 := (hG a 8 h (by decide) 3 (by decide) (by decide)).1
theorem fr_8_4 : Fi 8 4 RX8 TX8 12 "search" "LIronedFlat$Search;" (35 + 1) := ⟨iwX8, rfl, by decide, by decide, rfl, rfl, rfl⟩
theorem gx_8_4 {G : G2} {a : Nat} (hG : GX G) (h : own G a 18) : own G (a + 36) 16 := (hG a 8 h (by decide) 4 (by decide) (by decide)).1
theorem fr_8_5 : Fi 8 5 RX8 TX8 12 "reader" "LIronedFlat$RuleReader;" (64 + 1) := ⟨iwX8, rfl, by decide, by decide, rfl, rfl, rfl⟩
theorem gx_8_5 {G : G2} {a : Nat} (hG : GX G) (h : own G a 18) : own G (a + 65) 15 := (hG a 8 h (by decide) 5 (by decide) (by decide)).1
theorem fr_8_6 : Fi 8 6 RX8 TX8 12 "rows" "[I" (68 + 1) := ⟨iwX8, rfl, by decide, by decide, rfl, rfl, rfl⟩
theorem gx_8_6 {G : G2} {a : Nat} (hG : GX G) (h : own G a 18) : own G (a + 69) 1 := (hG a 8 h (by decide) 6 (by decide) (by decide)).1
theorem gl_8_6 {G : G2} {a : Nat} (hG : GX G) (h : own G a 18) : G.2.2.1 (a + 69) = 12 := (hG a 8 h (by decide) 6 (by decide) (by decide)).2 (by decide)
theorem fi_8_7 : Fi 8 7 RX8 TX8 12 "rowCount" "I" 0 := ⟨iwX8, rfl, by decide, by decide, rfl, rfl, rfl⟩
theorem fp_8_7 : Fp 8 7 RX8 TX8 12 "rowCount" "I" .int := ⟨fi_8_7, ⟨tyX8, tyX8_ok⟩, nmX8, rfl, by decide +kernel⟩
theorem fr_8_8 : Fi 8 8 RX8 TX8 12 "sheets" "[LIronedFlat$SheetRow;" (69 + 1) := ⟨iwX8, rfl, by decide, by decide, rfl, rfl, rfl⟩
theorem gx_8_8 {G : G2} {a : Nat} (hG : GX G) (h : own G a 18) : own G (a + 70) 3 := (hG a 8 h (by decide) 8 (by decide) (by decide)).1
theorem gl_8_8 {G : G2} {a : Nat} (hG : GX G) (h : own G a 18) : G.2.2.1 (a + 70) = 4 := (hG a 8 h (by decide) 8 (by decide) (by decide)).2 (by decide)
theorem fr_8_9 : Fi 8 9 RX8 TX8 12 "shelfThing" "[I" (70 + 1) := ⟨iwX8, rfl, by decide, by decide, rfl, rfl, rfl⟩
theorem gx_8_9 {G : G2} {a : Nat} (hG : GX G) (h : own G a 18) : own G (a + 71) 1 := (hG a 8 h (by decide) 9 (by decide) (by decide)).1
theorem gl_8_9 {G : G2} {a : Nat} (hG : GX G) (h : own G a 18) : G.2.2.1 (a + 71) = 4 := (hG a 8 h (by decide) 9 (by decide) (by decide)).2 (by decide)
theorem fr_8_10 : Fi 8 10 RX8 TX8 12 "shelfRow" "[LIronedFlat$SheetRow;" (71 + 1) := ⟨iwX8, rfl, by decide, by decide, rfl, rfl, rfl⟩
theorem gx_8_10 {G : G2} {a : Nat} (hG : GX G) (h : own G a 18) : own G (a + 72) 3 := (hG a 8 h (by decide) 10 (by decide) (by decide)).1
theorem gl_8_10 {G : G2} {a : Nat} (hG : GX G) (h : own G a 18) : G.2.2.1 (a + 72) = 4 := (hG a 8 h (by decide) 10 (by decide) (by decide)).2 (by decide)
theorem fr_8_11 : Fi 8 11 RX8 TX8 12 "actor" "LIronedFlat$Actor;" (72 + 1) := ⟨iwX8, rfl, by decide, by decide, rfl, rfl, rfl⟩
theorem gx_8_11 {G : G2} {a : Nat} (hG : GX G) (h : own G a 18) : own G (a + 73) 10 := (hG a 8 h (by decide) 11 (by decide) (by decide)).1
theorem fr_9_0 : Fi 9 0 RX9 TX9 40 "s" "[I" (0 + 1) := ⟨iwX9, rfl, by decide, by decide, rfl, rfl, rfl⟩
theorem gx_9_0 {G : G2} {a : Nat} (hG : GX G) (h : own G a 19) : own G (a + 1) 1 := (hG a 9 h (by decide) 0 (by decide) (by decide)).1
theorem gl_9_0 {G : G2} {a : Nat} (hG : GX G) (h : own G a 19) : G.2.2.1 (a + 1) = 572 := (hG a 9 h (by decide) 0 (by decide) (by decide)).2 (by decide)
theorem fr_9_1 : Fi 9 1 RX9 TX9 40 "held" "[I" (1 + 1) := ⟨iwX9, rfl, by decide, by decide, rfl, rfl, rfl⟩
theorem gx_9_1 {G : G2} {a : Nat} (hG : GX G) (h : own G a 19) : own G (a + 2) 1 := (hG a 9 h (by decide) 1 (by decide) (by decide)).1
theorem gl_9_1 {G : G2} {a : Nat} (hG : GX G) (h : own G a 19) : G.2.2.1 (a + 2) = 572 := (hG a 9 h (by decide) 1 (by decide) (by decide)).2 (by decide)
theorem fi_9_2 : Fi 9 2 RX9 TX9 40 "isHeld" "Z" 0 := ⟨iwX9, rfl, by decide, by decide, rfl, rfl, rfl⟩
theorem fp_9_2 : Fp 9 2 RX9 TX9 40 "isHeld" "Z" .boolean := ⟨fi_9_2, ⟨tyX9, tyX9_ok⟩, nmX9, rfl, by decide +kernel⟩
theorem fr_9_3 : Fi 9 3 RX9 TX9 40 "aside" "[I" (2 + 1) := ⟨iwX9, rfl, by decide, by decide, rfl, rfl, rfl⟩
theorem gx_9_3 {G : G2} {a : Nat} (hG : GX G) (h : own G a 19) : own G (a + 3) 1 := (hG a 9 h (by decide) 3 (by decide) (by decide)).1
theorem gl_9_3 {G : G2} {a : Nat} (hG : GX G) (h : own G a 19) : G.2.2.1 (a + 3) = 190 := (hG a 9 h (by decide) 3 (by decide) (by decide)).2 (by decide)
theorem fr_9_4 : Fi 9 4 RX9 TX9 40 "tape" "[I" (3 + 1) := ⟨iwX9, rfl, by decide, by decide, rfl, rfl, rfl⟩
theorem gx_9_4 {G : G2} {a : Nat} (hG : GX G) (h : own G a 19) : own G (a + 4) 1 := (hG a 9 h (by decide) 4 (by decide) (by decide)).1
theorem gl_9_4 {G : G2} {a : Nat} (hG : GX G) (h : own G a 19) : G.2.2.1 (a + 4) = 200 := (hG a 9 h (by decide) 4 (by decide) (by decide)).2 (by decide)
theorem fi_9_5 : Fi 9 5 RX9 TX9 40 "taped" "I" 0 := ⟨iwX9, rfl, by decide, by decide, rfl, rfl, rfl⟩
theorem fp_9_5 : Fp 9 5 RX9 TX9 40 "taped" "I" .int := ⟨fi_9_5, ⟨tyX9, tyX9_ok⟩, nmX9, rfl, by decide +kernel⟩
theorem fi_9_6 : Fi 9 6 RX9 TX9 40 "token" "I" 0 := ⟨iwX9, rfl, by decide, by decide, rfl, rfl, rfl⟩
theorem fp_9_6 : Fp 9 6 RX9 TX9 40 "token" "I" .int := ⟨fi_9_6, ⟨tyX9, tyX9_ok⟩, nmX9, rfl, by decide +kernel⟩
theorem fi_9_7 : Fi 9 7 RX9 TX9 40 "from" "I" 0 := ⟨iwX9, rfl, by decide, by decide, rfl, rfl, rfl⟩
theorem fp_9_7 : Fp 9 7 RX9 TX9 40 "from" "I" .int := ⟨fi_9_7, ⟨tyX9, tyX9_ok⟩, nmX9, rfl, by decide +kernel⟩
theorem fi_9_8 : Fi 9 8 RX9 TX9 40 "to" "I" 0 := ⟨iwX9, rfl, by decide, by decide, rfl, rfl, rfl⟩
theorem fp_9_8 : Fp 9 8 RX9 TX9 40 "to" "I" .int := ⟨fi_9_8, ⟨tyX9, tyX9_ok⟩, nmX9, rfl, by decide +kernel⟩
theorem fi_9_9 : Fi 9 9 RX9 TX9 40 "value" "I" 0 := ⟨iwX9, rfl, by decide, by decide, rfl, rfl, rfl⟩
theorem fp_9_9 : Fp 9 9 RX9 TX9 40 "value" "I" .int := ⟨fi_9_9, ⟨tyX9, tyX9_ok⟩, nmX9, rfl, by decide +kernel⟩
theorem fi_9_10 : Fi 9 10 RX9 TX9 40 "isWrong" "Z" 0 := ⟨iwX9, rfl, by decide, by decide, rfl, rfl, rfl⟩
theorem fp_9_10 : Fp 9 10 RX9 TX9 40 "isWrong" "Z" .boolean := ⟨fi_9_10, ⟨tyX9, tyX9_ok⟩, nmX9, rfl, by decide +kernel⟩
theorem fi_9_11 : Fi 9 11 RX9 TX9 40 "open" "I" 0 := ⟨iwX9, rfl, by decide, by decide, rfl, rfl, rfl⟩
theorem fp_9_11 : Fp 9 11 RX9 TX9 40 "open" "I" .int := ⟨fi_9_11, ⟨tyX9, tyX9_ok⟩, nmX9, rfl, by decide +kernel⟩
theorem fr_9_12 : Fi 9 12 RX9 TX9 40 "before" "[I" (4 + 1) := ⟨iwX9, rfl, by decide, by decide, rfl, rfl, rfl⟩
theorem gx_9_12 {G : G2} {a : Nat} (hG : GX G) (h : own G a 19) : own G (a + 5) 1 := (hG a 9 h (by decide) 12 (by decide) (by decide)).1
theorem gl_9_12 {G : G2} {a : Nat} (hG : GX G) (h : own G a 19) : G.2.2.1 (a + 5) = 572 := (hG a 9 h (by decide) 12 (by decide) (by decide)).2 (by decide)
theorem fr_9_13 : Fi 9 13 RX9 TX9 40 "acts" "[I" (5 + 1) := ⟨iwX9, rfl, by decide, by decide, rfl, rfl, rfl⟩
theorem gx_9_13 {G : G2} {a : Nat} (hG : GX G) (h : own G a 19) : own G (a + 6) 1 := (hG a 9 h (by decide) 13 (by decide) (by decide)).1
theorem gl_9_13 {G : G2} {a : Nat} (hG : GX G) (h : own G a 19) : G.2.2.1 (a + 6) = 4 := (hG a 9 h (by decide) 13 (by decide) (by decide)).2 (by decide)
theorem fr_9_14 : Fi 9 14 RX9 TX9 40 "firstActs" "[I" (6 + 1) := ⟨iwX9, rfl, by decide, by decide, rfl, rfl, rfl⟩
theorem gx_9_14 {G : G2} {a : Nat} (hG : GX G) (h : own G a 19) : own G (a + 7) 1 := (hG a 9 h (by decide) 14 (by decide) (by decide)).1
theorem gl_9_14 {G : G2} {a : Nat} (hG : GX G) (h : own G a 19) : G.2.2.1 (a + 7) = 4 := (hG a 9 h (by decide) 14 (by decide) (by decide)).2 (by decide)
theorem fi_9_15 : Fi 9 15 RX9 TX9 40 "bestWorth" "I" 0 := ⟨iwX9, rfl, by decide, by decide, rfl, rfl, rfl⟩
theorem fp_9_15 : Fp 9 15 RX9 TX9 40 "bestWorth" "I" .int := ⟨fi_9_15, ⟨tyX9, tyX9_ok⟩, nmX9, rfl, by decide +kernel⟩
theorem fi_9_16 : Fi 9 16 RX9 TX9 40 "bestMany" "I" 0 := ⟨iwX9, rfl, by decide, by decide, rfl, rfl, rfl⟩
theorem fp_9_16 : Fp 9 16 RX9 TX9 40 "bestMany" "I" .int := ⟨fi_9_16, ⟨tyX9, tyX9_ok⟩, nmX9, rfl, by decide +kernel⟩
theorem fi_9_17 : Fi 9 17 RX9 TX9 40 "firstLong" "I" 0 := ⟨iwX9, rfl, by decide, by decide, rfl, rfl, rfl⟩
theorem fp_9_17 : Fp 9 17 RX9 TX9 40 "firstLong" "I" .int := ⟨fi_9_17, ⟨tyX9, tyX9_ok⟩, nmX9, rfl, by decide +kernel⟩
theorem fi_9_18 : Fi 9 18 RX9 TX9 40 "wanted" "I" 0 := ⟨iwX9, rfl, by decide, by decide, rfl, rfl, rfl⟩
theorem fp_9_18 : Fp 9 18 RX9 TX9 40 "wanted" "I" .int := ⟨fi_9_18, ⟨tyX9, tyX9_ok⟩, nmX9, rfl, by decide +kernel⟩
theorem fi_9_19 : Fi 9 19 RX9 TX9 40 "fewestActs" "I" 0 := ⟨iwX9, rfl, by decide, by decide, rfl, rfl, rfl⟩
theorem fp_9_19 : Fp 9 19 RX9 TX9 40 "fewestActs" "I" .int := ⟨fi_9_19, ⟨tyX9, tyX9_ok⟩, nmX9, rfl, by decide +kernel⟩
theorem fi_9_20 : Fi 9 20 RX9 TX9 40 "flatEver" "I" 0 := ⟨iwX9, rfl, by decide, by decide, rfl, rfl, rfl⟩
theorem fp_9_20 : Fp 9 20 RX9 TX9 40 "flatEver" "I" .int := ⟨fi_9_20, ⟨tyX9, tyX9_ok⟩, nmX9, rfl, by decide +kernel⟩
theorem fi_9_21 : Fi 9 21 RX9 TX9 40 "firstAct" "I" 0 := ⟨iwX9, rfl, by decide, by decide, rfl, rfl, rfl⟩
theorem fp_9_21 : Fp 9 21 RX9 TX9 40 "firstAct" "I" .int := ⟨fi_9_21, ⟨tyX9, tyX9_ok⟩, nmX9, rfl, by decide +kernel⟩
theorem fr_9_22 : Fi 9 22 RX9 TX9 40 "bulks" "[I" (7 + 1) := ⟨iwX9, rfl, by decide, by decide, rfl, rfl, rfl⟩
theorem gx_9_22 {G : G2} {a : Nat} (hG : GX G) (h : own G a 19) : own G (a + 8) 1 := (hG a 9 h (by decide) 22 (by decide) (by decide)).1
theorem gl_9_22 {G : G2} {a : Nat} (hG : GX G) (h : own G a 19) : G.2.2.1 (a + 8) = 16 := (hG a 9 h (by decide) 22 (by decide) (by decide)).2 (by decide)
theorem fr_9_23 : Fi 9 23 RX9 TX9 40 "paids" "[I" (8 + 1) := ⟨iwX9, rfl, by decide, by decide, rfl, rfl, rfl⟩
theorem gx_9_23 {G : G2} {a : Nat} (hG : GX G) (h : own G a 19) : own G (a + 9) 1 := (hG a 9 h (by decide) 23 (by decide) (by decide)).1
theorem gl_9_23 {G : G2} {a : Nat} (hG : GX G) (h : own G a 19) : G.2.2.1 (a + 9) = 16 := (hG a 9 h (by decide) 23 (by decide) (by decide)).2 (by decide)
theorem fi_9_24 : Fi 9 24 RX9 TX9 40 "fits" "I" 0 := ⟨iwX9, rfl, by decide, by decide, rfl, rfl, rfl⟩
theorem fp_9_24 : Fp 9 24 RX9 TX9 40 "fits" "I" .int := ⟨fi_9_24, ⟨tyX9, tyX9_ok⟩, nmX9, rfl, by decide +kernel⟩
theorem fi_9_25 : Fi 9 25 RX9 TX9 40 "firstFit" "I" 0 := ⟨iwX9, rfl, by decide, by decide, rfl, rfl, rfl⟩
theorem fp_9_25 : Fp 9 25 RX9 TX9 40 "firstFit" "I" .int := ⟨fi_9_25, ⟨tyX9, tyX9_ok⟩, nmX9, rfl, by decide +kernel⟩
theorem fr_9_26 : Fi 9 26 RX9 TX9 40 "rows" "[I" (9 + 1) := ⟨iwX9, rfl, by decide, by decide, rfl, rfl, rfl⟩
theorem gx_9_26 {G : G2} {a : Nat} (hG : GX G) (h : own G a 19) : own G (a + 10) 1 := (hG a 9 h (by decide) 26 (by decide) (by decide)).1
theorem gl_9_26 {G : G2} {a : Nat} (hG : GX G) (h : own G a 19) : G.2.2.1 (a + 10) = 12 := (hG a 9 h (by decide) 26 (by decide) (by decide)).2 (by decide)
theorem fi_9_27 : Fi 9 27 RX9 TX9 40 "rowN" "I" 0 := ⟨iwX9, rfl, by decide, by decide, rfl, rfl, rfl⟩
theorem fp_9_27 : Fp 9 27 RX9 TX9 40 "rowN" "I" .int := ⟨fi_9_27, ⟨tyX9, tyX9_ok⟩, nmX9, rfl, by decide +kernel⟩
theorem fr_9_28 : Fi 9 28 RX9 TX9 40 "sortOf" "[I" (10 + 1) := ⟨iwX9, rfl, by decide, by decide, rfl, rfl, rfl⟩
theorem gx_9_28 {G : G2} {a : Nat} (hG : GX G) (h : own G a 19) : own G (a + 11) 1 := (hG a 9 h (by decide) 28 (by decide) (by decide)).1
theorem gl_9_28 {G : G2} {a : Nat} (hG : GX G) (h : own G a 19) : G.2.2.1 (a + 11) = 4 := (hG a 9 h (by decide) 28 (by decide) (by decide)).2 (by decide)
theorem fr_9_29 : Fi 9 29 RX9 TX9 40 "sizeOf" "[I" (11 + 1) := ⟨iwX9, rfl, by decide, by decide, rfl, rfl, rfl⟩
theorem gx_9_29 {G : G2} {a : Nat} (hG : GX G) (h : own G a 19) : own G (a + 12) 1 := (hG a 9 h (by decide) 29 (by decide) (by decide)).1
theorem gl_9_29 {G : G2} {a : Nat} (hG : GX G) (h : own G a 19) : G.2.2.1 (a + 12) = 4 := (hG a 9 h (by decide) 29 (by decide) (by decide)).2 (by decide)
theorem fr_9_30 : Fi 9 30 RX9 TX9 40 "numbers" "[I" (12 + 1) := ⟨iwX9, rfl, by decide, by decide, rfl, rfl, rfl⟩
theorem gx_9_30 {G : G2} {a : Nat} (hG : GX G) (h : own G a 19) : own G (a + 13) 1 := (hG a 9 h (by decide) 30 (by decide) (by decide)).1
theorem gl_9_30 {G : G2} {a : Nat} (hG : GX G) (h : own G a 19) : G.2.2.1 (a + 13) = 160 := (hG a 9 h (by decide) 30 (by decide) (by decide)).2 (by decide)
theorem fr_9_31 : Fi 9 31 RX9 TX9 40 "holdsWhat" "[I" (13 + 1) := ⟨iwX9, rfl, by decide, by decide, rfl, rfl, rfl⟩
theorem gx_9_31 {G : G2} {a : Nat} (hG : GX G) (h : own G a 19) : own G (a + 14) 1 := (hG a 9 h (by decide) 31 (by decide) (by decide)).1
theorem gl_9_31 {G : G2} {a : Nat} (hG : GX G) (h : own G a 19) : G.2.2.1 (a + 14) = 4 := (hG a 9 h (by decide) 31 (by decide) (by decide)).2 (by decide)
theorem fr_9_32 : Fi 9 32 RX9 TX9 40 "holdsWhich" "[I" (14 + 1) := ⟨iwX9, rfl, by decide, by decide, rfl, rfl, rfl⟩
theorem gx_9_32 {G : G2} {a : Nat} (hG : GX G) (h : own G a 19) : own G (a + 15) 1 := (hG a 9 h (by decide) 32 (by decide) (by decide)).1
theorem gl_9_32 {G : G2} {a : Nat} (hG : GX G) (h : own G a 19) : G.2.2.1 (a + 15) = 4 := (hG a 9 h (by decide) 32 (by decide) (by decide)).2 (by decide)
theorem fr_9_33 : Fi 9 33 RX9 TX9 40 "holdsMany" "[I" (15 + 1) := ⟨iwX9, rfl, by decide, by decide, rfl, rfl, rfl⟩
theorem gx_9_33 {G : G2} {a : Nat} (hG : GX G) (h : own G a 19) : own G (a + 16) 1 := (hG a 9 h (by decide) 33 (by decide) (by decide)).1
theorem gl_9_33 {G : G2} {a : Nat} (hG : GX G) (h : own G a 19) : G.2.2.1 (a + 16) = 4 := (hG a 9 h (by decide) 33 (by decide) (by decide)).2 (by decide)
theorem fr_9_34 : Fi 9 34 RX9 TX9 40 "bodies" "[I" (16 + 1) := ⟨iwX9, rfl, by decide, by decide, rfl, rfl, rfl⟩
theorem gx_9_34 {G : G2} {a : Nat} (hG : GX G) (h : own G a 19) : own G (a + 17) 1 := (hG a 9 h (by decide) 34 (by decide) (by decide)).1
theorem gl_9_34 {G : G2} {a : Nat} (hG : GX G) (h : own G a 19) : G.2.2.1 (a + 17) = 30 := (hG a 9 h (by decide) 34 (by decide) (by decide)).2 (by decide)
theorem fi_9_35 : Fi 9 35 RX9 TX9 40 "ran" "I" 0 := ⟨iwX9, rfl, by decide, by decide, rfl, rfl, rfl⟩
theorem fp_9_35 : Fp 9 35 RX9 TX9 40 "ran" "I" .int := ⟨fi_9_35, ⟨tyX9, tyX9_ok⟩, nmX9, rfl, by decide +kernel⟩
theorem fi_9_36 : Fi 9 36 RX9 TX9 40 "actKind" "I" 0 := ⟨iwX9, rfl, by decide, by decide, rfl, rfl, rfl⟩
theorem fp_9_36 : Fp 9 36 RX9 TX9 40 "actKind" "I" .int := ⟨fi_9_36, ⟨tyX9, tyX9_ok⟩, nmX9, rfl, by decide +kernel⟩
theorem fi_9_37 : Fi 9 37 RX9 TX9 40 "actN" "I" 0 := ⟨iwX9, rfl, by decide, by decide, rfl, rfl, rfl⟩
theorem fp_9_37 : Fp 9 37 RX9 TX9 40 "actN" "I" .int := ⟨fi_9_37, ⟨tyX9, tyX9_ok⟩, nmX9, rfl, by decide +kernel⟩
theorem fi_9_38 : Fi 9 38 RX9 TX9 40 "actA" "I" 0 := ⟨iwX9, rfl, by decide, by decide, rfl, rfl, rfl⟩
theorem fp_9_38 : Fp 9 38 RX9 TX9 40 "actA" "I" .int := ⟨fi_9_38, ⟨tyX9, tyX9_ok⟩, nmX9, rfl, by decide +kernel⟩
theorem fi_9_39 : Fi 9 39 RX9 TX9 40 "isParted" "Z" 0 := ⟨iwX9, rfl, by decide, by decide, rfl, rfl, rfl⟩
theorem fp_9_39 : Fp 9 39 RX9 TX9 40 "isParted" "Z" .boolean := ⟨fi_9_39, ⟨tyX9, tyX9_ok⟩, nmX9, rfl, by decide +kernel⟩
