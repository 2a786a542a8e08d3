/-! The tables' words by their places -/
theorem tb1 {c : Cond} (h : c ∈ tables_1_1) : c ∈ lw_tbl := List.mem_append_right _ (show c ∈ tables_1 from List.mem_append_left _ h)
theorem tb2 {c : Cond} (h : c ∈ tables_1_2) : c ∈ lw_tbl := List.mem_append_right _ (show c ∈ tables_1 from List.mem_append_right _ (List.mem_append_left _ h))
theorem tb3 {c : Cond} (h : c ∈ tables_1_3) : c ∈ lw_tbl := List.mem_append_right _ (show c ∈ tables_1 from List.mem_append_right _ (List.mem_append_right _ (List.mem_append_left _ h)))
theorem tb4 {c : Cond} (h : c ∈ tables_1_4) : c ∈ lw_tbl := List.mem_append_right _ (show c ∈ tables_1 from List.mem_append_right _ (List.mem_append_right _ (List.mem_append_right _ (List.mem_append_left _ h))))
theorem tb5 {c : Cond} (h : c ∈ tables_1_5) : c ∈ lw_tbl := List.mem_append_right _ (show c ∈ tables_1 from List.mem_append_right _ (List.mem_append_right _ (List.mem_append_right _ (List.mem_append_right _ (List.mem_append_left _ h)))))
theorem tb6 {c : Cond} (h : c ∈ tables_1_6) : c ∈ lw_tbl := List.mem_append_right _ (show c ∈ tables_1 from List.mem_append_right _ (List.mem_append_right _ (List.mem_append_right _ (List.mem_append_right _ (List.mem_append_right _ (List.mem_append_left _ h))))))
theorem tb7 {c : Cond} (h : c ∈ tables_1_7) : c ∈ lw_tbl := List.mem_append_right _ (show c ∈ tables_1 from List.mem_append_right _ (List.mem_append_right _ (List.mem_append_right _ (List.mem_append_right _ (List.mem_append_right _ (List.mem_append_right _ (h)))))))
theorem tbs {q : MethodName × Nat} (h : q ∈ lw_privs) : Cond.selects q.1.cls q.1 q.1 ∈ lw_tbl := List.mem_append_left _ (List.mem_map.mpr ⟨q, h, rfl⟩)
theorem inL : Cond.initialized RL ∈ lw_gd := lw_gd_in (tb1 (List.mem_of_getElem? (i := 0) rfl)) rfl
theorem inX8 : Cond.initialized RX8 ∈ lw_gd := lw_gd_in (tb1 (List.mem_of_getElem? (i := 1) rfl)) rfl
theorem inX1 : Cond.initialized RX1 ∈ lw_gd := lw_gd_in (tb1 (List.mem_of_getElem? (i := 2) rfl)) rfl
theorem inX2 : Cond.initialized RX2 ∈ lw_gd := lw_gd_in (tb1 (List.mem_of_getElem? (i := 3) rfl)) rfl
theorem inX3 : Cond.initialized RX3 ∈ lw_gd := lw_gd_in (tb1 (List.mem_of_getElem? (i := 4) rfl)) rfl
theorem inJ7 : Cond.initialized RJ7 ∈ lw_gd := lw_gd_in (tb1 (List.mem_of_getElem? (i := 5) rfl)) rfl
theorem inX6 : Cond.initialized RX6 ∈ lw_gd := lw_gd_in (tb1 (List.mem_of_getElem? (i := 6) rfl)) rfl
theorem inX5 : Cond.initialized RX5 ∈ lw_gd := lw_gd_in (tb1 (List.mem_of_getElem? (i := 7) rfl)) rfl
theorem inX0 : Cond.initialized RX0 ∈ lw_gd := lw_gd_in (tb1 (List.mem_of_getElem? (i := 8) rfl)) rfl
theorem inX9 : Cond.initialized RX9 ∈ lw_gd := lw_gd_in (tb1 (List.mem_of_getElem? (i := 9) rfl)) rfl
theorem inJ9 : Cond.initialized RJ9 ∈ lw_gd := lw_gd_in (tb1 (List.mem_of_getElem? (i := 10) rfl)) rfl
theorem inX4 : Cond.initialized RX4 ∈ lw_gd := lw_gd_in (tb1 (List.mem_of_getElem? (i := 11) rfl)) rfl
theorem inJ0 : Cond.initialized RJ0 ∈ lw_gd := lw_gd_in (tb1 (List.mem_of_getElem? (i := 12) rfl)) rfl
theorem inJ1 : Cond.initialized RJ1 ∈ lw_gd := lw_gd_in (tb1 (List.mem_of_getElem? (i := 13) rfl)) rfl
theorem inJ3 : Cond.initialized RJ3 ∈ lw_gd := lw_gd_in (tb1 (List.mem_of_getElem? (i := 14) rfl)) rfl
theorem inJ2 : Cond.initialized RJ2 ∈ lw_gd := lw_gd_in (tb1 (List.mem_of_getElem? (i := 15) rfl)) rfl
theorem inJ10 : Cond.initialized RJ10 ∈ lw_gd := lw_gd_in (tb1 (List.mem_of_getElem? (i := 16) rfl)) rfl
theorem inJ6 : Cond.initialized RJ6 ∈ lw_gd := lw_gd_in (tb1 (List.mem_of_getElem? (i := 17) rfl)) rfl
theorem inX7 : Cond.initialized RX7 ∈ lw_gd := lw_gd_in (tb1 (List.mem_of_getElem? (i := 18) rfl)) rfl
theorem klL_7 : Cond.classLink RL 7 RX8 ∈ lw_gd := lw_gd_in (tb1 (List.mem_of_getElem? (i := 19) rfl)) rfl
theorem iqX8 : Cond.instantiable RX8 12 ∈ lw_gd := lw_gd_in (tb1 (List.mem_of_getElem? (i := 20) rfl)) rfl
theorem mlL_9 : Cond.methodLink RL 9 yX8_init ∈ lw_gd := lw_gd_in (tb1 (List.mem_of_getElem? (i := 21) rfl)) rfl
theorem mlX8_1 : Cond.methodLink RX8 1 objectInit ∈ lw_gd := lw_gd_in (tb1 (List.mem_of_getElem? (i := 24) rfl)) rfl
theorem klX8_7 : Cond.classLink RX8 7 RX1 ∈ lw_gd := lw_gd_in (tb1 (List.mem_of_getElem? (i := 27) rfl)) rfl
theorem iqX1 : Cond.instantiable RX1 10 ∈ lw_gd := lw_gd_in (tb1 (List.mem_of_getElem? (i := 28) rfl)) rfl
theorem mlX8_9 : Cond.methodLink RX8 9 yX1_init ∈ lw_gd := lw_gd_in (tb1 (List.mem_of_getElem? (i := 29) rfl)) rfl
theorem mlX1_3 : Cond.methodLink RX1 3 objectInit ∈ lw_gd := lw_gd_in (tb1 (List.mem_of_getElem? (i := 32) rfl)) rfl
theorem klX1_9 : Cond.classLink RX1 9 RX2 ∈ lw_gd := lw_gd_in (tb1 (List.mem_of_getElem? (i := 33) rfl)) rfl
theorem iqX2 : Cond.instantiable RX2 7 ∈ lw_gd := lw_gd_in (tb1 (List.mem_of_getElem? (i := 34) rfl)) rfl
theorem mlX1_11 : Cond.methodLinkNest RX1 11 yX2_init "IronedFlat" ∈ lw_tbl := tb1 (List.mem_of_getElem? (i := 35) rfl)
theorem mlX2_3 : Cond.methodLink RX2 3 objectInit ∈ lw_gd := lw_gd_in (tb1 (List.mem_of_getElem? (i := 38) rfl)) rfl
theorem flX2_9 : Cond.fieldLink RX2 9 RX2 "wash" "I" ∈ lw_gd := lw_gd_in (tb1 (List.mem_of_getElem? (i := 39) rfl)) rfl
theorem flX6_66 : Cond.fieldLink RX6 66 RX2 "wash" "I" ∈ lw_gd := lw_gd_in (tb1 (List.mem_of_getElem? (i := 40) rfl)) rfl
theorem flX1_77 : Cond.fieldLink RX1 77 RX2 "wash" "I" ∈ lw_gd := lw_gd_in (tb1 (List.mem_of_getElem? (i := 41) rfl)) rfl
theorem flX4_28 : Cond.fieldLink RX4 28 RX2 "wash" "I" ∈ lw_gd := lw_gd_in (tb1 (List.mem_of_getElem? (i := 42) rfl)) rfl
theorem flX8_148 : Cond.fieldLink RX8 148 RX2 "wash" "I" ∈ lw_gd := lw_gd_in (tb1 (List.mem_of_getElem? (i := 43) rfl)) rfl
theorem flX2_15 : Cond.fieldLink RX2 15 RX2 "count" "I" ∈ lw_gd := lw_gd_in (tb1 (List.mem_of_getElem? (i := 44) rfl)) rfl
theorem flX8_84 : Cond.fieldLink RX8 84 RX2 "count" "I" ∈ lw_gd := lw_gd_in (tb1 (List.mem_of_getElem? (i := 45) rfl)) rfl
theorem flX6_84 : Cond.fieldLink RX6 84 RX2 "count" "I" ∈ lw_gd := lw_gd_in (tb1 (List.mem_of_getElem? (i := 46) rfl)) rfl
theorem flX1_140 : Cond.fieldLink RX1 140 RX2 "count" "I" ∈ lw_gd := lw_gd_in (tb1 (List.mem_of_getElem? (i := 47) rfl)) rfl
theorem flX2_18 : Cond.fieldLink RX2 18 RX2 "flat" "I" ∈ lw_gd := lw_gd_in (tb1 (List.mem_of_getElem? (i := 48) rfl)) rfl
theorem flX6_97 : Cond.fieldLink RX6 97 RX2 "flat" "I" ∈ lw_gd := lw_gd_in (tb1 (List.mem_of_getElem? (i := 49) rfl)) rfl
theorem flX8_154 : Cond.fieldLink RX8 154 RX2 "flat" "I" ∈ lw_gd := lw_gd_in (tb1 (List.mem_of_getElem? (i := 50) rfl)) rfl
theorem flX1_166 : Cond.fieldLink RX1 166 RX2 "flat" "I" ∈ lw_gd := lw_gd_in (tb1 (List.mem_of_getElem? (i := 51) rfl)) rfl
theorem flX2_21 : Cond.fieldLink RX2 21 RX2 "kind" "[I" ∈ lw_gd := lw_gd_in (tb1 (List.mem_of_getElem? (i := 52) rfl)) rfl
theorem flX8_87 : Cond.fieldLink RX8 87 RX2 "kind" "[I" ∈ lw_gd := lw_gd_in (tb1 (List.mem_of_getElem? (i := 53) rfl)) rfl
theorem flX1_84 : Cond.fieldLink RX1 84 RX2 "kind" "[I" ∈ lw_gd := lw_gd_in (tb1 (List.mem_of_getElem? (i := 54) rfl)) rfl
theorem flX2_25 : Cond.fieldLink RX2 25 RX2 "bulk" "[I" ∈ lw_gd := lw_gd_in (tb1 (List.mem_of_getElem? (i := 55) rfl)) rfl
theorem flX8_90 : Cond.fieldLink RX8 90 RX2 "bulk" "[I" ∈ lw_gd := lw_gd_in (tb1 (List.mem_of_getElem? (i := 56) rfl)) rfl
theorem flX4_33 : Cond.fieldLink RX4 33 RX2 "bulk" "[I" ∈ lw_gd := lw_gd_in (tb1 (List.mem_of_getElem? (i := 57) rfl)) rfl
theorem flX1_107 : Cond.fieldLink RX1 107 RX2 "bulk" "[I" ∈ lw_gd := lw_gd_in (tb1 (List.mem_of_getElem? (i := 58) rfl)) rfl
theorem flX2_28 : Cond.fieldLink RX2 28 RX2 "crease" "[I" ∈ lw_gd := lw_gd_in (tb1 (List.mem_of_getElem? (i := 59) rfl)) rfl
theorem flX8_93 : Cond.fieldLink RX8 93 RX2 "crease" "[I" ∈ lw_gd := lw_gd_in (tb1 (List.mem_of_getElem? (i := 60) rfl)) rfl
theorem flX4_36 : Cond.fieldLink RX4 36 RX2 "crease" "[I" ∈ lw_gd := lw_gd_in (tb1 (List.mem_of_getElem? (i := 61) rfl)) rfl
theorem flX1_110 : Cond.fieldLink RX1 110 RX2 "crease" "[I" ∈ lw_gd := lw_gd_in (tb1 (List.mem_of_getElem? (i := 62) rfl)) rfl
theorem flX2_31 : Cond.fieldLink RX2 31 RX2 "board" "[I" ∈ lw_gd := lw_gd_in (tb1 (List.mem_of_getElem? (i := 63) rfl)) rfl
theorem flX8_96 : Cond.fieldLink RX8 96 RX2 "board" "[I" ∈ lw_gd := lw_gd_in (tb1 (List.mem_of_getElem? (i := 64) rfl)) rfl
theorem flX1_91 : Cond.fieldLink RX1 91 RX2 "board" "[I" ∈ lw_gd := lw_gd_in (tb1 (List.mem_of_getElem? (i := 65) rfl)) rfl
theorem klX1_38 : Cond.classLink RX1 38 RX4 ∈ lw_gd := lw_gd_in (tb1 (List.mem_of_getElem? (i := 82) rfl)) rfl
theorem klX1_47 : Cond.classLink RX1 47 RX3 ∈ lw_gd := lw_gd_in (tb1 (List.mem_of_getElem? (i := 84) rfl)) rfl
theorem iqX3 : Cond.instantiable RX3 10 ∈ lw_gd := lw_gd_in (tb1 (List.mem_of_getElem? (i := 85) rfl)) rfl
theorem mlX1_49 : Cond.methodLinkNest RX1 49 yX3_init "IronedFlat" ∈ lw_tbl := tb1 (List.mem_of_getElem? (i := 86) rfl)
theorem mlX3_3 : Cond.methodLink RX3 3 objectInit ∈ lw_gd := lw_gd_in (tb1 (List.mem_of_getElem? (i := 89) rfl)) rfl
theorem flX3_9 : Cond.fieldLink RX3 9 RX3 "count" "I" ∈ lw_gd := lw_gd_in (tb1 (List.mem_of_getElem? (i := 90) rfl)) rfl
theorem flX8_271 : Cond.fieldLink RX8 271 RX3 "count" "I" ∈ lw_gd := lw_gd_in (tb1 (List.mem_of_getElem? (i := 91) rfl)) rfl
theorem flX3_15 : Cond.fieldLink RX3 15 RX3 "behind" "[I" ∈ lw_gd := lw_gd_in (tb1 (List.mem_of_getElem? (i := 92) rfl)) rfl
theorem flX3_19 : Cond.fieldLink RX3 19 RX3 "asked" "[I" ∈ lw_gd := lw_gd_in (tb1 (List.mem_of_getElem? (i := 93) rfl)) rfl
theorem flX3_22 : Cond.fieldLink RX3 22 RX3 "lowest" "[I" ∈ lw_gd := lw_gd_in (tb1 (List.mem_of_getElem? (i := 94) rfl)) rfl
theorem flX3_25 : Cond.fieldLink RX3 25 RX3 "highest" "[I" ∈ lw_gd := lw_gd_in (tb1 (List.mem_of_getElem? (i := 95) rfl)) rfl
theorem flX3_28 : Cond.fieldLink RX3 28 RX3 "fitting" "I" ∈ lw_gd := lw_gd_in (tb1 (List.mem_of_getElem? (i := 96) rfl)) rfl
theorem flX8_276 : Cond.fieldLink RX8 276 RX3 "fitting" "I" ∈ lw_gd := lw_gd_in (tb1 (List.mem_of_getElem? (i := 97) rfl)) rfl
theorem flX3_31 : Cond.fieldLink RX3 31 RX3 "firstKind" "I" ∈ lw_gd := lw_gd_in (tb1 (List.mem_of_getElem? (i := 98) rfl)) rfl
theorem flX8_279 : Cond.fieldLink RX8 279 RX3 "firstKind" "I" ∈ lw_gd := lw_gd_in (tb1 (List.mem_of_getElem? (i := 99) rfl)) rfl
theorem flX3_34 : Cond.fieldLink RX3 34 RX3 "firstCrease" "I" ∈ lw_gd := lw_gd_in (tb1 (List.mem_of_getElem? (i := 100) rfl)) rfl
theorem flX8_282 : Cond.fieldLink RX8 282 RX3 "firstCrease" "I" ∈ lw_gd := lw_gd_in (tb1 (List.mem_of_getElem? (i := 101) rfl)) rfl
theorem flX3_37 : Cond.fieldLink RX3 37 RX3 "firstBulk" "I" ∈ lw_gd := lw_gd_in (tb1 (List.mem_of_getElem? (i := 102) rfl)) rfl
theorem flX8_285 : Cond.fieldLink RX8 285 RX3 "firstBulk" "I" ∈ lw_gd := lw_gd_in (tb1 (List.mem_of_getElem? (i := 103) rfl)) rfl
theorem flX3_40 : Cond.fieldLink RX3 40 RX3 "soleWrong" "I" ∈ lw_gd := lw_gd_in (tb1 (List.mem_of_getElem? (i := 104) rfl)) rfl
theorem flX8_288 : Cond.fieldLink RX8 288 RX3 "soleWrong" "I" ∈ lw_gd := lw_gd_in (tb1 (List.mem_of_getElem? (i := 105) rfl)) rfl
theorem mlX1_54 : Cond.methodLink RX1 54 yJ7_fill_53178 ∈ lw_gd := lw_gd_in (tb1 (List.mem_of_getElem? (i := 127) rfl)) rfl
theorem ms_J7_fill_53178 : Cond.static yJ7_fill_53178 ∈ lw_gd := lw_gd_in (tb1 (List.mem_of_getElem? (i := 128) rfl)) rfl
theorem flX1_12 : Cond.fieldLink RX1 12 RX1 "load" "LIronedFlat$Load;" ∈ lw_gd := lw_gd_in (tb1 (List.mem_of_getElem? (i := 130) rfl)) rfl
theorem flX6_47 : Cond.fieldLink RX6 47 RX1 "load" "LIronedFlat$Load;" ∈ lw_gd := lw_gd_in (tb1 (List.mem_of_getElem? (i := 131) rfl)) rfl
theorem flX8_81 : Cond.fieldLink RX8 81 RX1 "load" "LIronedFlat$Load;" ∈ lw_gd := lw_gd_in (tb1 (List.mem_of_getElem? (i := 132) rfl)) rfl
theorem flX1_18 : Cond.fieldLink RX1 18 RX1 "end" "I" ∈ lw_gd := lw_gd_in (tb1 (List.mem_of_getElem? (i := 133) rfl)) rfl
theorem flX6_63 : Cond.fieldLink RX6 63 RX1 "end" "I" ∈ lw_gd := lw_gd_in (tb1 (List.mem_of_getElem? (i := 134) rfl)) rfl
theorem flX8_151 : Cond.fieldLink RX8 151 RX1 "end" "I" ∈ lw_gd := lw_gd_in (tb1 (List.mem_of_getElem? (i := 135) rfl)) rfl
theorem flX1_22 : Cond.fieldLink RX1 22 RX1 "score" "I" ∈ lw_gd := lw_gd_in (tb1 (List.mem_of_getElem? (i := 136) rfl)) rfl
theorem flX8_157 : Cond.fieldLink RX8 157 RX1 "score" "I" ∈ lw_gd := lw_gd_in (tb1 (List.mem_of_getElem? (i := 137) rfl)) rfl
theorem flX1_25 : Cond.fieldLink RX1 25 RX1 "z" "I" ∈ lw_gd := lw_gd_in (tb1 (List.mem_of_getElem? (i := 138) rfl)) rfl
theorem flX8_291 : Cond.fieldLink RX8 291 RX1 "z" "I" ∈ lw_gd := lw_gd_in (tb1 (List.mem_of_getElem? (i := 139) rfl)) rfl
theorem flX1_28 : Cond.fieldLink RX1 28 RX1 "iron" "[I" ∈ lw_gd := lw_gd_in (tb1 (List.mem_of_getElem? (i := 140) rfl)) rfl
theorem flX8_139 : Cond.fieldLink RX8 139 RX1 "iron" "[I" ∈ lw_gd := lw_gd_in (tb1 (List.mem_of_getElem? (i := 141) rfl)) rfl
theorem flX1_32 : Cond.fieldLink RX1 32 RX1 "weight" "[I" ∈ lw_gd := lw_gd_in (tb1 (List.mem_of_getElem? (i := 142) rfl)) rfl
theorem flX8_142 : Cond.fieldLink RX8 142 RX1 "weight" "[I" ∈ lw_gd := lw_gd_in (tb1 (List.mem_of_getElem? (i := 143) rfl)) rfl
theorem flX1_35 : Cond.fieldLink RX1 35 RX1 "rope" "[I" ∈ lw_gd := lw_gd_in (tb1 (List.mem_of_getElem? (i := 144) rfl)) rfl
theorem flX8_145 : Cond.fieldLink RX8 145 RX1 "rope" "[I" ∈ lw_gd := lw_gd_in (tb1 (List.mem_of_getElem? (i := 145) rfl)) rfl
theorem flX1_40 : Cond.fieldLink RX1 40 RX1 "rules" "[LIronedFlat$Rule;" ∈ lw_gd := lw_gd_in (tb1 (List.mem_of_getElem? (i := 146) rfl)) rfl
theorem flX1_44 : Cond.fieldLink RX1 44 RX1 "ruleCount" "I" ∈ lw_gd := lw_gd_in (tb1 (List.mem_of_getElem? (i := 147) rfl)) rfl
theorem flX8_201 : Cond.fieldLink RX8 201 RX1 "ruleCount" "I" ∈ lw_gd := lw_gd_in (tb1 (List.mem_of_getElem? (i := 148) rfl)) rfl
theorem flX1_50 : Cond.fieldLink RX1 50 RX1 "reports" "LIronedFlat$Reports;" ∈ lw_gd := lw_gd_in (tb1 (List.mem_of_getElem? (i := 149) rfl)) rfl
theorem flX8_261 : Cond.fieldLink RX8 261 RX1 "reports" "LIronedFlat$Reports;" ∈ lw_gd := lw_gd_in (tb1 (List.mem_of_getElem? (i := 150) rfl)) rfl
theorem klX8_23 : Cond.classLink RX8 23 RX2 ∈ lw_gd := lw_gd_in (tb1 (List.mem_of_getElem? (i := 172) rfl)) rfl
theorem mlX8_25 : Cond.methodLinkNest RX8 25 yX2_init "IronedFlat" ∈ lw_tbl := tb1 (List.mem_of_getElem? (i := 173) rfl)
theorem klX8_30 : Cond.classLink RX8 30 RX6 ∈ lw_gd := lw_gd_in (tb1 (List.mem_of_getElem? (i := 174) rfl)) rfl
theorem iqX6 : Cond.instantiable RX6 10 ∈ lw_gd := lw_gd_in (tb1 (List.mem_of_getElem? (i := 175) rfl)) rfl
theorem mlX8_32 : Cond.methodLink RX8 32 yX6_init ∈ lw_gd := lw_gd_in (tb1 (List.mem_of_getElem? (i := 176) rfl)) rfl
theorem mlX6_3 : Cond.methodLink RX6 3 objectInit ∈ lw_gd := lw_gd_in (tb1 (List.mem_of_getElem? (i := 179) rfl)) rfl
theorem klX6_9 : Cond.classLink RX6 9 RX2 ∈ lw_gd := lw_gd_in (tb1 (List.mem_of_getElem? (i := 180) rfl)) rfl
theorem mlX6_46 : Cond.methodLinkNest RX6 46 yX2_init "IronedFlat" ∈ lw_tbl := tb1 (List.mem_of_getElem? (i := 182) rfl)
theorem flX6_11 : Cond.fieldLink RX6 11 RX6 "behind" "[LIronedFlat$Load;" ∈ lw_gd := lw_gd_in (tb1 (List.mem_of_getElem? (i := 183) rfl)) rfl
theorem flX6_17 : Cond.fieldLink RX6 17 RX6 "acts" "[I" ∈ lw_gd := lw_gd_in (tb1 (List.mem_of_getElem? (i := 184) rfl)) rfl
theorem flX6_21 : Cond.fieldLink RX6 21 RX6 "wanted" "I" ∈ lw_gd := lw_gd_in (tb1 (List.mem_of_getElem? (i := 185) rfl)) rfl
theorem flX6_25 : Cond.fieldLink RX6 25 RX6 "first" "[I" ∈ lw_gd := lw_gd_in (tb1 (List.mem_of_getElem? (i := 186) rfl)) rfl
theorem flX8_234 : Cond.fieldLink RX8 234 RX6 "first" "[I" ∈ lw_gd := lw_gd_in (tb1 (List.mem_of_getElem? (i := 187) rfl)) rfl
theorem flX6_28 : Cond.fieldLink RX6 28 RX6 "length" "I" ∈ lw_gd := lw_gd_in (tb1 (List.mem_of_getElem? (i := 188) rfl)) rfl
theorem flX8_231 : Cond.fieldLink RX8 231 RX6 "length" "I" ∈ lw_gd := lw_gd_in (tb1 (List.mem_of_getElem? (i := 189) rfl)) rfl
theorem flX6_31 : Cond.fieldLink RX6 31 RX6 "most" "I" ∈ lw_gd := lw_gd_in (tb1 (List.mem_of_getElem? (i := 190) rfl)) rfl
theorem flX8_228 : Cond.fieldLink RX8 228 RX6 "most" "I" ∈ lw_gd := lw_gd_in (tb1 (List.mem_of_getElem? (i := 191) rfl)) rfl
theorem flX6_34 : Cond.fieldLink RX6 34 RX6 "bestPlans" "I" ∈ lw_gd := lw_gd_in (tb1 (List.mem_of_getElem? (i := 192) rfl)) rfl
theorem flX8_237 : Cond.fieldLink RX8 237 RX6 "bestPlans" "I" ∈ lw_gd := lw_gd_in (tb1 (List.mem_of_getElem? (i := 193) rfl)) rfl
theorem flX6_37 : Cond.fieldLink RX6 37 RX6 "fewest" "I" ∈ lw_gd := lw_gd_in (tb1 (List.mem_of_getElem? (i := 194) rfl)) rfl
theorem flX8_243 : Cond.fieldLink RX8 243 RX6 "fewest" "I" ∈ lw_gd := lw_gd_in (tb1 (List.mem_of_getElem? (i := 195) rfl)) rfl
theorem flX6_40 : Cond.fieldLink RX6 40 RX6 "everFlat" "I" ∈ lw_gd := lw_gd_in (tb1 (List.mem_of_getElem? (i := 196) rfl)) rfl
theorem flX8_246 : Cond.fieldLink RX8 246 RX6 "everFlat" "I" ∈ lw_gd := lw_gd_in (tb1 (List.mem_of_getElem? (i := 197) rfl)) rfl
theorem flX6_43 : Cond.fieldLink RX6 43 RX6 "opening" "I" ∈ lw_gd := lw_gd_in (tb1 (List.mem_of_getElem? (i := 198) rfl)) rfl
theorem flX8_258 : Cond.fieldLink RX8 258 RX6 "opening" "I" ∈ lw_gd := lw_gd_in (tb1 (List.mem_of_getElem? (i := 199) rfl)) rfl
theorem klX8_37 : Cond.classLink RX8 37 RX5 ∈ lw_gd := lw_gd_in (tb1 (List.mem_of_getElem? (i := 221) rfl)) rfl
theorem iqX5 : Cond.instantiable RX5 10 ∈ lw_gd := lw_gd_in (tb1 (List.mem_of_getElem? (i := 222) rfl)) rfl
theorem mlX8_39 : Cond.methodLinkNest RX8 39 yX5_init "IronedFlat" ∈ lw_tbl := tb1 (List.mem_of_getElem? (i := 223) rfl)
theorem mlX5_3 : Cond.methodLink RX5 3 objectInit ∈ lw_gd := lw_gd_in (tb1 (List.mem_of_getElem? (i := 226) rfl)) rfl
theorem klX5_31 : Cond.classLink RX5 31 RX4 ∈ lw_gd := lw_gd_in (tb1 (List.mem_of_getElem? (i := 227) rfl)) rfl
theorem flX5_9 : Cond.fieldLink RX5 9 RX5 "tape" "[I" ∈ lw_gd := lw_gd_in (tb1 (List.mem_of_getElem? (i := 228) rfl)) rfl
theorem flX5_15 : Cond.fieldLink RX5 15 RX5 "size" "I" ∈ lw_gd := lw_gd_in (tb1 (List.mem_of_getElem? (i := 229) rfl)) rfl
theorem flX8_351 : Cond.fieldLink RX8 351 RX5 "size" "I" ∈ lw_gd := lw_gd_in (tb1 (List.mem_of_getElem? (i := 230) rfl)) rfl
theorem flX5_19 : Cond.fieldLink RX5 19 RX5 "start" "I" ∈ lw_gd := lw_gd_in (tb1 (List.mem_of_getElem? (i := 231) rfl)) rfl
theorem flX5_22 : Cond.fieldLink RX5 22 RX5 "stop" "I" ∈ lw_gd := lw_gd_in (tb1 (List.mem_of_getElem? (i := 232) rfl)) rfl
theorem flX5_25 : Cond.fieldLink RX5 25 RX5 "sort" "I" ∈ lw_gd := lw_gd_in (tb1 (List.mem_of_getElem? (i := 233) rfl)) rfl
theorem flX5_28 : Cond.fieldLink RX5 28 RX5 "word" "I" ∈ lw_gd := lw_gd_in (tb1 (List.mem_of_getElem? (i := 234) rfl)) rfl
theorem flX5_33 : Cond.fieldLink RX5 33 RX5 "steps" "[I" ∈ lw_gd := lw_gd_in (tb1 (List.mem_of_getElem? (i := 235) rfl)) rfl
theorem flX5_36 : Cond.fieldLink RX5 36 RX5 "stepsUsed" "I" ∈ lw_gd := lw_gd_in (tb1 (List.mem_of_getElem? (i := 236) rfl)) rfl
theorem flX5_39 : Cond.fieldLink RX5 39 RX5 "made" "[LIronedFlat$Rule;" ∈ lw_gd := lw_gd_in (tb1 (List.mem_of_getElem? (i := 237) rfl)) rfl
theorem flX8_192 : Cond.fieldLink RX8 192 RX5 "made" "[LIronedFlat$Rule;" ∈ lw_gd := lw_gd_in (tb1 (List.mem_of_getElem? (i := 238) rfl)) rfl
theorem flX5_43 : Cond.fieldLink RX5 43 RX5 "count" "I" ∈ lw_gd := lw_gd_in (tb1 (List.mem_of_getElem? (i := 239) rfl)) rfl
theorem flX8_196 : Cond.fieldLink RX8 196 RX5 "count" "I" ∈ lw_gd := lw_gd_in (tb2 (List.mem_of_getElem? (i := 0) rfl)) rfl
theorem klX8_52 : Cond.classLink RX8 52 RX7 ∈ lw_gd := lw_gd_in (tb2 (List.mem_of_getElem? (i := 22) rfl)) rfl
theorem klX8_64 : Cond.classLink RX8 64 RX0 ∈ lw_gd := lw_gd_in (tb2 (List.mem_of_getElem? (i := 24) rfl)) rfl
theorem iqX0 : Cond.instantiable RX0 6 ∈ lw_gd := lw_gd_in (tb2 (List.mem_of_getElem? (i := 25) rfl)) rfl
theorem mlX8_66 : Cond.methodLinkNest RX8 66 yX0_init "IronedFlat" ∈ lw_tbl := tb2 (List.mem_of_getElem? (i := 26) rfl)
theorem mlX0_3 : Cond.methodLink RX0 3 objectInit ∈ lw_gd := lw_gd_in (tb2 (List.mem_of_getElem? (i := 29) rfl)) rfl
theorem flX0_9 : Cond.fieldLink RX0 9 RX0 "bodies" "[I" ∈ lw_gd := lw_gd_in (tb2 (List.mem_of_getElem? (i := 30) rfl)) rfl
theorem flX8_345 : Cond.fieldLink RX8 345 RX0 "bodies" "[I" ∈ lw_gd := lw_gd_in (tb2 (List.mem_of_getElem? (i := 31) rfl)) rfl
theorem flX0_15 : Cond.fieldLink RX0 15 RX0 "ran" "I" ∈ lw_gd := lw_gd_in (tb2 (List.mem_of_getElem? (i := 32) rfl)) rfl
theorem flX8_342 : Cond.fieldLink RX8 342 RX0 "ran" "I" ∈ lw_gd := lw_gd_in (tb2 (List.mem_of_getElem? (i := 33) rfl)) rfl
theorem flX0_19 : Cond.fieldLink RX0 19 RX0 "kind" "I" ∈ lw_gd := lw_gd_in (tb2 (List.mem_of_getElem? (i := 34) rfl)) rfl
theorem flX0_22 : Cond.fieldLink RX0 22 RX0 "number" "I" ∈ lw_gd := lw_gd_in (tb2 (List.mem_of_getElem? (i := 35) rfl)) rfl
theorem flX0_25 : Cond.fieldLink RX0 25 RX0 "board" "I" ∈ lw_gd := lw_gd_in (tb2 (List.mem_of_getElem? (i := 36) rfl)) rfl
theorem flX0_28 : Cond.fieldLink RX0 28 RX0 "parted" "Z" ∈ lw_gd := lw_gd_in (tb2 (List.mem_of_getElem? (i := 37) rfl)) rfl
theorem mlX8_71 : Cond.methodLink RX8 71 yJ7_fill_53178 ∈ lw_gd := lw_gd_in (tb2 (List.mem_of_getElem? (i := 51) rfl)) rfl
theorem flX8_10 : Cond.fieldLink RX8 10 RX8 "now" "LIronedFlat$Laundry;" ∈ lw_gd := lw_gd_in (tb2 (List.mem_of_getElem? (i := 52) rfl)) rfl
theorem flX8_16 : Cond.fieldLink RX8 16 RX8 "kept" "LIronedFlat$Laundry;" ∈ lw_gd := lw_gd_in (tb2 (List.mem_of_getElem? (i := 53) rfl)) rfl
theorem flX8_19 : Cond.fieldLink RX8 19 RX8 "anyKept" "Z" ∈ lw_gd := lw_gd_in (tb2 (List.mem_of_getElem? (i := 54) rfl)) rfl
theorem flX8_26 : Cond.fieldLink RX8 26 RX8 "trial" "LIronedFlat$Load;" ∈ lw_gd := lw_gd_in (tb2 (List.mem_of_getElem? (i := 55) rfl)) rfl
theorem flX8_33 : Cond.fieldLink RX8 33 RX8 "search" "LIronedFlat$Search;" ∈ lw_gd := lw_gd_in (tb2 (List.mem_of_getElem? (i := 56) rfl)) rfl
theorem flX8_40 : Cond.fieldLink RX8 40 RX8 "reader" "LIronedFlat$RuleReader;" ∈ lw_gd := lw_gd_in (tb2 (List.mem_of_getElem? (i := 57) rfl)) rfl
theorem flX8_44 : Cond.fieldLink RX8 44 RX8 "rows" "[I" ∈ lw_gd := lw_gd_in (tb2 (List.mem_of_getElem? (i := 58) rfl)) rfl
theorem flX8_48 : Cond.fieldLink RX8 48 RX8 "rowCount" "I" ∈ lw_gd := lw_gd_in (tb2 (List.mem_of_getElem? (i := 59) rfl)) rfl
theorem flX8_54 : Cond.fieldLink RX8 54 RX8 "sheets" "[LIronedFlat$SheetRow;" ∈ lw_gd := lw_gd_in (tb2 (List.mem_of_getElem? (i := 60) rfl)) rfl
theorem flX8_58 : Cond.fieldLink RX8 58 RX8 "shelfThing" "[I" ∈ lw_gd := lw_gd_in (tb2 (List.mem_of_getElem? (i := 61) rfl)) rfl
theorem flX8_61 : Cond.fieldLink RX8 61 RX8 "shelfRow" "[LIronedFlat$SheetRow;" ∈ lw_gd := lw_gd_in (tb2 (List.mem_of_getElem? (i := 62) rfl)) rfl
theorem flX8_67 : Cond.fieldLink RX8 67 RX8 "actor" "LIronedFlat$Actor;" ∈ lw_gd := lw_gd_in (tb2 (List.mem_of_getElem? (i := 63) rfl)) rfl
theorem mlL_13 : Cond.methodLink RL 13 yX8_thing ∈ lw_gd := lw_gd_in (tb2 (List.mem_of_getElem? (i := 89) rfl)) rfl
theorem mlX8_77 : Cond.methodLink RX8 77 yX8_within ∈ lw_gd := lw_gd_in (tb2 (List.mem_of_getElem? (i := 93) rfl)) rfl
theorem ms_X8_within : Cond.static yX8_within ∈ lw_gd := lw_gd_in (tb2 (List.mem_of_getElem? (i := 94) rfl)) rfl
theorem mlX8_99 : Cond.methodLink RX8 99 yX2_setFlat ∈ lw_gd := lw_gd_in (tb2 (List.mem_of_getElem? (i := 96) rfl)) rfl
theorem mlL_18 : Cond.methodLink RL 18 yX8_thingOf ∈ lw_gd := lw_gd_in (tb2 (List.mem_of_getElem? (i := 100) rfl)) rfl
theorem mlX8_103 : Cond.methodLink RX8 103 yX8_isThing ∈ lw_gd := lw_gd_in (tb2 (List.mem_of_getElem? (i := 104) rfl)) rfl
theorem mlX8_107 : Cond.methodLink RX8 107 yX2_isFlat ∈ lw_gd := lw_gd_in (tb2 (List.mem_of_getElem? (i := 108) rfl)) rfl
theorem mlX8_110 : Cond.methodLink RX8 110 yX1_sighNow ∈ lw_gd := lw_gd_in (tb2 (List.mem_of_getElem? (i := 112) rfl)) rfl
theorem mlX1_80 : Cond.methodLink RX1 80 yX1_ironAt ∈ lw_gd := lw_gd_in (tb2 (List.mem_of_getElem? (i := 116) rfl)) rfl
theorem mlX8_114 : Cond.methodLink RX8 114 yX1_swells ∈ lw_gd := lw_gd_in (tb2 (List.mem_of_getElem? (i := 120) rfl)) rfl
theorem mlX1_87 : Cond.methodLinkNest RX1 87 yX8_swelling "IronedFlat" ∈ lw_tbl := tb2 (List.mem_of_getElem? (i := 124) rfl)
theorem ms_X8_swelling : Cond.static yX8_swelling ∈ lw_gd := lw_gd_in (tb2 (List.mem_of_getElem? (i := 125) rfl)) rfl
theorem mlX8_361 : Cond.methodLink RX8 361 yJ9_max_7cf53 ∈ lw_gd := lw_gd_in (tb2 (List.mem_of_getElem? (i := 127) rfl)) rfl
theorem ms_J9_max_7cf53 : Cond.static yJ9_max_7cf53 ∈ lw_gd := lw_gd_in (tb2 (List.mem_of_getElem? (i := 128) rfl)) rfl
theorem mlX1_94 : Cond.methodLink RX1 94 yJ9_max_7cf53 ∈ lw_gd := lw_gd_in (tb2 (List.mem_of_getElem? (i := 130) rfl)) rfl
theorem mlX8_118 : Cond.methodLink RX8 118 yX8_needing ∈ lw_gd := lw_gd_in (tb2 (List.mem_of_getElem? (i := 131) rfl)) rfl
theorem ms_X8_needing : Cond.static yX8_needing ∈ lw_gd := lw_gd_in (tb2 (List.mem_of_getElem? (i := 132) rfl)) rfl
theorem mlX8_122 : Cond.methodLink RX8 122 yX1_steamNow ∈ lw_gd := lw_gd_in (tb2 (List.mem_of_getElem? (i := 134) rfl)) rfl
theorem mlX8_125 : Cond.methodLink RX8 125 yX1_pays ∈ lw_gd := lw_gd_in (tb2 (List.mem_of_getElem? (i := 138) rfl)) rfl
theorem mlX1_100 : Cond.methodLink RX1 100 yX2_isFlat ∈ lw_gd := lw_gd_in (tb2 (List.mem_of_getElem? (i := 142) rfl)) rfl
theorem mlX1_104 : Cond.methodLink RX1 104 yX2_flatOn ∈ lw_gd := lw_gd_in (tb2 (List.mem_of_getElem? (i := 143) rfl)) rfl
theorem mlX2_53 : Cond.methodLink RX2 53 yX2_isFlat ∈ lw_gd := lw_gd_in (tb2 (List.mem_of_getElem? (i := 147) rfl)) rfl
theorem mlX1_113 : Cond.methodLinkNest RX1 113 yX8_needing "IronedFlat" ∈ lw_tbl := tb2 (List.mem_of_getElem? (i := 148) rfl)
theorem mlX8_128 : Cond.methodLink RX8 128 yX1_mayBePressed ∈ lw_gd := lw_gd_in (tb2 (List.mem_of_getElem? (i := 149) rfl)) rfl
theorem mlX1_130 : Cond.methodLink RX1 130 yX1_pays ∈ lw_gd := lw_gd_in (tb2 (List.mem_of_getElem? (i := 153) rfl)) rfl
theorem mlX1_134 : Cond.methodLink RX1 134 yX1_will ∈ lw_gd := lw_gd_in (tb2 (List.mem_of_getElem? (i := 154) rfl)) rfl
theorem mlX1_119 : Cond.methodLinkNest RX1 119 yX8_isOrIsUnder "IronedFlat" ∈ lw_tbl := tb2 (List.mem_of_getElem? (i := 158) rfl)
theorem ms_X8_isOrIsUnder : Cond.static yX8_isOrIsUnder ∈ lw_gd := lw_gd_in (tb2 (List.mem_of_getElem? (i := 159) rfl)) rfl
theorem flX8_358 : Cond.fieldLink RX8 358 RX8 "ABOVE" "[I" ∈ lw_gd := lw_gd_in (tb2 (List.mem_of_getElem? (i := 161) rfl)) rfl
theorem mlX1_123 : Cond.methodLink RX1 123 yX4_holds ∈ lw_gd := lw_gd_in (tb2 (List.mem_of_getElem? (i := 163) rfl)) rfl
theorem mlX4_20 : Cond.methodLink RX4 20 yX4_valueOf ∈ lw_gd := lw_gd_in (tb2 (List.mem_of_getElem? (i := 167) rfl)) rfl
theorem ms_X4_valueOf : Cond.static yX4_valueOf ∈ lw_gd := lw_gd_in (tb2 (List.mem_of_getElem? (i := 168) rfl)) rfl
theorem mlX4_24 : Cond.methodLink RX4 24 yX4_compares ∈ lw_gd := lw_gd_in (tb2 (List.mem_of_getElem? (i := 170) rfl)) rfl
theorem ms_X4_compares : Cond.static yX4_compares ∈ lw_gd := lw_gd_in (tb2 (List.mem_of_getElem? (i := 171) rfl)) rfl
theorem mlX8_132 : Cond.methodLink RX8 132 yX1_will ∈ lw_gd := lw_gd_in (tb2 (List.mem_of_getElem? (i := 173) rfl)) rfl
theorem mlL_23 : Cond.methodLink RL 23 yX8_change ∈ lw_gd := lw_gd_in (tb2 (List.mem_of_getElem? (i := 174) rfl)) rfl
theorem mlX8_135 : Cond.methodLink RX8 135 yX8_putWithin ∈ lw_gd := lw_gd_in (tb2 (List.mem_of_getElem? (i := 178) rfl)) rfl
theorem ms_X8_putWithin : Cond.static yX8_putWithin ∈ lw_gd := lw_gd_in (tb2 (List.mem_of_getElem? (i := 179) rfl)) rfl
theorem mlL_28 : Cond.methodLink RL 28 yX8_remake ∈ lw_gd := lw_gd_in (tb2 (List.mem_of_getElem? (i := 181) rfl)) rfl
theorem mlL_32 : Cond.methodLink RL 32 yX8_iron ∈ lw_gd := lw_gd_in (tb2 (List.mem_of_getElem? (i := 185) rfl)) rfl
theorem mlL_36 : Cond.methodLink RL 36 yX8_board ∈ lw_gd := lw_gd_in (tb2 (List.mem_of_getElem? (i := 189) rfl)) rfl
theorem mlL_40 : Cond.methodLink RL 40 yX8_boardOf ∈ lw_gd := lw_gd_in (tb2 (List.mem_of_getElem? (i := 193) rfl)) rfl
theorem mlL_44 : Cond.methodLink RL 44 yX8_ends ∈ lw_gd := lw_gd_in (tb2 (List.mem_of_getElem? (i := 197) rfl)) rfl
theorem mlL_49 : Cond.methodLink RL 49 yX8_anew ∈ lw_gd := lw_gd_in (tb2 (List.mem_of_getElem? (i := 201) rfl)) rfl
theorem mlL_54 : Cond.methodLink RL 54 yX8_state ∈ lw_gd := lw_gd_in (tb2 (List.mem_of_getElem? (i := 205) rfl)) rfl
theorem mlX8_160 : Cond.methodLink RX8 160 yX1_isOver ∈ lw_gd := lw_gd_in (tb2 (List.mem_of_getElem? (i := 209) rfl)) rfl
theorem mlX8_164 : Cond.methodLink RX8 164 yX1_ironAt ∈ lw_gd := lw_gd_in (tb2 (List.mem_of_getElem? (i := 213) rfl)) rfl
theorem mlX8_168 : Cond.methodLink RX8 168 yX2_bulkOfAll ∈ lw_gd := lw_gd_in (tb2 (List.mem_of_getElem? (i := 214) rfl)) rfl
theorem mlL_60 : Cond.methodLink RL 60 yX8_feed ∈ lw_gd := lw_gd_in (tb2 (List.mem_of_getElem? (i := 218) rfl)) rfl
theorem mlX8_172 : Cond.methodLink RX8 172 yX5_take ∈ lw_gd := lw_gd_in (tb2 (List.mem_of_getElem? (i := 222) rfl)) rfl
theorem clX5_46 : Cond.constantLong RX5 46 (255) ∈ lw_gd := lw_gd_in (tb2 (List.mem_of_getElem? (i := 226) rfl)) rfl
theorem mlL_65 : Cond.methodLink RL 65 yX8_rules ∈ lw_gd := lw_gd_in (tb2 (List.mem_of_getElem? (i := 227) rfl)) rfl
theorem mlX8_176 : Cond.methodLink RX8 176 yX5_begin ∈ lw_gd := lw_gd_in (tb2 (List.mem_of_getElem? (i := 231) rfl)) rfl
theorem mlX5_48 : Cond.methodLink RX5 48 yX5_goOn ∈ lw_gd := lw_gd_in (tb2 (List.mem_of_getElem? (i := 235) rfl)) rfl
theorem mlX5_51 : Cond.methodLink RX5 51 yX5_sortAt ∈ lw_gd := lw_gd_in (tb2 (List.mem_of_getElem? (i := 239) rfl)) rfl
theorem mlX5_55 : Cond.methodLink RX5 55 yX5_placeInWords ∈ lw_gd := lw_gd_in (tb3 (List.mem_of_getElem? (i := 3) rfl)) rfl
theorem mlX5_61 : Cond.methodLink RX5 61 yJ0_length_8abf5 ∈ lw_gd := lw_gd_in (tb3 (List.mem_of_getElem? (i := 8) rfl)) rfl
theorem mlJ0_335 : Cond.methodLink RJ0 335 yJ0_coder_7d493 ∈ lw_gd := lw_gd_in (tb3 (List.mem_of_getElem? (i := 12) rfl)) rfl
theorem flJ0_38 : Cond.fieldLink RJ0 38 RJ0 "COMPACT_STRINGS" "Z" ∈ lw_gd := lw_gd_in (tb3 (List.mem_of_getElem? (i := 16) rfl)) rfl
theorem mlX5_66 : Cond.methodLink RX5 66 yJ0_charAt_5068e ∈ lw_gd := lw_gd_in (tb3 (List.mem_of_getElem? (i := 18) rfl)) rfl
theorem mlJ0_492 : Cond.methodLink RJ0 492 yJ0_isLatin1_aae02 ∈ lw_gd := lw_gd_in (tb3 (List.mem_of_getElem? (i := 22) rfl)) rfl
theorem mlJ0_495 : Cond.methodLink RJ0 495 yJ1_charAt_3b067 ∈ lw_gd := lw_gd_in (tb3 (List.mem_of_getElem? (i := 26) rfl)) rfl
theorem ms_J1_charAt_3b067 : Cond.static yJ1_charAt_3b067 ∈ lw_gd := lw_gd_in (tb3 (List.mem_of_getElem? (i := 27) rfl)) rfl
theorem mlJ1_9 : Cond.methodLink RJ1 9 yJ0_checkIndex_df160 ∈ lw_gd := lw_gd_in (tb3 (List.mem_of_getElem? (i := 29) rfl)) rfl
theorem ms_J0_checkIndex_df160 : Cond.static yJ0_checkIndex_df160 ∈ lw_gd := lw_gd_in (tb3 (List.mem_of_getElem? (i := 30) rfl)) rfl
theorem flJ0_1053 : Cond.fieldLink RJ0 1053 RJ3 "SIOOBE_FORMATTER" "Ljava/util/function/BiFunction;" ∈ lw_gd := lw_gd_in (tb3 (List.mem_of_getElem? (i := 32) rfl)) rfl
theorem mlJ0_1059 : Cond.methodLink RJ0 1059 yJ3_checkIndex_8e157 ∈ lw_gd := lw_gd_in (tb3 (List.mem_of_getElem? (i := 34) rfl)) rfl
theorem ms_J3_checkIndex_8e157 : Cond.static yJ3_checkIndex_8e157 ∈ lw_gd := lw_gd_in (tb3 (List.mem_of_getElem? (i := 35) rfl)) rfl
theorem mlJ0_498 : Cond.methodLink RJ0 498 yJ2_charAt_3b067 ∈ lw_gd := lw_gd_in (tb3 (List.mem_of_getElem? (i := 37) rfl)) rfl
theorem ms_J2_charAt_3b067 : Cond.static yJ2_charAt_3b067 ∈ lw_gd := lw_gd_in (tb3 (List.mem_of_getElem? (i := 38) rfl)) rfl
theorem mlJ2_67 : Cond.methodLink RJ2 67 yJ2_checkIndex_2214a ∈ lw_gd := lw_gd_in (tb3 (List.mem_of_getElem? (i := 40) rfl)) rfl
theorem ms_J2_checkIndex_2214a : Cond.static yJ2_checkIndex_2214a ∈ lw_gd := lw_gd_in (tb3 (List.mem_of_getElem? (i := 41) rfl)) rfl
theorem mlJ2_48 : Cond.methodLink RJ2 48 yJ2_length_9d52b ∈ lw_gd := lw_gd_in (tb3 (List.mem_of_getElem? (i := 43) rfl)) rfl
theorem ms_J2_length_9d52b : Cond.static yJ2_length_9d52b ∈ lw_gd := lw_gd_in (tb3 (List.mem_of_getElem? (i := 44) rfl)) rfl
theorem mlJ2_414 : Cond.methodLink RJ2 414 yJ0_checkIndex_df160 ∈ lw_gd := lw_gd_in (tb3 (List.mem_of_getElem? (i := 46) rfl)) rfl
theorem mlJ2_71 : Cond.methodLink RJ2 71 yJ2_getChar_3b067 ∈ lw_gd := lw_gd_in (tb3 (List.mem_of_getElem? (i := 47) rfl)) rfl
theorem ms_J2_getChar_3b067 : Cond.static yJ2_getChar_3b067 ∈ lw_gd := lw_gd_in (tb3 (List.mem_of_getElem? (i := 48) rfl)) rfl
theorem flJ2_44 : Cond.fieldLink RJ2 44 RJ2 "$assertionsDisabled" "Z" ∈ lw_gd := lw_gd_in (tb3 (List.mem_of_getElem? (i := 50) rfl)) rfl
theorem flJ2_59 : Cond.fieldLink RJ2 59 RJ2 "HI_BYTE_SHIFT" "I" ∈ lw_gd := lw_gd_in (tb3 (List.mem_of_getElem? (i := 52) rfl)) rfl
theorem flJ2_63 : Cond.fieldLink RJ2 63 RJ2 "LO_BYTE_SHIFT" "I" ∈ lw_gd := lw_gd_in (tb3 (List.mem_of_getElem? (i := 54) rfl)) rfl
theorem mlX8_179 : Cond.methodLink RX8 179 yX5_isAtEnd ∈ lw_gd := lw_gd_in (tb3 (List.mem_of_getElem? (i := 56) rfl)) rfl
theorem mlX8_183 : Cond.methodLink RX8 183 yX5_readRule ∈ lw_gd := lw_gd_in (tb3 (List.mem_of_getElem? (i := 60) rfl)) rfl
theorem mlX5_70 : Cond.methodLink RX5 70 yX5_isWord ∈ lw_gd := lw_gd_in (tb3 (List.mem_of_getElem? (i := 64) rfl)) rfl
theorem mlX5_74 : Cond.methodLink RX5 74 yX5_readCondition ∈ lw_gd := lw_gd_in (tb3 (List.mem_of_getElem? (i := 68) rfl)) rfl
theorem mlX5_91 : Cond.methodLink RX5 91 yX5_readAllOf ∈ lw_gd := lw_gd_in (tb3 (List.mem_of_getElem? (i := 72) rfl)) rfl
theorem mlX5_98 : Cond.methodLink RX5 98 yX5_readOne ∈ lw_gd := lw_gd_in (tb3 (List.mem_of_getElem? (i := 76) rfl)) rfl
theorem mlX5_78 : Cond.methodLink RX5 78 yX5_isSign ∈ lw_gd := lw_gd_in (tb3 (List.mem_of_getElem? (i := 80) rfl)) rfl
theorem mlX5_101 : Cond.methodLink RX5 101 yX5_readInner ∈ lw_gd := lw_gd_in (tb3 (List.mem_of_getElem? (i := 84) rfl)) rfl
theorem mlX5_104 : Cond.methodLink RX5 104 yX5_readComparison ∈ lw_gd := lw_gd_in (tb3 (List.mem_of_getElem? (i := 88) rfl)) rfl
theorem mlX5_108 : Cond.methodLink RX5 108 yX5_valueHere ∈ lw_gd := lw_gd_in (tb3 (List.mem_of_getElem? (i := 92) rfl)) rfl
theorem mlX5_94 : Cond.methodLink RX5 94 yX5_addStep ∈ lw_gd := lw_gd_in (tb3 (List.mem_of_getElem? (i := 96) rfl)) rfl
theorem iqX4 : Cond.instantiable RX4 3 ∈ lw_gd := lw_gd_in (tb3 (List.mem_of_getElem? (i := 100) rfl)) rfl
theorem mlX5_82 : Cond.methodLink RX5 82 yJ7_copyOf_59c91 ∈ lw_gd := lw_gd_in (tb3 (List.mem_of_getElem? (i := 101) rfl)) rfl
theorem ms_J7_copyOf_59c91 : Cond.static yJ7_copyOf_59c91 ∈ lw_gd := lw_gd_in (tb3 (List.mem_of_getElem? (i := 102) rfl)) rfl
theorem mlJ7_316 : Cond.methodLink RJ7 316 ⟨"[I", "clone", "()Ljava/lang/Object;"⟩ ∈ lw_gd := lw_gd_in (tb3 (List.mem_of_getElem? (i := 104) rfl)) rfl
theorem klJ7_317 : Cond.classLink RJ7 317 "[I" ∈ lw_gd := lw_gd_in (tb3 (List.mem_of_getElem? (i := 110) rfl)) rfl
theorem mlJ7_304 : Cond.methodLink RJ7 304 yJ9_min_7cf53 ∈ lw_gd := lw_gd_in (tb3 (List.mem_of_getElem? (i := 111) rfl)) rfl
theorem ms_J9_min_7cf53 : Cond.static yJ9_min_7cf53 ∈ lw_gd := lw_gd_in (tb3 (List.mem_of_getElem? (i := 112) rfl)) rfl
theorem mlJ7_150 : Cond.methodLink RJ7 150 arraycopyName ∈ lw_gd := lw_gd_in (tb3 (List.mem_of_getElem? (i := 114) rfl)) rfl
theorem ms_arraycopy : Cond.static arraycopyName ∈ lw_gd := lw_gd_in (tb3 (List.mem_of_getElem? (i := 115) rfl)) rfl
theorem mlX5_88 : Cond.methodLink RX5 88 yX4_init ∈ lw_gd := lw_gd_in (tb3 (List.mem_of_getElem? (i := 117) rfl)) rfl
theorem mlX4_1 : Cond.methodLink RX4 1 objectInit ∈ lw_gd := lw_gd_in (tb3 (List.mem_of_getElem? (i := 120) rfl)) rfl
theorem flX4_7 : Cond.fieldLink RX4 7 RX4 "kind" "I" ∈ lw_gd := lw_gd_in (tb3 (List.mem_of_getElem? (i := 121) rfl)) rfl
theorem flX1_117 : Cond.fieldLink RX1 117 RX4 "kind" "I" ∈ lw_gd := lw_gd_in (tb3 (List.mem_of_getElem? (i := 122) rfl)) rfl
theorem flX4_13 : Cond.fieldLink RX4 13 RX4 "will" "I" ∈ lw_gd := lw_gd_in (tb3 (List.mem_of_getElem? (i := 123) rfl)) rfl
theorem flX1_127 : Cond.fieldLink RX1 127 RX4 "will" "I" ∈ lw_gd := lw_gd_in (tb3 (List.mem_of_getElem? (i := 124) rfl)) rfl
theorem flX4_16 : Cond.fieldLink RX4 16 RX4 "steps" "[I" ∈ lw_gd := lw_gd_in (tb3 (List.mem_of_getElem? (i := 125) rfl)) rfl
theorem mlX8_186 : Cond.methodLink RX8 186 yX5_useUp ∈ lw_gd := lw_gd_in (tb3 (List.mem_of_getElem? (i := 134) rfl)) rfl
theorem mlX8_189 : Cond.methodLink RX8 189 yX5_place ∈ lw_gd := lw_gd_in (tb3 (List.mem_of_getElem? (i := 138) rfl)) rfl
theorem mlX8_197 : Cond.methodLink RX8 197 yX1_takeRules ∈ lw_gd := lw_gd_in (tb3 (List.mem_of_getElem? (i := 142) rfl)) rfl
theorem mlL_69 : Cond.methodLink RL 69 yX8_wash ∈ lw_gd := lw_gd_in (tb3 (List.mem_of_getElem? (i := 146) rfl)) rfl
theorem mlX8_204 : Cond.methodLink RX8 204 yX1_actOfRest ∈ lw_gd := lw_gd_in (tb3 (List.mem_of_getElem? (i := 150) rfl)) rfl
theorem mlX1_136 : Cond.methodLink RX1 136 yX1_steamNow ∈ lw_gd := lw_gd_in (tb3 (List.mem_of_getElem? (i := 154) rfl)) rfl
theorem mlX1_143 : Cond.methodLink RX1 143 yX1_mayBePressed ∈ lw_gd := lw_gd_in (tb3 (List.mem_of_getElem? (i := 155) rfl)) rfl
theorem mlX8_207 : Cond.methodLink RX8 207 yX8_goByNow ∈ lw_gd := lw_gd_in (tb3 (List.mem_of_getElem? (i := 156) rfl)) rfl
theorem mlX8_301 : Cond.methodLink RX8 301 yX1_goBy ∈ lw_gd := lw_gd_in (tb3 (List.mem_of_getElem? (i := 160) rfl)) rfl
theorem mlX1_157 : Cond.methodLink RX1 157 yX1_sighNow ∈ lw_gd := lw_gd_in (tb3 (List.mem_of_getElem? (i := 164) rfl)) rfl
theorem mlX1_160 : Cond.methodLink RX1 160 yX1_doWill ∈ lw_gd := lw_gd_in (tb3 (List.mem_of_getElem? (i := 165) rfl)) rfl
theorem mlX1_180 : Cond.methodLink RX1 180 yX2_lieFlat ∈ lw_gd := lw_gd_in (tb3 (List.mem_of_getElem? (i := 169) rfl)) rfl
theorem mlX2_40 : Cond.methodLink RX2 40 yX2_setFlat ∈ lw_gd := lw_gd_in (tb3 (List.mem_of_getElem? (i := 173) rfl)) rfl
theorem mlX1_184 : Cond.methodLink RX1 184 yX2_fold ∈ lw_gd := lw_gd_in (tb3 (List.mem_of_getElem? (i := 174) rfl)) rfl
theorem mlX2_44 : Cond.methodLink RX2 44 yJ9_min_7cf53 ∈ lw_gd := lw_gd_in (tb3 (List.mem_of_getElem? (i := 178) rfl)) rfl
theorem mlX2_50 : Cond.methodLink RX2 50 yJ9_max_7cf53 ∈ lw_gd := lw_gd_in (tb3 (List.mem_of_getElem? (i := 179) rfl)) rfl
theorem mlX1_163 : Cond.methodLink RX1 163 yX2_undoLastFlat ∈ lw_gd := lw_gd_in (tb3 (List.mem_of_getElem? (i := 180) rfl)) rfl
theorem mlX1_169 : Cond.methodLink RX1 169 yJ6_bitCount_0f7a4 ∈ lw_gd := lw_gd_in (tb3 (List.mem_of_getElem? (i := 184) rfl)) rfl
theorem ms_J6_bitCount_0f7a4 : Cond.static yJ6_bitCount_0f7a4 ∈ lw_gd := lw_gd_in (tb3 (List.mem_of_getElem? (i := 185) rfl)) rfl
theorem clJ6_265 : Cond.constant RJ6 265 (1431655765) ∈ lw_gd := lw_gd_in (tb3 (List.mem_of_getElem? (i := 187) rfl)) rfl
theorem clJ6_266 : Cond.constant RJ6 266 (858993459) ∈ lw_gd := lw_gd_in (tb3 (List.mem_of_getElem? (i := 188) rfl)) rfl
theorem clJ6_267 : Cond.constant RJ6 267 (252645135) ∈ lw_gd := lw_gd_in (tb3 (List.mem_of_getElem? (i := 189) rfl)) rfl
theorem mlX1_174 : Cond.methodLink RX1 174 yX1_swells ∈ lw_gd := lw_gd_in (tb3 (List.mem_of_getElem? (i := 190) rfl)) rfl
theorem mlX1_177 : Cond.methodLink RX1 177 yJ9_min_7cf53 ∈ lw_gd := lw_gd_in (tb3 (List.mem_of_getElem? (i := 191) rfl)) rfl
theorem mlL_73 : Cond.methodLink RL 73 yX8_on ∈ lw_gd := lw_gd_in (tb3 (List.mem_of_getElem? (i := 192) rfl)) rfl
theorem mlX8_210 : Cond.methodLink RX8 210 yX2_copy ∈ lw_gd := lw_gd_in (tb3 (List.mem_of_getElem? (i := 196) rfl)) rfl
theorem mlX2_34 : Cond.methodLink RX2 34 arraycopyName ∈ lw_gd := lw_gd_in (tb3 (List.mem_of_getElem? (i := 200) rfl)) rfl
theorem mlX8_214 : Cond.methodLink RX8 214 yX1_goRest ∈ lw_gd := lw_gd_in (tb3 (List.mem_of_getElem? (i := 201) rfl)) rfl
theorem mlX1_146 : Cond.methodLink RX1 146 yX1_isOver ∈ lw_gd := lw_gd_in (tb3 (List.mem_of_getElem? (i := 205) rfl)) rfl
theorem mlX1_150 : Cond.methodLink RX1 150 yX1_actOfRest ∈ lw_gd := lw_gd_in (tb3 (List.mem_of_getElem? (i := 206) rfl)) rfl
theorem mlX1_153 : Cond.methodLink RX1 153 yX1_goBy ∈ lw_gd := lw_gd_in (tb3 (List.mem_of_getElem? (i := 207) rfl)) rfl
theorem mlL_77 : Cond.methodLink RL 77 yX8_when ∈ lw_gd := lw_gd_in (tb3 (List.mem_of_getElem? (i := 208) rfl)) rfl
theorem mlL_81 : Cond.methodLink RL 81 yX8_creaseFor ∈ lw_gd := lw_gd_in (tb3 (List.mem_of_getElem? (i := 212) rfl)) rfl
theorem mlL_85 : Cond.methodLink RL 85 yX8_boardFor ∈ lw_gd := lw_gd_in (tb3 (List.mem_of_getElem? (i := 216) rfl)) rfl
theorem mlL_89 : Cond.methodLink RL 89 yX8_fat ∈ lw_gd := lw_gd_in (tb3 (List.mem_of_getElem? (i := 220) rfl)) rfl
theorem mlL_93 : Cond.methodLink RL 93 yX8_least ∈ lw_gd := lw_gd_in (tb3 (List.mem_of_getElem? (i := 224) rfl)) rfl
theorem mlL_97 : Cond.methodLink RL 97 yX8_left ∈ lw_gd := lw_gd_in (tb3 (List.mem_of_getElem? (i := 228) rfl)) rfl
theorem mlL_101 : Cond.methodLink RL 101 yX8_piles ∈ lw_gd := lw_gd_in (tb3 (List.mem_of_getElem? (i := 232) rfl)) rfl
theorem mlX8_218 : Cond.methodLink RX8 218 yX8_howManyPiles ∈ lw_gd := lw_gd_in (tb3 (List.mem_of_getElem? (i := 236) rfl)) rfl
theorem mlX8_221 : Cond.methodLink RX8 221 yX2_pileOf ∈ lw_gd := lw_gd_in (tb4 (List.mem_of_getElem? (i := 0) rfl)) rfl
theorem mlX2_57 : Cond.methodLink RX2 57 yX2_isCloseToAny ∈ lw_gd := lw_gd_in (tb4 (List.mem_of_getElem? (i := 4) rfl)) rfl
theorem mlL_105 : Cond.methodLink RL 105 yX8_best ∈ lw_gd := lw_gd_in (tb4 (List.mem_of_getElem? (i := 8) rfl)) rfl
theorem mlX8_224 : Cond.methodLink RX8 224 yX6_tryAll ∈ lw_gd := lw_gd_in (tb4 (List.mem_of_getElem? (i := 12) rfl)) rfl
theorem mlX6_72 : Cond.methodLink RX6 72 yX6_begin ∈ lw_gd := lw_gd_in (tb4 (List.mem_of_getElem? (i := 16) rfl)) rfl
theorem mlX6_53 : Cond.methodLink RX6 53 yX2_copy ∈ lw_gd := lw_gd_in (tb4 (List.mem_of_getElem? (i := 20) rfl)) rfl
theorem mlX6_57 : Cond.methodLink RX6 57 yJ9_min_7cf53 ∈ lw_gd := lw_gd_in (tb4 (List.mem_of_getElem? (i := 21) rfl)) rfl
theorem mlX6_69 : Cond.methodLink RX6 69 yJ9_max_7cf53 ∈ lw_gd := lw_gd_in (tb4 (List.mem_of_getElem? (i := 22) rfl)) rfl
theorem mlX6_76 : Cond.methodLink RX6 76 yX6_tryFrom ∈ lw_gd := lw_gd_in (tb4 (List.mem_of_getElem? (i := 23) rfl)) rfl
theorem mlX6_80 : Cond.methodLink RX6 80 yX6_weigh ∈ lw_gd := lw_gd_in (tb4 (List.mem_of_getElem? (i := 27) rfl)) rfl
theorem mlX6_91 : Cond.methodLink RX6 91 arraycopyName ∈ lw_gd := lw_gd_in (tb4 (List.mem_of_getElem? (i := 31) rfl)) rfl
theorem mlX6_87 : Cond.methodLink RX6 87 yX1_goBy ∈ lw_gd := lw_gd_in (tb4 (List.mem_of_getElem? (i := 32) rfl)) rfl
theorem mlL_109 : Cond.methodLink RL 109 yX8_ith ∈ lw_gd := lw_gd_in (tb4 (List.mem_of_getElem? (i := 33) rfl)) rfl
theorem mlL_113 : Cond.methodLink RL 113 yX8_ways ∈ lw_gd := lw_gd_in (tb4 (List.mem_of_getElem? (i := 37) rfl)) rfl
theorem mlL_117 : Cond.methodLink RL 117 yX8_note ∈ lw_gd := lw_gd_in (tb4 (List.mem_of_getElem? (i := 41) rfl)) rfl
theorem mlX8_240 : Cond.methodLink RX8 240 yX8_isSetOfThings ∈ lw_gd := lw_gd_in (tb4 (List.mem_of_getElem? (i := 45) rfl)) rfl
theorem mlL_121 : Cond.methodLink RL 121 yX8_bars ∈ lw_gd := lw_gd_in (tb4 (List.mem_of_getElem? (i := 49) rfl)) rfl
theorem mlX8_249 : Cond.methodLink RX8 249 yJ6_numberOfTrailingZeros_0f7a4 ∈ lw_gd := lw_gd_in (tb4 (List.mem_of_getElem? (i := 53) rfl)) rfl
theorem ms_J6_numberOfTrailingZeros_0f7a4 : Cond.static yJ6_numberOfTrailingZeros_0f7a4 ∈ lw_gd := lw_gd_in (tb4 (List.mem_of_getElem? (i := 54) rfl)) rfl
theorem clJ6_264 : Cond.constant RJ6 264 (65536) ∈ lw_gd := lw_gd_in (tb4 (List.mem_of_getElem? (i := 56) rfl)) rfl
theorem mlL_125 : Cond.methodLink RL 125 yX8_game ∈ lw_gd := lw_gd_in (tb4 (List.mem_of_getElem? (i := 57) rfl)) rfl
theorem mlX8_254 : Cond.methodLink RX8 254 yX6_gameOf ∈ lw_gd := lw_gd_in (tb4 (List.mem_of_getElem? (i := 61) rfl)) rfl
theorem mlX6_100 : Cond.methodLink RX6 100 yX6_valueFrom ∈ lw_gd := lw_gd_in (tb4 (List.mem_of_getElem? (i := 65) rfl)) rfl
theorem mlL_129 : Cond.methodLink RL 129 yX8_play ∈ lw_gd := lw_gd_in (tb4 (List.mem_of_getElem? (i := 69) rfl)) rfl
theorem mlL_133 : Cond.methodLink RL 133 yX8_report ∈ lw_gd := lw_gd_in (tb4 (List.mem_of_getElem? (i := 73) rfl)) rfl
theorem mlX8_265 : Cond.methodLink RX8 265 yX3_add ∈ lw_gd := lw_gd_in (tb4 (List.mem_of_getElem? (i := 77) rfl)) rfl
theorem mlL_137 : Cond.methodLink RL 137 yX8_forget ∈ lw_gd := lw_gd_in (tb4 (List.mem_of_getElem? (i := 81) rfl)) rfl
theorem mlL_141 : Cond.methodLink RL 141 yX8_lone ∈ lw_gd := lw_gd_in (tb4 (List.mem_of_getElem? (i := 85) rfl)) rfl
theorem mlX8_272 : Cond.methodLink RX8 272 yX3_weighAll ∈ lw_gd := lw_gd_in (tb4 (List.mem_of_getElem? (i := 89) rfl)) rfl
theorem mlX3_49 : Cond.methodLink RX3 49 yX3_weighOne ∈ lw_gd := lw_gd_in (tb4 (List.mem_of_getElem? (i := 93) rfl)) rfl
theorem mlX3_53 : Cond.methodLink RX3 53 yX3_wrongOf ∈ lw_gd := lw_gd_in (tb4 (List.mem_of_getElem? (i := 97) rfl)) rfl
theorem mlX3_63 : Cond.methodLink RX3 63 yX3_wrongBehind ∈ lw_gd := lw_gd_in (tb4 (List.mem_of_getElem? (i := 101) rfl)) rfl
theorem mlX3_80 : Cond.methodLinkNest RX3 80 yX8_within "IronedFlat" ∈ lw_tbl := tb4 (List.mem_of_getElem? (i := 105) rfl)
theorem mlX3_67 : Cond.methodLinkNest RX3 67 yX8_needing "IronedFlat" ∈ lw_tbl := tb4 (List.mem_of_getElem? (i := 106) rfl)
theorem mlX3_70 : Cond.methodLinkNest RX3 70 yX8_swelling "IronedFlat" ∈ lw_tbl := tb4 (List.mem_of_getElem? (i := 107) rfl)
theorem mlX3_74 : Cond.methodLink RX3 74 yJ9_min_7cf53 ∈ lw_gd := lw_gd_in (tb4 (List.mem_of_getElem? (i := 108) rfl)) rfl
theorem mlX3_57 : Cond.methodLink RX3 57 yJ6_bitCount_0f7a4 ∈ lw_gd := lw_gd_in (tb4 (List.mem_of_getElem? (i := 109) rfl)) rfl
theorem mlL_145 : Cond.methodLink RL 145 yX8_liar ∈ lw_gd := lw_gd_in (tb4 (List.mem_of_getElem? (i := 110) rfl)) rfl
theorem mlL_149 : Cond.methodLink RL 149 yX8_seed ∈ lw_gd := lw_gd_in (tb4 (List.mem_of_getElem? (i := 114) rfl)) rfl
theorem mlL_153 : Cond.methodLink RL 153 yX8_lot ∈ lw_gd := lw_gd_in (tb4 (List.mem_of_getElem? (i := 118) rfl)) rfl
theorem mlX8_294 : Cond.methodLink RX8 294 yX8_nextLot ∈ lw_gd := lw_gd_in (tb4 (List.mem_of_getElem? (i := 122) rfl)) rfl
theorem ms_X8_nextLot : Cond.static yX8_nextLot ∈ lw_gd := lw_gd_in (tb4 (List.mem_of_getElem? (i := 123) rfl)) rfl
theorem clX8_357 : Cond.constant RX8 357 (1103515245) ∈ lw_gd := lw_gd_in (tb4 (List.mem_of_getElem? (i := 125) rfl)) rfl
theorem mlX8_297 : Cond.methodLink RX8 297 yX8_drawn ∈ lw_gd := lw_gd_in (tb4 (List.mem_of_getElem? (i := 126) rfl)) rfl
theorem ms_X8_drawn : Cond.static yX8_drawn ∈ lw_gd := lw_gd_in (tb4 (List.mem_of_getElem? (i := 127) rfl)) rfl
theorem mlL_157 : Cond.methodLink RL 157 yX8_times ∈ lw_gd := lw_gd_in (tb4 (List.mem_of_getElem? (i := 129) rfl)) rfl
theorem mlL_161 : Cond.methodLink RL 161 yX8_prove ∈ lw_gd := lw_gd_in (tb4 (List.mem_of_getElem? (i := 133) rfl)) rfl
theorem mlL_165 : Cond.methodLink RL 165 yX8_row ∈ lw_gd := lw_gd_in (tb4 (List.mem_of_getElem? (i := 137) rfl)) rfl
theorem mlX8_304 : Cond.methodLink RX8 304 yX8_isCell ∈ lw_gd := lw_gd_in (tb4 (List.mem_of_getElem? (i := 141) rfl)) rfl
theorem mlL_169 : Cond.methodLink RL 169 yX8_alterRow ∈ lw_gd := lw_gd_in (tb4 (List.mem_of_getElem? (i := 145) rfl)) rfl
theorem mlL_173 : Cond.methodLink RL 173 yX8_judge ∈ lw_gd := lw_gd_in (tb4 (List.mem_of_getElem? (i := 149) rfl)) rfl
theorem mlX8_308 : Cond.methodLink RX8 308 yX8_isRowRight ∈ lw_gd := lw_gd_in (tb4 (List.mem_of_getElem? (i := 153) rfl)) rfl
theorem mlL_177 : Cond.methodLink RL 177 yX8_sheet ∈ lw_gd := lw_gd_in (tb4 (List.mem_of_getElem? (i := 157) rfl)) rfl
theorem iqX7 : Cond.instantiable RX7 2 ∈ lw_gd := lw_gd_in (tb4 (List.mem_of_getElem? (i := 161) rfl)) rfl
theorem mlX8_311 : Cond.methodLink RX8 311 yX7_init ∈ lw_gd := lw_gd_in (tb4 (List.mem_of_getElem? (i := 162) rfl)) rfl
theorem mlX7_3 : Cond.methodLink RX7 3 objectInit ∈ lw_gd := lw_gd_in (tb4 (List.mem_of_getElem? (i := 165) rfl)) rfl
theorem mlX7_15 : Cond.methodLink RX7 15 yJ9_max_7cf53 ∈ lw_gd := lw_gd_in (tb4 (List.mem_of_getElem? (i := 166) rfl)) rfl
theorem flX7_9 : Cond.fieldLink RX7 9 RX7 "sort" "I" ∈ lw_gd := lw_gd_in (tb4 (List.mem_of_getElem? (i := 167) rfl)) rfl
theorem flX8_320 : Cond.fieldLink RX8 320 RX7 "sort" "I" ∈ lw_gd := lw_gd_in (tb4 (List.mem_of_getElem? (i := 168) rfl)) rfl
theorem flX7_21 : Cond.fieldLink RX7 21 RX7 "items" "[I" ∈ lw_gd := lw_gd_in (tb4 (List.mem_of_getElem? (i := 169) rfl)) rfl
theorem flX8_323 : Cond.fieldLink RX8 323 RX7 "items" "[I" ∈ lw_gd := lw_gd_in (tb4 (List.mem_of_getElem? (i := 170) rfl)) rfl
theorem mlL_181 : Cond.methodLink RL 181 yX8_write ∈ lw_gd := lw_gd_in (tb4 (List.mem_of_getElem? (i := 176) rfl)) rfl
theorem mlX8_314 : Cond.methodLink RX8 314 yX7_has ∈ lw_gd := lw_gd_in (tb4 (List.mem_of_getElem? (i := 180) rfl)) rfl
theorem mlX7_25 : Cond.methodLinkNest RX7 25 yX8_within "IronedFlat" ∈ lw_tbl := tb4 (List.mem_of_getElem? (i := 184) rfl)
theorem mlX8_317 : Cond.methodLink RX8 317 yX7_put ∈ lw_gd := lw_gd_in (tb4 (List.mem_of_getElem? (i := 185) rfl)) rfl
theorem mlL_185 : Cond.methodLink RL 185 yX8_item ∈ lw_gd := lw_gd_in (tb4 (List.mem_of_getElem? (i := 189) rfl)) rfl
theorem mlL_189 : Cond.methodLink RL 189 yX8_goAll ∈ lw_gd := lw_gd_in (tb4 (List.mem_of_getElem? (i := 193) rfl)) rfl
theorem mlX8_326 : Cond.methodLink RX8 326 yX8_refusedAsActs ∈ lw_gd := lw_gd_in (tb4 (List.mem_of_getElem? (i := 197) rfl)) rfl
theorem mlL_193 : Cond.methodLink RL 193 yX8_wouldBe ∈ lw_gd := lw_gd_in (tb4 (List.mem_of_getElem? (i := 201) rfl)) rfl
theorem mlL_197 : Cond.methodLink RL 197 yX8_shelf ∈ lw_gd := lw_gd_in (tb4 (List.mem_of_getElem? (i := 205) rfl)) rfl
theorem mlL_201 : Cond.methodLink RL 201 yX8_taken ∈ lw_gd := lw_gd_in (tb4 (List.mem_of_getElem? (i := 209) rfl)) rfl
theorem mlX8_329 : Cond.methodLink RX8 329 yX8_isOrIsUnder ∈ lw_gd := lw_gd_in (tb4 (List.mem_of_getElem? (i := 213) rfl)) rfl
theorem mlL_205 : Cond.methodLink RL 205 yX8_act ∈ lw_gd := lw_gd_in (tb4 (List.mem_of_getElem? (i := 214) rfl)) rfl
theorem mlX8_332 : Cond.methodLink RX8 332 yX0_forgetBodies ∈ lw_gd := lw_gd_in (tb4 (List.mem_of_getElem? (i := 218) rfl)) rfl
theorem mlX8_335 : Cond.methodLink RX8 335 yX0_become ∈ lw_gd := lw_gd_in (tb4 (List.mem_of_getElem? (i := 222) rfl)) rfl
theorem mlX8_339 : Cond.methodLink RX8 339 yX0_doAct ∈ lw_gd := lw_gd_in (tb4 (List.mem_of_getElem? (i := 226) rfl)) rfl
theorem mlX0_32 : Cond.methodLink RX0 32 yX0_bodyOf ∈ lw_gd := lw_gd_in (tb4 (List.mem_of_getElem? (i := 230) rfl)) rfl
theorem flX0_40 : Cond.fieldLink RX0 40 RX0 "BODY" "[I" ∈ lw_gd := lw_gd_in (tb4 (List.mem_of_getElem? (i := 234) rfl)) rfl
theorem mlX0_43 : Cond.methodLinkNest RX0 43 yX8_within "IronedFlat" ∈ lw_tbl := tb4 (List.mem_of_getElem? (i := 236) rfl)
theorem mlX0_36 : Cond.methodLink RX0 36 yX0_run ∈ lw_gd := lw_gd_in (tb4 (List.mem_of_getElem? (i := 237) rfl)) rfl
theorem mlX0_47 : Cond.methodLink RX0 47 yX0_part ∈ lw_gd := lw_gd_in (tb5 (List.mem_of_getElem? (i := 1) rfl)) rfl
theorem mlL_209 : Cond.methodLink RL 209 yX8_trace ∈ lw_gd := lw_gd_in (tb5 (List.mem_of_getElem? (i := 5) rfl)) rfl
theorem mlL_213 : Cond.methodLink RL 213 yX8_many ∈ lw_gd := lw_gd_in (tb5 (List.mem_of_getElem? (i := 9) rfl)) rfl
theorem mlX8_348 : Cond.methodLink RX8 348 yJ6_bitCount_0f7a4 ∈ lw_gd := lw_gd_in (tb5 (List.mem_of_getElem? (i := 13) rfl)) rfl
theorem mlL_217 : Cond.methodLink RL 217 yX8_keep ∈ lw_gd := lw_gd_in (tb5 (List.mem_of_getElem? (i := 14) rfl)) rfl
theorem mlX8_354 : Cond.methodLink RX8 354 yX1_copy ∈ lw_gd := lw_gd_in (tb5 (List.mem_of_getElem? (i := 18) rfl)) rfl
theorem mlX1_60 : Cond.methodLink RX1 60 yX2_copy ∈ lw_gd := lw_gd_in (tb5 (List.mem_of_getElem? (i := 22) rfl)) rfl
theorem mlX1_64 : Cond.methodLink RX1 64 arraycopyName ∈ lw_gd := lw_gd_in (tb5 (List.mem_of_getElem? (i := 23) rfl)) rfl
theorem mlX1_70 : Cond.methodLink RX1 70 yX1_takeRules ∈ lw_gd := lw_gd_in (tb5 (List.mem_of_getElem? (i := 24) rfl)) rfl
theorem mlX1_74 : Cond.methodLink RX1 74 yX3_copy ∈ lw_gd := lw_gd_in (tb5 (List.mem_of_getElem? (i := 25) rfl)) rfl
theorem mlX3_43 : Cond.methodLink RX3 43 arraycopyName ∈ lw_gd := lw_gd_in (tb5 (List.mem_of_getElem? (i := 29) rfl)) rfl
theorem mlL_221 : Cond.methodLink RL 221 yX8_again ∈ lw_gd := lw_gd_in (tb5 (List.mem_of_getElem? (i := 30) rfl)) rfl
theorem klL_10 : Cond.classLink RL 10 RX9 ∈ lw_gd := lw_gd_in (tb5 (List.mem_of_getElem? (i := 34) rfl)) rfl
theorem iqX9 : Cond.instantiable RX9 40 ∈ lw_gd := lw_gd_in (tb5 (List.mem_of_getElem? (i := 35) rfl)) rfl
theorem mlL_12 : Cond.methodLink RL 12 yX9_init ∈ lw_gd := lw_gd_in (tb5 (List.mem_of_getElem? (i := 36) rfl)) rfl
theorem mlX9_1 : Cond.methodLink RX9 1 objectInit ∈ lw_gd := lw_gd_in (tb5 (List.mem_of_getElem? (i := 39) rfl)) rfl
theorem flX9_7 : Cond.fieldLink RX9 7 RX9 "s" "[I" ∈ lw_gd := lw_gd_in (tb5 (List.mem_of_getElem? (i := 40) rfl)) rfl
theorem flX9_13 : Cond.fieldLink RX9 13 RX9 "held" "[I" ∈ lw_gd := lw_gd_in (tb5 (List.mem_of_getElem? (i := 41) rfl)) rfl
theorem flX9_417 : Cond.fieldLink RX9 417 RX9 "isHeld" "Z" ∈ lw_gd := lw_gd_in (tb5 (List.mem_of_getElem? (i := 42) rfl)) rfl
theorem flX9_16 : Cond.fieldLink RX9 16 RX9 "aside" "[I" ∈ lw_gd := lw_gd_in (tb5 (List.mem_of_getElem? (i := 43) rfl)) rfl
theorem flX9_19 : Cond.fieldLink RX9 19 RX9 "tape" "[I" ∈ lw_gd := lw_gd_in (tb5 (List.mem_of_getElem? (i := 44) rfl)) rfl
theorem flX9_154 : Cond.fieldLink RX9 154 RX9 "taped" "I" ∈ lw_gd := lw_gd_in (tb5 (List.mem_of_getElem? (i := 45) rfl)) rfl
theorem flX9_175 : Cond.fieldLink RX9 175 RX9 "token" "I" ∈ lw_gd := lw_gd_in (tb5 (List.mem_of_getElem? (i := 46) rfl)) rfl
theorem flX9_163 : Cond.fieldLink RX9 163 RX9 "from" "I" ∈ lw_gd := lw_gd_in (tb5 (List.mem_of_getElem? (i := 47) rfl)) rfl
theorem flX9_160 : Cond.fieldLink RX9 160 RX9 "to" "I" ∈ lw_gd := lw_gd_in (tb5 (List.mem_of_getElem? (i := 48) rfl)) rfl
theorem flX9_178 : Cond.fieldLink RX9 178 RX9 "value" "I" ∈ lw_gd := lw_gd_in (tb5 (List.mem_of_getElem? (i := 49) rfl)) rfl
theorem flX9_181 : Cond.fieldLink RX9 181 RX9 "isWrong" "Z" ∈ lw_gd := lw_gd_in (tb5 (List.mem_of_getElem? (i := 50) rfl)) rfl
theorem flX9_213 : Cond.fieldLink RX9 213 RX9 "open" "I" ∈ lw_gd := lw_gd_in (tb5 (List.mem_of_getElem? (i := 51) rfl)) rfl
theorem flX9_22 : Cond.fieldLink RX9 22 RX9 "before" "[I" ∈ lw_gd := lw_gd_in (tb5 (List.mem_of_getElem? (i := 52) rfl)) rfl
theorem flX9_25 : Cond.fieldLink RX9 25 RX9 "acts" "[I" ∈ lw_gd := lw_gd_in (tb5 (List.mem_of_getElem? (i := 53) rfl)) rfl
theorem flX9_28 : Cond.fieldLink RX9 28 RX9 "firstActs" "[I" ∈ lw_gd := lw_gd_in (tb5 (List.mem_of_getElem? (i := 54) rfl)) rfl
theorem flX9_277 : Cond.fieldLink RX9 277 RX9 "bestWorth" "I" ∈ lw_gd := lw_gd_in (tb5 (List.mem_of_getElem? (i := 55) rfl)) rfl
theorem flX9_280 : Cond.fieldLink RX9 280 RX9 "bestMany" "I" ∈ lw_gd := lw_gd_in (tb5 (List.mem_of_getElem? (i := 56) rfl)) rfl
theorem flX9_283 : Cond.fieldLink RX9 283 RX9 "firstLong" "I" ∈ lw_gd := lw_gd_in (tb5 (List.mem_of_getElem? (i := 57) rfl)) rfl
theorem flX9_289 : Cond.fieldLink RX9 289 RX9 "wanted" "I" ∈ lw_gd := lw_gd_in (tb5 (List.mem_of_getElem? (i := 58) rfl)) rfl
theorem flX9_292 : Cond.fieldLink RX9 292 RX9 "fewestActs" "I" ∈ lw_gd := lw_gd_in (tb5 (List.mem_of_getElem? (i := 59) rfl)) rfl
theorem flX9_286 : Cond.fieldLink RX9 286 RX9 "flatEver" "I" ∈ lw_gd := lw_gd_in (tb5 (List.mem_of_getElem? (i := 60) rfl)) rfl
theorem flX9_314 : Cond.fieldLink RX9 314 RX9 "firstAct" "I" ∈ lw_gd := lw_gd_in (tb5 (List.mem_of_getElem? (i := 61) rfl)) rfl
theorem flX9_31 : Cond.fieldLink RX9 31 RX9 "bulks" "[I" ∈ lw_gd := lw_gd_in (tb5 (List.mem_of_getElem? (i := 62) rfl)) rfl
theorem flX9_34 : Cond.fieldLink RX9 34 RX9 "paids" "[I" ∈ lw_gd := lw_gd_in (tb5 (List.mem_of_getElem? (i := 63) rfl)) rfl
theorem flX9_317 : Cond.fieldLink RX9 317 RX9 "fits" "I" ∈ lw_gd := lw_gd_in (tb5 (List.mem_of_getElem? (i := 64) rfl)) rfl
theorem flX9_320 : Cond.fieldLink RX9 320 RX9 "firstFit" "I" ∈ lw_gd := lw_gd_in (tb5 (List.mem_of_getElem? (i := 65) rfl)) rfl
theorem flX9_37 : Cond.fieldLink RX9 37 RX9 "rows" "[I" ∈ lw_gd := lw_gd_in (tb5 (List.mem_of_getElem? (i := 66) rfl)) rfl
theorem flX9_340 : Cond.fieldLink RX9 340 RX9 "rowN" "I" ∈ lw_gd := lw_gd_in (tb5 (List.mem_of_getElem? (i := 67) rfl)) rfl
theorem flX9_40 : Cond.fieldLink RX9 40 RX9 "sortOf" "[I" ∈ lw_gd := lw_gd_in (tb5 (List.mem_of_getElem? (i := 68) rfl)) rfl
theorem flX9_43 : Cond.fieldLink RX9 43 RX9 "sizeOf" "[I" ∈ lw_gd := lw_gd_in (tb5 (List.mem_of_getElem? (i := 69) rfl)) rfl
theorem flX9_46 : Cond.fieldLink RX9 46 RX9 "numbers" "[I" ∈ lw_gd := lw_gd_in (tb5 (List.mem_of_getElem? (i := 70) rfl)) rfl
theorem flX9_49 : Cond.fieldLink RX9 49 RX9 "holdsWhat" "[I" ∈ lw_gd := lw_gd_in (tb5 (List.mem_of_getElem? (i := 71) rfl)) rfl
theorem flX9_52 : Cond.fieldLink RX9 52 RX9 "holdsWhich" "[I" ∈ lw_gd := lw_gd_in (tb5 (List.mem_of_getElem? (i := 72) rfl)) rfl
theorem flX9_55 : Cond.fieldLink RX9 55 RX9 "holdsMany" "[I" ∈ lw_gd := lw_gd_in (tb5 (List.mem_of_getElem? (i := 73) rfl)) rfl
theorem flX9_58 : Cond.fieldLink RX9 58 RX9 "bodies" "[I" ∈ lw_gd := lw_gd_in (tb5 (List.mem_of_getElem? (i := 74) rfl)) rfl
theorem flX9_372 : Cond.fieldLink RX9 372 RX9 "ran" "I" ∈ lw_gd := lw_gd_in (tb5 (List.mem_of_getElem? (i := 75) rfl)) rfl
theorem flX9_381 : Cond.fieldLink RX9 381 RX9 "actKind" "I" ∈ lw_gd := lw_gd_in (tb5 (List.mem_of_getElem? (i := 76) rfl)) rfl
theorem flX9_378 : Cond.fieldLink RX9 378 RX9 "actN" "I" ∈ lw_gd := lw_gd_in (tb5 (List.mem_of_getElem? (i := 77) rfl)) rfl
theorem flX9_390 : Cond.fieldLink RX9 390 RX9 "actA" "I" ∈ lw_gd := lw_gd_in (tb5 (List.mem_of_getElem? (i := 78) rfl)) rfl
theorem flX9_396 : Cond.fieldLink RX9 396 RX9 "isParted" "Z" ∈ lw_gd := lw_gd_in (tb5 (List.mem_of_getElem? (i := 79) rfl)) rfl
theorem mlL_17 : Cond.methodLink RL 17 yX9_thing ∈ lw_gd := lw_gd_in (tb5 (List.mem_of_getElem? (i := 161) rfl)) rfl
theorem clX9_61 : Cond.constantLong RX9 61 (5) ∈ lw_gd := lw_gd_in (tb5 (List.mem_of_getElem? (i := 165) rfl)) rfl
theorem mlX9_63 : Cond.methodLink RX9 63 yX9_isIn ∈ lw_gd := lw_gd_in (tb5 (List.mem_of_getElem? (i := 166) rfl)) rfl
theorem ms_X9_isIn : Cond.static yX9_isIn ∈ lw_gd := lw_gd_in (tb5 (List.mem_of_getElem? (i := 167) rfl)) rfl
theorem clX9_67 : Cond.constantLong RX9 67 (99) ∈ lw_gd := lw_gd_in (tb5 (List.mem_of_getElem? (i := 169) rfl)) rfl
theorem clX9_69 : Cond.constantLong RX9 69 (9) ∈ lw_gd := lw_gd_in (tb5 (List.mem_of_getElem? (i := 170) rfl)) rfl
theorem mlX9_71 : Cond.methodLink RX9 71 yX9_isBoard ∈ lw_gd := lw_gd_in (tb5 (List.mem_of_getElem? (i := 171) rfl)) rfl
theorem ms_X9_isBoard : Cond.static yX9_isBoard ∈ lw_gd := lw_gd_in (tb5 (List.mem_of_getElem? (i := 172) rfl)) rfl
theorem mlL_22 : Cond.methodLink RL 22 yX9_thingOf ∈ lw_gd := lw_gd_in (tb5 (List.mem_of_getElem? (i := 174) rfl)) rfl
theorem mlX9_120 : Cond.methodLink RX9 120 yX9_isOne ∈ lw_gd := lw_gd_in (tb5 (List.mem_of_getElem? (i := 178) rfl)) rfl
theorem mlX9_123 : Cond.methodLink RX9 123 yX9_swollen ∈ lw_gd := lw_gd_in (tb5 (List.mem_of_getElem? (i := 182) rfl)) rfl
theorem mlX9_79 : Cond.methodLink RX9 79 yX9_its ∈ lw_gd := lw_gd_in (tb5 (List.mem_of_getElem? (i := 186) rfl)) rfl
theorem mlX9_82 : Cond.methodLink RX9 82 yX9_ironOf ∈ lw_gd := lw_gd_in (tb5 (List.mem_of_getElem? (i := 190) rfl)) rfl
theorem mlX9_86 : Cond.methodLink RX9 86 yX9_swells ∈ lw_gd := lw_gd_in (tb5 (List.mem_of_getElem? (i := 194) rfl)) rfl
theorem ms_X9_swells : Cond.static yX9_swells ∈ lw_gd := lw_gd_in (tb5 (List.mem_of_getElem? (i := 195) rfl)) rfl
theorem mlX9_75 : Cond.methodLink RX9 75 yX9_greatest ∈ lw_gd := lw_gd_in (tb5 (List.mem_of_getElem? (i := 197) rfl)) rfl
theorem ms_X9_greatest : Cond.static yX9_greatest ∈ lw_gd := lw_gd_in (tb5 (List.mem_of_getElem? (i := 198) rfl)) rfl
theorem mlX9_97 : Cond.methodLink RX9 97 yX9_needsOf ∈ lw_gd := lw_gd_in (tb5 (List.mem_of_getElem? (i := 200) rfl)) rfl
theorem mlX9_90 : Cond.methodLink RX9 90 yX9_needsBy ∈ lw_gd := lw_gd_in (tb5 (List.mem_of_getElem? (i := 204) rfl)) rfl
theorem ms_X9_needsBy : Cond.static yX9_needsBy ∈ lw_gd := lw_gd_in (tb5 (List.mem_of_getElem? (i := 205) rfl)) rfl
theorem mlX9_114 : Cond.methodLink RX9 114 yX9_pays ∈ lw_gd := lw_gd_in (tb5 (List.mem_of_getElem? (i := 207) rfl)) rfl
theorem mlX9_94 : Cond.methodLink RX9 94 yX9_load ∈ lw_gd := lw_gd_in (tb5 (List.mem_of_getElem? (i := 211) rfl)) rfl
theorem mlX9_126 : Cond.methodLink RX9 126 yX9_mayBe ∈ lw_gd := lw_gd_in (tb5 (List.mem_of_getElem? (i := 215) rfl)) rfl
theorem mlX9_117 : Cond.methodLink RX9 117 yX9_will ∈ lw_gd := lw_gd_in (tb5 (List.mem_of_getElem? (i := 219) rfl)) rfl
theorem mlX9_107 : Cond.methodLink RX9 107 yX9_isUnder ∈ lw_gd := lw_gd_in (tb5 (List.mem_of_getElem? (i := 223) rfl)) rfl
theorem ms_X9_isUnder : Cond.static yX9_isUnder ∈ lw_gd := lw_gd_in (tb5 (List.mem_of_getElem? (i := 224) rfl)) rfl
theorem mlX9_111 : Cond.methodLink RX9 111 yX9_holds ∈ lw_gd := lw_gd_in (tb5 (List.mem_of_getElem? (i := 226) rfl)) rfl
theorem mlX9_100 : Cond.methodLink RX9 100 yX9_valueOf ∈ lw_gd := lw_gd_in (tb5 (List.mem_of_getElem? (i := 230) rfl)) rfl
theorem clX9_103 : Cond.constantLong RX9 103 (2) ∈ lw_gd := lw_gd_in (tb5 (List.mem_of_getElem? (i := 234) rfl)) rfl
theorem clX9_105 : Cond.constantLong RX9 105 (-2) ∈ lw_gd := lw_gd_in (tb5 (List.mem_of_getElem? (i := 235) rfl)) rfl
theorem mlL_27 : Cond.methodLink RL 27 yX9_change ∈ lw_gd := lw_gd_in (tb5 (List.mem_of_getElem? (i := 236) rfl)) rfl
theorem clX9_129 : Cond.constantLong RX9 129 (4) ∈ lw_gd := lw_gd_in (tb6 (List.mem_of_getElem? (i := 0) rfl)) rfl
theorem mlX9_131 : Cond.methodLink RX9 131 yX9_greatestOf ∈ lw_gd := lw_gd_in (tb6 (List.mem_of_getElem? (i := 1) rfl)) rfl
theorem ms_X9_greatestOf : Cond.static yX9_greatestOf ∈ lw_gd := lw_gd_in (tb6 (List.mem_of_getElem? (i := 2) rfl)) rfl
theorem mlX9_134 : Cond.methodLink RX9 134 yX9_becomes ∈ lw_gd := lw_gd_in (tb6 (List.mem_of_getElem? (i := 4) rfl)) rfl
theorem mlL_31 : Cond.methodLink RL 31 yX9_remake ∈ lw_gd := lw_gd_in (tb6 (List.mem_of_getElem? (i := 8) rfl)) rfl
theorem mlL_35 : Cond.methodLink RL 35 yX9_iron ∈ lw_gd := lw_gd_in (tb6 (List.mem_of_getElem? (i := 12) rfl)) rfl
theorem clX9_137 : Cond.constantLong RX9 137 (15) ∈ lw_gd := lw_gd_in (tb6 (List.mem_of_getElem? (i := 16) rfl)) rfl
theorem mlL_39 : Cond.methodLink RL 39 yX9_board ∈ lw_gd := lw_gd_in (tb6 (List.mem_of_getElem? (i := 17) rfl)) rfl
theorem mlL_43 : Cond.methodLink RL 43 yX9_boardOf ∈ lw_gd := lw_gd_in (tb6 (List.mem_of_getElem? (i := 21) rfl)) rfl
theorem mlL_48 : Cond.methodLink RL 48 yX9_ends ∈ lw_gd := lw_gd_in (tb6 (List.mem_of_getElem? (i := 25) rfl)) rfl
theorem clX9_139 : Cond.constantLong RX9 139 (16) ∈ lw_gd := lw_gd_in (tb6 (List.mem_of_getElem? (i := 29) rfl)) rfl
theorem mlL_53 : Cond.methodLink RL 53 yX9_anew ∈ lw_gd := lw_gd_in (tb6 (List.mem_of_getElem? (i := 30) rfl)) rfl
theorem mlL_57 : Cond.methodLink RL 57 yX9_state ∈ lw_gd := lw_gd_in (tb6 (List.mem_of_getElem? (i := 34) rfl)) rfl
theorem mlX9_141 : Cond.methodLink RX9 141 yX9_isOver ∈ lw_gd := lw_gd_in (tb6 (List.mem_of_getElem? (i := 38) rfl)) rfl
theorem mlX9_145 : Cond.methodLink RX9 145 yX9_flatOnes ∈ lw_gd := lw_gd_in (tb6 (List.mem_of_getElem? (i := 42) rfl)) rfl
theorem mlX9_149 : Cond.methodLink RX9 149 yX9_bulkOfAll ∈ lw_gd := lw_gd_in (tb6 (List.mem_of_getElem? (i := 46) rfl)) rfl
theorem mlL_64 : Cond.methodLink RL 64 yX9_feed ∈ lw_gd := lw_gd_in (tb6 (List.mem_of_getElem? (i := 50) rfl)) rfl
theorem clX9_152 : Cond.constantLong RX9 152 (8) ∈ lw_gd := lw_gd_in (tb6 (List.mem_of_getElem? (i := 54) rfl)) rfl
theorem clX9_158 : Cond.constantLong RX9 158 (255) ∈ lw_gd := lw_gd_in (tb6 (List.mem_of_getElem? (i := 55) rfl)) rfl
theorem mlL_68 : Cond.methodLink RL 68 yX9_rules ∈ lw_gd := lw_gd_in (tb6 (List.mem_of_getElem? (i := 56) rfl)) rfl
theorem mlX9_185 : Cond.methodLink RX9 185 yX9_nextToken ∈ lw_gd := lw_gd_in (tb6 (List.mem_of_getElem? (i := 60) rfl)) rfl
theorem mlX9_166 : Cond.methodLink RX9 166 yX9_byteAt ∈ lw_gd := lw_gd_in (tb6 (List.mem_of_getElem? (i := 64) rfl)) rfl
theorem mlX9_169 : Cond.methodLink RX9 169 yX9_isAlpha ∈ lw_gd := lw_gd_in (tb6 (List.mem_of_getElem? (i := 68) rfl)) rfl
theorem ms_X9_isAlpha : Cond.static yX9_isAlpha ∈ lw_gd := lw_gd_in (tb6 (List.mem_of_getElem? (i := 69) rfl)) rfl
theorem mlX9_172 : Cond.methodLink RX9 172 yX9_isDigit ∈ lw_gd := lw_gd_in (tb6 (List.mem_of_getElem? (i := 71) rfl)) rfl
theorem ms_X9_isDigit : Cond.static yX9_isDigit ∈ lw_gd := lw_gd_in (tb6 (List.mem_of_getElem? (i := 72) rfl)) rfl
theorem mlX9_237 : Cond.methodLink RX9 237 yX9_ruleHere ∈ lw_gd := lw_gd_in (tb6 (List.mem_of_getElem? (i := 74) rfl)) rfl
theorem mlX9_231 : Cond.methodLink RX9 231 yX9_kindHere ∈ lw_gd := lw_gd_in (tb6 (List.mem_of_getElem? (i := 78) rfl)) rfl
theorem mlX9_188 : Cond.methodLink RX9 188 yX9_isName ∈ lw_gd := lw_gd_in (tb6 (List.mem_of_getElem? (i := 82) rfl)) rfl
theorem mlX9_192 : Cond.methodLink RX9 192 yX9_isSame ∈ lw_gd := lw_gd_in (tb6 (List.mem_of_getElem? (i := 86) rfl)) rfl
theorem mlX9_199 : Cond.methodLink RX9 199 yX9_needs ∈ lw_gd := lw_gd_in (tb6 (List.mem_of_getElem? (i := 90) rfl)) rfl
theorem mlX9_228 : Cond.methodLink RX9 228 yX9_isTwo ∈ lw_gd := lw_gd_in (tb6 (List.mem_of_getElem? (i := 94) rfl)) rfl
theorem mlX9_216 : Cond.methodLink RX9 216 yX9_condHere ∈ lw_gd := lw_gd_in (tb6 (List.mem_of_getElem? (i := 98) rfl)) rfl
theorem mlX9_225 : Cond.methodLink RX9 225 yX9_allHere ∈ lw_gd := lw_gd_in (tb6 (List.mem_of_getElem? (i := 102) rfl)) rfl
theorem mlX9_222 : Cond.methodLink RX9 222 yX9_oneHere ∈ lw_gd := lw_gd_in (tb6 (List.mem_of_getElem? (i := 106) rfl)) rfl
theorem mlX9_206 : Cond.methodLink RX9 206 yX9_isByte ∈ lw_gd := lw_gd_in (tb6 (List.mem_of_getElem? (i := 110) rfl)) rfl
theorem mlX9_219 : Cond.methodLink RX9 219 yX9_comparesHere ∈ lw_gd := lw_gd_in (tb6 (List.mem_of_getElem? (i := 114) rfl)) rfl
theorem mlX9_203 : Cond.methodLink RX9 203 yX9_valueHere ∈ lw_gd := lw_gd_in (tb6 (List.mem_of_getElem? (i := 118) rfl)) rfl
theorem mlX9_196 : Cond.methodLink RX9 196 yX9_factHere ∈ lw_gd := lw_gd_in (tb6 (List.mem_of_getElem? (i := 122) rfl)) rfl
theorem mlX9_209 : Cond.methodLink RX9 209 yX9_steps ∈ lw_gd := lw_gd_in (tb6 (List.mem_of_getElem? (i := 126) rfl)) rfl
theorem mlX9_234 : Cond.methodLink RX9 234 yX9_doHere ∈ lw_gd := lw_gd_in (tb6 (List.mem_of_getElem? (i := 130) rfl)) rfl
theorem mlL_72 : Cond.methodLink RL 72 yX9_wash ∈ lw_gd := lw_gd_in (tb6 (List.mem_of_getElem? (i := 134) rfl)) rfl
theorem mlX9_252 : Cond.methodLink RX9 252 yX9_restAct ∈ lw_gd := lw_gd_in (tb6 (List.mem_of_getElem? (i := 138) rfl)) rfl
theorem mlX9_255 : Cond.methodLink RX9 255 yX9_goesWith ∈ lw_gd := lw_gd_in (tb6 (List.mem_of_getElem? (i := 142) rfl)) rfl
theorem mlX9_243 : Cond.methodLink RX9 243 yX9_does ∈ lw_gd := lw_gd_in (tb6 (List.mem_of_getElem? (i := 146) rfl)) rfl
theorem mlX9_240 : Cond.methodLink RX9 240 yX9_lesser ∈ lw_gd := lw_gd_in (tb6 (List.mem_of_getElem? (i := 150) rfl)) rfl
theorem ms_X9_lesser : Cond.static yX9_lesser ∈ lw_gd := lw_gd_in (tb6 (List.mem_of_getElem? (i := 151) rfl)) rfl
theorem mlX9_246 : Cond.methodLink RX9 246 yX9_isUndone ∈ lw_gd := lw_gd_in (tb6 (List.mem_of_getElem? (i := 153) rfl)) rfl
theorem mlX9_249 : Cond.methodLink RX9 249 yX9_size ∈ lw_gd := lw_gd_in (tb6 (List.mem_of_getElem? (i := 157) rfl)) rfl
theorem ms_X9_size : Cond.static yX9_size ∈ lw_gd := lw_gd_in (tb6 (List.mem_of_getElem? (i := 158) rfl)) rfl
theorem mlL_76 : Cond.methodLink RL 76 yX9_on ∈ lw_gd := lw_gd_in (tb6 (List.mem_of_getElem? (i := 160) rfl)) rfl
theorem mlX9_265 : Cond.methodLink RX9 265 yX9_onBy ∈ lw_gd := lw_gd_in (tb6 (List.mem_of_getElem? (i := 164) rfl)) rfl
theorem mlX9_258 : Cond.methodLink RX9 258 yX9_laysAside ∈ lw_gd := lw_gd_in (tb6 (List.mem_of_getElem? (i := 168) rfl)) rfl
theorem mlX9_262 : Cond.methodLink RX9 262 yX9_laysBack ∈ lw_gd := lw_gd_in (tb6 (List.mem_of_getElem? (i := 172) rfl)) rfl
theorem mlL_80 : Cond.methodLink RL 80 yX9_when ∈ lw_gd := lw_gd_in (tb6 (List.mem_of_getElem? (i := 176) rfl)) rfl
theorem mlL_84 : Cond.methodLink RL 84 yX9_creaseFor ∈ lw_gd := lw_gd_in (tb6 (List.mem_of_getElem? (i := 180) rfl)) rfl
theorem mlX9_268 : Cond.methodLink RX9 268 yX9_valueFor ∈ lw_gd := lw_gd_in (tb6 (List.mem_of_getElem? (i := 184) rfl)) rfl
theorem mlL_88 : Cond.methodLink RL 88 yX9_boardFor ∈ lw_gd := lw_gd_in (tb6 (List.mem_of_getElem? (i := 188) rfl)) rfl
theorem mlL_92 : Cond.methodLink RL 92 yX9_fat ∈ lw_gd := lw_gd_in (tb6 (List.mem_of_getElem? (i := 192) rfl)) rfl
theorem mlL_96 : Cond.methodLink RL 96 yX9_least ∈ lw_gd := lw_gd_in (tb6 (List.mem_of_getElem? (i := 196) rfl)) rfl
theorem mlL_100 : Cond.methodLink RL 100 yX9_left ∈ lw_gd := lw_gd_in (tb6 (List.mem_of_getElem? (i := 200) rfl)) rfl
theorem mlL_104 : Cond.methodLink RL 104 yX9_piles ∈ lw_gd := lw_gd_in (tb6 (List.mem_of_getElem? (i := 204) rfl)) rfl
theorem mlX9_274 : Cond.methodLink RX9 274 yX9_pileOf ∈ lw_gd := lw_gd_in (tb6 (List.mem_of_getElem? (i := 208) rfl)) rfl
theorem mlX9_271 : Cond.methodLink RX9 271 yX9_areClose ∈ lw_gd := lw_gd_in (tb6 (List.mem_of_getElem? (i := 212) rfl)) rfl
theorem mlL_108 : Cond.methodLink RL 108 yX9_best ∈ lw_gd := lw_gd_in (tb6 (List.mem_of_getElem? (i := 216) rfl)) rfl
theorem mlX9_299 : Cond.methodLink RX9 299 yX9_isLong ∈ lw_gd := lw_gd_in (tb6 (List.mem_of_getElem? (i := 220) rfl)) rfl
theorem ms_X9_isLong : Cond.static yX9_isLong ∈ lw_gd := lw_gd_in (tb6 (List.mem_of_getElem? (i := 221) rfl)) rfl
theorem mlX9_302 : Cond.methodLink RX9 302 yX9_findsPlans ∈ lw_gd := lw_gd_in (tb6 (List.mem_of_getElem? (i := 223) rfl)) rfl
theorem mlX9_295 : Cond.methodLink RX9 295 yX9_plans ∈ lw_gd := lw_gd_in (tb6 (List.mem_of_getElem? (i := 227) rfl)) rfl
theorem mlL_112 : Cond.methodLink RL 112 yX9_ith ∈ lw_gd := lw_gd_in (tb6 (List.mem_of_getElem? (i := 231) rfl)) rfl
theorem clX9_306 : Cond.constantLong RX9 306 (3) ∈ lw_gd := lw_gd_in (tb6 (List.mem_of_getElem? (i := 235) rfl)) rfl
theorem mlL_116 : Cond.methodLink RL 116 yX9_ways ∈ lw_gd := lw_gd_in (tb6 (List.mem_of_getElem? (i := 236) rfl)) rfl
theorem mlL_120 : Cond.methodLink RL 120 yX9_note ∈ lw_gd := lw_gd_in (tb7 (List.mem_of_getElem? (i := 0) rfl)) rfl
theorem mlX9_308 : Cond.methodLink RX9 308 yX9_isSet ∈ lw_gd := lw_gd_in (tb7 (List.mem_of_getElem? (i := 4) rfl)) rfl
theorem mlL_124 : Cond.methodLink RL 124 yX9_bars ∈ lw_gd := lw_gd_in (tb7 (List.mem_of_getElem? (i := 8) rfl)) rfl
theorem mlL_128 : Cond.methodLink RL 128 yX9_game ∈ lw_gd := lw_gd_in (tb7 (List.mem_of_getElem? (i := 12) rfl)) rfl
theorem mlX9_311 : Cond.methodLink RX9 311 yX9_valueFrom ∈ lw_gd := lw_gd_in (tb7 (List.mem_of_getElem? (i := 16) rfl)) rfl
theorem mlL_132 : Cond.methodLink RL 132 yX9_play ∈ lw_gd := lw_gd_in (tb7 (List.mem_of_getElem? (i := 20) rfl)) rfl
theorem mlL_136 : Cond.methodLink RL 136 yX9_report ∈ lw_gd := lw_gd_in (tb7 (List.mem_of_getElem? (i := 24) rfl)) rfl
theorem mlL_140 : Cond.methodLink RL 140 yX9_forget ∈ lw_gd := lw_gd_in (tb7 (List.mem_of_getElem? (i := 28) rfl)) rfl
theorem mlL_144 : Cond.methodLink RL 144 yX9_lone ∈ lw_gd := lw_gd_in (tb7 (List.mem_of_getElem? (i := 32) rfl)) rfl
theorem mlX9_329 : Cond.methodLink RX9 329 yX9_findsFits ∈ lw_gd := lw_gd_in (tb7 (List.mem_of_getElem? (i := 36) rfl)) rfl
theorem mlX9_323 : Cond.methodLink RX9 323 yX9_lies ∈ lw_gd := lw_gd_in (tb7 (List.mem_of_getElem? (i := 40) rfl)) rfl
theorem mlX9_326 : Cond.methodLink RX9 326 yX9_isFit ∈ lw_gd := lw_gd_in (tb7 (List.mem_of_getElem? (i := 44) rfl)) rfl
theorem mlL_148 : Cond.methodLink RL 148 yX9_liar ∈ lw_gd := lw_gd_in (tb7 (List.mem_of_getElem? (i := 48) rfl)) rfl
theorem mlL_152 : Cond.methodLink RL 152 yX9_seed ∈ lw_gd := lw_gd_in (tb7 (List.mem_of_getElem? (i := 52) rfl)) rfl
theorem mlL_156 : Cond.methodLink RL 156 yX9_lot ∈ lw_gd := lw_gd_in (tb7 (List.mem_of_getElem? (i := 56) rfl)) rfl
theorem mlX9_333 : Cond.methodLink RX9 333 yX9_goesByLot ∈ lw_gd := lw_gd_in (tb7 (List.mem_of_getElem? (i := 60) rfl)) rfl
theorem clX9_332 : Cond.constant RX9 332 (1103515245) ∈ lw_gd := lw_gd_in (tb7 (List.mem_of_getElem? (i := 64) rfl)) rfl
theorem mlL_160 : Cond.methodLink RL 160 yX9_times ∈ lw_gd := lw_gd_in (tb7 (List.mem_of_getElem? (i := 65) rfl)) rfl
theorem clX9_336 : Cond.constantLong RX9 336 (40) ∈ lw_gd := lw_gd_in (tb7 (List.mem_of_getElem? (i := 69) rfl)) rfl
theorem clX9_338 : Cond.constantLong RX9 338 (999) ∈ lw_gd := lw_gd_in (tb7 (List.mem_of_getElem? (i := 70) rfl)) rfl
theorem mlL_164 : Cond.methodLink RL 164 yX9_prove ∈ lw_gd := lw_gd_in (tb7 (List.mem_of_getElem? (i := 71) rfl)) rfl
theorem mlL_168 : Cond.methodLink RL 168 yX9_row ∈ lw_gd := lw_gd_in (tb7 (List.mem_of_getElem? (i := 75) rfl)) rfl
theorem mlX9_343 : Cond.methodLink RX9 343 yX9_isRow ∈ lw_gd := lw_gd_in (tb7 (List.mem_of_getElem? (i := 79) rfl)) rfl
theorem mlL_172 : Cond.methodLink RL 172 yX9_alterRow ∈ lw_gd := lw_gd_in (tb7 (List.mem_of_getElem? (i := 83) rfl)) rfl
theorem mlL_176 : Cond.methodLink RL 176 yX9_judge ∈ lw_gd := lw_gd_in (tb7 (List.mem_of_getElem? (i := 87) rfl)) rfl
theorem mlX9_346 : Cond.methodLink RX9 346 yX9_isAct ∈ lw_gd := lw_gd_in (tb7 (List.mem_of_getElem? (i := 91) rfl)) rfl
theorem mlL_180 : Cond.methodLink RL 180 yX9_sheet ∈ lw_gd := lw_gd_in (tb7 (List.mem_of_getElem? (i := 95) rfl)) rfl
theorem mlX9_349 : Cond.methodLink RX9 349 yX9_isSheet ∈ lw_gd := lw_gd_in (tb7 (List.mem_of_getElem? (i := 99) rfl)) rfl
theorem ms_X9_isSheet : Cond.static yX9_isSheet ∈ lw_gd := lw_gd_in (tb7 (List.mem_of_getElem? (i := 100) rfl)) rfl
theorem clX9_352 : Cond.constantLong RX9 352 (-1) ∈ lw_gd := lw_gd_in (tb7 (List.mem_of_getElem? (i := 102) rfl)) rfl
theorem mlL_184 : Cond.methodLink RL 184 yX9_write ∈ lw_gd := lw_gd_in (tb7 (List.mem_of_getElem? (i := 103) rfl)) rfl
theorem mlL_188 : Cond.methodLink RL 188 yX9_item ∈ lw_gd := lw_gd_in (tb7 (List.mem_of_getElem? (i := 107) rfl)) rfl
theorem mlX9_354 : Cond.methodLink RX9 354 yX9_lacks ∈ lw_gd := lw_gd_in (tb7 (List.mem_of_getElem? (i := 111) rfl)) rfl
theorem mlL_192 : Cond.methodLink RL 192 yX9_goAll ∈ lw_gd := lw_gd_in (tb7 (List.mem_of_getElem? (i := 115) rfl)) rfl
theorem clX9_357 : Cond.constantLong RX9 357 (20) ∈ lw_gd := lw_gd_in (tb7 (List.mem_of_getElem? (i := 119) rfl)) rfl
theorem mlL_196 : Cond.methodLink RL 196 yX9_wouldBe ∈ lw_gd := lw_gd_in (tb7 (List.mem_of_getElem? (i := 120) rfl)) rfl
theorem mlX9_359 : Cond.methodLink RX9 359 yX9_sumBy ∈ lw_gd := lw_gd_in (tb7 (List.mem_of_getElem? (i := 124) rfl)) rfl
theorem mlL_200 : Cond.methodLink RL 200 yX9_shelf ∈ lw_gd := lw_gd_in (tb7 (List.mem_of_getElem? (i := 128) rfl)) rfl
theorem mlX9_362 : Cond.methodLink RX9 362 yX9_isShelf ∈ lw_gd := lw_gd_in (tb7 (List.mem_of_getElem? (i := 132) rfl)) rfl
theorem ms_X9_isShelf : Cond.static yX9_isShelf ∈ lw_gd := lw_gd_in (tb7 (List.mem_of_getElem? (i := 133) rfl)) rfl
theorem mlL_204 : Cond.methodLink RL 204 yX9_taken ∈ lw_gd := lw_gd_in (tb7 (List.mem_of_getElem? (i := 135) rfl)) rfl
theorem clX9_365 : Cond.constantLong RX9 365 (14) ∈ lw_gd := lw_gd_in (tb7 (List.mem_of_getElem? (i := 139) rfl)) rfl
theorem clX9_367 : Cond.constantLong RX9 367 (6) ∈ lw_gd := lw_gd_in (tb7 (List.mem_of_getElem? (i := 140) rfl)) rfl
theorem mlX9_369 : Cond.methodLink RX9 369 yX9_heldOn ∈ lw_gd := lw_gd_in (tb7 (List.mem_of_getElem? (i := 141) rfl)) rfl
theorem mlL_208 : Cond.methodLink RL 208 yX9_act ∈ lw_gd := lw_gd_in (tb7 (List.mem_of_getElem? (i := 145) rfl)) rfl
theorem mlX9_387 : Cond.methodLink RX9 387 yX9_folds ∈ lw_gd := lw_gd_in (tb7 (List.mem_of_getElem? (i := 149) rfl)) rfl
theorem mlX9_375 : Cond.methodLink RX9 375 yX9_runs ∈ lw_gd := lw_gd_in (tb7 (List.mem_of_getElem? (i := 153) rfl)) rfl
theorem mlX9_384 : Cond.methodLink RX9 384 yX9_foldsPlain ∈ lw_gd := lw_gd_in (tb7 (List.mem_of_getElem? (i := 157) rfl)) rfl
theorem mlX9_405 : Cond.methodLink RX9 405 yX9_airs ∈ lw_gd := lw_gd_in (tb7 (List.mem_of_getElem? (i := 161) rfl)) rfl
theorem mlX9_393 : Cond.methodLink RX9 393 yX9_airsPlain ∈ lw_gd := lw_gd_in (tb7 (List.mem_of_getElem? (i := 165) rfl)) rfl
theorem mlX9_408 : Cond.methodLink RX9 408 yX9_shares ∈ lw_gd := lw_gd_in (tb7 (List.mem_of_getElem? (i := 169) rfl)) rfl
theorem mlX9_402 : Cond.methodLink RX9 402 yX9_sharesOfLinen ∈ lw_gd := lw_gd_in (tb7 (List.mem_of_getElem? (i := 173) rfl)) rfl
theorem mlX9_399 : Cond.methodLink RX9 399 yX9_sharesPlain ∈ lw_gd := lw_gd_in (tb7 (List.mem_of_getElem? (i := 177) rfl)) rfl
theorem mlX9_414 : Cond.methodLink RX9 414 yX9_stores ∈ lw_gd := lw_gd_in (tb7 (List.mem_of_getElem? (i := 181) rfl)) rfl
theorem mlX9_411 : Cond.methodLink RX9 411 yX9_storesPlain ∈ lw_gd := lw_gd_in (tb7 (List.mem_of_getElem? (i := 185) rfl)) rfl
theorem mlL_212 : Cond.methodLink RL 212 yX9_trace ∈ lw_gd := lw_gd_in (tb7 (List.mem_of_getElem? (i := 189) rfl)) rfl
theorem mlL_216 : Cond.methodLink RL 216 yX9_many ∈ lw_gd := lw_gd_in (tb7 (List.mem_of_getElem? (i := 193) rfl)) rfl
theorem mlL_220 : Cond.methodLink RL 220 yX9_keep ∈ lw_gd := lw_gd_in (tb7 (List.mem_of_getElem? (i := 197) rfl)) rfl
theorem mlL_224 : Cond.methodLink RL 224 yX9_again ∈ lw_gd := lw_gd_in (tb7 (List.mem_of_getElem? (i := 201) rfl)) rfl
theorem clL_58 : Cond.constantLong RL 58 (4294967295) ∈ lw_gd := lw_gd_in (tb7 (List.mem_of_getElem? (i := 205) rfl)) rfl
theorem flJ0_9 : Cond.fieldLink RJ0 9 RJ0 "value" "[B" ∈ lw_gd := lw_gd_in (tb7 (List.mem_of_getElem? (i := 206) rfl)) rfl
theorem flJ0_15 : Cond.fieldLink RJ0 15 RJ0 "coder" "B" ∈ lw_gd := lw_gd_in (tb7 (List.mem_of_getElem? (i := 207) rfl)) rfl
set_option maxRecDepth 20000 in
theorem iwX0 : ∀ w ∈ u_ws RX0 TX0 6, w ∈ lw_gd := List.forall_mem_cons.mpr ⟨lw_gd_in (tb2 (List.mem_of_getElem? (i := 38) rfl)) rfl, List.forall_mem_cons.mpr ⟨lw_gd_in (tb2 (List.mem_of_getElem? (i := 40) rfl)) rfl, List.forall_mem_cons.mpr ⟨lw_gd_in (tb2 (List.mem_of_getElem? (i := 42) rfl)) rfl, List.forall_mem_cons.mpr ⟨lw_gd_in (tb2 (List.mem_of_getElem? (i := 44) rfl)) rfl, List.forall_mem_cons.mpr ⟨lw_gd_in (tb2 (List.mem_of_getElem? (i := 46) rfl)) rfl, List.forall_mem_cons.mpr ⟨lw_gd_in (tb2 (List.mem_of_getElem? (i := 48) rfl)) rfl, fun _ h => absurd h List.not_mem_nil⟩⟩⟩⟩⟩⟩
set_option maxRecDepth 20000 in
theorem iwX1 : ∀ w ∈ u_ws RX1 TX1 10, w ∈ lw_gd := List.forall_mem_cons.mpr ⟨lw_gd_in (tb1 (List.mem_of_getElem? (i := 151) rfl)) rfl, List.forall_mem_cons.mpr ⟨lw_gd_in (tb1 (List.mem_of_getElem? (i := 153) rfl)) rfl, List.forall_mem_cons.mpr ⟨lw_gd_in (tb1 (List.mem_of_getElem? (i := 155) rfl)) rfl, List.forall_mem_cons.mpr ⟨lw_gd_in (tb1 (List.mem_of_getElem? (i := 157) rfl)) rfl, List.forall_mem_cons.mpr ⟨lw_gd_in (tb1 (List.mem_of_getElem? (i := 159) rfl)) rfl, List.forall_mem_cons.mpr ⟨lw_gd_in (tb1 (List.mem_of_getElem? (i := 161) rfl)) rfl, List.forall_mem_cons.mpr ⟨lw_gd_in (tb1 (List.mem_of_getElem? (i := 163) rfl)) rfl, List.forall_mem_cons.mpr ⟨lw_gd_in (tb1 (List.mem_of_getElem? (i := 165) rfl)) rfl, List.forall_mem_cons.mpr ⟨lw_gd_in (tb1 (List.mem_of_getElem? (i := 167) rfl)) rfl, List.forall_mem_cons.mpr ⟨lw_gd_in (tb1 (List.mem_of_getElem? (i := 169) rfl)) rfl, fun _ h => absurd h List.not_mem_nil⟩⟩⟩⟩⟩⟩⟩⟩⟩⟩
set_option maxRecDepth 20000 in
theorem iwX2 : ∀ w ∈ u_ws RX2 TX2 7, w ∈ lw_gd := List.forall_mem_cons.mpr ⟨lw_gd_in (tb1 (List.mem_of_getElem? (i := 66) rfl)) rfl, List.forall_mem_cons.mpr ⟨lw_gd_in (tb1 (List.mem_of_getElem? (i := 68) rfl)) rfl, List.forall_mem_cons.mpr ⟨lw_gd_in (tb1 (List.mem_of_getElem? (i := 70) rfl)) rfl, List.forall_mem_cons.mpr ⟨lw_gd_in (tb1 (List.mem_of_getElem? (i := 72) rfl)) rfl, List.forall_mem_cons.mpr ⟨lw_gd_in (tb1 (List.mem_of_getElem? (i := 74) rfl)) rfl, List.forall_mem_cons.mpr ⟨lw_gd_in (tb1 (List.mem_of_getElem? (i := 76) rfl)) rfl, List.forall_mem_cons.mpr ⟨lw_gd_in (tb1 (List.mem_of_getElem? (i := 78) rfl)) rfl, fun _ h => absurd h List.not_mem_nil⟩⟩⟩⟩⟩⟩⟩
set_option maxRecDepth 20000 in
theorem iwX3 : ∀ w ∈ u_ws RX3 TX3 10, w ∈ lw_gd := List.forall_mem_cons.mpr ⟨lw_gd_in (tb1 (List.mem_of_getElem? (i := 106) rfl)) rfl, List.forall_mem_cons.mpr ⟨lw_gd_in (tb1 (List.mem_of_getElem? (i := 108) rfl)) rfl, List.forall_mem_cons.mpr ⟨lw_gd_in (tb1 (List.mem_of_getElem? (i := 110) rfl)) rfl, List.forall_mem_cons.mpr ⟨lw_gd_in (tb1 (List.mem_of_getElem? (i := 112) rfl)) rfl, List.forall_mem_cons.mpr ⟨lw_gd_in (tb1 (List.mem_of_getElem? (i := 114) rfl)) rfl, List.forall_mem_cons.mpr ⟨lw_gd_in (tb1 (List.mem_of_getElem? (i := 116) rfl)) rfl, List.forall_mem_cons.mpr ⟨lw_gd_in (tb1 (List.mem_of_getElem? (i := 118) rfl)) rfl, List.forall_mem_cons.mpr ⟨lw_gd_in (tb1 (List.mem_of_getElem? (i := 120) rfl)) rfl, List.forall_mem_cons.mpr ⟨lw_gd_in (tb1 (List.mem_of_getElem? (i := 122) rfl)) rfl, List.forall_mem_cons.mpr ⟨lw_gd_in (tb1 (List.mem_of_getElem? (i := 124) rfl)) rfl, fun _ h => absurd h List.not_mem_nil⟩⟩⟩⟩⟩⟩⟩⟩⟩⟩
set_option maxRecDepth 20000 in
theorem iwX4 : ∀ w ∈ u_ws RX4 TX4 3, w ∈ lw_gd := List.forall_mem_cons.mpr ⟨lw_gd_in (tb3 (List.mem_of_getElem? (i := 126) rfl)) rfl, List.forall_mem_cons.mpr ⟨lw_gd_in (tb3 (List.mem_of_getElem? (i := 128) rfl)) rfl, List.forall_mem_cons.mpr ⟨lw_gd_in (tb3 (List.mem_of_getElem? (i := 130) rfl)) rfl, fun _ h => absurd h List.not_mem_nil⟩⟩⟩
set_option maxRecDepth 20000 in
theorem iwX5 : ∀ w ∈ u_ws RX5 TX5 10, w ∈ lw_gd := List.forall_mem_cons.mpr ⟨lw_gd_in (tb2 (List.mem_of_getElem? (i := 1) rfl)) rfl, List.forall_mem_cons.mpr ⟨lw_gd_in (tb2 (List.mem_of_getElem? (i := 3) rfl)) rfl, List.forall_mem_cons.mpr ⟨lw_gd_in (tb2 (List.mem_of_getElem? (i := 5) rfl)) rfl, List.forall_mem_cons.mpr ⟨lw_gd_in (tb2 (List.mem_of_getElem? (i := 7) rfl)) rfl, List.forall_mem_cons.mpr ⟨lw_gd_in (tb2 (List.mem_of_getElem? (i := 9) rfl)) rfl, List.forall_mem_cons.mpr ⟨lw_gd_in (tb2 (List.mem_of_getElem? (i := 11) rfl)) rfl, List.forall_mem_cons.mpr ⟨lw_gd_in (tb2 (List.mem_of_getElem? (i := 13) rfl)) rfl, List.forall_mem_cons.mpr ⟨lw_gd_in (tb2 (List.mem_of_getElem? (i := 15) rfl)) rfl, List.forall_mem_cons.mpr ⟨lw_gd_in (tb2 (List.mem_of_getElem? (i := 17) rfl)) rfl, List.forall_mem_cons.mpr ⟨lw_gd_in (tb2 (List.mem_of_getElem? (i := 19) rfl)) rfl, fun _ h => absurd h List.not_mem_nil⟩⟩⟩⟩⟩⟩⟩⟩⟩⟩
set_option maxRecDepth 20000 in
theorem iwX6 : ∀ w ∈ u_ws RX6 TX6 10, w ∈ lw_gd := List.forall_mem_cons.mpr ⟨lw_gd_in (tb1 (List.mem_of_getElem? (i := 200) rfl)) rfl, List.forall_mem_cons.mpr ⟨lw_gd_in (tb1 (List.mem_of_getElem? (i := 202) rfl)) rfl, List.forall_mem_cons.mpr ⟨lw_gd_in (tb1 (List.mem_of_getElem? (i := 204) rfl)) rfl, List.forall_mem_cons.mpr ⟨lw_gd_in (tb1 (List.mem_of_getElem? (i := 206) rfl)) rfl, List.forall_mem_cons.mpr ⟨lw_gd_in (tb1 (List.mem_of_getElem? (i := 208) rfl)) rfl, List.forall_mem_cons.mpr ⟨lw_gd_in (tb1 (List.mem_of_getElem? (i := 210) rfl)) rfl, List.forall_mem_cons.mpr ⟨lw_gd_in (tb1 (List.mem_of_getElem? (i := 212) rfl)) rfl, List.forall_mem_cons.mpr ⟨lw_gd_in (tb1 (List.mem_of_getElem? (i := 214) rfl)) rfl, List.forall_mem_cons.mpr ⟨lw_gd_in (tb1 (List.mem_of_getElem? (i := 216) rfl)) rfl, List.forall_mem_cons.mpr ⟨lw_gd_in (tb1 (List.mem_of_getElem? (i := 218) rfl)) rfl, fun _ h => absurd h List.not_mem_nil⟩⟩⟩⟩⟩⟩⟩⟩⟩⟩
set_option maxRecDepth 20000 in
theorem iwX7 : ∀ w ∈ u_ws RX7 TX7 2, w ∈ lw_gd := List.forall_mem_cons.mpr ⟨lw_gd_in (tb4 (List.mem_of_getElem? (i := 171) rfl)) rfl, List.forall_mem_cons.mpr ⟨lw_gd_in (tb4 (List.mem_of_getElem? (i := 173) rfl)) rfl, fun _ h => absurd h List.not_mem_nil⟩⟩
set_option maxRecDepth 20000 in
theorem iwX8 : ∀ w ∈ u_ws RX8 TX8 12, w ∈ lw_gd := List.forall_mem_cons.mpr ⟨lw_gd_in (tb2 (List.mem_of_getElem? (i := 64) rfl)) rfl, List.forall_mem_cons.mpr ⟨lw_gd_in (tb2 (List.mem_of_getElem? (i := 66) rfl)) rfl, List.forall_mem_cons.mpr ⟨lw_gd_in (tb2 (List.mem_of_getElem? (i := 68) rfl)) rfl, List.forall_mem_cons.mpr ⟨lw_gd_in (tb2 (List.mem_of_getElem? (i := 70) rfl)) rfl, List.forall_mem_cons.mpr ⟨lw_gd_in (tb2 (List.mem_of_getElem? (i := 72) rfl)) rfl, List.forall_mem_cons.mpr ⟨lw_gd_in (tb2 (List.mem_of_getElem? (i := 74) rfl)) rfl, List.forall_mem_cons.mpr ⟨lw_gd_in (tb2 (List.mem_of_getElem? (i := 76) rfl)) rfl, List.forall_mem_cons.mpr ⟨lw_gd_in (tb2 (List.mem_of_getElem? (i := 78) rfl)) rfl, List.forall_mem_cons.mpr ⟨lw_gd_in (tb2 (List.mem_of_getElem? (i := 80) rfl)) rfl, List.forall_mem_cons.mpr ⟨lw_gd_in (tb2 (List.mem_of_getElem? (i := 82) rfl)) rfl, List.forall_mem_cons.mpr ⟨lw_gd_in (tb2 (List.mem_of_getElem? (i := 84) rfl)) rfl, List.forall_mem_cons.mpr ⟨lw_gd_in (tb2 (List.mem_of_getElem? (i := 86) rfl)) rfl, fun _ h => absurd h List.not_mem_nil⟩⟩⟩⟩⟩⟩⟩⟩⟩⟩⟩⟩
set_option maxRecDepth 20000 in
theorem iwX9 : ∀ w ∈ u_ws RX9 TX9 40, w ∈ lw_gd := List.forall_mem_cons.mpr ⟨lw_gd_in (tb5 (List.mem_of_getElem? (i := 80) rfl)) rfl, List.forall_mem_cons.mpr ⟨lw_gd_in (tb5 (List.mem_of_getElem? (i := 82) rfl)) rfl, List.forall_mem_cons.mpr ⟨lw_gd_in (tb5 (List.mem_of_getElem? (i := 84) rfl)) rfl, List.forall_mem_cons.mpr ⟨lw_gd_in (tb5 (List.mem_of_getElem? (i := 86) rfl)) rfl, List.forall_mem_cons.mpr ⟨lw_gd_in (tb5 (List.mem_of_getElem? (i := 88) rfl)) rfl, List.forall_mem_cons.mpr ⟨lw_gd_in (tb5 (List.mem_of_getElem? (i := 90) rfl)) rfl, List.forall_mem_cons.mpr ⟨lw_gd_in (tb5 (List.mem_of_getElem? (i := 92) rfl)) rfl, List.forall_mem_cons.mpr ⟨lw_gd_in (tb5 (List.mem_of_getElem? (i := 94) rfl)) rfl, List.forall_mem_cons.mpr ⟨lw_gd_in (tb5 (List.mem_of_getElem? (i := 96) rfl)) rfl, List.forall_mem_cons.mpr ⟨lw_gd_in (tb5 (List.mem_of_getElem? (i := 98) rfl)) rfl, List.forall_mem_cons.mpr ⟨lw_gd_in (tb5 (List.mem_of_getElem? (i := 100) rfl)) rfl, List.forall_mem_cons.mpr ⟨lw_gd_in (tb5 (List.mem_of_getElem? (i := 102) rfl)) rfl, List.forall_mem_cons.mpr ⟨lw_gd_in (tb5 (List.mem_of_getElem? (i := 104) rfl)) rfl, List.forall_mem_cons.mpr ⟨lw_gd_in (tb5 (List.mem_of_getElem? (i := 106) rfl)) rfl, List.forall_mem_cons.mpr ⟨lw_gd_in (tb5 (List.mem_of_getElem? (i := 108) rfl)) rfl, List.forall_mem_cons.mpr ⟨lw_gd_in (tb5 (List.mem_of_getElem? (i := 110) rfl)) rfl, List.forall_mem_cons.mpr ⟨lw_gd_in (tb5 (List.mem_of_getElem? (i := 112) rfl)) rfl, List.forall_mem_cons.mpr ⟨lw_gd_in (tb5 (List.mem_of_getElem? (i := 114) rfl)) rfl, List.forall_mem_cons.mpr ⟨lw_gd_in (tb5 (List.mem_of_getElem? (i := 116) rfl)) rfl, List.forall_mem_cons.mpr ⟨lw_gd_in (tb5 (List.mem_of_getElem? (i := 118) rfl)) rfl, List.forall_mem_cons.mpr ⟨lw_gd_in (tb5 (List.mem_of_getElem? (i := 120) rfl)) rfl, List.forall_mem_cons.mpr ⟨lw_gd_in (tb5 (List.mem_of_getElem? (i := 122) rfl)) rfl, List.forall_mem_cons.mpr ⟨lw_gd_in (tb5 (List.mem_of_getElem? (i := 124) rfl)) rfl, List.forall_mem_cons.mpr ⟨lw_gd_in (tb5 (List.mem_of_getElem? (i := 126) rfl)) rfl, List.forall_mem_cons.mpr ⟨lw_gd_in (tb5 (List.mem_of_getElem? (i := 128) rfl)) rfl, List.forall_mem_cons.mpr ⟨lw_gd_in (tb5 (List.mem_of_getElem? (i := 130) rfl)) rfl, List.forall_mem_cons.mpr ⟨lw_gd_in (tb5 (List.mem_of_getElem? (i := 132) rfl)) rfl, List.forall_mem_cons.mpr ⟨lw_gd_in (tb5 (List.mem_of_getElem? (i := 134) rfl)) rfl, List.forall_mem_cons.mpr ⟨lw_gd_in (tb5 (List.mem_of_getElem? (i := 136) rfl)) rfl, List.forall_mem_cons.mpr ⟨lw_gd_in (tb5 (List.mem_of_getElem? (i := 138) rfl)) rfl, List.forall_mem_cons.mpr ⟨lw_gd_in (tb5 (List.mem_of_getElem? (i := 140) rfl)) rfl, List.forall_mem_cons.mpr ⟨lw_gd_in (tb5 (List.mem_of_getElem? (i := 142) rfl)) rfl, List.forall_mem_cons.mpr ⟨lw_gd_in (tb5 (List.mem_of_getElem? (i := 144) rfl)) rfl, List.forall_mem_cons.mpr ⟨lw_gd_in (tb5 (List.mem_of_getElem? (i := 146) rfl)) rfl, List.forall_mem_cons.mpr ⟨lw_gd_in (tb5 (List.mem_of_getElem? (i := 148) rfl)) rfl, List.forall_mem_cons.mpr ⟨lw_gd_in (tb5 (List.mem_of_getElem? (i := 150) rfl)) rfl, List.forall_mem_cons.mpr ⟨lw_gd_in (tb5 (List.mem_of_getElem? (i := 152) rfl)) rfl, List.forall_mem_cons.mpr ⟨lw_gd_in (tb5 (List.mem_of_getElem? (i := 154) rfl)) rfl, List.forall_mem_cons.mpr ⟨lw_gd_in (tb5 (List.mem_of_getElem? (i := 156) rfl)) rfl, List.forall_mem_cons.mpr ⟨lw_gd_in (tb5 (List.mem_of_getElem? (i := 158) rfl)) rfl, fun _ h => absurd h List.not_mem_nil⟩⟩⟩⟩⟩⟩⟩⟩⟩⟩⟩⟩⟩⟩⟩⟩⟩⟩⟩⟩⟩⟩⟩⟩⟩⟩⟩⟩⟩⟩⟩⟩⟩⟩⟩⟩⟩⟩⟩⟩
set_option maxRecDepth 20000 in
theorem mwX8_init : Mw yX8_init cX8_init 1 none 0 := ⟨lw_gd_in (tb1 (List.mem_of_getElem? (i := 23) rfl)) rfl, inX8, ⟨by decide +kernel, by decide +kernel⟩, by decide +kernel, Nat.le_of_ble_eq_true rfl⟩
theorem miX8_init : Cond.instanceMethod yX8_init ∈ lw_gd := lw_gd_in (tb1 (List.mem_of_getElem? (i := 22) rfl)) rfl
set_option maxRecDepth 20000 in
theorem mwX1_init : Mw yX1_init cX1_init 1 none 0 := ⟨lw_gd_in (tb1 (List.mem_of_getElem? (i := 31) rfl)) rfl, inX1, ⟨by decide +kernel, by decide +kernel⟩, by decide +kernel, Nat.le_of_ble_eq_true rfl⟩
theorem miX1_init : Cond.instanceMethod yX1_init ∈ lw_gd := lw_gd_in (tb1 (List.mem_of_getElem? (i := 30) rfl)) rfl
set_option maxRecDepth 20000 in
theorem mwX2_init : Mw yX2_init cX2_init 1 none 0 := ⟨lw_gd_in (tb1 (List.mem_of_getElem? (i := 37) rfl)) rfl, inX2, ⟨by decide +kernel, by decide +kernel⟩, by decide +kernel, Nat.le_of_ble_eq_true rfl⟩
theorem miX2_init : Cond.instanceMethod yX2_init ∈ lw_gd := lw_gd_in (tb1 (List.mem_of_getElem? (i := 36) rfl)) rfl
set_option maxRecDepth 20000 in
theorem mwX3_init : Mw yX3_init cX3_init 1 none 0 := ⟨lw_gd_in (tb1 (List.mem_of_getElem? (i := 88) rfl)) rfl, inX3, ⟨by decide +kernel, by decide +kernel⟩, by decide +kernel, Nat.le_of_ble_eq_true rfl⟩
theorem miX3_init : Cond.instanceMethod yX3_init ∈ lw_gd := lw_gd_in (tb1 (List.mem_of_getElem? (i := 87) rfl)) rfl
set_option maxRecDepth 20000 in
theorem mwJ7_fill_53178 : Mw yJ7_fill_53178 cJ7_fill_53178 4 none 2 := ⟨lw_gd_in (tb1 (List.mem_of_getElem? (i := 129) rfl)) rfl, inJ7, ⟨by decide +kernel, by decide +kernel⟩, by decide +kernel, Nat.le_of_ble_eq_true rfl⟩
set_option maxRecDepth 20000 in
theorem mwX6_init : Mw yX6_init cX6_init 2 none 0 := ⟨lw_gd_in (tb1 (List.mem_of_getElem? (i := 178) rfl)) rfl, inX6, ⟨by decide +kernel, by decide +kernel⟩, by decide +kernel, Nat.le_of_ble_eq_true rfl⟩
theorem miX6_init : Cond.instanceMethod yX6_init ∈ lw_gd := lw_gd_in (tb1 (List.mem_of_getElem? (i := 177) rfl)) rfl
set_option maxRecDepth 20000 in
theorem mwX5_init : Mw yX5_init cX5_init 1 none 0 := ⟨lw_gd_in (tb1 (List.mem_of_getElem? (i := 225) rfl)) rfl, inX5, ⟨by decide +kernel, by decide +kernel⟩, by decide +kernel, Nat.le_of_ble_eq_true rfl⟩
theorem miX5_init : Cond.instanceMethod yX5_init ∈ lw_gd := lw_gd_in (tb1 (List.mem_of_getElem? (i := 224) rfl)) rfl
set_option maxRecDepth 20000 in
theorem mwX0_init : Mw yX0_init cX0_init 1 none 0 := ⟨lw_gd_in (tb2 (List.mem_of_getElem? (i := 28) rfl)) rfl, inX0, ⟨by decide +kernel, by decide +kernel⟩, by decide +kernel, Nat.le_of_ble_eq_true rfl⟩
theorem miX0_init : Cond.instanceMethod yX0_init ∈ lw_gd := lw_gd_in (tb2 (List.mem_of_getElem? (i := 27) rfl)) rfl
set_option maxRecDepth 20000 in
theorem mwX8_thing : Mw yX8_thing cX8_thing 7 (some .int) 4 := ⟨lw_gd_in (tb2 (List.mem_of_getElem? (i := 92) rfl)) rfl, inX8, ⟨by decide +kernel, by decide +kernel⟩, by decide +kernel, Nat.le_of_ble_eq_true rfl⟩
theorem miX8_thing : Mi RX8 yX8_thing := ⟨lw_gd_in (tb2 (List.mem_of_getElem? (i := 90) rfl)) rfl, lw_gd_in (tb2 (List.mem_of_getElem? (i := 91) rfl)) rfl⟩
set_option maxRecDepth 20000 in
theorem mwX8_within : Mw yX8_within cX8_within 3 (some .boolean) 3 := ⟨lw_gd_in (tb2 (List.mem_of_getElem? (i := 95) rfl)) rfl, inX8, ⟨by decide +kernel, by decide +kernel⟩, by decide +kernel, Nat.le_of_ble_eq_true rfl⟩
set_option maxRecDepth 20000 in
theorem mwX2_setFlat : Mw yX2_setFlat cX2_setFlat 3 none 2 := ⟨lw_gd_in (tb2 (List.mem_of_getElem? (i := 99) rfl)) rfl, inX2, ⟨by decide +kernel, by decide +kernel⟩, by decide +kernel, Nat.le_of_ble_eq_true rfl⟩
theorem miX2_setFlat : Mi RX2 yX2_setFlat := ⟨lw_gd_in (tb2 (List.mem_of_getElem? (i := 97) rfl)) rfl, lw_gd_in (tb2 (List.mem_of_getElem? (i := 98) rfl)) rfl⟩
set_option maxRecDepth 20000 in
theorem mwX8_thingOf : Mw yX8_thingOf cX8_thingOf 4 (some .int) 2 := ⟨lw_gd_in (tb2 (List.mem_of_getElem? (i := 103) rfl)) rfl, inX8, ⟨by decide +kernel, by decide +kernel⟩, by decide +kernel, Nat.le_of_ble_eq_true rfl⟩
theorem miX8_thingOf : Mi RX8 yX8_thingOf := ⟨lw_gd_in (tb2 (List.mem_of_getElem? (i := 101) rfl)) rfl, lw_gd_in (tb2 (List.mem_of_getElem? (i := 102) rfl)) rfl⟩
set_option maxRecDepth 20000 in
theorem mwX8_isThing : Mw yX8_isThing cX8_isThing 2 (some .boolean) 1 := ⟨lw_gd_in (tb2 (List.mem_of_getElem? (i := 107) rfl)) rfl, inX8, ⟨by decide +kernel, by decide +kernel⟩, by decide +kernel, Nat.le_of_ble_eq_true rfl⟩
theorem miX8_isThing : Mi RX8 yX8_isThing := ⟨lw_gd_in (tb2 (List.mem_of_getElem? (i := 106) rfl)) rfl, lw_gd_in (tbs (List.mem_of_getElem? (i := 0) rfl)) rfl⟩
set_option maxRecDepth 20000 in
theorem mwX2_isFlat : Mw yX2_isFlat cX2_isFlat 2 (some .boolean) 1 := ⟨lw_gd_in (tb2 (List.mem_of_getElem? (i := 111) rfl)) rfl, inX2, ⟨by decide +kernel, by decide +kernel⟩, by decide +kernel, Nat.le_of_ble_eq_true rfl⟩
theorem miX2_isFlat : Mi RX2 yX2_isFlat := ⟨lw_gd_in (tb2 (List.mem_of_getElem? (i := 109) rfl)) rfl, lw_gd_in (tb2 (List.mem_of_getElem? (i := 110) rfl)) rfl⟩
set_option maxRecDepth 20000 in
theorem mwX1_sighNow : Mw yX1_sighNow cX1_sighNow 2 (some .int) 1 := ⟨lw_gd_in (tb2 (List.mem_of_getElem? (i := 115) rfl)) rfl, inX1, ⟨by decide +kernel, by decide +kernel⟩, by decide +kernel, Nat.le_of_ble_eq_true rfl⟩
theorem miX1_sighNow : Mi RX1 yX1_sighNow := ⟨lw_gd_in (tb2 (List.mem_of_getElem? (i := 113) rfl)) rfl, lw_gd_in (tb2 (List.mem_of_getElem? (i := 114) rfl)) rfl⟩
set_option maxRecDepth 20000 in
theorem mwX1_ironAt : Mw yX1_ironAt cX1_ironAt 2 (some .int) 1 := ⟨lw_gd_in (tb2 (List.mem_of_getElem? (i := 119) rfl)) rfl, inX1, ⟨by decide +kernel, by decide +kernel⟩, by decide +kernel, Nat.le_of_ble_eq_true rfl⟩
theorem miX1_ironAt : Mi RX1 yX1_ironAt := ⟨lw_gd_in (tb2 (List.mem_of_getElem? (i := 117) rfl)) rfl, lw_gd_in (tb2 (List.mem_of_getElem? (i := 118) rfl)) rfl⟩
set_option maxRecDepth 20000 in
theorem mwX1_swells : Mw yX1_swells cX1_swells 5 (some .int) 3 := ⟨lw_gd_in (tb2 (List.mem_of_getElem? (i := 123) rfl)) rfl, inX1, ⟨by decide +kernel, by decide +kernel⟩, by decide +kernel, Nat.le_of_ble_eq_true rfl⟩
theorem miX1_swells : Mi RX1 yX1_swells := ⟨lw_gd_in (tb2 (List.mem_of_getElem? (i := 121) rfl)) rfl, lw_gd_in (tb2 (List.mem_of_getElem? (i := 122) rfl)) rfl⟩
set_option maxRecDepth 20000 in
theorem mwX8_swelling : Mw yX8_swelling cX8_swelling 5 (some .int) 4 := ⟨lw_gd_in (tb2 (List.mem_of_getElem? (i := 126) rfl)) rfl, inX8, ⟨by decide +kernel, by decide +kernel⟩, by decide +kernel, Nat.le_of_ble_eq_true rfl⟩
set_option maxRecDepth 20000 in
theorem mwJ9_max_7cf53 : Mw yJ9_max_7cf53 cJ9_max_7cf53 2 (some .int) 2 := ⟨lw_gd_in (tb2 (List.mem_of_getElem? (i := 129) rfl)) rfl, inJ9, ⟨by decide +kernel, by decide +kernel⟩, by decide +kernel, Nat.le_of_ble_eq_true rfl⟩
set_option maxRecDepth 20000 in
theorem mwX8_needing : Mw yX8_needing cX8_needing 4 (some .int) 3 := ⟨lw_gd_in (tb2 (List.mem_of_getElem? (i := 133) rfl)) rfl, inX8, ⟨by decide +kernel, by decide +kernel⟩, by decide +kernel, Nat.le_of_ble_eq_true rfl⟩
set_option maxRecDepth 20000 in
theorem mwX1_steamNow : Mw yX1_steamNow cX1_steamNow 2 (some .int) 1 := ⟨lw_gd_in (tb2 (List.mem_of_getElem? (i := 137) rfl)) rfl, inX1, ⟨by decide +kernel, by decide +kernel⟩, by decide +kernel, Nat.le_of_ble_eq_true rfl⟩
theorem miX1_steamNow : Mi RX1 yX1_steamNow := ⟨lw_gd_in (tb2 (List.mem_of_getElem? (i := 135) rfl)) rfl, lw_gd_in (tb2 (List.mem_of_getElem? (i := 136) rfl)) rfl⟩
set_option maxRecDepth 20000 in
theorem mwX1_pays : Mw yX1_pays cX1_pays 6 (some .int) 3 := ⟨lw_gd_in (tb2 (List.mem_of_getElem? (i := 141) rfl)) rfl, inX1, ⟨by decide +kernel, by decide +kernel⟩, by decide +kernel, Nat.le_of_ble_eq_true rfl⟩
theorem miX1_pays : Mi RX1 yX1_pays := ⟨lw_gd_in (tb2 (List.mem_of_getElem? (i := 139) rfl)) rfl, lw_gd_in (tb2 (List.mem_of_getElem? (i := 140) rfl)) rfl⟩
set_option maxRecDepth 20000 in
theorem mwX2_flatOn : Mw yX2_flatOn cX2_flatOn 4 (some .int) 1 := ⟨lw_gd_in (tb2 (List.mem_of_getElem? (i := 146) rfl)) rfl, inX2, ⟨by decide +kernel, by decide +kernel⟩, by decide +kernel, Nat.le_of_ble_eq_true rfl⟩
theorem miX2_flatOn : Mi RX2 yX2_flatOn := ⟨lw_gd_in (tb2 (List.mem_of_getElem? (i := 144) rfl)) rfl, lw_gd_in (tb2 (List.mem_of_getElem? (i := 145) rfl)) rfl⟩
set_option maxRecDepth 20000 in
theorem mwX1_mayBePressed : Mw yX1_mayBePressed cX1_mayBePressed 4 (some .boolean) 3 := ⟨lw_gd_in (tb2 (List.mem_of_getElem? (i := 152) rfl)) rfl, inX1, ⟨by decide +kernel, by decide +kernel⟩, by decide +kernel, Nat.le_of_ble_eq_true rfl⟩
theorem miX1_mayBePressed : Mi RX1 yX1_mayBePressed := ⟨lw_gd_in (tb2 (List.mem_of_getElem? (i := 150) rfl)) rfl, lw_gd_in (tb2 (List.mem_of_getElem? (i := 151) rfl)) rfl⟩
set_option maxRecDepth 20000 in
theorem mwX1_will : Mw yX1_will cX1_will 6 (some .int) 3 := ⟨lw_gd_in (tb2 (List.mem_of_getElem? (i := 157) rfl)) rfl, inX1, ⟨by decide +kernel, by decide +kernel⟩, by decide +kernel, Nat.le_of_ble_eq_true rfl⟩
theorem miX1_will : Mi RX1 yX1_will := ⟨lw_gd_in (tb2 (List.mem_of_getElem? (i := 155) rfl)) rfl, lw_gd_in (tb2 (List.mem_of_getElem? (i := 156) rfl)) rfl⟩
set_option maxRecDepth 20000 in
theorem mwX8_isOrIsUnder : Mw yX8_isOrIsUnder cX8_isOrIsUnder 4 (some .boolean) 2 := ⟨lw_gd_in (tb2 (List.mem_of_getElem? (i := 160) rfl)) rfl, inX8, ⟨by decide +kernel, by decide +kernel⟩, by decide +kernel, Nat.le_of_ble_eq_true rfl⟩
set_option maxRecDepth 20000 in
theorem mwX4_holds : Mw yX4_holds cX4_holds 9 (some .boolean) 3 := ⟨lw_gd_in (tb2 (List.mem_of_getElem? (i := 166) rfl)) rfl, inX4, ⟨by decide +kernel, by decide +kernel⟩, by decide +kernel, Nat.le_of_ble_eq_true rfl⟩
theorem miX4_holds : Mi RX4 yX4_holds := ⟨lw_gd_in (tb2 (List.mem_of_getElem? (i := 164) rfl)) rfl, lw_gd_in (tb2 (List.mem_of_getElem? (i := 165) rfl)) rfl⟩
set_option maxRecDepth 20000 in
theorem mwX4_valueOf : Mw yX4_valueOf cX4_valueOf 4 (some .int) 4 := ⟨lw_gd_in (tb2 (List.mem_of_getElem? (i := 169) rfl)) rfl, inX4, ⟨by decide +kernel, by decide +kernel⟩, by decide +kernel, Nat.le_of_ble_eq_true rfl⟩
set_option maxRecDepth 20000 in
theorem mwX4_compares : Mw yX4_compares cX4_compares 3 (some .boolean) 3 := ⟨lw_gd_in (tb2 (List.mem_of_getElem? (i := 172) rfl)) rfl, inX4, ⟨by decide +kernel, by decide +kernel⟩, by decide +kernel, Nat.le_of_ble_eq_true rfl⟩
set_option maxRecDepth 20000 in
theorem mwX8_change : Mw yX8_change cX8_change 6 (some .int) 3 := ⟨lw_gd_in (tb2 (List.mem_of_getElem? (i := 177) rfl)) rfl, inX8, ⟨by decide +kernel, by decide +kernel⟩, by decide +kernel, Nat.le_of_ble_eq_true rfl⟩
theorem miX8_change : Mi RX8 yX8_change := ⟨lw_gd_in (tb2 (List.mem_of_getElem? (i := 175) rfl)) rfl, lw_gd_in (tb2 (List.mem_of_getElem? (i := 176) rfl)) rfl⟩
set_option maxRecDepth 20000 in
theorem mwX8_putWithin : Mw yX8_putWithin cX8_putWithin 5 (some .int) 4 := ⟨lw_gd_in (tb2 (List.mem_of_getElem? (i := 180) rfl)) rfl, inX8, ⟨by decide +kernel, by decide +kernel⟩, by decide +kernel, Nat.le_of_ble_eq_true rfl⟩
set_option maxRecDepth 20000 in
theorem mwX8_remake : Mw yX8_remake cX8_remake 3 (some .int) 2 := ⟨lw_gd_in (tb2 (List.mem_of_getElem? (i := 184) rfl)) rfl, inX8, ⟨by decide +kernel, by decide +kernel⟩, by decide +kernel, Nat.le_of_ble_eq_true rfl⟩
theorem miX8_remake : Mi RX8 yX8_remake := ⟨lw_gd_in (tb2 (List.mem_of_getElem? (i := 182) rfl)) rfl, lw_gd_in (tb2 (List.mem_of_getElem? (i := 183) rfl)) rfl⟩
set_option maxRecDepth 20000 in
theorem mwX8_iron : Mw yX8_iron cX8_iron 3 (some .int) 2 := ⟨lw_gd_in (tb2 (List.mem_of_getElem? (i := 188) rfl)) rfl, inX8, ⟨by decide +kernel, by decide +kernel⟩, by decide +kernel, Nat.le_of_ble_eq_true rfl⟩
theorem miX8_iron : Mi RX8 yX8_iron := ⟨lw_gd_in (tb2 (List.mem_of_getElem? (i := 186) rfl)) rfl, lw_gd_in (tb2 (List.mem_of_getElem? (i := 187) rfl)) rfl⟩
set_option maxRecDepth 20000 in
theorem mwX8_board : Mw yX8_board cX8_board 4 (some .int) 3 := ⟨lw_gd_in (tb2 (List.mem_of_getElem? (i := 192) rfl)) rfl, inX8, ⟨by decide +kernel, by decide +kernel⟩, by decide +kernel, Nat.le_of_ble_eq_true rfl⟩
theorem miX8_board : Mi RX8 yX8_board := ⟨lw_gd_in (tb2 (List.mem_of_getElem? (i := 190) rfl)) rfl, lw_gd_in (tb2 (List.mem_of_getElem? (i := 191) rfl)) rfl⟩
set_option maxRecDepth 20000 in
theorem mwX8_boardOf : Mw yX8_boardOf cX8_boardOf 3 (some .int) 2 := ⟨lw_gd_in (tb2 (List.mem_of_getElem? (i := 196) rfl)) rfl, inX8, ⟨by decide +kernel, by decide +kernel⟩, by decide +kernel, Nat.le_of_ble_eq_true rfl⟩
theorem miX8_boardOf : Mi RX8 yX8_boardOf := ⟨lw_gd_in (tb2 (List.mem_of_getElem? (i := 194) rfl)) rfl, lw_gd_in (tb2 (List.mem_of_getElem? (i := 195) rfl)) rfl⟩
set_option maxRecDepth 20000 in
theorem mwX8_ends : Mw yX8_ends cX8_ends 3 (some .int) 1 := ⟨lw_gd_in (tb2 (List.mem_of_getElem? (i := 200) rfl)) rfl, inX8, ⟨by decide +kernel, by decide +kernel⟩, by decide +kernel, Nat.le_of_ble_eq_true rfl⟩
theorem miX8_ends : Mi RX8 yX8_ends := ⟨lw_gd_in (tb2 (List.mem_of_getElem? (i := 198) rfl)) rfl, lw_gd_in (tb2 (List.mem_of_getElem? (i := 199) rfl)) rfl⟩
set_option maxRecDepth 20000 in
theorem mwX8_anew : Mw yX8_anew cX8_anew 2 (some .int) 0 := ⟨lw_gd_in (tb2 (List.mem_of_getElem? (i := 204) rfl)) rfl, inX8, ⟨by decide +kernel, by decide +kernel⟩, by decide +kernel, Nat.le_of_ble_eq_true rfl⟩
theorem miX8_anew : Mi RX8 yX8_anew := ⟨lw_gd_in (tb2 (List.mem_of_getElem? (i := 202) rfl)) rfl, lw_gd_in (tb2 (List.mem_of_getElem? (i := 203) rfl)) rfl⟩
set_option maxRecDepth 20000 in
theorem mwX8_state : Mw yX8_state cX8_state 2 (some .int) 1 := ⟨lw_gd_in (tb2 (List.mem_of_getElem? (i := 208) rfl)) rfl, inX8, ⟨by decide +kernel, by decide +kernel⟩, by decide +kernel, Nat.le_of_ble_eq_true rfl⟩
theorem miX8_state : Mi RX8 yX8_state := ⟨lw_gd_in (tb2 (List.mem_of_getElem? (i := 206) rfl)) rfl, lw_gd_in (tb2 (List.mem_of_getElem? (i := 207) rfl)) rfl⟩
set_option maxRecDepth 20000 in
theorem mwX1_isOver : Mw yX1_isOver cX1_isOver 2 (some .boolean) 1 := ⟨lw_gd_in (tb2 (List.mem_of_getElem? (i := 212) rfl)) rfl, inX1, ⟨by decide +kernel, by decide +kernel⟩, by decide +kernel, Nat.le_of_ble_eq_true rfl⟩
theorem miX1_isOver : Mi RX1 yX1_isOver := ⟨lw_gd_in (tb2 (List.mem_of_getElem? (i := 210) rfl)) rfl, lw_gd_in (tb2 (List.mem_of_getElem? (i := 211) rfl)) rfl⟩
set_option maxRecDepth 20000 in
theorem mwX2_bulkOfAll : Mw yX2_bulkOfAll cX2_bulkOfAll 3 (some .int) 0 := ⟨lw_gd_in (tb2 (List.mem_of_getElem? (i := 217) rfl)) rfl, inX2, ⟨by decide +kernel, by decide +kernel⟩, by decide +kernel, Nat.le_of_ble_eq_true rfl⟩
theorem miX2_bulkOfAll : Mi RX2 yX2_bulkOfAll := ⟨lw_gd_in (tb2 (List.mem_of_getElem? (i := 215) rfl)) rfl, lw_gd_in (tb2 (List.mem_of_getElem? (i := 216) rfl)) rfl⟩
set_option maxRecDepth 20000 in
theorem mwX8_feed : Mw yX8_feed cX8_feed 4 (some .int) 2 := ⟨lw_gd_in (tb2 (List.mem_of_getElem? (i := 221) rfl)) rfl, inX8, ⟨by decide +kernel, by decide +kernel⟩, by decide +kernel, Nat.le_of_ble_eq_true rfl⟩
theorem miX8_feed : Mi RX8 yX8_feed := ⟨lw_gd_in (tb2 (List.mem_of_getElem? (i := 219) rfl)) rfl, lw_gd_in (tb2 (List.mem_of_getElem? (i := 220) rfl)) rfl⟩
set_option maxRecDepth 20000 in
theorem mwX5_take : Mw yX5_take cX5_take 5 (some .int) 2 := ⟨lw_gd_in (tb2 (List.mem_of_getElem? (i := 225) rfl)) rfl, inX5, ⟨by decide +kernel, by decide +kernel⟩, by decide +kernel, Nat.le_of_ble_eq_true rfl⟩
theorem miX5_take : Mi RX5 yX5_take := ⟨lw_gd_in (tb2 (List.mem_of_getElem? (i := 223) rfl)) rfl, lw_gd_in (tb2 (List.mem_of_getElem? (i := 224) rfl)) rfl⟩
set_option maxRecDepth 20000 in
theorem mwX8_rules : Mw yX8_rules cX8_rules 3 (some .int) 0 := ⟨lw_gd_in (tb2 (List.mem_of_getElem? (i := 230) rfl)) rfl, inX8, ⟨by decide +kernel, by decide +kernel⟩, by decide +kernel, Nat.le_of_ble_eq_true rfl⟩
theorem miX8_rules : Mi RX8 yX8_rules := ⟨lw_gd_in (tb2 (List.mem_of_getElem? (i := 228) rfl)) rfl, lw_gd_in (tb2 (List.mem_of_getElem? (i := 229) rfl)) rfl⟩
set_option maxRecDepth 20000 in
theorem mwX5_begin : Mw yX5_begin cX5_begin 1 none 0 := ⟨lw_gd_in (tb2 (List.mem_of_getElem? (i := 234) rfl)) rfl, inX5, ⟨by decide +kernel, by decide +kernel⟩, by decide +kernel, Nat.le_of_ble_eq_true rfl⟩
theorem miX5_begin : Mi RX5 yX5_begin := ⟨lw_gd_in (tb2 (List.mem_of_getElem? (i := 232) rfl)) rfl, lw_gd_in (tb2 (List.mem_of_getElem? (i := 233) rfl)) rfl⟩
set_option maxRecDepth 20000 in
theorem mwX5_goOn : Mw yX5_goOn cX5_goOn 1 none 0 := ⟨lw_gd_in (tb2 (List.mem_of_getElem? (i := 238) rfl)) rfl, inX5, ⟨by decide +kernel, by decide +kernel⟩, by decide +kernel, Nat.le_of_ble_eq_true rfl⟩
theorem miX5_goOn : Mi RX5 yX5_goOn := ⟨lw_gd_in (tb2 (List.mem_of_getElem? (i := 237) rfl)) rfl, lw_gd_in (tbs (List.mem_of_getElem? (i := 1) rfl)) rfl⟩
set_option maxRecDepth 20000 in
theorem mwX5_sortAt : Mw yX5_sortAt cX5_sortAt 2 (some .int) 1 := ⟨lw_gd_in (tb3 (List.mem_of_getElem? (i := 2) rfl)) rfl, inX5, ⟨by decide +kernel, by decide +kernel⟩, by decide +kernel, Nat.le_of_ble_eq_true rfl⟩
theorem miX5_sortAt : Mi RX5 yX5_sortAt := ⟨lw_gd_in (tb3 (List.mem_of_getElem? (i := 1) rfl)) rfl, lw_gd_in (tbs (List.mem_of_getElem? (i := 2) rfl)) rfl⟩
set_option maxRecDepth 20000 in
theorem mwX5_placeInWords : Mw yX5_placeInWords cX5_placeInWords 4 (some .int) 0 := ⟨lw_gd_in (tb3 (List.mem_of_getElem? (i := 6) rfl)) rfl, inX5, ⟨by decide +kernel, by decide +kernel⟩, by decide +kernel, Nat.le_of_ble_eq_true rfl⟩
theorem miX5_placeInWords : Mi RX5 yX5_placeInWords := ⟨lw_gd_in (tb3 (List.mem_of_getElem? (i := 5) rfl)) rfl, lw_gd_in (tbs (List.mem_of_getElem? (i := 3) rfl)) rfl⟩
set_option maxRecDepth 20000 in
theorem mwJ0_length_8abf5 : Mw yJ0_length_8abf5 cJ0_length_8abf5 1 (some .int) 0 := ⟨lw_gd_in (tb3 (List.mem_of_getElem? (i := 11) rfl)) rfl, inJ0, ⟨by decide +kernel, by decide +kernel⟩, by decide +kernel, Nat.le_of_ble_eq_true rfl⟩
theorem miJ0_length_8abf5 : Mi RJ0 yJ0_length_8abf5 := ⟨lw_gd_in (tb3 (List.mem_of_getElem? (i := 9) rfl)) rfl, lw_gd_in (tb3 (List.mem_of_getElem? (i := 10) rfl)) rfl⟩
set_option maxRecDepth 20000 in
theorem mwJ0_coder_7d493 : Mw yJ0_coder_7d493 cJ0_coder_7d493 1 (some .byte) 0 := ⟨lw_gd_in (tb3 (List.mem_of_getElem? (i := 15) rfl)) rfl, inJ0, ⟨by decide +kernel, by decide +kernel⟩, by decide +kernel, Nat.le_of_ble_eq_true rfl⟩
theorem miJ0_coder_7d493 : Mi RJ0 yJ0_coder_7d493 := ⟨lw_gd_in (tb3 (List.mem_of_getElem? (i := 13) rfl)) rfl, lw_gd_in (tb3 (List.mem_of_getElem? (i := 14) rfl)) rfl⟩
set_option maxRecDepth 20000 in
theorem mwJ0_charAt_5068e : Mw yJ0_charAt_5068e cJ0_charAt_5068e 2 (some .char) 1 := ⟨lw_gd_in (tb3 (List.mem_of_getElem? (i := 21) rfl)) rfl, inJ0, ⟨by decide +kernel, by decide +kernel⟩, by decide +kernel, Nat.le_of_ble_eq_true rfl⟩
theorem miJ0_charAt_5068e : Mi RJ0 yJ0_charAt_5068e := ⟨lw_gd_in (tb3 (List.mem_of_getElem? (i := 19) rfl)) rfl, lw_gd_in (tb3 (List.mem_of_getElem? (i := 20) rfl)) rfl⟩
set_option maxRecDepth 20000 in
theorem mwJ0_isLatin1_aae02 : Mw yJ0_isLatin1_aae02 cJ0_isLatin1_aae02 1 (some .boolean) 0 := ⟨lw_gd_in (tb3 (List.mem_of_getElem? (i := 25) rfl)) rfl, inJ0, ⟨by decide +kernel, by decide +kernel⟩, by decide +kernel, Nat.le_of_ble_eq_true rfl⟩
theorem miJ0_isLatin1_aae02 : Mi RJ0 yJ0_isLatin1_aae02 := ⟨lw_gd_in (tb3 (List.mem_of_getElem? (i := 23) rfl)) rfl, lw_gd_in (tb3 (List.mem_of_getElem? (i := 24) rfl)) rfl⟩
set_option maxRecDepth 20000 in
theorem mwJ1_charAt_3b067 : Mw yJ1_charAt_3b067 cJ1_charAt_3b067 2 (some .char) 2 := ⟨lw_gd_in (tb3 (List.mem_of_getElem? (i := 28) rfl)) rfl, inJ1, ⟨by decide +kernel, by decide +kernel⟩, by decide +kernel, Nat.le_of_ble_eq_true rfl⟩
set_option maxRecDepth 20000 in
theorem mwJ0_checkIndex_df160 : Mw yJ0_checkIndex_df160 cJ0_checkIndex_df160 2 none 2 := ⟨lw_gd_in (tb3 (List.mem_of_getElem? (i := 31) rfl)) rfl, inJ0, ⟨by decide +kernel, by decide +kernel⟩, by decide +kernel, Nat.le_of_ble_eq_true rfl⟩
set_option maxRecDepth 20000 in
theorem mwJ3_checkIndex_8e157 : Mw yJ3_checkIndex_8e157 cJ3_checkIndex_8e157 3 (some .int) 3 := ⟨lw_gd_in (tb3 (List.mem_of_getElem? (i := 36) rfl)) rfl, inJ3, ⟨by decide +kernel, by decide +kernel⟩, by decide +kernel, Nat.le_of_ble_eq_true rfl⟩
set_option maxRecDepth 20000 in
theorem mwJ2_charAt_3b067 : Mw yJ2_charAt_3b067 cJ2_charAt_3b067 2 (some .char) 2 := ⟨lw_gd_in (tb3 (List.mem_of_getElem? (i := 39) rfl)) rfl, inJ2, ⟨by decide +kernel, by decide +kernel⟩, by decide +kernel, Nat.le_of_ble_eq_true rfl⟩
set_option maxRecDepth 20000 in
theorem mwJ2_checkIndex_2214a : Mw yJ2_checkIndex_2214a cJ2_checkIndex_2214a 2 none 2 := ⟨lw_gd_in (tb3 (List.mem_of_getElem? (i := 42) rfl)) rfl, inJ2, ⟨by decide +kernel, by decide +kernel⟩, by decide +kernel, Nat.le_of_ble_eq_true rfl⟩
set_option maxRecDepth 20000 in
theorem mwJ2_length_9d52b : Mw yJ2_length_9d52b cJ2_length_9d52b 1 (some .int) 1 := ⟨lw_gd_in (tb3 (List.mem_of_getElem? (i := 45) rfl)) rfl, inJ2, ⟨by decide +kernel, by decide +kernel⟩, by decide +kernel, Nat.le_of_ble_eq_true rfl⟩
set_option maxRecDepth 20000 in
theorem mwJ2_getChar_3b067 : Mw yJ2_getChar_3b067 cJ2_getChar_3b067 2 (some .char) 2 := ⟨lw_gd_in (tb3 (List.mem_of_getElem? (i := 49) rfl)) rfl, inJ2, ⟨by decide +kernel, by decide +kernel⟩, by decide +kernel, Nat.le_of_ble_eq_true rfl⟩
set_option maxRecDepth 20000 in
theorem mwX5_isAtEnd : Mw yX5_isAtEnd cX5_isAtEnd 1 (some .boolean) 0 := ⟨lw_gd_in (tb3 (List.mem_of_getElem? (i := 59) rfl)) rfl, inX5, ⟨by decide +kernel, by decide +kernel⟩, by decide +kernel, Nat.le_of_ble_eq_true rfl⟩
theorem miX5_isAtEnd : Mi RX5 yX5_isAtEnd := ⟨lw_gd_in (tb3 (List.mem_of_getElem? (i := 57) rfl)) rfl, lw_gd_in (tb3 (List.mem_of_getElem? (i := 58) rfl)) rfl⟩
set_option maxRecDepth 20000 in
theorem mwX5_readRule : Mw yX5_readRule cX5_readRule 3 (some .boolean) 0 := ⟨lw_gd_in (tb3 (List.mem_of_getElem? (i := 63) rfl)) rfl, inX5, ⟨by decide +kernel, by decide +kernel⟩, by decide +kernel, Nat.le_of_ble_eq_true rfl⟩
theorem miX5_readRule : Mi RX5 yX5_readRule := ⟨lw_gd_in (tb3 (List.mem_of_getElem? (i := 61) rfl)) rfl, lw_gd_in (tb3 (List.mem_of_getElem? (i := 62) rfl)) rfl⟩
set_option maxRecDepth 20000 in
theorem mwX5_isWord : Mw yX5_isWord cX5_isWord 3 (some .boolean) 2 := ⟨lw_gd_in (tb3 (List.mem_of_getElem? (i := 67) rfl)) rfl, inX5, ⟨by decide +kernel, by decide +kernel⟩, by decide +kernel, Nat.le_of_ble_eq_true rfl⟩
theorem miX5_isWord : Mi RX5 yX5_isWord := ⟨lw_gd_in (tb3 (List.mem_of_getElem? (i := 66) rfl)) rfl, lw_gd_in (tbs (List.mem_of_getElem? (i := 4) rfl)) rfl⟩
set_option maxRecDepth 20000 in
theorem mwX5_readCondition : Mw yX5_readCondition cX5_readCondition 4 (some .boolean) 1 := ⟨lw_gd_in (tb3 (List.mem_of_getElem? (i := 71) rfl)) rfl, inX5, ⟨by decide +kernel, by decide +kernel⟩, by decide +kernel, Nat.le_of_ble_eq_true rfl⟩
theorem miX5_readCondition : Mi RX5 yX5_readCondition := ⟨lw_gd_in (tb3 (List.mem_of_getElem? (i := 70) rfl)) rfl, lw_gd_in (tbs (List.mem_of_getElem? (i := 5) rfl)) rfl⟩
set_option maxRecDepth 20000 in
theorem mwX5_readAllOf : Mw yX5_readAllOf cX5_readAllOf 4 (some .boolean) 1 := ⟨lw_gd_in (tb3 (List.mem_of_getElem? (i := 75) rfl)) rfl, inX5, ⟨by decide +kernel, by decide +kernel⟩, by decide +kernel, Nat.le_of_ble_eq_true rfl⟩
theorem miX5_readAllOf : Mi RX5 yX5_readAllOf := ⟨lw_gd_in (tb3 (List.mem_of_getElem? (i := 74) rfl)) rfl, lw_gd_in (tbs (List.mem_of_getElem? (i := 6) rfl)) rfl⟩
set_option maxRecDepth 20000 in
theorem mwX5_readOne : Mw yX5_readOne cX5_readOne 4 (some .boolean) 1 := ⟨lw_gd_in (tb3 (List.mem_of_getElem? (i := 79) rfl)) rfl, inX5, ⟨by decide +kernel, by decide +kernel⟩, by decide +kernel, Nat.le_of_ble_eq_true rfl⟩
theorem miX5_readOne : Mi RX5 yX5_readOne := ⟨lw_gd_in (tb3 (List.mem_of_getElem? (i := 78) rfl)) rfl, lw_gd_in (tbs (List.mem_of_getElem? (i := 7) rfl)) rfl⟩
set_option maxRecDepth 20000 in
theorem mwX5_isSign : Mw yX5_isSign cX5_isSign 2 (some .boolean) 1 := ⟨lw_gd_in (tb3 (List.mem_of_getElem? (i := 83) rfl)) rfl, inX5, ⟨by decide +kernel, by decide +kernel⟩, by decide +kernel, Nat.le_of_ble_eq_true rfl⟩
theorem miX5_isSign : Mi RX5 yX5_isSign := ⟨lw_gd_in (tb3 (List.mem_of_getElem? (i := 82) rfl)) rfl, lw_gd_in (tbs (List.mem_of_getElem? (i := 8) rfl)) rfl⟩
set_option maxRecDepth 20000 in
theorem mwX5_readInner : Mw yX5_readInner cX5_readInner 2 (some .boolean) 1 := ⟨lw_gd_in (tb3 (List.mem_of_getElem? (i := 87) rfl)) rfl, inX5, ⟨by decide +kernel, by decide +kernel⟩, by decide +kernel, Nat.le_of_ble_eq_true rfl⟩
theorem miX5_readInner : Mi RX5 yX5_readInner := ⟨lw_gd_in (tb3 (List.mem_of_getElem? (i := 86) rfl)) rfl, lw_gd_in (tbs (List.mem_of_getElem? (i := 9) rfl)) rfl⟩
set_option maxRecDepth 20000 in
theorem mwX5_readComparison : Mw yX5_readComparison cX5_readComparison 4 (some .boolean) 0 := ⟨lw_gd_in (tb3 (List.mem_of_getElem? (i := 91) rfl)) rfl, inX5, ⟨by decide +kernel, by decide +kernel⟩, by decide +kernel, Nat.le_of_ble_eq_true rfl⟩
theorem miX5_readComparison : Mi RX5 yX5_readComparison := ⟨lw_gd_in (tb3 (List.mem_of_getElem? (i := 90) rfl)) rfl, lw_gd_in (tbs (List.mem_of_getElem? (i := 10) rfl)) rfl⟩
set_option maxRecDepth 20000 in
theorem mwX5_valueHere : Mw yX5_valueHere cX5_valueHere 3 (some .int) 0 := ⟨lw_gd_in (tb3 (List.mem_of_getElem? (i := 95) rfl)) rfl, inX5, ⟨by decide +kernel, by decide +kernel⟩, by decide +kernel, Nat.le_of_ble_eq_true rfl⟩
theorem miX5_valueHere : Mi RX5 yX5_valueHere := ⟨lw_gd_in (tb3 (List.mem_of_getElem? (i := 94) rfl)) rfl, lw_gd_in (tbs (List.mem_of_getElem? (i := 11) rfl)) rfl⟩
set_option maxRecDepth 20000 in
theorem mwX5_addStep : Mw yX5_addStep cX5_addStep 4 none 3 := ⟨lw_gd_in (tb3 (List.mem_of_getElem? (i := 99) rfl)) rfl, inX5, ⟨by decide +kernel, by decide +kernel⟩, by decide +kernel, Nat.le_of_ble_eq_true rfl⟩
theorem miX5_addStep : Mi RX5 yX5_addStep := ⟨lw_gd_in (tb3 (List.mem_of_getElem? (i := 98) rfl)) rfl, lw_gd_in (tbs (List.mem_of_getElem? (i := 12) rfl)) rfl⟩
set_option maxRecDepth 20000 in
theorem mwJ7_copyOf_59c91 : Mw yJ7_copyOf_59c91 cJ7_copyOf_59c91 3 (some (.array .int)) 2 := ⟨lw_gd_in (tb3 (List.mem_of_getElem? (i := 103) rfl)) rfl, inJ7, ⟨by decide +kernel, by decide +kernel⟩, by decide +kernel, Nat.le_of_ble_eq_true rfl⟩
set_option maxRecDepth 20000 in
theorem mwJ9_min_7cf53 : Mw yJ9_min_7cf53 cJ9_min_7cf53 2 (some .int) 2 := ⟨lw_gd_in (tb3 (List.mem_of_getElem? (i := 113) rfl)) rfl, inJ9, ⟨by decide +kernel, by decide +kernel⟩, by decide +kernel, Nat.le_of_ble_eq_true rfl⟩
set_option maxRecDepth 20000 in
theorem mwX4_init : Mw yX4_init cX4_init 4 none 3 := ⟨lw_gd_in (tb3 (List.mem_of_getElem? (i := 119) rfl)) rfl, inX4, ⟨by decide +kernel, by decide +kernel⟩, by decide +kernel, Nat.le_of_ble_eq_true rfl⟩
theorem miX4_init : Cond.instanceMethod yX4_init ∈ lw_gd := lw_gd_in (tb3 (List.mem_of_getElem? (i := 118) rfl)) rfl
set_option maxRecDepth 20000 in
theorem mwX5_useUp : Mw yX5_useUp cX5_useUp 1 none 0 := ⟨lw_gd_in (tb3 (List.mem_of_getElem? (i := 137) rfl)) rfl, inX5, ⟨by decide +kernel, by decide +kernel⟩, by decide +kernel, Nat.le_of_ble_eq_true rfl⟩
theorem miX5_useUp : Mi RX5 yX5_useUp := ⟨lw_gd_in (tb3 (List.mem_of_getElem? (i := 135) rfl)) rfl, lw_gd_in (tb3 (List.mem_of_getElem? (i := 136) rfl)) rfl⟩
set_option maxRecDepth 20000 in
theorem mwX5_place : Mw yX5_place cX5_place 1 (some .int) 0 := ⟨lw_gd_in (tb3 (List.mem_of_getElem? (i := 141) rfl)) rfl, inX5, ⟨by decide +kernel, by decide +kernel⟩, by decide +kernel, Nat.le_of_ble_eq_true rfl⟩
theorem miX5_place : Mi RX5 yX5_place := ⟨lw_gd_in (tb3 (List.mem_of_getElem? (i := 139) rfl)) rfl, lw_gd_in (tb3 (List.mem_of_getElem? (i := 140) rfl)) rfl⟩
set_option maxRecDepth 20000 in
theorem mwX1_takeRules : Mw yX1_takeRules cX1_takeRules 4 none 2 := ⟨lw_gd_in (tb3 (List.mem_of_getElem? (i := 145) rfl)) rfl, inX1, ⟨by decide +kernel, by decide +kernel⟩, by decide +kernel, Nat.le_of_ble_eq_true rfl⟩
theorem miX1_takeRules : Mi RX1 yX1_takeRules := ⟨lw_gd_in (tb3 (List.mem_of_getElem? (i := 143) rfl)) rfl, lw_gd_in (tb3 (List.mem_of_getElem? (i := 144) rfl)) rfl⟩
set_option maxRecDepth 20000 in
theorem mwX8_wash : Mw yX8_wash cX8_wash 1 (some .int) 0 := ⟨lw_gd_in (tb3 (List.mem_of_getElem? (i := 149) rfl)) rfl, inX8, ⟨by decide +kernel, by decide +kernel⟩, by decide +kernel, Nat.le_of_ble_eq_true rfl⟩
theorem miX8_wash : Mi RX8 yX8_wash := ⟨lw_gd_in (tb3 (List.mem_of_getElem? (i := 147) rfl)) rfl, lw_gd_in (tb3 (List.mem_of_getElem? (i := 148) rfl)) rfl⟩
set_option maxRecDepth 20000 in
theorem mwX1_actOfRest : Mw yX1_actOfRest cX1_actOfRest 4 (some .int) 1 := ⟨lw_gd_in (tb3 (List.mem_of_getElem? (i := 153) rfl)) rfl, inX1, ⟨by decide +kernel, by decide +kernel⟩, by decide +kernel, Nat.le_of_ble_eq_true rfl⟩
theorem miX1_actOfRest : Mi RX1 yX1_actOfRest := ⟨lw_gd_in (tb3 (List.mem_of_getElem? (i := 151) rfl)) rfl, lw_gd_in (tb3 (List.mem_of_getElem? (i := 152) rfl)) rfl⟩
set_option maxRecDepth 20000 in
theorem mwX8_goByNow : Mw yX8_goByNow cX8_goByNow 3 (some .int) 1 := ⟨lw_gd_in (tb3 (List.mem_of_getElem? (i := 159) rfl)) rfl, inX8, ⟨by decide +kernel, by decide +kernel⟩, by decide +kernel, Nat.le_of_ble_eq_true rfl⟩
theorem miX8_goByNow : Mi RX8 yX8_goByNow := ⟨lw_gd_in (tb3 (List.mem_of_getElem? (i := 158) rfl)) rfl, lw_gd_in (tbs (List.mem_of_getElem? (i := 13) rfl)) rfl⟩
set_option maxRecDepth 20000 in
theorem mwX1_goBy : Mw yX1_goBy cX1_goBy 6 (some .int) 2 := ⟨lw_gd_in (tb3 (List.mem_of_getElem? (i := 163) rfl)) rfl, inX1, ⟨by decide +kernel, by decide +kernel⟩, by decide +kernel, Nat.le_of_ble_eq_true rfl⟩
theorem miX1_goBy : Mi RX1 yX1_goBy := ⟨lw_gd_in (tb3 (List.mem_of_getElem? (i := 161) rfl)) rfl, lw_gd_in (tb3 (List.mem_of_getElem? (i := 162) rfl)) rfl⟩
set_option maxRecDepth 20000 in
theorem mwX1_doWill : Mw yX1_doWill cX1_doWill 5 (some .int) 2 := ⟨lw_gd_in (tb3 (List.mem_of_getElem? (i := 168) rfl)) rfl, inX1, ⟨by decide +kernel, by decide +kernel⟩, by decide +kernel, Nat.le_of_ble_eq_true rfl⟩
theorem miX1_doWill : Mi RX1 yX1_doWill := ⟨lw_gd_in (tb3 (List.mem_of_getElem? (i := 167) rfl)) rfl, lw_gd_in (tbs (List.mem_of_getElem? (i := 14) rfl)) rfl⟩
set_option maxRecDepth 20000 in
theorem mwX2_lieFlat : Mw yX2_lieFlat cX2_lieFlat 2 none 1 := ⟨lw_gd_in (tb3 (List.mem_of_getElem? (i := 172) rfl)) rfl, inX2, ⟨by decide +kernel, by decide +kernel⟩, by decide +kernel, Nat.le_of_ble_eq_true rfl⟩
theorem miX2_lieFlat : Mi RX2 yX2_lieFlat := ⟨lw_gd_in (tb3 (List.mem_of_getElem? (i := 170) rfl)) rfl, lw_gd_in (tb3 (List.mem_of_getElem? (i := 171) rfl)) rfl⟩
set_option maxRecDepth 20000 in
theorem mwX2_fold : Mw yX2_fold cX2_fold 2 none 1 := ⟨lw_gd_in (tb3 (List.mem_of_getElem? (i := 177) rfl)) rfl, inX2, ⟨by decide +kernel, by decide +kernel⟩, by decide +kernel, Nat.le_of_ble_eq_true rfl⟩
theorem miX2_fold : Mi RX2 yX2_fold := ⟨lw_gd_in (tb3 (List.mem_of_getElem? (i := 175) rfl)) rfl, lw_gd_in (tb3 (List.mem_of_getElem? (i := 176) rfl)) rfl⟩
set_option maxRecDepth 20000 in
theorem mwX2_undoLastFlat : Mw yX2_undoLastFlat cX2_undoLastFlat 2 none 0 := ⟨lw_gd_in (tb3 (List.mem_of_getElem? (i := 183) rfl)) rfl, inX2, ⟨by decide +kernel, by decide +kernel⟩, by decide +kernel, Nat.le_of_ble_eq_true rfl⟩
theorem miX2_undoLastFlat : Mi RX2 yX2_undoLastFlat := ⟨lw_gd_in (tb3 (List.mem_of_getElem? (i := 181) rfl)) rfl, lw_gd_in (tb3 (List.mem_of_getElem? (i := 182) rfl)) rfl⟩
set_option maxRecDepth 20000 in
theorem mwJ6_bitCount_0f7a4 : Mw yJ6_bitCount_0f7a4 cJ6_bitCount_0f7a4 1 (some .int) 1 := ⟨lw_gd_in (tb3 (List.mem_of_getElem? (i := 186) rfl)) rfl, inJ6, ⟨by decide +kernel, by decide +kernel⟩, by decide +kernel, Nat.le_of_ble_eq_true rfl⟩
set_option maxRecDepth 20000 in
theorem mwX8_on : Mw yX8_on cX8_on 2 (some .int) 1 := ⟨lw_gd_in (tb3 (List.mem_of_getElem? (i := 195) rfl)) rfl, inX8, ⟨by decide +kernel, by decide +kernel⟩, by decide +kernel, Nat.le_of_ble_eq_true rfl⟩
theorem miX8_on : Mi RX8 yX8_on := ⟨lw_gd_in (tb3 (List.mem_of_getElem? (i := 193) rfl)) rfl, lw_gd_in (tb3 (List.mem_of_getElem? (i := 194) rfl)) rfl⟩
set_option maxRecDepth 20000 in
theorem mwX2_copy : Mw yX2_copy cX2_copy 2 none 1 := ⟨lw_gd_in (tb3 (List.mem_of_getElem? (i := 199) rfl)) rfl, inX2, ⟨by decide +kernel, by decide +kernel⟩, by decide +kernel, Nat.le_of_ble_eq_true rfl⟩
theorem miX2_copy : Mi RX2 yX2_copy := ⟨lw_gd_in (tb3 (List.mem_of_getElem? (i := 197) rfl)) rfl, lw_gd_in (tb3 (List.mem_of_getElem? (i := 198) rfl)) rfl⟩
set_option maxRecDepth 20000 in
theorem mwX1_goRest : Mw yX1_goRest cX1_goRest 5 (some .int) 2 := ⟨lw_gd_in (tb3 (List.mem_of_getElem? (i := 204) rfl)) rfl, inX1, ⟨by decide +kernel, by decide +kernel⟩, by decide +kernel, Nat.le_of_ble_eq_true rfl⟩
theorem miX1_goRest : Mi RX1 yX1_goRest := ⟨lw_gd_in (tb3 (List.mem_of_getElem? (i := 202) rfl)) rfl, lw_gd_in (tb3 (List.mem_of_getElem? (i := 203) rfl)) rfl⟩
set_option maxRecDepth 20000 in
theorem mwX8_when : Mw yX8_when cX8_when 3 (some .int) 1 := ⟨lw_gd_in (tb3 (List.mem_of_getElem? (i := 211) rfl)) rfl, inX8, ⟨by decide +kernel, by decide +kernel⟩, by decide +kernel, Nat.le_of_ble_eq_true rfl⟩
theorem miX8_when : Mi RX8 yX8_when := ⟨lw_gd_in (tb3 (List.mem_of_getElem? (i := 209) rfl)) rfl, lw_gd_in (tb3 (List.mem_of_getElem? (i := 210) rfl)) rfl⟩
set_option maxRecDepth 20000 in
theorem mwX8_creaseFor : Mw yX8_creaseFor cX8_creaseFor 6 (some .int) 1 := ⟨lw_gd_in (tb3 (List.mem_of_getElem? (i := 215) rfl)) rfl, inX8, ⟨by decide +kernel, by decide +kernel⟩, by decide +kernel, Nat.le_of_ble_eq_true rfl⟩
theorem miX8_creaseFor : Mi RX8 yX8_creaseFor := ⟨lw_gd_in (tb3 (List.mem_of_getElem? (i := 213) rfl)) rfl, lw_gd_in (tb3 (List.mem_of_getElem? (i := 214) rfl)) rfl⟩
set_option maxRecDepth 20000 in
theorem mwX8_boardFor : Mw yX8_boardFor cX8_boardFor 6 (some .int) 1 := ⟨lw_gd_in (tb3 (List.mem_of_getElem? (i := 219) rfl)) rfl, inX8, ⟨by decide +kernel, by decide +kernel⟩, by decide +kernel, Nat.le_of_ble_eq_true rfl⟩
theorem miX8_boardFor : Mi RX8 yX8_boardFor := ⟨lw_gd_in (tb3 (List.mem_of_getElem? (i := 217) rfl)) rfl, lw_gd_in (tb3 (List.mem_of_getElem? (i := 218) rfl)) rfl⟩
set_option maxRecDepth 20000 in
theorem mwX8_fat : Mw yX8_fat cX8_fat 3 (some .int) 1 := ⟨lw_gd_in (tb3 (List.mem_of_getElem? (i := 223) rfl)) rfl, inX8, ⟨by decide +kernel, by decide +kernel⟩, by decide +kernel, Nat.le_of_ble_eq_true rfl⟩
theorem miX8_fat : Mi RX8 yX8_fat := ⟨lw_gd_in (tb3 (List.mem_of_getElem? (i := 221) rfl)) rfl, lw_gd_in (tb3 (List.mem_of_getElem? (i := 222) rfl)) rfl⟩
set_option maxRecDepth 20000 in
theorem mwX8_least : Mw yX8_least cX8_least 3 (some .int) 1 := ⟨lw_gd_in (tb3 (List.mem_of_getElem? (i := 227) rfl)) rfl, inX8, ⟨by decide +kernel, by decide +kernel⟩, by decide +kernel, Nat.le_of_ble_eq_true rfl⟩
theorem miX8_least : Mi RX8 yX8_least := ⟨lw_gd_in (tb3 (List.mem_of_getElem? (i := 225) rfl)) rfl, lw_gd_in (tb3 (List.mem_of_getElem? (i := 226) rfl)) rfl⟩
set_option maxRecDepth 20000 in
theorem mwX8_left : Mw yX8_left cX8_left 3 (some .int) 2 := ⟨lw_gd_in (tb3 (List.mem_of_getElem? (i := 231) rfl)) rfl, inX8, ⟨by decide +kernel, by decide +kernel⟩, by decide +kernel, Nat.le_of_ble_eq_true rfl⟩
theorem miX8_left : Mi RX8 yX8_left := ⟨lw_gd_in (tb3 (List.mem_of_getElem? (i := 229) rfl)) rfl, lw_gd_in (tb3 (List.mem_of_getElem? (i := 230) rfl)) rfl⟩
set_option maxRecDepth 20000 in
theorem mwX8_piles : Mw yX8_piles cX8_piles 2 (some .int) 1 := ⟨lw_gd_in (tb3 (List.mem_of_getElem? (i := 235) rfl)) rfl, inX8, ⟨by decide +kernel, by decide +kernel⟩, by decide +kernel, Nat.le_of_ble_eq_true rfl⟩
theorem miX8_piles : Mi RX8 yX8_piles := ⟨lw_gd_in (tb3 (List.mem_of_getElem? (i := 233) rfl)) rfl, lw_gd_in (tb3 (List.mem_of_getElem? (i := 234) rfl)) rfl⟩
set_option maxRecDepth 20000 in
theorem mwX8_howManyPiles : Mw yX8_howManyPiles cX8_howManyPiles 5 (some .int) 0 := ⟨lw_gd_in (tb3 (List.mem_of_getElem? (i := 239) rfl)) rfl, inX8, ⟨by decide +kernel, by decide +kernel⟩, by decide +kernel, Nat.le_of_ble_eq_true rfl⟩
theorem miX8_howManyPiles : Mi RX8 yX8_howManyPiles := ⟨lw_gd_in (tb3 (List.mem_of_getElem? (i := 238) rfl)) rfl, lw_gd_in (tbs (List.mem_of_getElem? (i := 15) rfl)) rfl⟩
set_option maxRecDepth 20000 in
theorem mwX2_pileOf : Mw yX2_pileOf cX2_pileOf 5 (some .int) 1 := ⟨lw_gd_in (tb4 (List.mem_of_getElem? (i := 3) rfl)) rfl, inX2, ⟨by decide +kernel, by decide +kernel⟩, by decide +kernel, Nat.le_of_ble_eq_true rfl⟩
theorem miX2_pileOf : Mi RX2 yX2_pileOf := ⟨lw_gd_in (tb4 (List.mem_of_getElem? (i := 1) rfl)) rfl, lw_gd_in (tb4 (List.mem_of_getElem? (i := 2) rfl)) rfl⟩
set_option maxRecDepth 20000 in
theorem mwX2_isCloseToAny : Mw yX2_isCloseToAny cX2_isCloseToAny 4 (some .boolean) 2 := ⟨lw_gd_in (tb4 (List.mem_of_getElem? (i := 7) rfl)) rfl, inX2, ⟨by decide +kernel, by decide +kernel⟩, by decide +kernel, Nat.le_of_ble_eq_true rfl⟩
theorem miX2_isCloseToAny : Mi RX2 yX2_isCloseToAny := ⟨lw_gd_in (tb4 (List.mem_of_getElem? (i := 6) rfl)) rfl, lw_gd_in (tbs (List.mem_of_getElem? (i := 16) rfl)) rfl⟩
set_option maxRecDepth 20000 in
theorem mwX8_best : Mw yX8_best cX8_best 2 (some .int) 1 := ⟨lw_gd_in (tb4 (List.mem_of_getElem? (i := 11) rfl)) rfl, inX8, ⟨by decide +kernel, by decide +kernel⟩, by decide +kernel, Nat.le_of_ble_eq_true rfl⟩
theorem miX8_best : Mi RX8 yX8_best := ⟨lw_gd_in (tb4 (List.mem_of_getElem? (i := 9) rfl)) rfl, lw_gd_in (tb4 (List.mem_of_getElem? (i := 10) rfl)) rfl⟩
set_option maxRecDepth 20000 in
theorem mwX6_tryAll : Mw yX6_tryAll cX6_tryAll 4 none 3 := ⟨lw_gd_in (tb4 (List.mem_of_getElem? (i := 15) rfl)) rfl, inX6, ⟨by decide +kernel, by decide +kernel⟩, by decide +kernel, Nat.le_of_ble_eq_true rfl⟩
theorem miX6_tryAll : Mi RX6 yX6_tryAll := ⟨lw_gd_in (tb4 (List.mem_of_getElem? (i := 13) rfl)) rfl, lw_gd_in (tb4 (List.mem_of_getElem? (i := 14) rfl)) rfl⟩
set_option maxRecDepth 20000 in
theorem mwX6_begin : Mw yX6_begin cX6_begin 3 none 2 := ⟨lw_gd_in (tb4 (List.mem_of_getElem? (i := 19) rfl)) rfl, inX6, ⟨by decide +kernel, by decide +kernel⟩, by decide +kernel, Nat.le_of_ble_eq_true rfl⟩
theorem miX6_begin : Mi RX6 yX6_begin := ⟨lw_gd_in (tb4 (List.mem_of_getElem? (i := 18) rfl)) rfl, lw_gd_in (tbs (List.mem_of_getElem? (i := 17) rfl)) rfl⟩
set_option maxRecDepth 20000 in
theorem mwX6_tryFrom : Mw yX6_tryFrom cX6_tryFrom 9 none 4 := ⟨lw_gd_in (tb4 (List.mem_of_getElem? (i := 26) rfl)) rfl, inX6, ⟨by decide +kernel, by decide +kernel⟩, by decide +kernel, Nat.le_of_ble_eq_true rfl⟩
theorem miX6_tryFrom : Mi RX6 yX6_tryFrom := ⟨lw_gd_in (tb4 (List.mem_of_getElem? (i := 25) rfl)) rfl, lw_gd_in (tbs (List.mem_of_getElem? (i := 18) rfl)) rfl⟩
set_option maxRecDepth 20000 in
theorem mwX6_weigh : Mw yX6_weigh cX6_weigh 4 none 2 := ⟨lw_gd_in (tb4 (List.mem_of_getElem? (i := 30) rfl)) rfl, inX6, ⟨by decide +kernel, by decide +kernel⟩, by decide +kernel, Nat.le_of_ble_eq_true rfl⟩
theorem miX6_weigh : Mi RX6 yX6_weigh := ⟨lw_gd_in (tb4 (List.mem_of_getElem? (i := 29) rfl)) rfl, lw_gd_in (tbs (List.mem_of_getElem? (i := 19) rfl)) rfl⟩
set_option maxRecDepth 20000 in
theorem mwX8_ith : Mw yX8_ith cX8_ith 3 (some .int) 2 := ⟨lw_gd_in (tb4 (List.mem_of_getElem? (i := 36) rfl)) rfl, inX8, ⟨by decide +kernel, by decide +kernel⟩, by decide +kernel, Nat.le_of_ble_eq_true rfl⟩
theorem miX8_ith : Mi RX8 yX8_ith := ⟨lw_gd_in (tb4 (List.mem_of_getElem? (i := 34) rfl)) rfl, lw_gd_in (tb4 (List.mem_of_getElem? (i := 35) rfl)) rfl⟩
set_option maxRecDepth 20000 in
theorem mwX8_ways : Mw yX8_ways cX8_ways 2 (some .int) 1 := ⟨lw_gd_in (tb4 (List.mem_of_getElem? (i := 40) rfl)) rfl, inX8, ⟨by decide +kernel, by decide +kernel⟩, by decide +kernel, Nat.le_of_ble_eq_true rfl⟩
theorem miX8_ways : Mi RX8 yX8_ways := ⟨lw_gd_in (tb4 (List.mem_of_getElem? (i := 38) rfl)) rfl, lw_gd_in (tb4 (List.mem_of_getElem? (i := 39) rfl)) rfl⟩
set_option maxRecDepth 20000 in
theorem mwX8_note : Mw yX8_note cX8_note 3 (some .int) 2 := ⟨lw_gd_in (tb4 (List.mem_of_getElem? (i := 44) rfl)) rfl, inX8, ⟨by decide +kernel, by decide +kernel⟩, by decide +kernel, Nat.le_of_ble_eq_true rfl⟩
theorem miX8_note : Mi RX8 yX8_note := ⟨lw_gd_in (tb4 (List.mem_of_getElem? (i := 42) rfl)) rfl, lw_gd_in (tb4 (List.mem_of_getElem? (i := 43) rfl)) rfl⟩
set_option maxRecDepth 20000 in
theorem mwX8_isSetOfThings : Mw yX8_isSetOfThings cX8_isSetOfThings 2 (some .boolean) 1 := ⟨lw_gd_in (tb4 (List.mem_of_getElem? (i := 48) rfl)) rfl, inX8, ⟨by decide +kernel, by decide +kernel⟩, by decide +kernel, Nat.le_of_ble_eq_true rfl⟩
theorem miX8_isSetOfThings : Mi RX8 yX8_isSetOfThings := ⟨lw_gd_in (tb4 (List.mem_of_getElem? (i := 47) rfl)) rfl, lw_gd_in (tbs (List.mem_of_getElem? (i := 20) rfl)) rfl⟩
set_option maxRecDepth 20000 in
theorem mwX8_bars : Mw yX8_bars cX8_bars 4 (some .int) 2 := ⟨lw_gd_in (tb4 (List.mem_of_getElem? (i := 52) rfl)) rfl, inX8, ⟨by decide +kernel, by decide +kernel⟩, by decide +kernel, Nat.le_of_ble_eq_true rfl⟩
theorem miX8_bars : Mi RX8 yX8_bars := ⟨lw_gd_in (tb4 (List.mem_of_getElem? (i := 50) rfl)) rfl, lw_gd_in (tb4 (List.mem_of_getElem? (i := 51) rfl)) rfl⟩
set_option maxRecDepth 20000 in
theorem mwJ6_numberOfTrailingZeros_0f7a4 : Mw yJ6_numberOfTrailingZeros_0f7a4 cJ6_numberOfTrailingZeros_0f7a4 2 (some .int) 1 := ⟨lw_gd_in (tb4 (List.mem_of_getElem? (i := 55) rfl)) rfl, inJ6, ⟨by decide +kernel, by decide +kernel⟩, by decide +kernel, Nat.le_of_ble_eq_true rfl⟩
set_option maxRecDepth 20000 in
theorem mwX8_game : Mw yX8_game cX8_game 2 (some .int) 1 := ⟨lw_gd_in (tb4 (List.mem_of_getElem? (i := 60) rfl)) rfl, inX8, ⟨by decide +kernel, by decide +kernel⟩, by decide +kernel, Nat.le_of_ble_eq_true rfl⟩
theorem miX8_game : Mi RX8 yX8_game := ⟨lw_gd_in (tb4 (List.mem_of_getElem? (i := 58) rfl)) rfl, lw_gd_in (tb4 (List.mem_of_getElem? (i := 59) rfl)) rfl⟩
set_option maxRecDepth 20000 in
theorem mwX6_gameOf : Mw yX6_gameOf cX6_gameOf 3 (some .int) 2 := ⟨lw_gd_in (tb4 (List.mem_of_getElem? (i := 64) rfl)) rfl, inX6, ⟨by decide +kernel, by decide +kernel⟩, by decide +kernel, Nat.le_of_ble_eq_true rfl⟩
theorem miX6_gameOf : Mi RX6 yX6_gameOf := ⟨lw_gd_in (tb4 (List.mem_of_getElem? (i := 62) rfl)) rfl, lw_gd_in (tb4 (List.mem_of_getElem? (i := 63) rfl)) rfl⟩
set_option maxRecDepth 20000 in
theorem mwX6_valueFrom : Mw yX6_valueFrom cX6_valueFrom 9 (some .int) 2 := ⟨lw_gd_in (tb4 (List.mem_of_getElem? (i := 68) rfl)) rfl, inX6, ⟨by decide +kernel, by decide +kernel⟩, by decide +kernel, Nat.le_of_ble_eq_true rfl⟩
theorem miX6_valueFrom : Mi RX6 yX6_valueFrom := ⟨lw_gd_in (tb4 (List.mem_of_getElem? (i := 67) rfl)) rfl, lw_gd_in (tbs (List.mem_of_getElem? (i := 21) rfl)) rfl⟩
set_option maxRecDepth 20000 in
theorem mwX8_play : Mw yX8_play cX8_play 2 (some .int) 1 := ⟨lw_gd_in (tb4 (List.mem_of_getElem? (i := 72) rfl)) rfl, inX8, ⟨by decide +kernel, by decide +kernel⟩, by decide +kernel, Nat.le_of_ble_eq_true rfl⟩
theorem miX8_play : Mi RX8 yX8_play := ⟨lw_gd_in (tb4 (List.mem_of_getElem? (i := 70) rfl)) rfl, lw_gd_in (tb4 (List.mem_of_getElem? (i := 71) rfl)) rfl⟩
set_option maxRecDepth 20000 in
theorem mwX8_report : Mw yX8_report cX8_report 6 (some .int) 4 := ⟨lw_gd_in (tb4 (List.mem_of_getElem? (i := 76) rfl)) rfl, inX8, ⟨by decide +kernel, by decide +kernel⟩, by decide +kernel, Nat.le_of_ble_eq_true rfl⟩
theorem miX8_report : Mi RX8 yX8_report := ⟨lw_gd_in (tb4 (List.mem_of_getElem? (i := 74) rfl)) rfl, lw_gd_in (tb4 (List.mem_of_getElem? (i := 75) rfl)) rfl⟩
set_option maxRecDepth 20000 in
theorem mwX3_add : Mw yX3_add cX3_add 5 (some .int) 4 := ⟨lw_gd_in (tb4 (List.mem_of_getElem? (i := 80) rfl)) rfl, inX3, ⟨by decide +kernel, by decide +kernel⟩, by decide +kernel, Nat.le_of_ble_eq_true rfl⟩
theorem miX3_add : Mi RX3 yX3_add := ⟨lw_gd_in (tb4 (List.mem_of_getElem? (i := 78) rfl)) rfl, lw_gd_in (tb4 (List.mem_of_getElem? (i := 79) rfl)) rfl⟩
set_option maxRecDepth 20000 in
theorem mwX8_forget : Mw yX8_forget cX8_forget 2 (some .int) 0 := ⟨lw_gd_in (tb4 (List.mem_of_getElem? (i := 84) rfl)) rfl, inX8, ⟨by decide +kernel, by decide +kernel⟩, by decide +kernel, Nat.le_of_ble_eq_true rfl⟩
theorem miX8_forget : Mi RX8 yX8_forget := ⟨lw_gd_in (tb4 (List.mem_of_getElem? (i := 82) rfl)) rfl, lw_gd_in (tb4 (List.mem_of_getElem? (i := 83) rfl)) rfl⟩
set_option maxRecDepth 20000 in
theorem mwX8_lone : Mw yX8_lone cX8_lone 3 (some .int) 1 := ⟨lw_gd_in (tb4 (List.mem_of_getElem? (i := 88) rfl)) rfl, inX8, ⟨by decide +kernel, by decide +kernel⟩, by decide +kernel, Nat.le_of_ble_eq_true rfl⟩
theorem miX8_lone : Mi RX8 yX8_lone := ⟨lw_gd_in (tb4 (List.mem_of_getElem? (i := 86) rfl)) rfl, lw_gd_in (tb4 (List.mem_of_getElem? (i := 87) rfl)) rfl⟩
set_option maxRecDepth 20000 in
theorem mwX3_weighAll : Mw yX3_weighAll cX3_weighAll 5 none 1 := ⟨lw_gd_in (tb4 (List.mem_of_getElem? (i := 92) rfl)) rfl, inX3, ⟨by decide +kernel, by decide +kernel⟩, by decide +kernel, Nat.le_of_ble_eq_true rfl⟩
theorem miX3_weighAll : Mi RX3 yX3_weighAll := ⟨lw_gd_in (tb4 (List.mem_of_getElem? (i := 90) rfl)) rfl, lw_gd_in (tb4 (List.mem_of_getElem? (i := 91) rfl)) rfl⟩
set_option maxRecDepth 20000 in
theorem mwX3_weighOne : Mw yX3_weighOne cX3_weighOne 6 none 4 := ⟨lw_gd_in (tb4 (List.mem_of_getElem? (i := 96) rfl)) rfl, inX3, ⟨by decide +kernel, by decide +kernel⟩, by decide +kernel, Nat.le_of_ble_eq_true rfl⟩
theorem miX3_weighOne : Mi RX3 yX3_weighOne := ⟨lw_gd_in (tb4 (List.mem_of_getElem? (i := 95) rfl)) rfl, lw_gd_in (tbs (List.mem_of_getElem? (i := 22) rfl)) rfl⟩
set_option maxRecDepth 20000 in
theorem mwX3_wrongOf : Mw yX3_wrongOf cX3_wrongOf 9 (some .int) 4 := ⟨lw_gd_in (tb4 (List.mem_of_getElem? (i := 100) rfl)) rfl, inX3, ⟨by decide +kernel, by decide +kernel⟩, by decide +kernel, Nat.le_of_ble_eq_true rfl⟩
theorem miX3_wrongOf : Mi RX3 yX3_wrongOf := ⟨lw_gd_in (tb4 (List.mem_of_getElem? (i := 99) rfl)) rfl, lw_gd_in (tbs (List.mem_of_getElem? (i := 23) rfl)) rfl⟩
set_option maxRecDepth 20000 in
theorem mwX3_wrongBehind : Mw yX3_wrongBehind cX3_wrongBehind 7 (some .int) 3 := ⟨lw_gd_in (tb4 (List.mem_of_getElem? (i := 104) rfl)) rfl, inX3, ⟨by decide +kernel, by decide +kernel⟩, by decide +kernel, Nat.le_of_ble_eq_true rfl⟩
theorem miX3_wrongBehind : Mi RX3 yX3_wrongBehind := ⟨lw_gd_in (tb4 (List.mem_of_getElem? (i := 103) rfl)) rfl, lw_gd_in (tbs (List.mem_of_getElem? (i := 24) rfl)) rfl⟩
set_option maxRecDepth 20000 in
theorem mwX8_liar : Mw yX8_liar cX8_liar 2 (some .int) 0 := ⟨lw_gd_in (tb4 (List.mem_of_getElem? (i := 113) rfl)) rfl, inX8, ⟨by decide +kernel, by decide +kernel⟩, by decide +kernel, Nat.le_of_ble_eq_true rfl⟩
theorem miX8_liar : Mi RX8 yX8_liar := ⟨lw_gd_in (tb4 (List.mem_of_getElem? (i := 111) rfl)) rfl, lw_gd_in (tb4 (List.mem_of_getElem? (i := 112) rfl)) rfl⟩
set_option maxRecDepth 20000 in
theorem mwX8_seed : Mw yX8_seed cX8_seed 3 (some .int) 1 := ⟨lw_gd_in (tb4 (List.mem_of_getElem? (i := 117) rfl)) rfl, inX8, ⟨by decide +kernel, by decide +kernel⟩, by decide +kernel, Nat.le_of_ble_eq_true rfl⟩
theorem miX8_seed : Mi RX8 yX8_seed := ⟨lw_gd_in (tb4 (List.mem_of_getElem? (i := 115) rfl)) rfl, lw_gd_in (tb4 (List.mem_of_getElem? (i := 116) rfl)) rfl⟩
set_option maxRecDepth 20000 in
theorem mwX8_lot : Mw yX8_lot cX8_lot 1 (some .int) 0 := ⟨lw_gd_in (tb4 (List.mem_of_getElem? (i := 121) rfl)) rfl, inX8, ⟨by decide +kernel, by decide +kernel⟩, by decide +kernel, Nat.le_of_ble_eq_true rfl⟩
theorem miX8_lot : Mi RX8 yX8_lot := ⟨lw_gd_in (tb4 (List.mem_of_getElem? (i := 119) rfl)) rfl, lw_gd_in (tb4 (List.mem_of_getElem? (i := 120) rfl)) rfl⟩
set_option maxRecDepth 20000 in
theorem mwX8_nextLot : Mw yX8_nextLot cX8_nextLot 1 (some .int) 1 := ⟨lw_gd_in (tb4 (List.mem_of_getElem? (i := 124) rfl)) rfl, inX8, ⟨by decide +kernel, by decide +kernel⟩, by decide +kernel, Nat.le_of_ble_eq_true rfl⟩
set_option maxRecDepth 20000 in
theorem mwX8_drawn : Mw yX8_drawn cX8_drawn 2 (some .int) 2 := ⟨lw_gd_in (tb4 (List.mem_of_getElem? (i := 128) rfl)) rfl, inX8, ⟨by decide +kernel, by decide +kernel⟩, by decide +kernel, Nat.le_of_ble_eq_true rfl⟩
set_option maxRecDepth 20000 in
theorem mwX8_times : Mw yX8_times cX8_times 8 (some .int) 2 := ⟨lw_gd_in (tb4 (List.mem_of_getElem? (i := 132) rfl)) rfl, inX8, ⟨by decide +kernel, by decide +kernel⟩, by decide +kernel, Nat.le_of_ble_eq_true rfl⟩
theorem miX8_times : Mi RX8 yX8_times := ⟨lw_gd_in (tb4 (List.mem_of_getElem? (i := 130) rfl)) rfl, lw_gd_in (tb4 (List.mem_of_getElem? (i := 131) rfl)) rfl⟩
set_option maxRecDepth 20000 in
theorem mwX8_prove : Mw yX8_prove cX8_prove 3 (some .int) 1 := ⟨lw_gd_in (tb4 (List.mem_of_getElem? (i := 136) rfl)) rfl, inX8, ⟨by decide +kernel, by decide +kernel⟩, by decide +kernel, Nat.le_of_ble_eq_true rfl⟩
theorem miX8_prove : Mi RX8 yX8_prove := ⟨lw_gd_in (tb4 (List.mem_of_getElem? (i := 134) rfl)) rfl, lw_gd_in (tb4 (List.mem_of_getElem? (i := 135) rfl)) rfl⟩
set_option maxRecDepth 20000 in
theorem mwX8_row : Mw yX8_row cX8_row 3 (some .int) 2 := ⟨lw_gd_in (tb4 (List.mem_of_getElem? (i := 140) rfl)) rfl, inX8, ⟨by decide +kernel, by decide +kernel⟩, by decide +kernel, Nat.le_of_ble_eq_true rfl⟩
theorem miX8_row : Mi RX8 yX8_row := ⟨lw_gd_in (tb4 (List.mem_of_getElem? (i := 138) rfl)) rfl, lw_gd_in (tb4 (List.mem_of_getElem? (i := 139) rfl)) rfl⟩
set_option maxRecDepth 20000 in
theorem mwX8_isCell : Mw yX8_isCell cX8_isCell 3 (some .boolean) 2 := ⟨lw_gd_in (tb4 (List.mem_of_getElem? (i := 144) rfl)) rfl, inX8, ⟨by decide +kernel, by decide +kernel⟩, by decide +kernel, Nat.le_of_ble_eq_true rfl⟩
theorem miX8_isCell : Mi RX8 yX8_isCell := ⟨lw_gd_in (tb4 (List.mem_of_getElem? (i := 143) rfl)) rfl, lw_gd_in (tbs (List.mem_of_getElem? (i := 25) rfl)) rfl⟩
set_option maxRecDepth 20000 in
theorem mwX8_alterRow : Mw yX8_alterRow cX8_alterRow 5 (some .int) 3 := ⟨lw_gd_in (tb4 (List.mem_of_getElem? (i := 148) rfl)) rfl, inX8, ⟨by decide +kernel, by decide +kernel⟩, by decide +kernel, Nat.le_of_ble_eq_true rfl⟩
theorem miX8_alterRow : Mi RX8 yX8_alterRow := ⟨lw_gd_in (tb4 (List.mem_of_getElem? (i := 146) rfl)) rfl, lw_gd_in (tb4 (List.mem_of_getElem? (i := 147) rfl)) rfl⟩
set_option maxRecDepth 20000 in
theorem mwX8_judge : Mw yX8_judge cX8_judge 2 (some .int) 0 := ⟨lw_gd_in (tb4 (List.mem_of_getElem? (i := 152) rfl)) rfl, inX8, ⟨by decide +kernel, by decide +kernel⟩, by decide +kernel, Nat.le_of_ble_eq_true rfl⟩
theorem miX8_judge : Mi RX8 yX8_judge := ⟨lw_gd_in (tb4 (List.mem_of_getElem? (i := 150) rfl)) rfl, lw_gd_in (tb4 (List.mem_of_getElem? (i := 151) rfl)) rfl⟩
set_option maxRecDepth 20000 in
theorem mwX8_isRowRight : Mw yX8_isRowRight cX8_isRowRight 4 (some .boolean) 1 := ⟨lw_gd_in (tb4 (List.mem_of_getElem? (i := 156) rfl)) rfl, inX8, ⟨by decide +kernel, by decide +kernel⟩, by decide +kernel, Nat.le_of_ble_eq_true rfl⟩
theorem miX8_isRowRight : Mi RX8 yX8_isRowRight := ⟨lw_gd_in (tb4 (List.mem_of_getElem? (i := 155) rfl)) rfl, lw_gd_in (tbs (List.mem_of_getElem? (i := 26) rfl)) rfl⟩
set_option maxRecDepth 20000 in
theorem mwX8_sheet : Mw yX8_sheet cX8_sheet 4 (some .int) 3 := ⟨lw_gd_in (tb4 (List.mem_of_getElem? (i := 160) rfl)) rfl, inX8, ⟨by decide +kernel, by decide +kernel⟩, by decide +kernel, Nat.le_of_ble_eq_true rfl⟩
theorem miX8_sheet : Mi RX8 yX8_sheet := ⟨lw_gd_in (tb4 (List.mem_of_getElem? (i := 158) rfl)) rfl, lw_gd_in (tb4 (List.mem_of_getElem? (i := 159) rfl)) rfl⟩
set_option maxRecDepth 20000 in
theorem mwX7_init : Mw yX7_init cX7_init 3 none 2 := ⟨lw_gd_in (tb4 (List.mem_of_getElem? (i := 164) rfl)) rfl, inX7, ⟨by decide +kernel, by decide +kernel⟩, by decide +kernel, Nat.le_of_ble_eq_true rfl⟩
theorem miX7_init : Cond.instanceMethod yX7_init ∈ lw_gd := lw_gd_in (tb4 (List.mem_of_getElem? (i := 163) rfl)) rfl
set_option maxRecDepth 20000 in
theorem mwX8_write : Mw yX8_write cX8_write 5 (some .int) 3 := ⟨lw_gd_in (tb4 (List.mem_of_getElem? (i := 179) rfl)) rfl, inX8, ⟨by decide +kernel, by decide +kernel⟩, by decide +kernel, Nat.le_of_ble_eq_true rfl⟩
theorem miX8_write : Mi RX8 yX8_write := ⟨lw_gd_in (tb4 (List.mem_of_getElem? (i := 177) rfl)) rfl, lw_gd_in (tb4 (List.mem_of_getElem? (i := 178) rfl)) rfl⟩
set_option maxRecDepth 20000 in
theorem mwX7_has : Mw yX7_has cX7_has 2 (some .boolean) 1 := ⟨lw_gd_in (tb4 (List.mem_of_getElem? (i := 183) rfl)) rfl, inX7, ⟨by decide +kernel, by decide +kernel⟩, by decide +kernel, Nat.le_of_ble_eq_true rfl⟩
theorem miX7_has : Mi RX7 yX7_has := ⟨lw_gd_in (tb4 (List.mem_of_getElem? (i := 181) rfl)) rfl, lw_gd_in (tb4 (List.mem_of_getElem? (i := 182) rfl)) rfl⟩
set_option maxRecDepth 20000 in
theorem mwX7_put : Mw yX7_put cX7_put 3 none 2 := ⟨lw_gd_in (tb4 (List.mem_of_getElem? (i := 188) rfl)) rfl, inX7, ⟨by decide +kernel, by decide +kernel⟩, by decide +kernel, Nat.le_of_ble_eq_true rfl⟩
theorem miX7_put : Mi RX7 yX7_put := ⟨lw_gd_in (tb4 (List.mem_of_getElem? (i := 186) rfl)) rfl, lw_gd_in (tb4 (List.mem_of_getElem? (i := 187) rfl)) rfl⟩
set_option maxRecDepth 20000 in
theorem mwX8_item : Mw yX8_item cX8_item 5 (some .int) 3 := ⟨lw_gd_in (tb4 (List.mem_of_getElem? (i := 192) rfl)) rfl, inX8, ⟨by decide +kernel, by decide +kernel⟩, by decide +kernel, Nat.le_of_ble_eq_true rfl⟩
theorem miX8_item : Mi RX8 yX8_item := ⟨lw_gd_in (tb4 (List.mem_of_getElem? (i := 190) rfl)) rfl, lw_gd_in (tb4 (List.mem_of_getElem? (i := 191) rfl)) rfl⟩
set_option maxRecDepth 20000 in
theorem mwX8_goAll : Mw yX8_goAll cX8_goAll 9 (some .int) 3 := ⟨lw_gd_in (tb4 (List.mem_of_getElem? (i := 196) rfl)) rfl, inX8, ⟨by decide +kernel, by decide +kernel⟩, by decide +kernel, Nat.le_of_ble_eq_true rfl⟩
theorem miX8_goAll : Mi RX8 yX8_goAll := ⟨lw_gd_in (tb4 (List.mem_of_getElem? (i := 194) rfl)) rfl, lw_gd_in (tb4 (List.mem_of_getElem? (i := 195) rfl)) rfl⟩
set_option maxRecDepth 20000 in
theorem mwX8_refusedAsActs : Mw yX8_refusedAsActs cX8_refusedAsActs 4 (some .int) 2 := ⟨lw_gd_in (tb4 (List.mem_of_getElem? (i := 200) rfl)) rfl, inX8, ⟨by decide +kernel, by decide +kernel⟩, by decide +kernel, Nat.le_of_ble_eq_true rfl⟩
theorem miX8_refusedAsActs : Mi RX8 yX8_refusedAsActs := ⟨lw_gd_in (tb4 (List.mem_of_getElem? (i := 199) rfl)) rfl, lw_gd_in (tbs (List.mem_of_getElem? (i := 27) rfl)) rfl⟩
set_option maxRecDepth 20000 in
theorem mwX8_wouldBe : Mw yX8_wouldBe cX8_wouldBe 9 (some .int) 3 := ⟨lw_gd_in (tb4 (List.mem_of_getElem? (i := 204) rfl)) rfl, inX8, ⟨by decide +kernel, by decide +kernel⟩, by decide +kernel, Nat.le_of_ble_eq_true rfl⟩
theorem miX8_wouldBe : Mi RX8 yX8_wouldBe := ⟨lw_gd_in (tb4 (List.mem_of_getElem? (i := 202) rfl)) rfl, lw_gd_in (tb4 (List.mem_of_getElem? (i := 203) rfl)) rfl⟩
set_option maxRecDepth 20000 in
theorem mwX8_shelf : Mw yX8_shelf cX8_shelf 4 (some .int) 3 := ⟨lw_gd_in (tb4 (List.mem_of_getElem? (i := 208) rfl)) rfl, inX8, ⟨by decide +kernel, by decide +kernel⟩, by decide +kernel, Nat.le_of_ble_eq_true rfl⟩
theorem miX8_shelf : Mi RX8 yX8_shelf := ⟨lw_gd_in (tb4 (List.mem_of_getElem? (i := 206) rfl)) rfl, lw_gd_in (tb4 (List.mem_of_getElem? (i := 207) rfl)) rfl⟩
set_option maxRecDepth 20000 in
theorem mwX8_taken : Mw yX8_taken cX8_taken 5 (some .int) 2 := ⟨lw_gd_in (tb4 (List.mem_of_getElem? (i := 212) rfl)) rfl, inX8, ⟨by decide +kernel, by decide +kernel⟩, by decide +kernel, Nat.le_of_ble_eq_true rfl⟩
theorem miX8_taken : Mi RX8 yX8_taken := ⟨lw_gd_in (tb4 (List.mem_of_getElem? (i := 210) rfl)) rfl, lw_gd_in (tb4 (List.mem_of_getElem? (i := 211) rfl)) rfl⟩
set_option maxRecDepth 20000 in
theorem mwX8_act : Mw yX8_act cX8_act 5 (some .int) 3 := ⟨lw_gd_in (tb4 (List.mem_of_getElem? (i := 217) rfl)) rfl, inX8, ⟨by decide +kernel, by decide +kernel⟩, by decide +kernel, Nat.le_of_ble_eq_true rfl⟩
theorem miX8_act : Mi RX8 yX8_act := ⟨lw_gd_in (tb4 (List.mem_of_getElem? (i := 215) rfl)) rfl, lw_gd_in (tb4 (List.mem_of_getElem? (i := 216) rfl)) rfl⟩
set_option maxRecDepth 20000 in
theorem mwX0_forgetBodies : Mw yX0_forgetBodies cX0_forgetBodies 1 none 0 := ⟨lw_gd_in (tb4 (List.mem_of_getElem? (i := 221) rfl)) rfl, inX0, ⟨by decide +kernel, by decide +kernel⟩, by decide +kernel, Nat.le_of_ble_eq_true rfl⟩
theorem miX0_forgetBodies : Mi RX0 yX0_forgetBodies := ⟨lw_gd_in (tb4 (List.mem_of_getElem? (i := 219) rfl)) rfl, lw_gd_in (tb4 (List.mem_of_getElem? (i := 220) rfl)) rfl⟩
set_option maxRecDepth 20000 in
theorem mwX0_become : Mw yX0_become cX0_become 4 none 3 := ⟨lw_gd_in (tb4 (List.mem_of_getElem? (i := 225) rfl)) rfl, inX0, ⟨by decide +kernel, by decide +kernel⟩, by decide +kernel, Nat.le_of_ble_eq_true rfl⟩
theorem miX0_become : Mi RX0 yX0_become := ⟨lw_gd_in (tb4 (List.mem_of_getElem? (i := 223) rfl)) rfl, lw_gd_in (tb4 (List.mem_of_getElem? (i := 224) rfl)) rfl⟩
set_option maxRecDepth 20000 in
theorem mwX0_doAct : Mw yX0_doAct cX0_doAct 4 (some .int) 2 := ⟨lw_gd_in (tb4 (List.mem_of_getElem? (i := 229) rfl)) rfl, inX0, ⟨by decide +kernel, by decide +kernel⟩, by decide +kernel, Nat.le_of_ble_eq_true rfl⟩
theorem miX0_doAct : Mi RX0 yX0_doAct := ⟨lw_gd_in (tb4 (List.mem_of_getElem? (i := 227) rfl)) rfl, lw_gd_in (tb4 (List.mem_of_getElem? (i := 228) rfl)) rfl⟩
set_option maxRecDepth 20000 in
theorem mwX0_bodyOf : Mw yX0_bodyOf cX0_bodyOf 3 (some .int) 1 := ⟨lw_gd_in (tb4 (List.mem_of_getElem? (i := 233) rfl)) rfl, inX0, ⟨by decide +kernel, by decide +kernel⟩, by decide +kernel, Nat.le_of_ble_eq_true rfl⟩
theorem miX0_bodyOf : Mi RX0 yX0_bodyOf := ⟨lw_gd_in (tb4 (List.mem_of_getElem? (i := 232) rfl)) rfl, lw_gd_in (tbs (List.mem_of_getElem? (i := 28) rfl)) rfl⟩
set_option maxRecDepth 20000 in
theorem mwX0_run : Mw yX0_run cX0_run 5 (some .int) 3 := ⟨lw_gd_in (tb5 (List.mem_of_getElem? (i := 0) rfl)) rfl, inX0, ⟨by decide +kernel, by decide +kernel⟩, by decide +kernel, Nat.le_of_ble_eq_true rfl⟩
theorem miX0_run : Mi RX0 yX0_run := ⟨lw_gd_in (tb4 (List.mem_of_getElem? (i := 239) rfl)) rfl, lw_gd_in (tbs (List.mem_of_getElem? (i := 29) rfl)) rfl⟩
set_option maxRecDepth 20000 in
theorem mwX0_part : Mw yX0_part cX0_part 3 (some .int) 2 := ⟨lw_gd_in (tb5 (List.mem_of_getElem? (i := 4) rfl)) rfl, inX0, ⟨by decide +kernel, by decide +kernel⟩, by decide +kernel, Nat.le_of_ble_eq_true rfl⟩
theorem miX0_part : Mi RX0 yX0_part := ⟨lw_gd_in (tb5 (List.mem_of_getElem? (i := 3) rfl)) rfl, lw_gd_in (tbs (List.mem_of_getElem? (i := 30) rfl)) rfl⟩
set_option maxRecDepth 20000 in
theorem mwX8_trace : Mw yX8_trace cX8_trace 2 (some .int) 1 := ⟨lw_gd_in (tb5 (List.mem_of_getElem? (i := 8) rfl)) rfl, inX8, ⟨by decide +kernel, by decide +kernel⟩, by decide +kernel, Nat.le_of_ble_eq_true rfl⟩
theorem miX8_trace : Mi RX8 yX8_trace := ⟨lw_gd_in (tb5 (List.mem_of_getElem? (i := 6) rfl)) rfl, lw_gd_in (tb5 (List.mem_of_getElem? (i := 7) rfl)) rfl⟩
set_option maxRecDepth 20000 in
theorem mwX8_many : Mw yX8_many cX8_many 2 (some .int) 1 := ⟨lw_gd_in (tb5 (List.mem_of_getElem? (i := 12) rfl)) rfl, inX8, ⟨by decide +kernel, by decide +kernel⟩, by decide +kernel, Nat.le_of_ble_eq_true rfl⟩
theorem miX8_many : Mi RX8 yX8_many := ⟨lw_gd_in (tb5 (List.mem_of_getElem? (i := 10) rfl)) rfl, lw_gd_in (tb5 (List.mem_of_getElem? (i := 11) rfl)) rfl⟩
set_option maxRecDepth 20000 in
theorem mwX8_keep : Mw yX8_keep cX8_keep 1 (some .int) 0 := ⟨lw_gd_in (tb5 (List.mem_of_getElem? (i := 17) rfl)) rfl, inX8, ⟨by decide +kernel, by decide +kernel⟩, by decide +kernel, Nat.le_of_ble_eq_true rfl⟩
theorem miX8_keep : Mi RX8 yX8_keep := ⟨lw_gd_in (tb5 (List.mem_of_getElem? (i := 15) rfl)) rfl, lw_gd_in (tb5 (List.mem_of_getElem? (i := 16) rfl)) rfl⟩
set_option maxRecDepth 20000 in
theorem mwX1_copy : Mw yX1_copy cX1_copy 2 none 1 := ⟨lw_gd_in (tb5 (List.mem_of_getElem? (i := 21) rfl)) rfl, inX1, ⟨by decide +kernel, by decide +kernel⟩, by decide +kernel, Nat.le_of_ble_eq_true rfl⟩
theorem miX1_copy : Mi RX1 yX1_copy := ⟨lw_gd_in (tb5 (List.mem_of_getElem? (i := 19) rfl)) rfl, lw_gd_in (tb5 (List.mem_of_getElem? (i := 20) rfl)) rfl⟩
set_option maxRecDepth 20000 in
theorem mwX3_copy : Mw yX3_copy cX3_copy 2 none 1 := ⟨lw_gd_in (tb5 (List.mem_of_getElem? (i := 28) rfl)) rfl, inX3, ⟨by decide +kernel, by decide +kernel⟩, by decide +kernel, Nat.le_of_ble_eq_true rfl⟩
theorem miX3_copy : Mi RX3 yX3_copy := ⟨lw_gd_in (tb5 (List.mem_of_getElem? (i := 26) rfl)) rfl, lw_gd_in (tb5 (List.mem_of_getElem? (i := 27) rfl)) rfl⟩
set_option maxRecDepth 20000 in
theorem mwX8_again : Mw yX8_again cX8_again 1 (some .int) 0 := ⟨lw_gd_in (tb5 (List.mem_of_getElem? (i := 33) rfl)) rfl, inX8, ⟨by decide +kernel, by decide +kernel⟩, by decide +kernel, Nat.le_of_ble_eq_true rfl⟩
theorem miX8_again : Mi RX8 yX8_again := ⟨lw_gd_in (tb5 (List.mem_of_getElem? (i := 31) rfl)) rfl, lw_gd_in (tb5 (List.mem_of_getElem? (i := 32) rfl)) rfl⟩
set_option maxRecDepth 20000 in
theorem mwX9_init : Mw yX9_init cX9_init 2 none 0 := ⟨lw_gd_in (tb5 (List.mem_of_getElem? (i := 38) rfl)) rfl, inX9, ⟨by decide +kernel, by decide +kernel⟩, by decide +kernel, Nat.le_of_ble_eq_true rfl⟩
theorem miX9_init : Cond.instanceMethod yX9_init ∈ lw_gd := lw_gd_in (tb5 (List.mem_of_getElem? (i := 37) rfl)) rfl
set_option maxRecDepth 20000 in
theorem mwX9_thing : Mw yX9_thing cX9_thing 6 (some .int) 4 := ⟨lw_gd_in (tb5 (List.mem_of_getElem? (i := 164) rfl)) rfl, inX9, ⟨by decide +kernel, by decide +kernel⟩, by decide +kernel, Nat.le_of_ble_eq_true rfl⟩
theorem miX9_thing : Mi RX9 yX9_thing := ⟨lw_gd_in (tb5 (List.mem_of_getElem? (i := 162) rfl)) rfl, lw_gd_in (tb5 (List.mem_of_getElem? (i := 163) rfl)) rfl⟩
set_option maxRecDepth 20000 in
theorem mwX9_isIn : Mw yX9_isIn cX9_isIn 6 (some .boolean) 3 := ⟨lw_gd_in (tb5 (List.mem_of_getElem? (i := 168) rfl)) rfl, inX9, ⟨by decide +kernel, by decide +kernel⟩, by decide +kernel, Nat.le_of_ble_eq_true rfl⟩
set_option maxRecDepth 20000 in
theorem mwX9_isBoard : Mw yX9_isBoard cX9_isBoard 1 (some .boolean) 1 := ⟨lw_gd_in (tb5 (List.mem_of_getElem? (i := 173) rfl)) rfl, inX9, ⟨by decide +kernel, by decide +kernel⟩, by decide +kernel, Nat.le_of_ble_eq_true rfl⟩
set_option maxRecDepth 20000 in
theorem mwX9_thingOf : Mw yX9_thingOf cX9_thingOf 3 (some .int) 2 := ⟨lw_gd_in (tb5 (List.mem_of_getElem? (i := 177) rfl)) rfl, inX9, ⟨by decide +kernel, by decide +kernel⟩, by decide +kernel, Nat.le_of_ble_eq_true rfl⟩
theorem miX9_thingOf : Mi RX9 yX9_thingOf := ⟨lw_gd_in (tb5 (List.mem_of_getElem? (i := 175) rfl)) rfl, lw_gd_in (tb5 (List.mem_of_getElem? (i := 176) rfl)) rfl⟩
set_option maxRecDepth 20000 in
theorem mwX9_isOne : Mw yX9_isOne cX9_isOne 2 (some .boolean) 1 := ⟨lw_gd_in (tb5 (List.mem_of_getElem? (i := 181) rfl)) rfl, inX9, ⟨by decide +kernel, by decide +kernel⟩, by decide +kernel, Nat.le_of_ble_eq_true rfl⟩
theorem miX9_isOne : Mi RX9 yX9_isOne := ⟨lw_gd_in (tb5 (List.mem_of_getElem? (i := 180) rfl)) rfl, lw_gd_in (tbs (List.mem_of_getElem? (i := 31) rfl)) rfl⟩
set_option maxRecDepth 20000 in
theorem mwX9_swollen : Mw yX9_swollen cX9_swollen 2 (some .int) 1 := ⟨lw_gd_in (tb5 (List.mem_of_getElem? (i := 185) rfl)) rfl, inX9, ⟨by decide +kernel, by decide +kernel⟩, by decide +kernel, Nat.le_of_ble_eq_true rfl⟩
theorem miX9_swollen : Mi RX9 yX9_swollen := ⟨lw_gd_in (tb5 (List.mem_of_getElem? (i := 184) rfl)) rfl, lw_gd_in (tbs (List.mem_of_getElem? (i := 32) rfl)) rfl⟩
set_option maxRecDepth 20000 in
theorem mwX9_its : Mw yX9_its cX9_its 3 (some .int) 2 := ⟨lw_gd_in (tb5 (List.mem_of_getElem? (i := 189) rfl)) rfl, inX9, ⟨by decide +kernel, by decide +kernel⟩, by decide +kernel, Nat.le_of_ble_eq_true rfl⟩
theorem miX9_its : Mi RX9 yX9_its := ⟨lw_gd_in (tb5 (List.mem_of_getElem? (i := 188) rfl)) rfl, lw_gd_in (tbs (List.mem_of_getElem? (i := 33) rfl)) rfl⟩
set_option maxRecDepth 20000 in
theorem mwX9_ironOf : Mw yX9_ironOf cX9_ironOf 2 (some .int) 1 := ⟨lw_gd_in (tb5 (List.mem_of_getElem? (i := 193) rfl)) rfl, inX9, ⟨by decide +kernel, by decide +kernel⟩, by decide +kernel, Nat.le_of_ble_eq_true rfl⟩
theorem miX9_ironOf : Mi RX9 yX9_ironOf := ⟨lw_gd_in (tb5 (List.mem_of_getElem? (i := 192) rfl)) rfl, lw_gd_in (tbs (List.mem_of_getElem? (i := 34) rfl)) rfl⟩
set_option maxRecDepth 20000 in
theorem mwX9_swells : Mw yX9_swells cX9_swells 5 (some .int) 4 := ⟨lw_gd_in (tb5 (List.mem_of_getElem? (i := 196) rfl)) rfl, inX9, ⟨by decide +kernel, by decide +kernel⟩, by decide +kernel, Nat.le_of_ble_eq_true rfl⟩
set_option maxRecDepth 20000 in
theorem mwX9_greatest : Mw yX9_greatest cX9_greatest 2 (some .int) 2 := ⟨lw_gd_in (tb5 (List.mem_of_getElem? (i := 199) rfl)) rfl, inX9, ⟨by decide +kernel, by decide +kernel⟩, by decide +kernel, Nat.le_of_ble_eq_true rfl⟩
set_option maxRecDepth 20000 in
theorem mwX9_needsOf : Mw yX9_needsOf cX9_needsOf 2 (some .int) 1 := ⟨lw_gd_in (tb5 (List.mem_of_getElem? (i := 203) rfl)) rfl, inX9, ⟨by decide +kernel, by decide +kernel⟩, by decide +kernel, Nat.le_of_ble_eq_true rfl⟩
theorem miX9_needsOf : Mi RX9 yX9_needsOf := ⟨lw_gd_in (tb5 (List.mem_of_getElem? (i := 202) rfl)) rfl, lw_gd_in (tbs (List.mem_of_getElem? (i := 35) rfl)) rfl⟩
set_option maxRecDepth 20000 in
theorem mwX9_needsBy : Mw yX9_needsBy cX9_needsBy 4 (some .int) 3 := ⟨lw_gd_in (tb5 (List.mem_of_getElem? (i := 206) rfl)) rfl, inX9, ⟨by decide +kernel, by decide +kernel⟩, by decide +kernel, Nat.le_of_ble_eq_true rfl⟩
set_option maxRecDepth 20000 in
theorem mwX9_pays : Mw yX9_pays cX9_pays 3 (some .int) 1 := ⟨lw_gd_in (tb5 (List.mem_of_getElem? (i := 210) rfl)) rfl, inX9, ⟨by decide +kernel, by decide +kernel⟩, by decide +kernel, Nat.le_of_ble_eq_true rfl⟩
theorem miX9_pays : Mi RX9 yX9_pays := ⟨lw_gd_in (tb5 (List.mem_of_getElem? (i := 209) rfl)) rfl, lw_gd_in (tbs (List.mem_of_getElem? (i := 36) rfl)) rfl⟩
set_option maxRecDepth 20000 in
theorem mwX9_load : Mw yX9_load cX9_load 4 (some .int) 1 := ⟨lw_gd_in (tb5 (List.mem_of_getElem? (i := 214) rfl)) rfl, inX9, ⟨by decide +kernel, by decide +kernel⟩, by decide +kernel, Nat.le_of_ble_eq_true rfl⟩
theorem miX9_load : Mi RX9 yX9_load := ⟨lw_gd_in (tb5 (List.mem_of_getElem? (i := 213) rfl)) rfl, lw_gd_in (tbs (List.mem_of_getElem? (i := 37) rfl)) rfl⟩
set_option maxRecDepth 20000 in
theorem mwX9_mayBe : Mw yX9_mayBe cX9_mayBe 2 (some .boolean) 1 := ⟨lw_gd_in (tb5 (List.mem_of_getElem? (i := 218) rfl)) rfl, inX9, ⟨by decide +kernel, by decide +kernel⟩, by decide +kernel, Nat.le_of_ble_eq_true rfl⟩
theorem miX9_mayBe : Mi RX9 yX9_mayBe := ⟨lw_gd_in (tb5 (List.mem_of_getElem? (i := 217) rfl)) rfl, lw_gd_in (tbs (List.mem_of_getElem? (i := 38) rfl)) rfl⟩
set_option maxRecDepth 20000 in
theorem mwX9_will : Mw yX9_will cX9_will 3 (some .int) 1 := ⟨lw_gd_in (tb5 (List.mem_of_getElem? (i := 222) rfl)) rfl, inX9, ⟨by decide +kernel, by decide +kernel⟩, by decide +kernel, Nat.le_of_ble_eq_true rfl⟩
theorem miX9_will : Mi RX9 yX9_will := ⟨lw_gd_in (tb5 (List.mem_of_getElem? (i := 221) rfl)) rfl, lw_gd_in (tbs (List.mem_of_getElem? (i := 39) rfl)) rfl⟩
set_option maxRecDepth 20000 in
theorem mwX9_isUnder : Mw yX9_isUnder cX9_isUnder 2 (some .boolean) 2 := ⟨lw_gd_in (tb5 (List.mem_of_getElem? (i := 225) rfl)) rfl, inX9, ⟨by decide +kernel, by decide +kernel⟩, by decide +kernel, Nat.le_of_ble_eq_true rfl⟩
set_option maxRecDepth 20000 in
theorem mwX9_holds : Mw yX9_holds cX9_holds 10 (some .boolean) 2 := ⟨lw_gd_in (tb5 (List.mem_of_getElem? (i := 229) rfl)) rfl, inX9, ⟨by decide +kernel, by decide +kernel⟩, by decide +kernel, Nat.le_of_ble_eq_true rfl⟩
theorem miX9_holds : Mi RX9 yX9_holds := ⟨lw_gd_in (tb5 (List.mem_of_getElem? (i := 228) rfl)) rfl, lw_gd_in (tbs (List.mem_of_getElem? (i := 40) rfl)) rfl⟩
set_option maxRecDepth 20000 in
theorem mwX9_valueOf : Mw yX9_valueOf cX9_valueOf 3 (some .int) 2 := ⟨lw_gd_in (tb5 (List.mem_of_getElem? (i := 233) rfl)) rfl, inX9, ⟨by decide +kernel, by decide +kernel⟩, by decide +kernel, Nat.le_of_ble_eq_true rfl⟩
theorem miX9_valueOf : Mi RX9 yX9_valueOf := ⟨lw_gd_in (tb5 (List.mem_of_getElem? (i := 232) rfl)) rfl, lw_gd_in (tbs (List.mem_of_getElem? (i := 41) rfl)) rfl⟩
set_option maxRecDepth 20000 in
theorem mwX9_change : Mw yX9_change cX9_change 5 (some .int) 3 := ⟨lw_gd_in (tb5 (List.mem_of_getElem? (i := 239) rfl)) rfl, inX9, ⟨by decide +kernel, by decide +kernel⟩, by decide +kernel, Nat.le_of_ble_eq_true rfl⟩
theorem miX9_change : Mi RX9 yX9_change := ⟨lw_gd_in (tb5 (List.mem_of_getElem? (i := 237) rfl)) rfl, lw_gd_in (tb5 (List.mem_of_getElem? (i := 238) rfl)) rfl⟩
set_option maxRecDepth 20000 in
theorem mwX9_greatestOf : Mw yX9_greatestOf cX9_greatestOf 1 (some .int) 1 := ⟨lw_gd_in (tb6 (List.mem_of_getElem? (i := 3) rfl)) rfl, inX9, ⟨by decide +kernel, by decide +kernel⟩, by decide +kernel, Nat.le_of_ble_eq_true rfl⟩
set_option maxRecDepth 20000 in
theorem mwX9_becomes : Mw yX9_becomes cX9_becomes 4 (some .int) 2 := ⟨lw_gd_in (tb6 (List.mem_of_getElem? (i := 7) rfl)) rfl, inX9, ⟨by decide +kernel, by decide +kernel⟩, by decide +kernel, Nat.le_of_ble_eq_true rfl⟩
theorem miX9_becomes : Mi RX9 yX9_becomes := ⟨lw_gd_in (tb6 (List.mem_of_getElem? (i := 6) rfl)) rfl, lw_gd_in (tbs (List.mem_of_getElem? (i := 42) rfl)) rfl⟩
set_option maxRecDepth 20000 in
theorem mwX9_remake : Mw yX9_remake cX9_remake 3 (some .int) 2 := ⟨lw_gd_in (tb6 (List.mem_of_getElem? (i := 11) rfl)) rfl, inX9, ⟨by decide +kernel, by decide +kernel⟩, by decide +kernel, Nat.le_of_ble_eq_true rfl⟩
theorem miX9_remake : Mi RX9 yX9_remake := ⟨lw_gd_in (tb6 (List.mem_of_getElem? (i := 9) rfl)) rfl, lw_gd_in (tb6 (List.mem_of_getElem? (i := 10) rfl)) rfl⟩
set_option maxRecDepth 20000 in
theorem mwX9_iron : Mw yX9_iron cX9_iron 3 (some .int) 2 := ⟨lw_gd_in (tb6 (List.mem_of_getElem? (i := 15) rfl)) rfl, inX9, ⟨by decide +kernel, by decide +kernel⟩, by decide +kernel, Nat.le_of_ble_eq_true rfl⟩
theorem miX9_iron : Mi RX9 yX9_iron := ⟨lw_gd_in (tb6 (List.mem_of_getElem? (i := 13) rfl)) rfl, lw_gd_in (tb6 (List.mem_of_getElem? (i := 14) rfl)) rfl⟩
set_option maxRecDepth 20000 in
theorem mwX9_board : Mw yX9_board cX9_board 4 (some .int) 3 := ⟨lw_gd_in (tb6 (List.mem_of_getElem? (i := 20) rfl)) rfl, inX9, ⟨by decide +kernel, by decide +kernel⟩, by decide +kernel, Nat.le_of_ble_eq_true rfl⟩
theorem miX9_board : Mi RX9 yX9_board := ⟨lw_gd_in (tb6 (List.mem_of_getElem? (i := 18) rfl)) rfl, lw_gd_in (tb6 (List.mem_of_getElem? (i := 19) rfl)) rfl⟩
set_option maxRecDepth 20000 in
theorem mwX9_boardOf : Mw yX9_boardOf cX9_boardOf 3 (some .int) 2 := ⟨lw_gd_in (tb6 (List.mem_of_getElem? (i := 24) rfl)) rfl, inX9, ⟨by decide +kernel, by decide +kernel⟩, by decide +kernel, Nat.le_of_ble_eq_true rfl⟩
theorem miX9_boardOf : Mi RX9 yX9_boardOf := ⟨lw_gd_in (tb6 (List.mem_of_getElem? (i := 22) rfl)) rfl, lw_gd_in (tb6 (List.mem_of_getElem? (i := 23) rfl)) rfl⟩
set_option maxRecDepth 20000 in
theorem mwX9_ends : Mw yX9_ends cX9_ends 2 (some .int) 1 := ⟨lw_gd_in (tb6 (List.mem_of_getElem? (i := 28) rfl)) rfl, inX9, ⟨by decide +kernel, by decide +kernel⟩, by decide +kernel, Nat.le_of_ble_eq_true rfl⟩
theorem miX9_ends : Mi RX9 yX9_ends := ⟨lw_gd_in (tb6 (List.mem_of_getElem? (i := 26) rfl)) rfl, lw_gd_in (tb6 (List.mem_of_getElem? (i := 27) rfl)) rfl⟩
set_option maxRecDepth 20000 in
theorem mwX9_anew : Mw yX9_anew cX9_anew 2 (some .int) 0 := ⟨lw_gd_in (tb6 (List.mem_of_getElem? (i := 33) rfl)) rfl, inX9, ⟨by decide +kernel, by decide +kernel⟩, by decide +kernel, Nat.le_of_ble_eq_true rfl⟩
theorem miX9_anew : Mi RX9 yX9_anew := ⟨lw_gd_in (tb6 (List.mem_of_getElem? (i := 31) rfl)) rfl, lw_gd_in (tb6 (List.mem_of_getElem? (i := 32) rfl)) rfl⟩
set_option maxRecDepth 20000 in
theorem mwX9_state : Mw yX9_state cX9_state 2 (some .int) 1 := ⟨lw_gd_in (tb6 (List.mem_of_getElem? (i := 37) rfl)) rfl, inX9, ⟨by decide +kernel, by decide +kernel⟩, by decide +kernel, Nat.le_of_ble_eq_true rfl⟩
theorem miX9_state : Mi RX9 yX9_state := ⟨lw_gd_in (tb6 (List.mem_of_getElem? (i := 35) rfl)) rfl, lw_gd_in (tb6 (List.mem_of_getElem? (i := 36) rfl)) rfl⟩
set_option maxRecDepth 20000 in
theorem mwX9_isOver : Mw yX9_isOver cX9_isOver 1 (some .boolean) 0 := ⟨lw_gd_in (tb6 (List.mem_of_getElem? (i := 41) rfl)) rfl, inX9, ⟨by decide +kernel, by decide +kernel⟩, by decide +kernel, Nat.le_of_ble_eq_true rfl⟩
theorem miX9_isOver : Mi RX9 yX9_isOver := ⟨lw_gd_in (tb6 (List.mem_of_getElem? (i := 40) rfl)) rfl, lw_gd_in (tbs (List.mem_of_getElem? (i := 43) rfl)) rfl⟩
set_option maxRecDepth 20000 in
theorem mwX9_flatOnes : Mw yX9_flatOnes cX9_flatOnes 3 (some .int) 0 := ⟨lw_gd_in (tb6 (List.mem_of_getElem? (i := 45) rfl)) rfl, inX9, ⟨by decide +kernel, by decide +kernel⟩, by decide +kernel, Nat.le_of_ble_eq_true rfl⟩
theorem miX9_flatOnes : Mi RX9 yX9_flatOnes := ⟨lw_gd_in (tb6 (List.mem_of_getElem? (i := 44) rfl)) rfl, lw_gd_in (tbs (List.mem_of_getElem? (i := 44) rfl)) rfl⟩
set_option maxRecDepth 20000 in
theorem mwX9_bulkOfAll : Mw yX9_bulkOfAll cX9_bulkOfAll 3 (some .int) 0 := ⟨lw_gd_in (tb6 (List.mem_of_getElem? (i := 49) rfl)) rfl, inX9, ⟨by decide +kernel, by decide +kernel⟩, by decide +kernel, Nat.le_of_ble_eq_true rfl⟩
theorem miX9_bulkOfAll : Mi RX9 yX9_bulkOfAll := ⟨lw_gd_in (tb6 (List.mem_of_getElem? (i := 48) rfl)) rfl, lw_gd_in (tbs (List.mem_of_getElem? (i := 45) rfl)) rfl⟩
set_option maxRecDepth 20000 in
theorem mwX9_feed : Mw yX9_feed cX9_feed 5 (some .int) 2 := ⟨lw_gd_in (tb6 (List.mem_of_getElem? (i := 53) rfl)) rfl, inX9, ⟨by decide +kernel, by decide +kernel⟩, by decide +kernel, Nat.le_of_ble_eq_true rfl⟩
theorem miX9_feed : Mi RX9 yX9_feed := ⟨lw_gd_in (tb6 (List.mem_of_getElem? (i := 51) rfl)) rfl, lw_gd_in (tb6 (List.mem_of_getElem? (i := 52) rfl)) rfl⟩
set_option maxRecDepth 20000 in
theorem mwX9_rules : Mw yX9_rules cX9_rules 2 (some .int) 0 := ⟨lw_gd_in (tb6 (List.mem_of_getElem? (i := 59) rfl)) rfl, inX9, ⟨by decide +kernel, by decide +kernel⟩, by decide +kernel, Nat.le_of_ble_eq_true rfl⟩
theorem miX9_rules : Mi RX9 yX9_rules := ⟨lw_gd_in (tb6 (List.mem_of_getElem? (i := 57) rfl)) rfl, lw_gd_in (tb6 (List.mem_of_getElem? (i := 58) rfl)) rfl⟩
set_option maxRecDepth 20000 in
theorem mwX9_nextToken : Mw yX9_nextToken cX9_nextToken 2 none 0 := ⟨lw_gd_in (tb6 (List.mem_of_getElem? (i := 63) rfl)) rfl, inX9, ⟨by decide +kernel, by decide +kernel⟩, by decide +kernel, Nat.le_of_ble_eq_true rfl⟩
theorem miX9_nextToken : Mi RX9 yX9_nextToken := ⟨lw_gd_in (tb6 (List.mem_of_getElem? (i := 62) rfl)) rfl, lw_gd_in (tbs (List.mem_of_getElem? (i := 46) rfl)) rfl⟩
set_option maxRecDepth 20000 in
theorem mwX9_byteAt : Mw yX9_byteAt cX9_byteAt 2 (some .int) 1 := ⟨lw_gd_in (tb6 (List.mem_of_getElem? (i := 67) rfl)) rfl, inX9, ⟨by decide +kernel, by decide +kernel⟩, by decide +kernel, Nat.le_of_ble_eq_true rfl⟩
theorem miX9_byteAt : Mi RX9 yX9_byteAt := ⟨lw_gd_in (tb6 (List.mem_of_getElem? (i := 66) rfl)) rfl, lw_gd_in (tbs (List.mem_of_getElem? (i := 47) rfl)) rfl⟩
set_option maxRecDepth 20000 in
theorem mwX9_isAlpha : Mw yX9_isAlpha cX9_isAlpha 1 (some .boolean) 1 := ⟨lw_gd_in (tb6 (List.mem_of_getElem? (i := 70) rfl)) rfl, inX9, ⟨by decide +kernel, by decide +kernel⟩, by decide +kernel, Nat.le_of_ble_eq_true rfl⟩
set_option maxRecDepth 20000 in
theorem mwX9_isDigit : Mw yX9_isDigit cX9_isDigit 1 (some .boolean) 1 := ⟨lw_gd_in (tb6 (List.mem_of_getElem? (i := 73) rfl)) rfl, inX9, ⟨by decide +kernel, by decide +kernel⟩, by decide +kernel, Nat.le_of_ble_eq_true rfl⟩
set_option maxRecDepth 20000 in
theorem mwX9_ruleHere : Mw yX9_ruleHere cX9_ruleHere 5 none 0 := ⟨lw_gd_in (tb6 (List.mem_of_getElem? (i := 77) rfl)) rfl, inX9, ⟨by decide +kernel, by decide +kernel⟩, by decide +kernel, Nat.le_of_ble_eq_true rfl⟩
theorem miX9_ruleHere : Mi RX9 yX9_ruleHere := ⟨lw_gd_in (tb6 (List.mem_of_getElem? (i := 76) rfl)) rfl, lw_gd_in (tbs (List.mem_of_getElem? (i := 48) rfl)) rfl⟩
set_option maxRecDepth 20000 in
theorem mwX9_kindHere : Mw yX9_kindHere cX9_kindHere 1 (some .int) 0 := ⟨lw_gd_in (tb6 (List.mem_of_getElem? (i := 81) rfl)) rfl, inX9, ⟨by decide +kernel, by decide +kernel⟩, by decide +kernel, Nat.le_of_ble_eq_true rfl⟩
theorem miX9_kindHere : Mi RX9 yX9_kindHere := ⟨lw_gd_in (tb6 (List.mem_of_getElem? (i := 80) rfl)) rfl, lw_gd_in (tbs (List.mem_of_getElem? (i := 49) rfl)) rfl⟩
set_option maxRecDepth 20000 in
theorem mwX9_isName : Mw yX9_isName cX9_isName 6 (some .boolean) 5 := ⟨lw_gd_in (tb6 (List.mem_of_getElem? (i := 85) rfl)) rfl, inX9, ⟨by decide +kernel, by decide +kernel⟩, by decide +kernel, Nat.le_of_ble_eq_true rfl⟩
theorem miX9_isName : Mi RX9 yX9_isName := ⟨lw_gd_in (tb6 (List.mem_of_getElem? (i := 84) rfl)) rfl, lw_gd_in (tbs (List.mem_of_getElem? (i := 50) rfl)) rfl⟩
set_option maxRecDepth 20000 in
theorem mwX9_isSame : Mw yX9_isSame cX9_isSame 5 (some .boolean) 4 := ⟨lw_gd_in (tb6 (List.mem_of_getElem? (i := 89) rfl)) rfl, inX9, ⟨by decide +kernel, by decide +kernel⟩, by decide +kernel, Nat.le_of_ble_eq_true rfl⟩
theorem miX9_isSame : Mi RX9 yX9_isSame := ⟨lw_gd_in (tb6 (List.mem_of_getElem? (i := 88) rfl)) rfl, lw_gd_in (tbs (List.mem_of_getElem? (i := 51) rfl)) rfl⟩
set_option maxRecDepth 20000 in
theorem mwX9_needs : Mw yX9_needs cX9_needs 2 none 1 := ⟨lw_gd_in (tb6 (List.mem_of_getElem? (i := 93) rfl)) rfl, inX9, ⟨by decide +kernel, by decide +kernel⟩, by decide +kernel, Nat.le_of_ble_eq_true rfl⟩
theorem miX9_needs : Mi RX9 yX9_needs := ⟨lw_gd_in (tb6 (List.mem_of_getElem? (i := 92) rfl)) rfl, lw_gd_in (tbs (List.mem_of_getElem? (i := 52) rfl)) rfl⟩
set_option maxRecDepth 20000 in
theorem mwX9_isTwo : Mw yX9_isTwo cX9_isTwo 3 (some .boolean) 2 := ⟨lw_gd_in (tb6 (List.mem_of_getElem? (i := 97) rfl)) rfl, inX9, ⟨by decide +kernel, by decide +kernel⟩, by decide +kernel, Nat.le_of_ble_eq_true rfl⟩
theorem miX9_isTwo : Mi RX9 yX9_isTwo := ⟨lw_gd_in (tb6 (List.mem_of_getElem? (i := 96) rfl)) rfl, lw_gd_in (tbs (List.mem_of_getElem? (i := 53) rfl)) rfl⟩
set_option maxRecDepth 20000 in
theorem mwX9_condHere : Mw yX9_condHere cX9_condHere 1 none 0 := ⟨lw_gd_in (tb6 (List.mem_of_getElem? (i := 101) rfl)) rfl, inX9, ⟨by decide +kernel, by decide +kernel⟩, by decide +kernel, Nat.le_of_ble_eq_true rfl⟩
theorem miX9_condHere : Mi RX9 yX9_condHere := ⟨lw_gd_in (tb6 (List.mem_of_getElem? (i := 100) rfl)) rfl, lw_gd_in (tbs (List.mem_of_getElem? (i := 54) rfl)) rfl⟩
set_option maxRecDepth 20000 in
theorem mwX9_allHere : Mw yX9_allHere cX9_allHere 1 none 0 := ⟨lw_gd_in (tb6 (List.mem_of_getElem? (i := 105) rfl)) rfl, inX9, ⟨by decide +kernel, by decide +kernel⟩, by decide +kernel, Nat.le_of_ble_eq_true rfl⟩
theorem miX9_allHere : Mi RX9 yX9_allHere := ⟨lw_gd_in (tb6 (List.mem_of_getElem? (i := 104) rfl)) rfl, lw_gd_in (tbs (List.mem_of_getElem? (i := 55) rfl)) rfl⟩
set_option maxRecDepth 20000 in
theorem mwX9_oneHere : Mw yX9_oneHere cX9_oneHere 2 none 0 := ⟨lw_gd_in (tb6 (List.mem_of_getElem? (i := 109) rfl)) rfl, inX9, ⟨by decide +kernel, by decide +kernel⟩, by decide +kernel, Nat.le_of_ble_eq_true rfl⟩
theorem miX9_oneHere : Mi RX9 yX9_oneHere := ⟨lw_gd_in (tb6 (List.mem_of_getElem? (i := 108) rfl)) rfl, lw_gd_in (tbs (List.mem_of_getElem? (i := 56) rfl)) rfl⟩
set_option maxRecDepth 20000 in
theorem mwX9_isByte : Mw yX9_isByte cX9_isByte 2 (some .boolean) 1 := ⟨lw_gd_in (tb6 (List.mem_of_getElem? (i := 113) rfl)) rfl, inX9, ⟨by decide +kernel, by decide +kernel⟩, by decide +kernel, Nat.le_of_ble_eq_true rfl⟩
theorem miX9_isByte : Mi RX9 yX9_isByte := ⟨lw_gd_in (tb6 (List.mem_of_getElem? (i := 112) rfl)) rfl, lw_gd_in (tbs (List.mem_of_getElem? (i := 57) rfl)) rfl⟩
set_option maxRecDepth 20000 in
theorem mwX9_comparesHere : Mw yX9_comparesHere cX9_comparesHere 4 none 0 := ⟨lw_gd_in (tb6 (List.mem_of_getElem? (i := 117) rfl)) rfl, inX9, ⟨by decide +kernel, by decide +kernel⟩, by decide +kernel, Nat.le_of_ble_eq_true rfl⟩
theorem miX9_comparesHere : Mi RX9 yX9_comparesHere := ⟨lw_gd_in (tb6 (List.mem_of_getElem? (i := 116) rfl)) rfl, lw_gd_in (tbs (List.mem_of_getElem? (i := 58) rfl)) rfl⟩
set_option maxRecDepth 20000 in
theorem mwX9_valueHere : Mw yX9_valueHere cX9_valueHere 3 (some .int) 0 := ⟨lw_gd_in (tb6 (List.mem_of_getElem? (i := 121) rfl)) rfl, inX9, ⟨by decide +kernel, by decide +kernel⟩, by decide +kernel, Nat.le_of_ble_eq_true rfl⟩
theorem miX9_valueHere : Mi RX9 yX9_valueHere := ⟨lw_gd_in (tb6 (List.mem_of_getElem? (i := 120) rfl)) rfl, lw_gd_in (tbs (List.mem_of_getElem? (i := 59) rfl)) rfl⟩
set_option maxRecDepth 20000 in
theorem mwX9_factHere : Mw yX9_factHere cX9_factHere 1 (some .int) 0 := ⟨lw_gd_in (tb6 (List.mem_of_getElem? (i := 125) rfl)) rfl, inX9, ⟨by decide +kernel, by decide +kernel⟩, by decide +kernel, Nat.le_of_ble_eq_true rfl⟩
theorem miX9_factHere : Mi RX9 yX9_factHere := ⟨lw_gd_in (tb6 (List.mem_of_getElem? (i := 124) rfl)) rfl, lw_gd_in (tbs (List.mem_of_getElem? (i := 60) rfl)) rfl⟩
set_option maxRecDepth 20000 in
theorem mwX9_steps : Mw yX9_steps cX9_steps 4 none 3 := ⟨lw_gd_in (tb6 (List.mem_of_getElem? (i := 129) rfl)) rfl, inX9, ⟨by decide +kernel, by decide +kernel⟩, by decide +kernel, Nat.le_of_ble_eq_true rfl⟩
theorem miX9_steps : Mi RX9 yX9_steps := ⟨lw_gd_in (tb6 (List.mem_of_getElem? (i := 128) rfl)) rfl, lw_gd_in (tbs (List.mem_of_getElem? (i := 61) rfl)) rfl⟩
set_option maxRecDepth 20000 in
theorem mwX9_doHere : Mw yX9_doHere cX9_doHere 1 (some .int) 0 := ⟨lw_gd_in (tb6 (List.mem_of_getElem? (i := 133) rfl)) rfl, inX9, ⟨by decide +kernel, by decide +kernel⟩, by decide +kernel, Nat.le_of_ble_eq_true rfl⟩
theorem miX9_doHere : Mi RX9 yX9_doHere := ⟨lw_gd_in (tb6 (List.mem_of_getElem? (i := 132) rfl)) rfl, lw_gd_in (tbs (List.mem_of_getElem? (i := 62) rfl)) rfl⟩
set_option maxRecDepth 20000 in
theorem mwX9_wash : Mw yX9_wash cX9_wash 1 (some .int) 0 := ⟨lw_gd_in (tb6 (List.mem_of_getElem? (i := 137) rfl)) rfl, inX9, ⟨by decide +kernel, by decide +kernel⟩, by decide +kernel, Nat.le_of_ble_eq_true rfl⟩
theorem miX9_wash : Mi RX9 yX9_wash := ⟨lw_gd_in (tb6 (List.mem_of_getElem? (i := 135) rfl)) rfl, lw_gd_in (tb6 (List.mem_of_getElem? (i := 136) rfl)) rfl⟩
set_option maxRecDepth 20000 in
theorem mwX9_restAct : Mw yX9_restAct cX9_restAct 2 (some .int) 0 := ⟨lw_gd_in (tb6 (List.mem_of_getElem? (i := 141) rfl)) rfl, inX9, ⟨by decide +kernel, by decide +kernel⟩, by decide +kernel, Nat.le_of_ble_eq_true rfl⟩
theorem miX9_restAct : Mi RX9 yX9_restAct := ⟨lw_gd_in (tb6 (List.mem_of_getElem? (i := 140) rfl)) rfl, lw_gd_in (tbs (List.mem_of_getElem? (i := 63) rfl)) rfl⟩
set_option maxRecDepth 20000 in
theorem mwX9_goesWith : Mw yX9_goesWith cX9_goesWith 5 (some .int) 1 := ⟨lw_gd_in (tb6 (List.mem_of_getElem? (i := 145) rfl)) rfl, inX9, ⟨by decide +kernel, by decide +kernel⟩, by decide +kernel, Nat.le_of_ble_eq_true rfl⟩
theorem miX9_goesWith : Mi RX9 yX9_goesWith := ⟨lw_gd_in (tb6 (List.mem_of_getElem? (i := 144) rfl)) rfl, lw_gd_in (tbs (List.mem_of_getElem? (i := 64) rfl)) rfl⟩
set_option maxRecDepth 20000 in
theorem mwX9_does : Mw yX9_does cX9_does 5 (some .int) 2 := ⟨lw_gd_in (tb6 (List.mem_of_getElem? (i := 149) rfl)) rfl, inX9, ⟨by decide +kernel, by decide +kernel⟩, by decide +kernel, Nat.le_of_ble_eq_true rfl⟩
theorem miX9_does : Mi RX9 yX9_does := ⟨lw_gd_in (tb6 (List.mem_of_getElem? (i := 148) rfl)) rfl, lw_gd_in (tbs (List.mem_of_getElem? (i := 65) rfl)) rfl⟩
set_option maxRecDepth 20000 in
theorem mwX9_lesser : Mw yX9_lesser cX9_lesser 2 (some .int) 2 := ⟨lw_gd_in (tb6 (List.mem_of_getElem? (i := 152) rfl)) rfl, inX9, ⟨by decide +kernel, by decide +kernel⟩, by decide +kernel, Nat.le_of_ble_eq_true rfl⟩
set_option maxRecDepth 20000 in
theorem mwX9_isUndone : Mw yX9_isUndone cX9_isUndone 3 none 0 := ⟨lw_gd_in (tb6 (List.mem_of_getElem? (i := 156) rfl)) rfl, inX9, ⟨by decide +kernel, by decide +kernel⟩, by decide +kernel, Nat.le_of_ble_eq_true rfl⟩
theorem miX9_isUndone : Mi RX9 yX9_isUndone := ⟨lw_gd_in (tb6 (List.mem_of_getElem? (i := 155) rfl)) rfl, lw_gd_in (tbs (List.mem_of_getElem? (i := 66) rfl)) rfl⟩
set_option maxRecDepth 20000 in
theorem mwX9_size : Mw yX9_size cX9_size 3 (some .int) 1 := ⟨lw_gd_in (tb6 (List.mem_of_getElem? (i := 159) rfl)) rfl, inX9, ⟨by decide +kernel, by decide +kernel⟩, by decide +kernel, Nat.le_of_ble_eq_true rfl⟩
set_option maxRecDepth 20000 in
theorem mwX9_on : Mw yX9_on cX9_on 2 (some .int) 1 := ⟨lw_gd_in (tb6 (List.mem_of_getElem? (i := 163) rfl)) rfl, inX9, ⟨by decide +kernel, by decide +kernel⟩, by decide +kernel, Nat.le_of_ble_eq_true rfl⟩
theorem miX9_on : Mi RX9 yX9_on := ⟨lw_gd_in (tb6 (List.mem_of_getElem? (i := 161) rfl)) rfl, lw_gd_in (tb6 (List.mem_of_getElem? (i := 162) rfl)) rfl⟩
set_option maxRecDepth 20000 in
theorem mwX9_onBy : Mw yX9_onBy cX9_onBy 4 (some .int) 1 := ⟨lw_gd_in (tb6 (List.mem_of_getElem? (i := 167) rfl)) rfl, inX9, ⟨by decide +kernel, by decide +kernel⟩, by decide +kernel, Nat.le_of_ble_eq_true rfl⟩
theorem miX9_onBy : Mi RX9 yX9_onBy := ⟨lw_gd_in (tb6 (List.mem_of_getElem? (i := 166) rfl)) rfl, lw_gd_in (tbs (List.mem_of_getElem? (i := 67) rfl)) rfl⟩
set_option maxRecDepth 20000 in
theorem mwX9_laysAside : Mw yX9_laysAside cX9_laysAside 3 none 1 := ⟨lw_gd_in (tb6 (List.mem_of_getElem? (i := 171) rfl)) rfl, inX9, ⟨by decide +kernel, by decide +kernel⟩, by decide +kernel, Nat.le_of_ble_eq_true rfl⟩
theorem miX9_laysAside : Mi RX9 yX9_laysAside := ⟨lw_gd_in (tb6 (List.mem_of_getElem? (i := 170) rfl)) rfl, lw_gd_in (tbs (List.mem_of_getElem? (i := 68) rfl)) rfl⟩
set_option maxRecDepth 20000 in
theorem mwX9_laysBack : Mw yX9_laysBack cX9_laysBack 3 none 1 := ⟨lw_gd_in (tb6 (List.mem_of_getElem? (i := 175) rfl)) rfl, inX9, ⟨by decide +kernel, by decide +kernel⟩, by decide +kernel, Nat.le_of_ble_eq_true rfl⟩
theorem miX9_laysBack : Mi RX9 yX9_laysBack := ⟨lw_gd_in (tb6 (List.mem_of_getElem? (i := 174) rfl)) rfl, lw_gd_in (tbs (List.mem_of_getElem? (i := 69) rfl)) rfl⟩
set_option maxRecDepth 20000 in
theorem mwX9_when : Mw yX9_when cX9_when 3 (some .int) 1 := ⟨lw_gd_in (tb6 (List.mem_of_getElem? (i := 179) rfl)) rfl, inX9, ⟨by decide +kernel, by decide +kernel⟩, by decide +kernel, Nat.le_of_ble_eq_true rfl⟩
theorem miX9_when : Mi RX9 yX9_when := ⟨lw_gd_in (tb6 (List.mem_of_getElem? (i := 177) rfl)) rfl, lw_gd_in (tb6 (List.mem_of_getElem? (i := 178) rfl)) rfl⟩
set_option maxRecDepth 20000 in
theorem mwX9_creaseFor : Mw yX9_creaseFor cX9_creaseFor 2 (some .int) 1 := ⟨lw_gd_in (tb6 (List.mem_of_getElem? (i := 183) rfl)) rfl, inX9, ⟨by decide +kernel, by decide +kernel⟩, by decide +kernel, Nat.le_of_ble_eq_true rfl⟩
theorem miX9_creaseFor : Mi RX9 yX9_creaseFor := ⟨lw_gd_in (tb6 (List.mem_of_getElem? (i := 181) rfl)) rfl, lw_gd_in (tb6 (List.mem_of_getElem? (i := 182) rfl)) rfl⟩
set_option maxRecDepth 20000 in
theorem mwX9_valueFor : Mw yX9_valueFor cX9_valueFor 9 (some .int) 2 := ⟨lw_gd_in (tb6 (List.mem_of_getElem? (i := 187) rfl)) rfl, inX9, ⟨by decide +kernel, by decide +kernel⟩, by decide +kernel, Nat.le_of_ble_eq_true rfl⟩
theorem miX9_valueFor : Mi RX9 yX9_valueFor := ⟨lw_gd_in (tb6 (List.mem_of_getElem? (i := 186) rfl)) rfl, lw_gd_in (tbs (List.mem_of_getElem? (i := 70) rfl)) rfl⟩
set_option maxRecDepth 20000 in
theorem mwX9_boardFor : Mw yX9_boardFor cX9_boardFor 2 (some .int) 1 := ⟨lw_gd_in (tb6 (List.mem_of_getElem? (i := 191) rfl)) rfl, inX9, ⟨by decide +kernel, by decide +kernel⟩, by decide +kernel, Nat.le_of_ble_eq_true rfl⟩
theorem miX9_boardFor : Mi RX9 yX9_boardFor := ⟨lw_gd_in (tb6 (List.mem_of_getElem? (i := 189) rfl)) rfl, lw_gd_in (tb6 (List.mem_of_getElem? (i := 190) rfl)) rfl⟩
set_option maxRecDepth 20000 in
theorem mwX9_fat : Mw yX9_fat cX9_fat 3 (some .int) 1 := ⟨lw_gd_in (tb6 (List.mem_of_getElem? (i := 195) rfl)) rfl, inX9, ⟨by decide +kernel, by decide +kernel⟩, by decide +kernel, Nat.le_of_ble_eq_true rfl⟩
theorem miX9_fat : Mi RX9 yX9_fat := ⟨lw_gd_in (tb6 (List.mem_of_getElem? (i := 193) rfl)) rfl, lw_gd_in (tb6 (List.mem_of_getElem? (i := 194) rfl)) rfl⟩
set_option maxRecDepth 20000 in
theorem mwX9_least : Mw yX9_least cX9_least 4 (some .int) 1 := ⟨lw_gd_in (tb6 (List.mem_of_getElem? (i := 199) rfl)) rfl, inX9, ⟨by decide +kernel, by decide +kernel⟩, by decide +kernel, Nat.le_of_ble_eq_true rfl⟩
theorem miX9_least : Mi RX9 yX9_least := ⟨lw_gd_in (tb6 (List.mem_of_getElem? (i := 197) rfl)) rfl, lw_gd_in (tb6 (List.mem_of_getElem? (i := 198) rfl)) rfl⟩
set_option maxRecDepth 20000 in
theorem mwX9_left : Mw yX9_left cX9_left 5 (some .int) 2 := ⟨lw_gd_in (tb6 (List.mem_of_getElem? (i := 203) rfl)) rfl, inX9, ⟨by decide +kernel, by decide +kernel⟩, by decide +kernel, Nat.le_of_ble_eq_true rfl⟩
theorem miX9_left : Mi RX9 yX9_left := ⟨lw_gd_in (tb6 (List.mem_of_getElem? (i := 201) rfl)) rfl, lw_gd_in (tb6 (List.mem_of_getElem? (i := 202) rfl)) rfl⟩
set_option maxRecDepth 20000 in
theorem mwX9_piles : Mw yX9_piles cX9_piles 4 (some .int) 1 := ⟨lw_gd_in (tb6 (List.mem_of_getElem? (i := 207) rfl)) rfl, inX9, ⟨by decide +kernel, by decide +kernel⟩, by decide +kernel, Nat.le_of_ble_eq_true rfl⟩
theorem miX9_piles : Mi RX9 yX9_piles := ⟨lw_gd_in (tb6 (List.mem_of_getElem? (i := 205) rfl)) rfl, lw_gd_in (tb6 (List.mem_of_getElem? (i := 206) rfl)) rfl⟩
set_option maxRecDepth 20000 in
theorem mwX9_pileOf : Mw yX9_pileOf cX9_pileOf 6 (some .int) 1 := ⟨lw_gd_in (tb6 (List.mem_of_getElem? (i := 211) rfl)) rfl, inX9, ⟨by decide +kernel, by decide +kernel⟩, by decide +kernel, Nat.le_of_ble_eq_true rfl⟩
theorem miX9_pileOf : Mi RX9 yX9_pileOf := ⟨lw_gd_in (tb6 (List.mem_of_getElem? (i := 210) rfl)) rfl, lw_gd_in (tbs (List.mem_of_getElem? (i := 71) rfl)) rfl⟩
set_option maxRecDepth 20000 in
theorem mwX9_areClose : Mw yX9_areClose cX9_areClose 4 (some .boolean) 2 := ⟨lw_gd_in (tb6 (List.mem_of_getElem? (i := 215) rfl)) rfl, inX9, ⟨by decide +kernel, by decide +kernel⟩, by decide +kernel, Nat.le_of_ble_eq_true rfl⟩
theorem miX9_areClose : Mi RX9 yX9_areClose := ⟨lw_gd_in (tb6 (List.mem_of_getElem? (i := 214) rfl)) rfl, lw_gd_in (tbs (List.mem_of_getElem? (i := 72) rfl)) rfl⟩
set_option maxRecDepth 20000 in
theorem mwX9_best : Mw yX9_best cX9_best 2 (some .int) 1 := ⟨lw_gd_in (tb6 (List.mem_of_getElem? (i := 219) rfl)) rfl, inX9, ⟨by decide +kernel, by decide +kernel⟩, by decide +kernel, Nat.le_of_ble_eq_true rfl⟩
theorem miX9_best : Mi RX9 yX9_best := ⟨lw_gd_in (tb6 (List.mem_of_getElem? (i := 217) rfl)) rfl, lw_gd_in (tb6 (List.mem_of_getElem? (i := 218) rfl)) rfl⟩
set_option maxRecDepth 20000 in
theorem mwX9_isLong : Mw yX9_isLong cX9_isLong 1 (some .boolean) 1 := ⟨lw_gd_in (tb6 (List.mem_of_getElem? (i := 222) rfl)) rfl, inX9, ⟨by decide +kernel, by decide +kernel⟩, by decide +kernel, Nat.le_of_ble_eq_true rfl⟩
set_option maxRecDepth 20000 in
theorem mwX9_findsPlans : Mw yX9_findsPlans cX9_findsPlans 3 none 2 := ⟨lw_gd_in (tb6 (List.mem_of_getElem? (i := 226) rfl)) rfl, inX9, ⟨by decide +kernel, by decide +kernel⟩, by decide +kernel, Nat.le_of_ble_eq_true rfl⟩
theorem miX9_findsPlans : Mi RX9 yX9_findsPlans := ⟨lw_gd_in (tb6 (List.mem_of_getElem? (i := 225) rfl)) rfl, lw_gd_in (tbs (List.mem_of_getElem? (i := 73) rfl)) rfl⟩
set_option maxRecDepth 20000 in
theorem mwX9_plans : Mw yX9_plans cX9_plans 7 none 4 := ⟨lw_gd_in (tb6 (List.mem_of_getElem? (i := 230) rfl)) rfl, inX9, ⟨by decide +kernel, by decide +kernel⟩, by decide +kernel, Nat.le_of_ble_eq_true rfl⟩
theorem miX9_plans : Mi RX9 yX9_plans := ⟨lw_gd_in (tb6 (List.mem_of_getElem? (i := 229) rfl)) rfl, lw_gd_in (tbs (List.mem_of_getElem? (i := 74) rfl)) rfl⟩
set_option maxRecDepth 20000 in
theorem mwX9_ith : Mw yX9_ith cX9_ith 3 (some .int) 2 := ⟨lw_gd_in (tb6 (List.mem_of_getElem? (i := 234) rfl)) rfl, inX9, ⟨by decide +kernel, by decide +kernel⟩, by decide +kernel, Nat.le_of_ble_eq_true rfl⟩
theorem miX9_ith : Mi RX9 yX9_ith := ⟨lw_gd_in (tb6 (List.mem_of_getElem? (i := 232) rfl)) rfl, lw_gd_in (tb6 (List.mem_of_getElem? (i := 233) rfl)) rfl⟩
set_option maxRecDepth 20000 in
theorem mwX9_ways : Mw yX9_ways cX9_ways 2 (some .int) 1 := ⟨lw_gd_in (tb6 (List.mem_of_getElem? (i := 239) rfl)) rfl, inX9, ⟨by decide +kernel, by decide +kernel⟩, by decide +kernel, Nat.le_of_ble_eq_true rfl⟩
theorem miX9_ways : Mi RX9 yX9_ways := ⟨lw_gd_in (tb6 (List.mem_of_getElem? (i := 237) rfl)) rfl, lw_gd_in (tb6 (List.mem_of_getElem? (i := 238) rfl)) rfl⟩
set_option maxRecDepth 20000 in
theorem mwX9_note : Mw yX9_note cX9_note 3 (some .int) 2 := ⟨lw_gd_in (tb7 (List.mem_of_getElem? (i := 3) rfl)) rfl, inX9, ⟨by decide +kernel, by decide +kernel⟩, by decide +kernel, Nat.le_of_ble_eq_true rfl⟩
theorem miX9_note : Mi RX9 yX9_note := ⟨lw_gd_in (tb7 (List.mem_of_getElem? (i := 1) rfl)) rfl, lw_gd_in (tb7 (List.mem_of_getElem? (i := 2) rfl)) rfl⟩
set_option maxRecDepth 20000 in
theorem mwX9_isSet : Mw yX9_isSet cX9_isSet 2 (some .boolean) 1 := ⟨lw_gd_in (tb7 (List.mem_of_getElem? (i := 7) rfl)) rfl, inX9, ⟨by decide +kernel, by decide +kernel⟩, by decide +kernel, Nat.le_of_ble_eq_true rfl⟩
theorem miX9_isSet : Mi RX9 yX9_isSet := ⟨lw_gd_in (tb7 (List.mem_of_getElem? (i := 6) rfl)) rfl, lw_gd_in (tbs (List.mem_of_getElem? (i := 75) rfl)) rfl⟩
set_option maxRecDepth 20000 in
theorem mwX9_bars : Mw yX9_bars cX9_bars 4 (some .int) 2 := ⟨lw_gd_in (tb7 (List.mem_of_getElem? (i := 11) rfl)) rfl, inX9, ⟨by decide +kernel, by decide +kernel⟩, by decide +kernel, Nat.le_of_ble_eq_true rfl⟩
theorem miX9_bars : Mi RX9 yX9_bars := ⟨lw_gd_in (tb7 (List.mem_of_getElem? (i := 9) rfl)) rfl, lw_gd_in (tb7 (List.mem_of_getElem? (i := 10) rfl)) rfl⟩
set_option maxRecDepth 20000 in
theorem mwX9_game : Mw yX9_game cX9_game 2 (some .int) 1 := ⟨lw_gd_in (tb7 (List.mem_of_getElem? (i := 15) rfl)) rfl, inX9, ⟨by decide +kernel, by decide +kernel⟩, by decide +kernel, Nat.le_of_ble_eq_true rfl⟩
theorem miX9_game : Mi RX9 yX9_game := ⟨lw_gd_in (tb7 (List.mem_of_getElem? (i := 13) rfl)) rfl, lw_gd_in (tb7 (List.mem_of_getElem? (i := 14) rfl)) rfl⟩
set_option maxRecDepth 20000 in
theorem mwX9_valueFrom : Mw yX9_valueFrom cX9_valueFrom 8 (some .int) 2 := ⟨lw_gd_in (tb7 (List.mem_of_getElem? (i := 19) rfl)) rfl, inX9, ⟨by decide +kernel, by decide +kernel⟩, by decide +kernel, Nat.le_of_ble_eq_true rfl⟩
theorem miX9_valueFrom : Mi RX9 yX9_valueFrom := ⟨lw_gd_in (tb7 (List.mem_of_getElem? (i := 18) rfl)) rfl, lw_gd_in (tbs (List.mem_of_getElem? (i := 76) rfl)) rfl⟩
set_option maxRecDepth 20000 in
theorem mwX9_play : Mw yX9_play cX9_play 3 (some .int) 1 := ⟨lw_gd_in (tb7 (List.mem_of_getElem? (i := 23) rfl)) rfl, inX9, ⟨by decide +kernel, by decide +kernel⟩, by decide +kernel, Nat.le_of_ble_eq_true rfl⟩
theorem miX9_play : Mi RX9 yX9_play := ⟨lw_gd_in (tb7 (List.mem_of_getElem? (i := 21) rfl)) rfl, lw_gd_in (tb7 (List.mem_of_getElem? (i := 22) rfl)) rfl⟩
set_option maxRecDepth 20000 in
theorem mwX9_report : Mw yX9_report cX9_report 7 (some .int) 4 := ⟨lw_gd_in (tb7 (List.mem_of_getElem? (i := 27) rfl)) rfl, inX9, ⟨by decide +kernel, by decide +kernel⟩, by decide +kernel, Nat.le_of_ble_eq_true rfl⟩
theorem miX9_report : Mi RX9 yX9_report := ⟨lw_gd_in (tb7 (List.mem_of_getElem? (i := 25) rfl)) rfl, lw_gd_in (tb7 (List.mem_of_getElem? (i := 26) rfl)) rfl⟩
set_option maxRecDepth 20000 in
theorem mwX9_forget : Mw yX9_forget cX9_forget 1 (some .int) 0 := ⟨lw_gd_in (tb7 (List.mem_of_getElem? (i := 31) rfl)) rfl, inX9, ⟨by decide +kernel, by decide +kernel⟩, by decide +kernel, Nat.le_of_ble_eq_true rfl⟩
theorem miX9_forget : Mi RX9 yX9_forget := ⟨lw_gd_in (tb7 (List.mem_of_getElem? (i := 29) rfl)) rfl, lw_gd_in (tb7 (List.mem_of_getElem? (i := 30) rfl)) rfl⟩
set_option maxRecDepth 20000 in
theorem mwX9_lone : Mw yX9_lone cX9_lone 2 (some .int) 1 := ⟨lw_gd_in (tb7 (List.mem_of_getElem? (i := 35) rfl)) rfl, inX9, ⟨by decide +kernel, by decide +kernel⟩, by decide +kernel, Nat.le_of_ble_eq_true rfl⟩
theorem miX9_lone : Mi RX9 yX9_lone := ⟨lw_gd_in (tb7 (List.mem_of_getElem? (i := 33) rfl)) rfl, lw_gd_in (tb7 (List.mem_of_getElem? (i := 34) rfl)) rfl⟩
set_option maxRecDepth 20000 in
theorem mwX9_findsFits : Mw yX9_findsFits cX9_findsFits 3 none 1 := ⟨lw_gd_in (tb7 (List.mem_of_getElem? (i := 39) rfl)) rfl, inX9, ⟨by decide +kernel, by decide +kernel⟩, by decide +kernel, Nat.le_of_ble_eq_true rfl⟩
theorem miX9_findsFits : Mi RX9 yX9_findsFits := ⟨lw_gd_in (tb7 (List.mem_of_getElem? (i := 38) rfl)) rfl, lw_gd_in (tbs (List.mem_of_getElem? (i := 77) rfl)) rfl⟩
set_option maxRecDepth 20000 in
theorem mwX9_lies : Mw yX9_lies cX9_lies 5 none 3 := ⟨lw_gd_in (tb7 (List.mem_of_getElem? (i := 43) rfl)) rfl, inX9, ⟨by decide +kernel, by decide +kernel⟩, by decide +kernel, Nat.le_of_ble_eq_true rfl⟩
theorem miX9_lies : Mi RX9 yX9_lies := ⟨lw_gd_in (tb7 (List.mem_of_getElem? (i := 42) rfl)) rfl, lw_gd_in (tbs (List.mem_of_getElem? (i := 78) rfl)) rfl⟩
set_option maxRecDepth 20000 in
theorem mwX9_isFit : Mw yX9_isFit cX9_isFit 6 (some .boolean) 1 := ⟨lw_gd_in (tb7 (List.mem_of_getElem? (i := 47) rfl)) rfl, inX9, ⟨by decide +kernel, by decide +kernel⟩, by decide +kernel, Nat.le_of_ble_eq_true rfl⟩
theorem miX9_isFit : Mi RX9 yX9_isFit := ⟨lw_gd_in (tb7 (List.mem_of_getElem? (i := 46) rfl)) rfl, lw_gd_in (tbs (List.mem_of_getElem? (i := 79) rfl)) rfl⟩
set_option maxRecDepth 20000 in
theorem mwX9_liar : Mw yX9_liar cX9_liar 4 (some .int) 0 := ⟨lw_gd_in (tb7 (List.mem_of_getElem? (i := 51) rfl)) rfl, inX9, ⟨by decide +kernel, by decide +kernel⟩, by decide +kernel, Nat.le_of_ble_eq_true rfl⟩
theorem miX9_liar : Mi RX9 yX9_liar := ⟨lw_gd_in (tb7 (List.mem_of_getElem? (i := 49) rfl)) rfl, lw_gd_in (tb7 (List.mem_of_getElem? (i := 50) rfl)) rfl⟩
set_option maxRecDepth 20000 in
theorem mwX9_seed : Mw yX9_seed cX9_seed 2 (some .int) 1 := ⟨lw_gd_in (tb7 (List.mem_of_getElem? (i := 55) rfl)) rfl, inX9, ⟨by decide +kernel, by decide +kernel⟩, by decide +kernel, Nat.le_of_ble_eq_true rfl⟩
theorem miX9_seed : Mi RX9 yX9_seed := ⟨lw_gd_in (tb7 (List.mem_of_getElem? (i := 53) rfl)) rfl, lw_gd_in (tb7 (List.mem_of_getElem? (i := 54) rfl)) rfl⟩
set_option maxRecDepth 20000 in
theorem mwX9_lot : Mw yX9_lot cX9_lot 1 (some .int) 0 := ⟨lw_gd_in (tb7 (List.mem_of_getElem? (i := 59) rfl)) rfl, inX9, ⟨by decide +kernel, by decide +kernel⟩, by decide +kernel, Nat.le_of_ble_eq_true rfl⟩
theorem miX9_lot : Mi RX9 yX9_lot := ⟨lw_gd_in (tb7 (List.mem_of_getElem? (i := 57) rfl)) rfl, lw_gd_in (tb7 (List.mem_of_getElem? (i := 58) rfl)) rfl⟩
set_option maxRecDepth 20000 in
theorem mwX9_goesByLot : Mw yX9_goesByLot cX9_goesByLot 1 (some .int) 0 := ⟨lw_gd_in (tb7 (List.mem_of_getElem? (i := 63) rfl)) rfl, inX9, ⟨by decide +kernel, by decide +kernel⟩, by decide +kernel, Nat.le_of_ble_eq_true rfl⟩
theorem miX9_goesByLot : Mi RX9 yX9_goesByLot := ⟨lw_gd_in (tb7 (List.mem_of_getElem? (i := 62) rfl)) rfl, lw_gd_in (tbs (List.mem_of_getElem? (i := 80) rfl)) rfl⟩
set_option maxRecDepth 20000 in
theorem mwX9_times : Mw yX9_times cX9_times 7 (some .int) 2 := ⟨lw_gd_in (tb7 (List.mem_of_getElem? (i := 68) rfl)) rfl, inX9, ⟨by decide +kernel, by decide +kernel⟩, by decide +kernel, Nat.le_of_ble_eq_true rfl⟩
theorem miX9_times : Mi RX9 yX9_times := ⟨lw_gd_in (tb7 (List.mem_of_getElem? (i := 66) rfl)) rfl, lw_gd_in (tb7 (List.mem_of_getElem? (i := 67) rfl)) rfl⟩
set_option maxRecDepth 20000 in
theorem mwX9_prove : Mw yX9_prove cX9_prove 3 (some .int) 1 := ⟨lw_gd_in (tb7 (List.mem_of_getElem? (i := 74) rfl)) rfl, inX9, ⟨by decide +kernel, by decide +kernel⟩, by decide +kernel, Nat.le_of_ble_eq_true rfl⟩
theorem miX9_prove : Mi RX9 yX9_prove := ⟨lw_gd_in (tb7 (List.mem_of_getElem? (i := 72) rfl)) rfl, lw_gd_in (tb7 (List.mem_of_getElem? (i := 73) rfl)) rfl⟩
set_option maxRecDepth 20000 in
theorem mwX9_row : Mw yX9_row cX9_row 3 (some .int) 2 := ⟨lw_gd_in (tb7 (List.mem_of_getElem? (i := 78) rfl)) rfl, inX9, ⟨by decide +kernel, by decide +kernel⟩, by decide +kernel, Nat.le_of_ble_eq_true rfl⟩
theorem miX9_row : Mi RX9 yX9_row := ⟨lw_gd_in (tb7 (List.mem_of_getElem? (i := 76) rfl)) rfl, lw_gd_in (tb7 (List.mem_of_getElem? (i := 77) rfl)) rfl⟩
set_option maxRecDepth 20000 in
theorem mwX9_isRow : Mw yX9_isRow cX9_isRow 3 (some .boolean) 2 := ⟨lw_gd_in (tb7 (List.mem_of_getElem? (i := 82) rfl)) rfl, inX9, ⟨by decide +kernel, by decide +kernel⟩, by decide +kernel, Nat.le_of_ble_eq_true rfl⟩
theorem miX9_isRow : Mi RX9 yX9_isRow := ⟨lw_gd_in (tb7 (List.mem_of_getElem? (i := 81) rfl)) rfl, lw_gd_in (tbs (List.mem_of_getElem? (i := 81) rfl)) rfl⟩
set_option maxRecDepth 20000 in
theorem mwX9_alterRow : Mw yX9_alterRow cX9_alterRow 5 (some .int) 3 := ⟨lw_gd_in (tb7 (List.mem_of_getElem? (i := 86) rfl)) rfl, inX9, ⟨by decide +kernel, by decide +kernel⟩, by decide +kernel, Nat.le_of_ble_eq_true rfl⟩
theorem miX9_alterRow : Mi RX9 yX9_alterRow := ⟨lw_gd_in (tb7 (List.mem_of_getElem? (i := 84) rfl)) rfl, lw_gd_in (tb7 (List.mem_of_getElem? (i := 85) rfl)) rfl⟩
set_option maxRecDepth 20000 in
theorem mwX9_judge : Mw yX9_judge cX9_judge 3 (some .int) 0 := ⟨lw_gd_in (tb7 (List.mem_of_getElem? (i := 90) rfl)) rfl, inX9, ⟨by decide +kernel, by decide +kernel⟩, by decide +kernel, Nat.le_of_ble_eq_true rfl⟩
theorem miX9_judge : Mi RX9 yX9_judge := ⟨lw_gd_in (tb7 (List.mem_of_getElem? (i := 88) rfl)) rfl, lw_gd_in (tb7 (List.mem_of_getElem? (i := 89) rfl)) rfl⟩
set_option maxRecDepth 20000 in
theorem mwX9_isAct : Mw yX9_isAct cX9_isAct 2 (some .boolean) 1 := ⟨lw_gd_in (tb7 (List.mem_of_getElem? (i := 94) rfl)) rfl, inX9, ⟨by decide +kernel, by decide +kernel⟩, by decide +kernel, Nat.le_of_ble_eq_true rfl⟩
theorem miX9_isAct : Mi RX9 yX9_isAct := ⟨lw_gd_in (tb7 (List.mem_of_getElem? (i := 93) rfl)) rfl, lw_gd_in (tbs (List.mem_of_getElem? (i := 82) rfl)) rfl⟩
set_option maxRecDepth 20000 in
theorem mwX9_sheet : Mw yX9_sheet cX9_sheet 5 (some .int) 3 := ⟨lw_gd_in (tb7 (List.mem_of_getElem? (i := 98) rfl)) rfl, inX9, ⟨by decide +kernel, by decide +kernel⟩, by decide +kernel, Nat.le_of_ble_eq_true rfl⟩
theorem miX9_sheet : Mi RX9 yX9_sheet := ⟨lw_gd_in (tb7 (List.mem_of_getElem? (i := 96) rfl)) rfl, lw_gd_in (tb7 (List.mem_of_getElem? (i := 97) rfl)) rfl⟩
set_option maxRecDepth 20000 in
theorem mwX9_isSheet : Mw yX9_isSheet cX9_isSheet 1 (some .boolean) 1 := ⟨lw_gd_in (tb7 (List.mem_of_getElem? (i := 101) rfl)) rfl, inX9, ⟨by decide +kernel, by decide +kernel⟩, by decide +kernel, Nat.le_of_ble_eq_true rfl⟩
set_option maxRecDepth 20000 in
theorem mwX9_write : Mw yX9_write cX9_write 4 (some .int) 3 := ⟨lw_gd_in (tb7 (List.mem_of_getElem? (i := 106) rfl)) rfl, inX9, ⟨by decide +kernel, by decide +kernel⟩, by decide +kernel, Nat.le_of_ble_eq_true rfl⟩
theorem miX9_write : Mi RX9 yX9_write := ⟨lw_gd_in (tb7 (List.mem_of_getElem? (i := 104) rfl)) rfl, lw_gd_in (tb7 (List.mem_of_getElem? (i := 105) rfl)) rfl⟩
set_option maxRecDepth 20000 in
theorem mwX9_item : Mw yX9_item cX9_item 4 (some .int) 3 := ⟨lw_gd_in (tb7 (List.mem_of_getElem? (i := 110) rfl)) rfl, inX9, ⟨by decide +kernel, by decide +kernel⟩, by decide +kernel, Nat.le_of_ble_eq_true rfl⟩
theorem miX9_item : Mi RX9 yX9_item := ⟨lw_gd_in (tb7 (List.mem_of_getElem? (i := 108) rfl)) rfl, lw_gd_in (tb7 (List.mem_of_getElem? (i := 109) rfl)) rfl⟩
set_option maxRecDepth 20000 in
theorem mwX9_lacks : Mw yX9_lacks cX9_lacks 3 (some .int) 2 := ⟨lw_gd_in (tb7 (List.mem_of_getElem? (i := 114) rfl)) rfl, inX9, ⟨by decide +kernel, by decide +kernel⟩, by decide +kernel, Nat.le_of_ble_eq_true rfl⟩
theorem miX9_lacks : Mi RX9 yX9_lacks := ⟨lw_gd_in (tb7 (List.mem_of_getElem? (i := 113) rfl)) rfl, lw_gd_in (tbs (List.mem_of_getElem? (i := 83) rfl)) rfl⟩
set_option maxRecDepth 20000 in
theorem mwX9_goAll : Mw yX9_goAll cX9_goAll 7 (some .int) 3 := ⟨lw_gd_in (tb7 (List.mem_of_getElem? (i := 118) rfl)) rfl, inX9, ⟨by decide +kernel, by decide +kernel⟩, by decide +kernel, Nat.le_of_ble_eq_true rfl⟩
theorem miX9_goAll : Mi RX9 yX9_goAll := ⟨lw_gd_in (tb7 (List.mem_of_getElem? (i := 116) rfl)) rfl, lw_gd_in (tb7 (List.mem_of_getElem? (i := 117) rfl)) rfl⟩
set_option maxRecDepth 20000 in
theorem mwX9_wouldBe : Mw yX9_wouldBe cX9_wouldBe 5 (some .int) 3 := ⟨lw_gd_in (tb7 (List.mem_of_getElem? (i := 123) rfl)) rfl, inX9, ⟨by decide +kernel, by decide +kernel⟩, by decide +kernel, Nat.le_of_ble_eq_true rfl⟩
theorem miX9_wouldBe : Mi RX9 yX9_wouldBe := ⟨lw_gd_in (tb7 (List.mem_of_getElem? (i := 121) rfl)) rfl, lw_gd_in (tb7 (List.mem_of_getElem? (i := 122) rfl)) rfl⟩
set_option maxRecDepth 20000 in
theorem mwX9_sumBy : Mw yX9_sumBy cX9_sumBy 7 (some .int) 3 := ⟨lw_gd_in (tb7 (List.mem_of_getElem? (i := 127) rfl)) rfl, inX9, ⟨by decide +kernel, by decide +kernel⟩, by decide +kernel, Nat.le_of_ble_eq_true rfl⟩
theorem miX9_sumBy : Mi RX9 yX9_sumBy := ⟨lw_gd_in (tb7 (List.mem_of_getElem? (i := 126) rfl)) rfl, lw_gd_in (tbs (List.mem_of_getElem? (i := 84) rfl)) rfl⟩
set_option maxRecDepth 20000 in
theorem mwX9_shelf : Mw yX9_shelf cX9_shelf 5 (some .int) 3 := ⟨lw_gd_in (tb7 (List.mem_of_getElem? (i := 131) rfl)) rfl, inX9, ⟨by decide +kernel, by decide +kernel⟩, by decide +kernel, Nat.le_of_ble_eq_true rfl⟩
theorem miX9_shelf : Mi RX9 yX9_shelf := ⟨lw_gd_in (tb7 (List.mem_of_getElem? (i := 129) rfl)) rfl, lw_gd_in (tb7 (List.mem_of_getElem? (i := 130) rfl)) rfl⟩
set_option maxRecDepth 20000 in
theorem mwX9_isShelf : Mw yX9_isShelf cX9_isShelf 1 (some .boolean) 1 := ⟨lw_gd_in (tb7 (List.mem_of_getElem? (i := 134) rfl)) rfl, inX9, ⟨by decide +kernel, by decide +kernel⟩, by decide +kernel, Nat.le_of_ble_eq_true rfl⟩
set_option maxRecDepth 20000 in
theorem mwX9_taken : Mw yX9_taken cX9_taken 4 (some .int) 2 := ⟨lw_gd_in (tb7 (List.mem_of_getElem? (i := 138) rfl)) rfl, inX9, ⟨by decide +kernel, by decide +kernel⟩, by decide +kernel, Nat.le_of_ble_eq_true rfl⟩
theorem miX9_taken : Mi RX9 yX9_taken := ⟨lw_gd_in (tb7 (List.mem_of_getElem? (i := 136) rfl)) rfl, lw_gd_in (tb7 (List.mem_of_getElem? (i := 137) rfl)) rfl⟩
set_option maxRecDepth 20000 in
theorem mwX9_heldOn : Mw yX9_heldOn cX9_heldOn 2 (some .int) 1 := ⟨lw_gd_in (tb7 (List.mem_of_getElem? (i := 144) rfl)) rfl, inX9, ⟨by decide +kernel, by decide +kernel⟩, by decide +kernel, Nat.le_of_ble_eq_true rfl⟩
theorem miX9_heldOn : Mi RX9 yX9_heldOn := ⟨lw_gd_in (tb7 (List.mem_of_getElem? (i := 143) rfl)) rfl, lw_gd_in (tbs (List.mem_of_getElem? (i := 85) rfl)) rfl⟩
set_option maxRecDepth 20000 in
theorem mwX9_act : Mw yX9_act cX9_act 5 (some .int) 3 := ⟨lw_gd_in (tb7 (List.mem_of_getElem? (i := 148) rfl)) rfl, inX9, ⟨by decide +kernel, by decide +kernel⟩, by decide +kernel, Nat.le_of_ble_eq_true rfl⟩
theorem miX9_act : Mi RX9 yX9_act := ⟨lw_gd_in (tb7 (List.mem_of_getElem? (i := 146) rfl)) rfl, lw_gd_in (tb7 (List.mem_of_getElem? (i := 147) rfl)) rfl⟩
set_option maxRecDepth 20000 in
theorem mwX9_folds : Mw yX9_folds cX9_folds 2 (some .int) 1 := ⟨lw_gd_in (tb7 (List.mem_of_getElem? (i := 152) rfl)) rfl, inX9, ⟨by decide +kernel, by decide +kernel⟩, by decide +kernel, Nat.le_of_ble_eq_true rfl⟩
theorem miX9_folds : Mi RX9 yX9_folds := ⟨lw_gd_in (tb7 (List.mem_of_getElem? (i := 151) rfl)) rfl, lw_gd_in (tbs (List.mem_of_getElem? (i := 86) rfl)) rfl⟩
set_option maxRecDepth 20000 in
theorem mwX9_runs : Mw yX9_runs cX9_runs 2 none 1 := ⟨lw_gd_in (tb7 (List.mem_of_getElem? (i := 156) rfl)) rfl, inX9, ⟨by decide +kernel, by decide +kernel⟩, by decide +kernel, Nat.le_of_ble_eq_true rfl⟩
theorem miX9_runs : Mi RX9 yX9_runs := ⟨lw_gd_in (tb7 (List.mem_of_getElem? (i := 155) rfl)) rfl, lw_gd_in (tbs (List.mem_of_getElem? (i := 87) rfl)) rfl⟩
set_option maxRecDepth 20000 in
theorem mwX9_foldsPlain : Mw yX9_foldsPlain cX9_foldsPlain 2 (some .int) 1 := ⟨lw_gd_in (tb7 (List.mem_of_getElem? (i := 160) rfl)) rfl, inX9, ⟨by decide +kernel, by decide +kernel⟩, by decide +kernel, Nat.le_of_ble_eq_true rfl⟩
theorem miX9_foldsPlain : Mi RX9 yX9_foldsPlain := ⟨lw_gd_in (tb7 (List.mem_of_getElem? (i := 159) rfl)) rfl, lw_gd_in (tbs (List.mem_of_getElem? (i := 88) rfl)) rfl⟩
set_option maxRecDepth 20000 in
theorem mwX9_airs : Mw yX9_airs cX9_airs 2 (some .int) 1 := ⟨lw_gd_in (tb7 (List.mem_of_getElem? (i := 164) rfl)) rfl, inX9, ⟨by decide +kernel, by decide +kernel⟩, by decide +kernel, Nat.le_of_ble_eq_true rfl⟩
theorem miX9_airs : Mi RX9 yX9_airs := ⟨lw_gd_in (tb7 (List.mem_of_getElem? (i := 163) rfl)) rfl, lw_gd_in (tbs (List.mem_of_getElem? (i := 89) rfl)) rfl⟩
set_option maxRecDepth 20000 in
theorem mwX9_airsPlain : Mw yX9_airsPlain cX9_airsPlain 2 (some .int) 1 := ⟨lw_gd_in (tb7 (List.mem_of_getElem? (i := 168) rfl)) rfl, inX9, ⟨by decide +kernel, by decide +kernel⟩, by decide +kernel, Nat.le_of_ble_eq_true rfl⟩
theorem miX9_airsPlain : Mi RX9 yX9_airsPlain := ⟨lw_gd_in (tb7 (List.mem_of_getElem? (i := 167) rfl)) rfl, lw_gd_in (tbs (List.mem_of_getElem? (i := 90) rfl)) rfl⟩
set_option maxRecDepth 20000 in
theorem mwX9_shares : Mw yX9_shares cX9_shares 3 (some .int) 1 := ⟨lw_gd_in (tb7 (List.mem_of_getElem? (i := 172) rfl)) rfl, inX9, ⟨by decide +kernel, by decide +kernel⟩, by decide +kernel, Nat.le_of_ble_eq_true rfl⟩
theorem miX9_shares : Mi RX9 yX9_shares := ⟨lw_gd_in (tb7 (List.mem_of_getElem? (i := 171) rfl)) rfl, lw_gd_in (tbs (List.mem_of_getElem? (i := 91) rfl)) rfl⟩
set_option maxRecDepth 20000 in
theorem mwX9_sharesOfLinen : Mw yX9_sharesOfLinen cX9_sharesOfLinen 2 (some .int) 1 := ⟨lw_gd_in (tb7 (List.mem_of_getElem? (i := 176) rfl)) rfl, inX9, ⟨by decide +kernel, by decide +kernel⟩, by decide +kernel, Nat.le_of_ble_eq_true rfl⟩
theorem miX9_sharesOfLinen : Mi RX9 yX9_sharesOfLinen := ⟨lw_gd_in (tb7 (List.mem_of_getElem? (i := 175) rfl)) rfl, lw_gd_in (tbs (List.mem_of_getElem? (i := 92) rfl)) rfl⟩
set_option maxRecDepth 20000 in
theorem mwX9_sharesPlain : Mw yX9_sharesPlain cX9_sharesPlain 3 (some .int) 1 := ⟨lw_gd_in (tb7 (List.mem_of_getElem? (i := 180) rfl)) rfl, inX9, ⟨by decide +kernel, by decide +kernel⟩, by decide +kernel, Nat.le_of_ble_eq_true rfl⟩
theorem miX9_sharesPlain : Mi RX9 yX9_sharesPlain := ⟨lw_gd_in (tb7 (List.mem_of_getElem? (i := 179) rfl)) rfl, lw_gd_in (tbs (List.mem_of_getElem? (i := 93) rfl)) rfl⟩
set_option maxRecDepth 20000 in
theorem mwX9_stores : Mw yX9_stores cX9_stores 3 (some .int) 1 := ⟨lw_gd_in (tb7 (List.mem_of_getElem? (i := 184) rfl)) rfl, inX9, ⟨by decide +kernel, by decide +kernel⟩, by decide +kernel, Nat.le_of_ble_eq_true rfl⟩
theorem miX9_stores : Mi RX9 yX9_stores := ⟨lw_gd_in (tb7 (List.mem_of_getElem? (i := 183) rfl)) rfl, lw_gd_in (tbs (List.mem_of_getElem? (i := 94) rfl)) rfl⟩
set_option maxRecDepth 20000 in
theorem mwX9_storesPlain : Mw yX9_storesPlain cX9_storesPlain 3 (some .int) 1 := ⟨lw_gd_in (tb7 (List.mem_of_getElem? (i := 188) rfl)) rfl, inX9, ⟨by decide +kernel, by decide +kernel⟩, by decide +kernel, Nat.le_of_ble_eq_true rfl⟩
theorem miX9_storesPlain : Mi RX9 yX9_storesPlain := ⟨lw_gd_in (tb7 (List.mem_of_getElem? (i := 187) rfl)) rfl, lw_gd_in (tbs (List.mem_of_getElem? (i := 95) rfl)) rfl⟩
set_option maxRecDepth 20000 in
theorem mwX9_trace : Mw yX9_trace cX9_trace 2 (some .int) 1 := ⟨lw_gd_in (tb7 (List.mem_of_getElem? (i := 192) rfl)) rfl, inX9, ⟨by decide +kernel, by decide +kernel⟩, by decide +kernel, Nat.le_of_ble_eq_true rfl⟩
theorem miX9_trace : Mi RX9 yX9_trace := ⟨lw_gd_in (tb7 (List.mem_of_getElem? (i := 190) rfl)) rfl, lw_gd_in (tb7 (List.mem_of_getElem? (i := 191) rfl)) rfl⟩
set_option maxRecDepth 20000 in
theorem mwX9_many : Mw yX9_many cX9_many 2 (some .int) 1 := ⟨lw_gd_in (tb7 (List.mem_of_getElem? (i := 196) rfl)) rfl, inX9, ⟨by decide +kernel, by decide +kernel⟩, by decide +kernel, Nat.le_of_ble_eq_true rfl⟩
theorem miX9_many : Mi RX9 yX9_many := ⟨lw_gd_in (tb7 (List.mem_of_getElem? (i := 194) rfl)) rfl, lw_gd_in (tb7 (List.mem_of_getElem? (i := 195) rfl)) rfl⟩
set_option maxRecDepth 20000 in
theorem mwX9_keep : Mw yX9_keep cX9_keep 2 (some .int) 0 := ⟨lw_gd_in (tb7 (List.mem_of_getElem? (i := 200) rfl)) rfl, inX9, ⟨by decide +kernel, by decide +kernel⟩, by decide +kernel, Nat.le_of_ble_eq_true rfl⟩
theorem miX9_keep : Mi RX9 yX9_keep := ⟨lw_gd_in (tb7 (List.mem_of_getElem? (i := 198) rfl)) rfl, lw_gd_in (tb7 (List.mem_of_getElem? (i := 199) rfl)) rfl⟩
set_option maxRecDepth 20000 in
theorem mwX9_again : Mw yX9_again cX9_again 2 (some .int) 0 := ⟨lw_gd_in (tb7 (List.mem_of_getElem? (i := 204) rfl)) rfl, inX9, ⟨by decide +kernel, by decide +kernel⟩, by decide +kernel, Nat.le_of_ble_eq_true rfl⟩
theorem miX9_again : Mi RX9 yX9_again := ⟨lw_gd_in (tb7 (List.mem_of_getElem? (i := 202) rfl)) rfl, lw_gd_in (tb7 (List.mem_of_getElem? (i := 203) rfl)) rfl⟩
theorem mi_objectInit : Cond.instanceMethod objectInit ∈ lw_gd := lw_gd_in (tb1 (List.mem_of_getElem? (i := 25) rfl)) rfl
