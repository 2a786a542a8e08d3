/-! the reference's copying loops -/
theorem cp_aside {b lv : Nat} (hlv : lv < 5) : ∀ m x f {U : V2}, x + m = 38 → m < f → ∃ U', lX9_laysAside_2 b (nI lv) f U (nI x) = some U' ∧ (∀ y, y ≠ b + 3 → U' y = U y) ∧ ∀ i, U' (b + 3) i = if 38 * lv + x ≤ i ∧ i < 38 * lv + 38 then U (b + 1) (i - 38 * lv) else U (b + 3) i := by
  intro m
  induction m with
  | zero =>
    intro x f U h1 h2
    obtain ⟨f, rfl⟩ : ∃ g, f = g + 1 := ⟨f - 1, by omega⟩
    refine ⟨U, ?_, fun _ _ => rfl, fun i => by rw [if_neg (by omega)]⟩
    unfold lX9_laysAside_2
    simp (disch := omega) only [letv, o_b, ↓reduceIte, e_sub, e_add, e_mul, e_ld, e_st, e_lt, e_nlt, e_le, e_nle, e_eq, e_neq, e_div, e_rem, m_lt, m_le, m_eq, m_eq2, m_ng, o_ld, true_and, and_true, Nat.one_ne_zero, Nat.zero_ne_one, Nat.reduceEqDiff, Bool.false_eq_true, not_true_eq_false, not_false_eq_true, li_0, li_1, li_2, li_3, li_4, li_5, li_6, li_7, li_8, li_9, li_10, li_11, li_12, li_13, li_14, li_15, li_16, li_20, li_23, li_25, li_30, li_31, li_32, li_38, li_40, li_41, li_44, li_48, li_50, li_51, li_52, li_57, li_59, li_60, li_61, li_62, li_63, li_66, li_81, li_94, li_97, li_98, li_99, li_100, li_101, li_103, li_104, li_105, li_107, li_108, li_109, li_110, li_111, li_112, li_114, li_115, li_116, li_117, li_118, li_122, li_200, li_572, li_600, li_9999, li_10000, li_12345, li_1103515245]
  | succ m ih =>
    intro x f U h1 h2
    obtain ⟨f, rfl⟩ : ∃ g, f = g + 1 := ⟨f - 1, by omega⟩
    obtain ⟨U', e1, e2, e3⟩ := ih (x + 1) f (U := up2 U (b + 3) (38 * lv + x) (U (b + 1) (x))) (by omega) (by omega)
    refine ⟨U', ?_, fun y hy => by rw [e2 y hy, w_row hy], fun i => ?_⟩
    · unfold lX9_laysAside_2
      simp (disch := omega) only [e1, letv, o_b, ↓reduceIte, e_sub, e_add, e_mul, e_ld, e_st, e_lt, e_nlt, e_le, e_nle, e_eq, e_neq, e_div, e_rem, m_lt, m_le, m_eq, m_eq2, m_ng, o_ld, true_and, and_true, Nat.one_ne_zero, Nat.zero_ne_one, Nat.reduceEqDiff, Bool.false_eq_true, not_true_eq_false, not_false_eq_true, li_0, li_1, li_2, li_3, li_4, li_5, li_6, li_7, li_8, li_9, li_10, li_11, li_12, li_13, li_14, li_15, li_16, li_20, li_23, li_25, li_30, li_31, li_32, li_38, li_40, li_41, li_44, li_48, li_50, li_51, li_52, li_57, li_59, li_60, li_61, li_62, li_63, li_66, li_81, li_94, li_97, li_98, li_99, li_100, li_101, li_103, li_104, li_105, li_107, li_108, li_109, li_110, li_111, li_112, li_114, li_115, li_116, li_117, li_118, li_122, li_200, li_572, li_600, li_9999, li_10000, li_12345, li_1103515245]
    · rw [e3 i]
      by_cases q : 38 * lv + x ≤ i ∧ i < 38 * lv + 38
      · rw [if_pos q]
        by_cases q2 : i = 38 * lv + x
        · subst q2
          rw [if_neg (by omega)]
          exact w_same.trans (by first | rfl | (congr 1; omega))
        · rw [if_pos (by omega), w_row (by omega)]
      · rw [if_neg q, if_neg (by omega), w_idx (by omega)]
theorem cp_back {b lv : Nat} (hlv : lv < 5) : ∀ m x f {U : V2}, x + m = 38 → m < f → ∃ U', lX9_laysBack_2 b (nI lv) f U (nI x) = some U' ∧ (∀ y, y ≠ b + 1 → U' y = U y) ∧ ∀ i, U' (b + 1) i = if x ≤ i ∧ i < 38 then U (b + 3) (38 * lv + i) else U (b + 1) i := by
  intro m
  induction m with
  | zero =>
    intro x f U h1 h2
    obtain ⟨f, rfl⟩ : ∃ g, f = g + 1 := ⟨f - 1, by omega⟩
    refine ⟨U, ?_, fun _ _ => rfl, fun i => by rw [if_neg (by omega)]⟩
    unfold lX9_laysBack_2
    simp (disch := omega) only [letv, o_b, ↓reduceIte, e_sub, e_add, e_mul, e_ld, e_st, e_lt, e_nlt, e_le, e_nle, e_eq, e_neq, e_div, e_rem, m_lt, m_le, m_eq, m_eq2, m_ng, o_ld, true_and, and_true, Nat.one_ne_zero, Nat.zero_ne_one, Nat.reduceEqDiff, Bool.false_eq_true, not_true_eq_false, not_false_eq_true, li_0, li_1, li_2, li_3, li_4, li_5, li_6, li_7, li_8, li_9, li_10, li_11, li_12, li_13, li_14, li_15, li_16, li_20, li_23, li_25, li_30, li_31, li_32, li_38, li_40, li_41, li_44, li_48, li_50, li_51, li_52, li_57, li_59, li_60, li_61, li_62, li_63, li_66, li_81, li_94, li_97, li_98, li_99, li_100, li_101, li_103, li_104, li_105, li_107, li_108, li_109, li_110, li_111, li_112, li_114, li_115, li_116, li_117, li_118, li_122, li_200, li_572, li_600, li_9999, li_10000, li_12345, li_1103515245]
  | succ m ih =>
    intro x f U h1 h2
    obtain ⟨f, rfl⟩ : ∃ g, f = g + 1 := ⟨f - 1, by omega⟩
    obtain ⟨U', e1, e2, e3⟩ := ih (x + 1) f (U := up2 U (b + 1) (x) (U (b + 3) (38 * lv + x))) (by omega) (by omega)
    refine ⟨U', ?_, fun y hy => by rw [e2 y hy, w_row hy], fun i => ?_⟩
    · unfold lX9_laysBack_2
      simp (disch := omega) only [e1, letv, o_b, ↓reduceIte, e_sub, e_add, e_mul, e_ld, e_st, e_lt, e_nlt, e_le, e_nle, e_eq, e_neq, e_div, e_rem, m_lt, m_le, m_eq, m_eq2, m_ng, o_ld, true_and, and_true, Nat.one_ne_zero, Nat.zero_ne_one, Nat.reduceEqDiff, Bool.false_eq_true, not_true_eq_false, not_false_eq_true, li_0, li_1, li_2, li_3, li_4, li_5, li_6, li_7, li_8, li_9, li_10, li_11, li_12, li_13, li_14, li_15, li_16, li_20, li_23, li_25, li_30, li_31, li_32, li_38, li_40, li_41, li_44, li_48, li_50, li_51, li_52, li_57, li_59, li_60, li_61, li_62, li_63, li_66, li_81, li_94, li_97, li_98, li_99, li_100, li_101, li_103, li_104, li_105, li_107, li_108, li_109, li_110, li_111, li_112, li_114, li_115, li_116, li_117, li_118, li_122, li_200, li_572, li_600, li_9999, li_10000, li_12345, li_1103515245]
    · rw [e3 i]
      by_cases q : x ≤ i ∧ i < 38
      · rw [if_pos q]
        by_cases q2 : i = x
        · subst q2
          rw [if_neg (by omega)]
          exact w_same.trans (by first | rfl | (congr 1; omega))
        · rw [if_pos (by omega), w_row (by omega)]
      · rw [if_neg q, if_neg (by omega), w_idx (by omega)]
theorem cp_bef {b : Nat} : ∀ m x f {U : V2}, x + m = 572 → m < f → ∃ U', lX9_rules_2 b f U (nI x) = some U' ∧ (∀ y, y ≠ b + 5 → U' y = U y) ∧ ∀ i, U' (b + 5) i = if x ≤ i ∧ i < 572 then U (b + 1) (i) else U (b + 5) i := by
  intro m
  induction m with
  | zero =>
    intro x f U h1 h2
    obtain ⟨f, rfl⟩ : ∃ g, f = g + 1 := ⟨f - 1, by omega⟩
    refine ⟨U, ?_, fun _ _ => rfl, fun i => by rw [if_neg (by omega)]⟩
    unfold lX9_rules_2
    simp (disch := omega) only [letv, o_b, ↓reduceIte, e_sub, e_add, e_mul, e_ld, e_st, e_lt, e_nlt, e_le, e_nle, e_eq, e_neq, e_div, e_rem, m_lt, m_le, m_eq, m_eq2, m_ng, o_ld, true_and, and_true, Nat.one_ne_zero, Nat.zero_ne_one, Nat.reduceEqDiff, Bool.false_eq_true, not_true_eq_false, not_false_eq_true, li_0, li_1, li_2, li_3, li_4, li_5, li_6, li_7, li_8, li_9, li_10, li_11, li_12, li_13, li_14, li_15, li_16, li_20, li_23, li_25, li_30, li_31, li_32, li_38, li_40, li_41, li_44, li_48, li_50, li_51, li_52, li_57, li_59, li_60, li_61, li_62, li_63, li_66, li_81, li_94, li_97, li_98, li_99, li_100, li_101, li_103, li_104, li_105, li_107, li_108, li_109, li_110, li_111, li_112, li_114, li_115, li_116, li_117, li_118, li_122, li_200, li_572, li_600, li_9999, li_10000, li_12345, li_1103515245]
  | succ m ih =>
    intro x f U h1 h2
    obtain ⟨f, rfl⟩ : ∃ g, f = g + 1 := ⟨f - 1, by omega⟩
    obtain ⟨U', e1, e2, e3⟩ := ih (x + 1) f (U := up2 U (b + 5) (x) (U (b + 1) (x))) (by omega) (by omega)
    refine ⟨U', ?_, fun y hy => by rw [e2 y hy, w_row hy], fun i => ?_⟩
    · unfold lX9_rules_2
      simp (disch := omega) only [e1, letv, o_b, ↓reduceIte, e_sub, e_add, e_mul, e_ld, e_st, e_lt, e_nlt, e_le, e_nle, e_eq, e_neq, e_div, e_rem, m_lt, m_le, m_eq, m_eq2, m_ng, o_ld, true_and, and_true, Nat.one_ne_zero, Nat.zero_ne_one, Nat.reduceEqDiff, Bool.false_eq_true, not_true_eq_false, not_false_eq_true, li_0, li_1, li_2, li_3, li_4, li_5, li_6, li_7, li_8, li_9, li_10, li_11, li_12, li_13, li_14, li_15, li_16, li_20, li_23, li_25, li_30, li_31, li_32, li_38, li_40, li_41, li_44, li_48, li_50, li_51, li_52, li_57, li_59, li_60, li_61, li_62, li_63, li_66, li_81, li_94, li_97, li_98, li_99, li_100, li_101, li_103, li_104, li_105, li_107, li_108, li_109, li_110, li_111, li_112, li_114, li_115, li_116, li_117, li_118, li_122, li_200, li_572, li_600, li_9999, li_10000, li_12345, li_1103515245]
    · rw [e3 i]
      by_cases q : x ≤ i ∧ i < 572
      · rw [if_pos q]
        by_cases q2 : i = x
        · subst q2
          rw [if_neg (by omega)]
          exact w_same.trans (by first | rfl | (congr 1; omega))
        · rw [if_pos (by omega), w_row (by omega)]
      · rw [if_neg q, if_neg (by omega), w_idx (by omega)]
theorem cp_aft {b : Nat} : ∀ m x f {U : V2}, x + m = 572 → m < f → U b 10 = nI 1 → ∃ U', lX9_rules_84 b f U (nI x) = some U' ∧ (∀ y, y ≠ b + 1 → U' y = U y) ∧ ∀ i, U' (b + 1) i = if x ≤ i ∧ i < 572 then U (b + 5) (i) else U (b + 1) i := by
  intro m
  induction m with
  | zero =>
    intro x f U h1 h2 hw
    obtain ⟨f, rfl⟩ : ∃ g, f = g + 1 := ⟨f - 1, by omega⟩
    refine ⟨U, ?_, fun _ _ => rfl, fun i => by rw [if_neg (by omega)]⟩
    unfold lX9_rules_84
    simp (disch := omega) only [letv, o_b, ↓reduceIte, e_sub, e_add, e_mul, e_ld, e_st, e_lt, e_nlt, e_le, e_nle, e_eq, e_neq, e_div, e_rem, m_lt, m_le, m_eq, m_eq2, m_ng, o_ld, true_and, and_true, Nat.one_ne_zero, Nat.zero_ne_one, Nat.reduceEqDiff, Bool.false_eq_true, not_true_eq_false, not_false_eq_true, li_0, li_1, li_2, li_3, li_4, li_5, li_6, li_7, li_8, li_9, li_10, li_11, li_12, li_13, li_14, li_15, li_16, li_20, li_23, li_25, li_30, li_31, li_32, li_38, li_40, li_41, li_44, li_48, li_50, li_51, li_52, li_57, li_59, li_60, li_61, li_62, li_63, li_66, li_81, li_94, li_97, li_98, li_99, li_100, li_101, li_103, li_104, li_105, li_107, li_108, li_109, li_110, li_111, li_112, li_114, li_115, li_116, li_117, li_118, li_122, li_200, li_572, li_600, li_9999, li_10000, li_12345, li_1103515245]
  | succ m ih =>
    intro x f U h1 h2 hw
    obtain ⟨f, rfl⟩ : ∃ g, f = g + 1 := ⟨f - 1, by omega⟩
    obtain ⟨U', e1, e2, e3⟩ := ih (x + 1) f (U := up2 U (b + 1) (x) (U (b + 5) (x))) (by omega) (by omega) (by rw [w_row (by omega)]; exact hw)
    refine ⟨U', ?_, fun y hy => by rw [e2 y hy, w_row hy], fun i => ?_⟩
    · unfold lX9_rules_84
      simp (disch := omega) only [hw, e1, letv, o_b, ↓reduceIte, e_sub, e_add, e_mul, e_ld, e_st, e_lt, e_nlt, e_le, e_nle, e_eq, e_neq, e_div, e_rem, m_lt, m_le, m_eq, m_eq2, m_ng, o_ld, true_and, and_true, Nat.one_ne_zero, Nat.zero_ne_one, Nat.reduceEqDiff, Bool.false_eq_true, not_true_eq_false, not_false_eq_true, li_0, li_1, li_2, li_3, li_4, li_5, li_6, li_7, li_8, li_9, li_10, li_11, li_12, li_13, li_14, li_15, li_16, li_20, li_23, li_25, li_30, li_31, li_32, li_38, li_40, li_41, li_44, li_48, li_50, li_51, li_52, li_57, li_59, li_60, li_61, li_62, li_63, li_66, li_81, li_94, li_97, li_98, li_99, li_100, li_101, li_103, li_104, li_105, li_107, li_108, li_109, li_110, li_111, li_112, li_114, li_115, li_116, li_117, li_118, li_122, li_200, li_572, li_600, li_9999, li_10000, li_12345, li_1103515245]
    · rw [e3 i]
      by_cases q : x ≤ i ∧ i < 572
      · rw [if_pos q]
        by_cases q2 : i = x
        · subst q2
          rw [if_neg (by omega)]
          exact w_same.trans (by first | rfl | (congr 1; omega))
        · rw [if_pos (by omega), w_row (by omega)]
      · rw [if_neg q, if_neg (by omega), w_idx (by omega)]
theorem cp_keep {b : Nat} : ∀ m x f {U : V2}, x + m = 572 → m < f → ∃ U', lX9_keep_2 b f U (nI x) = some U' ∧ (∀ y, y ≠ b + 2 → U' y = U y) ∧ ∀ i, U' (b + 2) i = if x ≤ i ∧ i < 572 then U (b + 1) (i) else U (b + 2) i := by
  intro m
  induction m with
  | zero =>
    intro x f U h1 h2
    obtain ⟨f, rfl⟩ : ∃ g, f = g + 1 := ⟨f - 1, by omega⟩
    refine ⟨U, ?_, fun _ _ => rfl, fun i => by rw [if_neg (by omega)]⟩
    unfold lX9_keep_2
    simp (disch := omega) only [letv, o_b, ↓reduceIte, e_sub, e_add, e_mul, e_ld, e_st, e_lt, e_nlt, e_le, e_nle, e_eq, e_neq, e_div, e_rem, m_lt, m_le, m_eq, m_eq2, m_ng, o_ld, true_and, and_true, Nat.one_ne_zero, Nat.zero_ne_one, Nat.reduceEqDiff, Bool.false_eq_true, not_true_eq_false, not_false_eq_true, li_0, li_1, li_2, li_3, li_4, li_5, li_6, li_7, li_8, li_9, li_10, li_11, li_12, li_13, li_14, li_15, li_16, li_20, li_23, li_25, li_30, li_31, li_32, li_38, li_40, li_41, li_44, li_48, li_50, li_51, li_52, li_57, li_59, li_60, li_61, li_62, li_63, li_66, li_81, li_94, li_97, li_98, li_99, li_100, li_101, li_103, li_104, li_105, li_107, li_108, li_109, li_110, li_111, li_112, li_114, li_115, li_116, li_117, li_118, li_122, li_200, li_572, li_600, li_9999, li_10000, li_12345, li_1103515245]
  | succ m ih =>
    intro x f U h1 h2
    obtain ⟨f, rfl⟩ : ∃ g, f = g + 1 := ⟨f - 1, by omega⟩
    obtain ⟨U', e1, e2, e3⟩ := ih (x + 1) f (U := up2 U (b + 2) (x) (U (b + 1) (x))) (by omega) (by omega)
    refine ⟨U', ?_, fun y hy => by rw [e2 y hy, w_row hy], fun i => ?_⟩
    · unfold lX9_keep_2
      simp (disch := omega) only [e1, letv, o_b, ↓reduceIte, e_sub, e_add, e_mul, e_ld, e_st, e_lt, e_nlt, e_le, e_nle, e_eq, e_neq, e_div, e_rem, m_lt, m_le, m_eq, m_eq2, m_ng, o_ld, true_and, and_true, Nat.one_ne_zero, Nat.zero_ne_one, Nat.reduceEqDiff, Bool.false_eq_true, not_true_eq_false, not_false_eq_true, li_0, li_1, li_2, li_3, li_4, li_5, li_6, li_7, li_8, li_9, li_10, li_11, li_12, li_13, li_14, li_15, li_16, li_20, li_23, li_25, li_30, li_31, li_32, li_38, li_40, li_41, li_44, li_48, li_50, li_51, li_52, li_57, li_59, li_60, li_61, li_62, li_63, li_66, li_81, li_94, li_97, li_98, li_99, li_100, li_101, li_103, li_104, li_105, li_107, li_108, li_109, li_110, li_111, li_112, li_114, li_115, li_116, li_117, li_118, li_122, li_200, li_572, li_600, li_9999, li_10000, li_12345, li_1103515245]
    · rw [e3 i]
      by_cases q : x ≤ i ∧ i < 572
      · rw [if_pos q]
        by_cases q2 : i = x
        · subst q2
          rw [if_neg (by omega)]
          exact w_same.trans (by first | rfl | (congr 1; omega))
        · rw [if_pos (by omega), w_row (by omega)]
      · rw [if_neg q, if_neg (by omega), w_idx (by omega)]
theorem cp_again {b : Nat} : ∀ m x f {U : V2}, x + m = 572 → m < f → ∃ U', lX9_again_12 b f U (nI x) = some U' ∧ (∀ y, y ≠ b + 1 → U' y = U y) ∧ ∀ i, U' (b + 1) i = if x ≤ i ∧ i < 572 then U (b + 2) (i) else U (b + 1) i := by
  intro m
  induction m with
  | zero =>
    intro x f U h1 h2
    obtain ⟨f, rfl⟩ : ∃ g, f = g + 1 := ⟨f - 1, by omega⟩
    refine ⟨U, ?_, fun _ _ => rfl, fun i => by rw [if_neg (by omega)]⟩
    unfold lX9_again_12
    simp (disch := omega) only [letv, o_b, ↓reduceIte, e_sub, e_add, e_mul, e_ld, e_st, e_lt, e_nlt, e_le, e_nle, e_eq, e_neq, e_div, e_rem, m_lt, m_le, m_eq, m_eq2, m_ng, o_ld, true_and, and_true, Nat.one_ne_zero, Nat.zero_ne_one, Nat.reduceEqDiff, Bool.false_eq_true, not_true_eq_false, not_false_eq_true, li_0, li_1, li_2, li_3, li_4, li_5, li_6, li_7, li_8, li_9, li_10, li_11, li_12, li_13, li_14, li_15, li_16, li_20, li_23, li_25, li_30, li_31, li_32, li_38, li_40, li_41, li_44, li_48, li_50, li_51, li_52, li_57, li_59, li_60, li_61, li_62, li_63, li_66, li_81, li_94, li_97, li_98, li_99, li_100, li_101, li_103, li_104, li_105, li_107, li_108, li_109, li_110, li_111, li_112, li_114, li_115, li_116, li_117, li_118, li_122, li_200, li_572, li_600, li_9999, li_10000, li_12345, li_1103515245]
  | succ m ih =>
    intro x f U h1 h2
    obtain ⟨f, rfl⟩ : ∃ g, f = g + 1 := ⟨f - 1, by omega⟩
    obtain ⟨U', e1, e2, e3⟩ := ih (x + 1) f (U := up2 U (b + 1) (x) (U (b + 2) (x))) (by omega) (by omega)
    refine ⟨U', ?_, fun y hy => by rw [e2 y hy, w_row hy], fun i => ?_⟩
    · unfold lX9_again_12
      simp (disch := omega) only [e1, letv, o_b, ↓reduceIte, e_sub, e_add, e_mul, e_ld, e_st, e_lt, e_nlt, e_le, e_nle, e_eq, e_neq, e_div, e_rem, m_lt, m_le, m_eq, m_eq2, m_ng, o_ld, true_and, and_true, Nat.one_ne_zero, Nat.zero_ne_one, Nat.reduceEqDiff, Bool.false_eq_true, not_true_eq_false, not_false_eq_true, li_0, li_1, li_2, li_3, li_4, li_5, li_6, li_7, li_8, li_9, li_10, li_11, li_12, li_13, li_14, li_15, li_16, li_20, li_23, li_25, li_30, li_31, li_32, li_38, li_40, li_41, li_44, li_48, li_50, li_51, li_52, li_57, li_59, li_60, li_61, li_62, li_63, li_66, li_81, li_94, li_97, li_98, li_99, li_100, li_101, li_103, li_104, li_105, li_107, li_108, li_109, li_110, li_111, li_112, li_114, li_115, li_116, li_117, li_118, li_122, li_200, li_572, li_600, li_9999, li_10000, li_12345, li_1103515245]
    · rw [e3 i]
      by_cases q : x ≤ i ∧ i < 572
      · rw [if_pos q]
        by_cases q2 : i = x
        · subst q2
          rw [if_neg (by omega)]
          exact w_same.trans (by first | rfl | (congr 1; omega))
        · rw [if_pos (by omega), w_row (by omega)]
      · rw [if_neg q, if_neg (by omega), w_idx (by omega)]
theorem cp_first {b : Nat} : ∀ m x f {U : V2}, x + m = 4 → m < f → ∃ U', lX9_plans_38 b f U (nI x) = some U' ∧ (∀ y, y ≠ b + 7 → U' y = U y) ∧ ∀ i, U' (b + 7) i = if x ≤ i ∧ i < 4 then U (b + 6) (i) else U (b + 7) i := by
  intro m
  induction m with
  | zero =>
    intro x f U h1 h2
    obtain ⟨f, rfl⟩ : ∃ g, f = g + 1 := ⟨f - 1, by omega⟩
    refine ⟨U, ?_, fun _ _ => rfl, fun i => by rw [if_neg (by omega)]⟩
    unfold lX9_plans_38
    simp (disch := omega) only [letv, o_b, ↓reduceIte, e_sub, e_add, e_mul, e_ld, e_st, e_lt, e_nlt, e_le, e_nle, e_eq, e_neq, e_div, e_rem, m_lt, m_le, m_eq, m_eq2, m_ng, o_ld, true_and, and_true, Nat.one_ne_zero, Nat.zero_ne_one, Nat.reduceEqDiff, Bool.false_eq_true, not_true_eq_false, not_false_eq_true, li_0, li_1, li_2, li_3, li_4, li_5, li_6, li_7, li_8, li_9, li_10, li_11, li_12, li_13, li_14, li_15, li_16, li_20, li_23, li_25, li_30, li_31, li_32, li_38, li_40, li_41, li_44, li_48, li_50, li_51, li_52, li_57, li_59, li_60, li_61, li_62, li_63, li_66, li_81, li_94, li_97, li_98, li_99, li_100, li_101, li_103, li_104, li_105, li_107, li_108, li_109, li_110, li_111, li_112, li_114, li_115, li_116, li_117, li_118, li_122, li_200, li_572, li_600, li_9999, li_10000, li_12345, li_1103515245]
  | succ m ih =>
    intro x f U h1 h2
    obtain ⟨f, rfl⟩ : ∃ g, f = g + 1 := ⟨f - 1, by omega⟩
    obtain ⟨U', e1, e2, e3⟩ := ih (x + 1) f (U := up2 U (b + 7) (x) (U (b + 6) (x))) (by omega) (by omega)
    refine ⟨U', ?_, fun y hy => by rw [e2 y hy, w_row hy], fun i => ?_⟩
    · unfold lX9_plans_38
      simp (disch := omega) only [e1, letv, o_b, ↓reduceIte, e_sub, e_add, e_mul, e_ld, e_st, e_lt, e_nlt, e_le, e_nle, e_eq, e_neq, e_div, e_rem, m_lt, m_le, m_eq, m_eq2, m_ng, o_ld, true_and, and_true, Nat.one_ne_zero, Nat.zero_ne_one, Nat.reduceEqDiff, Bool.false_eq_true, not_true_eq_false, not_false_eq_true, li_0, li_1, li_2, li_3, li_4, li_5, li_6, li_7, li_8, li_9, li_10, li_11, li_12, li_13, li_14, li_15, li_16, li_20, li_23, li_25, li_30, li_31, li_32, li_38, li_40, li_41, li_44, li_48, li_50, li_51, li_52, li_57, li_59, li_60, li_61, li_62, li_63, li_66, li_81, li_94, li_97, li_98, li_99, li_100, li_101, li_103, li_104, li_105, li_107, li_108, li_109, li_110, li_111, li_112, li_114, li_115, li_116, li_117, li_118, li_122, li_200, li_572, li_600, li_9999, li_10000, li_12345, li_1103515245]
    · rw [e3 i]
      by_cases q : x ≤ i ∧ i < 4
      · rw [if_pos q]
        by_cases q2 : i = x
        · subst q2
          rw [if_neg (by omega)]
          exact w_same.trans (by first | rfl | (congr 1; omega))
        · rw [if_pos (by omega), w_row (by omega)]
      · rw [if_neg q, if_neg (by omega), w_idx (by omega)]
section M2
variable {n b : Nat} {U : V2} {E : En} {L : Ld}
theorem m_aside (hn : 1000 ≤ n) {lv : Nat} (hlv : lv < 5) : ∃ U', pX9_laysAside n U b (nI lv) = some U' ∧ (∀ y, y ≠ b + 3 → U' y = U y) ∧ (∀ i, i < 38 * lv ∨ 38 * lv + 38 ≤ i → U' (b + 3) i = U (b + 3) i) ∧ ∀ i, i < 38 → U' (b + 3) (38 * lv + i) = U (b + 1) i := by
  obtain ⟨U', e1, e2, e3⟩ := cp_aside (b := b) hlv 38 0 n (U := U) (by omega) (by omega)
  refine ⟨U', ?_, e2, fun i hi => by rw [e3 i, if_neg (by omega)], fun i hi => by rw [e3 (38 * lv + i), if_pos (by omega)]; congr 1; omega⟩
  unfold pX9_laysAside
  simp (disch := omega) only [e1, letv, o_b, ↓reduceIte, e_sub, e_add, e_mul, e_ld, e_st, e_lt, e_nlt, e_le, e_nle, e_eq, e_neq, e_div, e_rem, m_lt, m_le, m_eq, m_eq2, m_ng, o_ld, true_and, and_true, Nat.one_ne_zero, Nat.zero_ne_one, Nat.reduceEqDiff, Bool.false_eq_true, not_true_eq_false, not_false_eq_true, li_0, li_1, li_2, li_3, li_4, li_5, li_6, li_7, li_8, li_9, li_10, li_11, li_12, li_13, li_14, li_15, li_16, li_20, li_23, li_25, li_30, li_31, li_32, li_38, li_40, li_41, li_44, li_48, li_50, li_51, li_52, li_57, li_59, li_60, li_61, li_62, li_63, li_66, li_81, li_94, li_97, li_98, li_99, li_100, li_101, li_103, li_104, li_105, li_107, li_108, li_109, li_110, li_111, li_112, li_114, li_115, li_116, li_117, li_118, li_122, li_200, li_572, li_600, li_9999, li_10000, li_12345, li_1103515245]
theorem m_back (hn : 1000 ≤ n) {lv : Nat} (hlv : lv < 5) : ∃ U', pX9_laysBack n U b (nI lv) = some U' ∧ (∀ y, y ≠ b + 1 → U' y = U y) ∧ (∀ i, 38 ≤ i → U' (b + 1) i = U (b + 1) i) ∧ ∀ i, i < 38 → U' (b + 1) i = U (b + 3) (38 * lv + i) := by
  obtain ⟨U', e1, e2, e3⟩ := cp_back (b := b) hlv 38 0 n (U := U) (by omega) (by omega)
  refine ⟨U', ?_, e2, fun i hi => by rw [e3 i, if_neg (by omega)], fun i hi => by rw [e3 i, if_pos (by omega)]⟩
  unfold pX9_laysBack
  simp (disch := omega) only [e1, letv, o_b, ↓reduceIte, e_sub, e_add, e_mul, e_ld, e_st, e_lt, e_nlt, e_le, e_nle, e_eq, e_neq, e_div, e_rem, m_lt, m_le, m_eq, m_eq2, m_ng, o_ld, true_and, and_true, Nat.one_ne_zero, Nat.zero_ne_one, Nat.reduceEqDiff, Bool.false_eq_true, not_true_eq_false, not_false_eq_true, li_0, li_1, li_2, li_3, li_4, li_5, li_6, li_7, li_8, li_9, li_10, li_11, li_12, li_13, li_14, li_15, li_16, li_20, li_23, li_25, li_30, li_31, li_32, li_38, li_40, li_41, li_44, li_48, li_50, li_51, li_52, li_57, li_59, li_60, li_61, li_62, li_63, li_66, li_81, li_94, li_97, li_98, li_99, li_100, li_101, li_103, li_104, li_105, li_107, li_108, li_109, li_110, li_111, li_112, li_114, li_115, li_116, li_117, li_118, li_122, li_200, li_572, li_600, li_9999, li_10000, li_12345, li_1103515245]
/-- what was laid aside at a level, and goes back -/
def AS (b lv : Nat) (U : V2) (s : Nat → Int32) : Prop := ∀ i, i < 38 → U (b + 3) (38 * lv + i) = s i
theorem m_restore (hn : 1000 ≤ n) {lv : Nat} (hlv : lv < 5) {s : Nat → Int32} (ha : AS b lv U s) (hs : ∀ i, 38 ≤ i → U (b + 1) i = s i) : ∃ U', pX9_laysBack n U b (nI lv) = some U' ∧ (∀ y, y ≠ b + 1 → U' y = U y) ∧ U' (b + 1) = s := by
  obtain ⟨U', e1, e2, e3, e4⟩ := m_back (n := n) (b := b) (U := U) hn hlv
  refine ⟨U', e1, e2, funext fun i => ?_⟩
  by_cases q : i < 38
  · rw [e4 i q, ha i q]
  · rw [e3 i (by omega), hs i (by omega)]
theorem m_on_l (hn : 1000 ≤ n) (hi : IE E) {N : Nat} (hN : N ≤ 16) : ∀ m x f acc {U : V2} {L : Ld}, x + m = N → m < f → ME (U (b + 1)) E → MC (U (b + 1)) L → IL L → L_w L ≤ E_en E → ∃ U', lX9_onBy_9 n b (nI N) f U (nI acc) (nI x) = some (U', nI (acc + grW E m L)) ∧ MC (U' (b + 1)) (grL E m L) ∧ MF b U U' := by
  have he := hi.2.1
  intro m
  induction m with
  | zero =>
    intro x f acc U L h1 h2 hE h hL hw
    obtain ⟨f, rfl⟩ : ∃ g, f = g + 1 := ⟨f - 1, by omega⟩
    refine ⟨U, ?_, h, MF.rf⟩
    unfold lX9_onBy_9 grW
    simp (disch := omega) only [Nat.add_zero, letv, o_b, ↓reduceIte, e_sub, e_add, e_mul, e_ld, e_st, e_lt, e_nlt, e_le, e_nle, e_eq, e_neq, e_div, e_rem, m_lt, m_le, m_eq, m_eq2, m_ng, o_ld, true_and, and_true, Nat.one_ne_zero, Nat.zero_ne_one, Nat.reduceEqDiff, Bool.false_eq_true, not_true_eq_false, not_false_eq_true, li_0, li_1, li_2, li_3, li_4, li_5, li_6, li_7, li_8, li_9, li_10, li_11, li_12, li_13, li_14, li_15, li_16, li_20, li_23, li_25, li_30, li_31, li_32, li_38, li_40, li_41, li_44, li_48, li_50, li_51, li_52, li_57, li_59, li_60, li_61, li_62, li_63, li_66, li_81, li_94, li_97, li_98, li_99, li_100, li_101, li_103, li_104, li_105, li_107, li_108, li_109, li_110, li_111, li_112, li_114, li_115, li_116, li_117, li_118, li_122, li_200, li_572, li_600, li_9999, li_10000, li_12345, li_1103515245]
  | succ m ih =>
    intro x f acc U L h1 h2 hE h hL hw
    obtain ⟨f, rfl⟩ : ∃ g, f = g + 1 := ⟨f - 1, by omega⟩
    by_cases q : E_en E ≤ L_w L
    · refine ⟨U, ?_, by unfold grL; rw [if_pos q]; exact h, MF.rf⟩
      unfold lX9_onBy_9 grW
      simp (disch := omega) only [m_over hE hi h hL, q, Nat.add_zero, letv, o_b, ↓reduceIte, e_sub, e_add, e_mul, e_ld, e_st, e_lt, e_nlt, e_le, e_nle, e_eq, e_neq, e_div, e_rem, m_lt, m_le, m_eq, m_eq2, m_ng, o_ld, true_and, and_true, Nat.one_ne_zero, Nat.zero_ne_one, Nat.reduceEqDiff, Bool.false_eq_true, not_true_eq_false, not_false_eq_true, li_0, li_1, li_2, li_3, li_4, li_5, li_6, li_7, li_8, li_9, li_10, li_11, li_12, li_13, li_14, li_15, li_16, li_20, li_23, li_25, li_30, li_31, li_32, li_38, li_40, li_41, li_44, li_48, li_50, li_51, li_52, li_57, li_59, li_60, li_61, li_62, li_63, li_66, li_81, li_94, li_97, li_98, li_99, li_100, li_101, li_103, li_104, li_105, li_107, li_108, li_109, li_110, li_111, li_112, li_114, li_115, li_116, li_117, li_118, li_122, li_200, li_572, li_600, li_9999, li_10000, li_12345, li_1103515245]
    · obtain ⟨V1, a1, a2, a3, -⟩ := m_goes hn hE hi h hL (t := rsA E L) rsA_le
      obtain ⟨W2, b1, b2, b3⟩ := ih (x + 1) f (acc + goW E L (rsA E L)) (by omega) (by omega) (hE.mf a3) a2 (goL_IL hL rsA_le (by omega)) (by rw [goL_w]; omega)
      refine ⟨W2, ?_, by unfold grL; rw [if_neg q]; exact b2, a3.tr b3⟩
      unfold lX9_onBy_9 grW
      simp (disch := omega) only [m_over hE hi h hL, q, m_rest hn hE hi h hL, a1, b1, Nat.add_assoc, letv, o_b, ↓reduceIte, e_sub, e_add, e_mul, e_ld, e_st, e_lt, e_nlt, e_le, e_nle, e_eq, e_neq, e_div, e_rem, m_lt, m_le, m_eq, m_eq2, m_ng, o_ld, true_and, and_true, Nat.one_ne_zero, Nat.zero_ne_one, Nat.reduceEqDiff, Bool.false_eq_true, not_true_eq_false, not_false_eq_true, li_0, li_1, li_2, li_3, li_4, li_5, li_6, li_7, li_8, li_9, li_10, li_11, li_12, li_13, li_14, li_15, li_16, li_20, li_23, li_25, li_30, li_31, li_32, li_38, li_40, li_41, li_44, li_48, li_50, li_51, li_52, li_57, li_59, li_60, li_61, li_62, li_63, li_66, li_81, li_94, li_97, li_98, li_99, li_100, li_101, li_103, li_104, li_105, li_107, li_108, li_109, li_110, li_111, li_112, li_114, li_115, li_116, li_117, li_118, li_122, li_200, li_572, li_600, li_9999, li_10000, li_12345, li_1103515245]
theorem m_onBy (hn : 1000 ≤ n) (hE : ME (U (b + 1)) E) (hi : IE E) (h : MC (U (b + 1)) L) (hL : IL L) (hw : L_w L ≤ E_en E) {N : Nat} (hN : N ≤ 16) : ∃ U', pX9_onBy n U b (nI N) = some (nI (grW E N L), U') ∧ ∀ y, y ≠ b + 3 → U' y = U y := by
  obtain ⟨U1, a1, a2, a3, a4⟩ := m_aside (n := n) (b := b) (U := U) hn (lv := 0) (by omega)
  have r1 : U1 (b + 1) = U (b + 1) := a2 _ (by omega)
  obtain ⟨U2, b1, b2, b3⟩ := m_on_l (U := U1) (b := b) hn hi hN N 0 n 0 (by omega) (by omega) (by rw [r1]; exact hE) (by rw [r1]; exact h) hL hw
  obtain ⟨U3, c1, c2, c3⟩ := m_restore (n := n) (b := b) (U := U2) hn (lv := 0) (by omega) (s := U (b + 1)) (fun i hi => by rw [b3.1 _ (by omega)]; exact a4 i hi) (fun i hi => by rw [b3.2 i (by omega), r1])
  refine ⟨U3, ?_, fun y hy => ?_⟩
  · unfold pX9_onBy
    simp (disch := omega) only [a1, b1, c1, Nat.zero_add, letv, o_b, ↓reduceIte, e_sub, e_add, e_mul, e_ld, e_st, e_lt, e_nlt, e_le, e_nle, e_eq, e_neq, e_div, e_rem, m_lt, m_le, m_eq, m_eq2, m_ng, o_ld, true_and, and_true, Nat.one_ne_zero, Nat.zero_ne_one, Nat.reduceEqDiff, Bool.false_eq_true, not_true_eq_false, not_false_eq_true, li_0, li_1, li_2, li_3, li_4, li_5, li_6, li_7, li_8, li_9, li_10, li_11, li_12, li_13, li_14, li_15, li_16, li_20, li_23, li_25, li_30, li_31, li_32, li_38, li_40, li_41, li_44, li_48, li_50, li_51, li_52, li_57, li_59, li_60, li_61, li_62, li_63, li_66, li_81, li_94, li_97, li_98, li_99, li_100, li_101, li_103, li_104, li_105, li_107, li_108, li_109, li_110, li_111, li_112, li_114, li_115, li_116, li_117, li_118, li_122, li_200, li_572, li_600, li_9999, li_10000, li_12345, li_1103515245]
  · by_cases q : y = b + 1
    · rw [q, c3]
    · rw [c2 y q, b3.1 y q, a2 y hy]
end M2
