/-! the reference's next token -/
section X3
variable {n r b tz p : Nat} {tp : Nat → Nat} {V U : V2}
def ToM (b tz : Nat) (tp : Nat → Nat) (U : V2) (p : Nat) : Prop := U b 7 = nI (tfA tz tp p) ∧ U b 8 = nI (ttA tz tp p) ∧ U b 6 = nI (tkA tz tp p) ∧ (tkA tz tp p = 2 → U b 9 = nI (tvA tz tp p))
theorem m_byte (h : TaM b tz tp U) (hB : TB tz tp) {i : Nat} (hi : i ≤ 1000) : pX9_byteAt U b (nI i) = some (if i < tz then nI (tp i) else -(nI 1)) := by
  have hz := hB.1
  unfold pX9_byteAt
  by_cases q : i < tz
  · rw [if_pos q]
    simp (disch := omega) only [h.1, h.2 i q, letv, o_b, ↓reduceIte, e_sub, e_add, e_mul, e_ld, e_st, e_lt, e_nlt, e_le, e_nle, e_eq, e_neq, e_div, e_rem, m_lt, m_le, m_eq, m_eq2, m_ng, o_ld, true_and, and_true, Nat.one_ne_zero, Nat.zero_ne_one, Nat.reduceEqDiff, Bool.false_eq_true, not_true_eq_false, not_false_eq_true, li_0, li_1, li_2, li_3, li_4, li_5, li_6, li_7, li_8, li_9, li_10, li_11, li_12, li_13, li_14, li_15, li_16, li_20, li_23, li_25, li_30, li_31, li_32, li_38, li_40, li_41, li_44, li_48, li_50, li_51, li_52, li_57, li_59, li_60, li_61, li_62, li_63, li_66, li_81, li_94, li_97, li_98, li_99, li_100, li_101, li_103, li_104, li_105, li_107, li_108, li_109, li_110, li_111, li_112, li_114, li_115, li_116, li_117, li_118, li_122, li_200, li_572, li_600, li_9999, li_10000, li_12345, li_1103515245]
  · rw [if_neg q]
    simp (disch := omega) only [h.1, letv, o_b, ↓reduceIte, e_sub, e_add, e_mul, e_ld, e_st, e_lt, e_nlt, e_le, e_nle, e_eq, e_neq, e_div, e_rem, m_lt, m_le, m_eq, m_eq2, m_ng, o_ld, true_and, and_true, Nat.one_ne_zero, Nat.zero_ne_one, Nat.reduceEqDiff, Bool.false_eq_true, not_true_eq_false, not_false_eq_true, li_0, li_1, li_2, li_3, li_4, li_5, li_6, li_7, li_8, li_9, li_10, li_11, li_12, li_13, li_14, li_15, li_16, li_20, li_23, li_25, li_30, li_31, li_32, li_38, li_40, li_41, li_44, li_48, li_50, li_51, li_52, li_57, li_59, li_60, li_61, li_62, li_63, li_66, li_81, li_94, li_97, li_98, li_99, li_100, li_101, li_103, li_104, li_105, li_107, li_108, li_109, li_110, li_111, li_112, li_114, li_115, li_116, li_117, li_118, li_122, li_200, li_572, li_600, li_9999, li_10000, li_12345, li_1103515245]
theorem m_cls (h : TaM b tz tp U) (hB : TB tz tp) {i : Nat} (hi : i ≤ 1000) : ∃ q, pX9_byteAt U b (nI i) = some q ∧ pX9_isAlpha q = some (nI (if tcA tz tp i = 1 then 1 else 0)) ∧ pX9_isDigit q = some (nI (if tcA tz tp i = 2 then 1 else 0)) ∧ ((0 : Int32) ≤ q ↔ tcA tz tp i ≠ 0) ∧ (i < tz → q = nI (tp i)) := by
  refine ⟨_, m_byte h hB hi, ?_⟩
  unfold pX9_isAlpha pX9_isDigit
  by_cases q : i < tz
  · have g := hB.2 i q
    rw [if_pos q]
    have e0 : (0 : Int32) ≤ nI (tp i) := nI_le (a := 0) (b := tp i) (by omega) (by omega)
    rcases (show tp i < 48 ∨ (48 ≤ tp i ∧ tp i ≤ 57) ∨ (58 ≤ tp i ∧ tp i ≤ 96) ∨ (97 ≤ tp i ∧ tp i ≤ 122) ∨ 123 ≤ tp i by omega) with c | c | c | c | c
    · rw [show tcA tz tp i = 3 by unfold tcA; rw [if_neg (by omega), if_neg (by omega), if_neg (by omega)]]
      refine ⟨?_, ?_, ⟨fun _ => by omega, fun _ => e0⟩, fun _ => rfl⟩ <;> simp (disch := omega) only [letv, o_b, ↓reduceIte, e_sub, e_add, e_mul, e_ld, e_st, e_lt, e_nlt, e_le, e_nle, e_eq, e_neq, e_div, e_rem, m_lt, m_le, m_eq, m_eq2, m_ng, o_ld, true_and, and_true, Nat.one_ne_zero, Nat.zero_ne_one, Nat.reduceEqDiff, Bool.false_eq_true, not_true_eq_false, not_false_eq_true, li_0, li_1, li_2, li_3, li_4, li_5, li_6, li_7, li_8, li_9, li_10, li_11, li_12, li_13, li_14, li_15, li_16, li_20, li_23, li_25, li_30, li_31, li_32, li_38, li_40, li_41, li_44, li_48, li_50, li_51, li_52, li_57, li_59, li_60, li_61, li_62, li_63, li_66, li_81, li_94, li_97, li_98, li_99, li_100, li_101, li_103, li_104, li_105, li_107, li_108, li_109, li_110, li_111, li_112, li_114, li_115, li_116, li_117, li_118, li_122, li_200, li_572, li_600, li_9999, li_10000, li_12345, li_1103515245]
    · rw [show tcA tz tp i = 2 by unfold tcA; rw [if_neg (by omega), if_neg (by omega), if_pos (by omega)]]
      refine ⟨?_, ?_, ⟨fun _ => by omega, fun _ => e0⟩, fun _ => rfl⟩ <;> simp (disch := omega) only [letv, o_b, ↓reduceIte, e_sub, e_add, e_mul, e_ld, e_st, e_lt, e_nlt, e_le, e_nle, e_eq, e_neq, e_div, e_rem, m_lt, m_le, m_eq, m_eq2, m_ng, o_ld, true_and, and_true, Nat.one_ne_zero, Nat.zero_ne_one, Nat.reduceEqDiff, Bool.false_eq_true, not_true_eq_false, not_false_eq_true, li_0, li_1, li_2, li_3, li_4, li_5, li_6, li_7, li_8, li_9, li_10, li_11, li_12, li_13, li_14, li_15, li_16, li_20, li_23, li_25, li_30, li_31, li_32, li_38, li_40, li_41, li_44, li_48, li_50, li_51, li_52, li_57, li_59, li_60, li_61, li_62, li_63, li_66, li_81, li_94, li_97, li_98, li_99, li_100, li_101, li_103, li_104, li_105, li_107, li_108, li_109, li_110, li_111, li_112, li_114, li_115, li_116, li_117, li_118, li_122, li_200, li_572, li_600, li_9999, li_10000, li_12345, li_1103515245]
    · rw [show tcA tz tp i = 3 by unfold tcA; rw [if_neg (by omega), if_neg (by omega), if_neg (by omega)]]
      refine ⟨?_, ?_, ⟨fun _ => by omega, fun _ => e0⟩, fun _ => rfl⟩ <;> simp (disch := omega) only [letv, o_b, ↓reduceIte, e_sub, e_add, e_mul, e_ld, e_st, e_lt, e_nlt, e_le, e_nle, e_eq, e_neq, e_div, e_rem, m_lt, m_le, m_eq, m_eq2, m_ng, o_ld, true_and, and_true, Nat.one_ne_zero, Nat.zero_ne_one, Nat.reduceEqDiff, Bool.false_eq_true, not_true_eq_false, not_false_eq_true, li_0, li_1, li_2, li_3, li_4, li_5, li_6, li_7, li_8, li_9, li_10, li_11, li_12, li_13, li_14, li_15, li_16, li_20, li_23, li_25, li_30, li_31, li_32, li_38, li_40, li_41, li_44, li_48, li_50, li_51, li_52, li_57, li_59, li_60, li_61, li_62, li_63, li_66, li_81, li_94, li_97, li_98, li_99, li_100, li_101, li_103, li_104, li_105, li_107, li_108, li_109, li_110, li_111, li_112, li_114, li_115, li_116, li_117, li_118, li_122, li_200, li_572, li_600, li_9999, li_10000, li_12345, li_1103515245]
    · rw [show tcA tz tp i = 1 by unfold tcA; rw [if_neg (by omega), if_pos (by omega)]]
      refine ⟨?_, ?_, ⟨fun _ => by omega, fun _ => e0⟩, fun _ => rfl⟩ <;> simp (disch := omega) only [letv, o_b, ↓reduceIte, e_sub, e_add, e_mul, e_ld, e_st, e_lt, e_nlt, e_le, e_nle, e_eq, e_neq, e_div, e_rem, m_lt, m_le, m_eq, m_eq2, m_ng, o_ld, true_and, and_true, Nat.one_ne_zero, Nat.zero_ne_one, Nat.reduceEqDiff, Bool.false_eq_true, not_true_eq_false, not_false_eq_true, li_0, li_1, li_2, li_3, li_4, li_5, li_6, li_7, li_8, li_9, li_10, li_11, li_12, li_13, li_14, li_15, li_16, li_20, li_23, li_25, li_30, li_31, li_32, li_38, li_40, li_41, li_44, li_48, li_50, li_51, li_52, li_57, li_59, li_60, li_61, li_62, li_63, li_66, li_81, li_94, li_97, li_98, li_99, li_100, li_101, li_103, li_104, li_105, li_107, li_108, li_109, li_110, li_111, li_112, li_114, li_115, li_116, li_117, li_118, li_122, li_200, li_572, li_600, li_9999, li_10000, li_12345, li_1103515245]
    · rw [show tcA tz tp i = 3 by unfold tcA; rw [if_neg (by omega), if_neg (by omega), if_neg (by omega)]]
      refine ⟨?_, ?_, ⟨fun _ => by omega, fun _ => e0⟩, fun _ => rfl⟩ <;> simp (disch := omega) only [letv, o_b, ↓reduceIte, e_sub, e_add, e_mul, e_ld, e_st, e_lt, e_nlt, e_le, e_nle, e_eq, e_neq, e_div, e_rem, m_lt, m_le, m_eq, m_eq2, m_ng, o_ld, true_and, and_true, Nat.one_ne_zero, Nat.zero_ne_one, Nat.reduceEqDiff, Bool.false_eq_true, not_true_eq_false, not_false_eq_true, li_0, li_1, li_2, li_3, li_4, li_5, li_6, li_7, li_8, li_9, li_10, li_11, li_12, li_13, li_14, li_15, li_16, li_20, li_23, li_25, li_30, li_31, li_32, li_38, li_40, li_41, li_44, li_48, li_50, li_51, li_52, li_57, li_59, li_60, li_61, li_62, li_63, li_66, li_81, li_94, li_97, li_98, li_99, li_100, li_101, li_103, li_104, li_105, li_107, li_108, li_109, li_110, li_111, li_112, li_114, li_115, li_116, li_117, li_118, li_122, li_200, li_572, li_600, li_9999, li_10000, li_12345, li_1103515245]
  · rw [if_neg q, show tcA tz tp i = 0 by unfold tcA; rw [if_pos (by omega)]]
    exact ⟨by decide, by decide, ⟨fun e => absurd e (by decide), fun e => absurd rfl e⟩, fun e => absurd e q⟩
theorem m_skip (hB : TB tz tp) : ∀ m i f U, i + m = tz → m < f → TaM b tz tp U → U b 7 = nI i → lX9_nextToken_8 b f U = some (up2 U b 7 (nI (skA tp m i))) := by
  have hz := hB.1
  intro m
  induction m with
  | zero =>
    intro i f U h1 h2 h3 h4
    obtain ⟨f, rfl⟩ : ∃ g, f = g + 1 := ⟨f - 1, by omega⟩
    unfold lX9_nextToken_8 skA
    rw [w_id h4, h4, m_byte h3 hB (by omega), if_neg (by omega)]
    simp (disch := omega) only [letv, o_b, ↓reduceIte, e_sub, e_add, e_mul, e_ld, e_st, e_lt, e_nlt, e_le, e_nle, e_eq, e_neq, e_div, e_rem, m_lt, m_le, m_eq, m_eq2, m_ng, o_ld, true_and, and_true, Nat.one_ne_zero, Nat.zero_ne_one, Nat.reduceEqDiff, Bool.false_eq_true, not_true_eq_false, not_false_eq_true, li_0, li_1, li_2, li_3, li_4, li_5, li_6, li_7, li_8, li_9, li_10, li_11, li_12, li_13, li_14, li_15, li_16, li_20, li_23, li_25, li_30, li_31, li_32, li_38, li_40, li_41, li_44, li_48, li_50, li_51, li_52, li_57, li_59, li_60, li_61, li_62, li_63, li_66, li_81, li_94, li_97, li_98, li_99, li_100, li_101, li_103, li_104, li_105, li_107, li_108, li_109, li_110, li_111, li_112, li_114, li_115, li_116, li_117, li_118, li_122, li_200, li_572, li_600, li_9999, li_10000, li_12345, li_1103515245]
  | succ m ih =>
    intro i f U h1 h2 h3 h4
    obtain ⟨f, rfl⟩ : ∃ g, f = g + 1 := ⟨f - 1, by omega⟩
    have g := hB.2 i (by omega)
    unfold lX9_nextToken_8 skA
    rw [h4, m_byte h3 hB (by omega), if_pos (by omega)]
    by_cases q : tp i = 32
    · have := ih (i + 1) f (up2 U b 7 (nI (i + 1))) (by omega) (by omega) (h3.up (by omega)) w_same
      rw [w_w] at this
      rw [if_pos q]
      simp (disch := omega) only [q, this, letv, o_b, ↓reduceIte, e_sub, e_add, e_mul, e_ld, e_st, e_lt, e_nlt, e_le, e_nle, e_eq, e_neq, e_div, e_rem, m_lt, m_le, m_eq, m_eq2, m_ng, o_ld, true_and, and_true, Nat.one_ne_zero, Nat.zero_ne_one, Nat.reduceEqDiff, Bool.false_eq_true, not_true_eq_false, not_false_eq_true, li_0, li_1, li_2, li_3, li_4, li_5, li_6, li_7, li_8, li_9, li_10, li_11, li_12, li_13, li_14, li_15, li_16, li_20, li_23, li_25, li_30, li_31, li_32, li_38, li_40, li_41, li_44, li_48, li_50, li_51, li_52, li_57, li_59, li_60, li_61, li_62, li_63, li_66, li_81, li_94, li_97, li_98, li_99, li_100, li_101, li_103, li_104, li_105, li_107, li_108, li_109, li_110, li_111, li_112, li_114, li_115, li_116, li_117, li_118, li_122, li_200, li_572, li_600, li_9999, li_10000, li_12345, li_1103515245]
    · rw [if_neg q, w_id h4]
      simp (disch := omega) only [q, letv, o_b, ↓reduceIte, e_sub, e_add, e_mul, e_ld, e_st, e_lt, e_nlt, e_le, e_nle, e_eq, e_neq, e_div, e_rem, m_lt, m_le, m_eq, m_eq2, m_ng, o_ld, true_and, and_true, Nat.one_ne_zero, Nat.zero_ne_one, Nat.reduceEqDiff, Bool.false_eq_true, not_true_eq_false, not_false_eq_true, li_0, li_1, li_2, li_3, li_4, li_5, li_6, li_7, li_8, li_9, li_10, li_11, li_12, li_13, li_14, li_15, li_16, li_20, li_23, li_25, li_30, li_31, li_32, li_38, li_40, li_41, li_44, li_48, li_50, li_51, li_52, li_57, li_59, li_60, li_61, li_62, li_63, li_66, li_81, li_94, li_97, li_98, li_99, li_100, li_101, li_103, li_104, li_105, li_107, li_108, li_109, li_110, li_111, li_112, li_114, li_115, li_116, li_117, li_118, li_122, li_200, li_572, li_600, li_9999, li_10000, li_12345, li_1103515245]
theorem m_ext1 (hB : TB tz tp) : ∀ m i f U, i + m = tz → m < f → TaM b tz tp U → U b 8 = nI i → U b 6 = nI 1 → lX9_nextToken_91 b f U = some (up2 U b 8 (nI (exA tz tp 1 m i))) := by
  have hz := hB.1
  intro m
  induction m with
  | zero =>
    intro i f U h1 h2 h3 h4 h5
    obtain ⟨f, rfl⟩ : ∃ g, f = g + 1 := ⟨f - 1, by omega⟩
    obtain ⟨q, q1, q2, -⟩ := m_cls h3 hB (i := i) (by omega)
    rw [show tcA tz tp i = 0 from tc_0.mpr (by omega)] at q2
    unfold lX9_nextToken_91 exA
    rw [w_id h4, h4]
    simp (disch := omega) only [h5, q1, q2, letv, o_b, ↓reduceIte, e_sub, e_add, e_mul, e_ld, e_st, e_lt, e_nlt, e_le, e_nle, e_eq, e_neq, e_div, e_rem, m_lt, m_le, m_eq, m_eq2, m_ng, o_ld, true_and, and_true, Nat.one_ne_zero, Nat.zero_ne_one, Nat.reduceEqDiff, Bool.false_eq_true, not_true_eq_false, not_false_eq_true, li_0, li_1, li_2, li_3, li_4, li_5, li_6, li_7, li_8, li_9, li_10, li_11, li_12, li_13, li_14, li_15, li_16, li_20, li_23, li_25, li_30, li_31, li_32, li_38, li_40, li_41, li_44, li_48, li_50, li_51, li_52, li_57, li_59, li_60, li_61, li_62, li_63, li_66, li_81, li_94, li_97, li_98, li_99, li_100, li_101, li_103, li_104, li_105, li_107, li_108, li_109, li_110, li_111, li_112, li_114, li_115, li_116, li_117, li_118, li_122, li_200, li_572, li_600, li_9999, li_10000, li_12345, li_1103515245]
  | succ m ih =>
    intro i f U h1 h2 h3 h4 h5
    obtain ⟨f, rfl⟩ : ∃ g, f = g + 1 := ⟨f - 1, by omega⟩
    obtain ⟨q, q1, q2, -⟩ := m_cls h3 hB (i := i) (by omega)
    unfold lX9_nextToken_91 exA
    rw [h4]
    by_cases c : tcA tz tp i = 1
    · have := ih (i + 1) f (up2 U b 8 (nI (i + 1))) (by omega) (by omega) (h3.up (by omega)) w_same (by rw [w_idx (by omega)]; exact h5)
      rw [w_w] at this
      rw [if_pos c] at q2 ⊢
      simp (disch := omega) only [h5, q1, q2, this, letv, o_b, ↓reduceIte, e_sub, e_add, e_mul, e_ld, e_st, e_lt, e_nlt, e_le, e_nle, e_eq, e_neq, e_div, e_rem, m_lt, m_le, m_eq, m_eq2, m_ng, o_ld, true_and, and_true, Nat.one_ne_zero, Nat.zero_ne_one, Nat.reduceEqDiff, Bool.false_eq_true, not_true_eq_false, not_false_eq_true, li_0, li_1, li_2, li_3, li_4, li_5, li_6, li_7, li_8, li_9, li_10, li_11, li_12, li_13, li_14, li_15, li_16, li_20, li_23, li_25, li_30, li_31, li_32, li_38, li_40, li_41, li_44, li_48, li_50, li_51, li_52, li_57, li_59, li_60, li_61, li_62, li_63, li_66, li_81, li_94, li_97, li_98, li_99, li_100, li_101, li_103, li_104, li_105, li_107, li_108, li_109, li_110, li_111, li_112, li_114, li_115, li_116, li_117, li_118, li_122, li_200, li_572, li_600, li_9999, li_10000, li_12345, li_1103515245]
    · rw [if_neg c] at q2 ⊢
      rw [w_id h4]
      simp (disch := omega) only [h5, q1, q2, letv, o_b, ↓reduceIte, e_sub, e_add, e_mul, e_ld, e_st, e_lt, e_nlt, e_le, e_nle, e_eq, e_neq, e_div, e_rem, m_lt, m_le, m_eq, m_eq2, m_ng, o_ld, true_and, and_true, Nat.one_ne_zero, Nat.zero_ne_one, Nat.reduceEqDiff, Bool.false_eq_true, not_true_eq_false, not_false_eq_true, li_0, li_1, li_2, li_3, li_4, li_5, li_6, li_7, li_8, li_9, li_10, li_11, li_12, li_13, li_14, li_15, li_16, li_20, li_23, li_25, li_30, li_31, li_32, li_38, li_40, li_41, li_44, li_48, li_50, li_51, li_52, li_57, li_59, li_60, li_61, li_62, li_63, li_66, li_81, li_94, li_97, li_98, li_99, li_100, li_101, li_103, li_104, li_105, li_107, li_108, li_109, li_110, li_111, li_112, li_114, li_115, li_116, li_117, li_118, li_122, li_200, li_572, li_600, li_9999, li_10000, li_12345, li_1103515245]
theorem m_ext2 (hB : TB tz tp) : ∀ m i acc f U, i + m = tz → m < f → TaM b tz tp U → U b 8 = nI i → U b 6 = nI 2 → U b 9 = nI acc → acc ≤ 100000 → ∃ U', lX9_nextToken_126 b f U = some U' ∧ U' b 8 = nI (exA tz tp 2 m i) ∧ U' b 9 = nI (vlA tp (exA tz tp 2 m i - i) i acc) ∧ (∀ x, x ≠ b → U' x = U x) ∧ ∀ k, k ≠ 8 → k ≠ 9 → U' b k = U b k := by
  have hz := hB.1
  intro m
  induction m with
  | zero =>
    intro i acc f U h1 h2 h3 h4 h5 h6 h7
    obtain ⟨f, rfl⟩ : ∃ g, f = g + 1 := ⟨f - 1, by omega⟩
    obtain ⟨q, q1, -, q2, -⟩ := m_cls h3 hB (i := i) (by omega)
    rw [show tcA tz tp i = 0 from tc_0.mpr (by omega)] at q2
    refine ⟨U, ?_, h4, ?_, fun _ _ => rfl, fun _ _ _ => rfl⟩
    · unfold lX9_nextToken_126
      rw [h4]
      simp (disch := omega) only [h5, q1, q2, letv, o_b, ↓reduceIte, e_sub, e_add, e_mul, e_ld, e_st, e_lt, e_nlt, e_le, e_nle, e_eq, e_neq, e_div, e_rem, m_lt, m_le, m_eq, m_eq2, m_ng, o_ld, true_and, and_true, Nat.one_ne_zero, Nat.zero_ne_one, Nat.reduceEqDiff, Bool.false_eq_true, not_true_eq_false, not_false_eq_true, li_0, li_1, li_2, li_3, li_4, li_5, li_6, li_7, li_8, li_9, li_10, li_11, li_12, li_13, li_14, li_15, li_16, li_20, li_23, li_25, li_30, li_31, li_32, li_38, li_40, li_41, li_44, li_48, li_50, li_51, li_52, li_57, li_59, li_60, li_61, li_62, li_63, li_66, li_81, li_94, li_97, li_98, li_99, li_100, li_101, li_103, li_104, li_105, li_107, li_108, li_109, li_110, li_111, li_112, li_114, li_115, li_116, li_117, li_118, li_122, li_200, li_572, li_600, li_9999, li_10000, li_12345, li_1103515245]
    · unfold exA
      rw [Nat.sub_self]
      exact h6
  | succ m ih =>
    intro i acc f U h1 h2 h3 h4 h5 h6 h7
    obtain ⟨f, rfl⟩ : ∃ g, f = g + 1 := ⟨f - 1, by omega⟩
    obtain ⟨q, q1, -, q2, -, q4⟩ := m_cls h3 hB (i := i) (by omega)
    have q4 := q4 (by omega)
    subst q4
    unfold lX9_nextToken_126 exA
    by_cases c : tcA tz tp i = 2
    · obtain ⟨-, t1, t2⟩ := tc_2 c
      rw [if_pos c] at q2 ⊢
      obtain ⟨a', ha⟩ : ∃ a', a' = if 9999 < acc then acc else 10 * acc + tp i - 48 := ⟨_, rfl⟩
      have ha' : a' ≤ 100000 := by rw [ha]; split <;> omega
      obtain ⟨U', e1, e2, e3, e4, e5⟩ := ih (i + 1) a' f (up2 (up2 U b 9 (nI a')) b 8 (nI (i + 1))) (by omega) (by omega) ((h3.up (by omega)).up (by omega)) w_same (by rw [w_idx (by omega), w_idx (by omega)]; exact h5) (by rw [w_idx (by omega), w_same]) ha'
      have hx := (exA_le (tz := tz) (tp := tp) (so := 2) m (i + 1)).1
      have g8 : up2 U b 9 (nI a') b 8 = nI i := by rw [w_idx (by omega)]; exact h4
      refine ⟨U', ?_, e2, ?_, fun x hx => by rw [e4 x hx, w_row hx, w_row hx], fun k h8 h9 => by rw [e5 k h8 h9, w_idx h8, w_idx h9]⟩
      · rw [h4, q1]
        by_cases w : 9999 < acc
        · rw [if_pos w] at ha
          subst ha
          simp (disch := omega) only [h5, q2, h6, g8, e1, letv, o_b, ↓reduceIte, e_sub, e_add, e_mul, e_ld, e_st, e_lt, e_nlt, e_le, e_nle, e_eq, e_neq, e_div, e_rem, m_lt, m_le, m_eq, m_eq2, m_ng, o_ld, true_and, and_true, Nat.one_ne_zero, Nat.zero_ne_one, Nat.reduceEqDiff, Bool.false_eq_true, not_true_eq_false, not_false_eq_true, li_0, li_1, li_2, li_3, li_4, li_5, li_6, li_7, li_8, li_9, li_10, li_11, li_12, li_13, li_14, li_15, li_16, li_20, li_23, li_25, li_30, li_31, li_32, li_38, li_40, li_41, li_44, li_48, li_50, li_51, li_52, li_57, li_59, li_60, li_61, li_62, li_63, li_66, li_81, li_94, li_97, li_98, li_99, li_100, li_101, li_103, li_104, li_105, li_107, li_108, li_109, li_110, li_111, li_112, li_114, li_115, li_116, li_117, li_118, li_122, li_200, li_572, li_600, li_9999, li_10000, li_12345, li_1103515245]
        · rw [if_neg w] at ha
          subst ha
          simp (disch := omega) only [h5, q2, h6, g8, e1, letv, o_b, ↓reduceIte, e_sub, e_add, e_mul, e_ld, e_st, e_lt, e_nlt, e_le, e_nle, e_eq, e_neq, e_div, e_rem, m_lt, m_le, m_eq, m_eq2, m_ng, o_ld, true_and, and_true, Nat.one_ne_zero, Nat.zero_ne_one, Nat.reduceEqDiff, Bool.false_eq_true, not_true_eq_false, not_false_eq_true, li_0, li_1, li_2, li_3, li_4, li_5, li_6, li_7, li_8, li_9, li_10, li_11, li_12, li_13, li_14, li_15, li_16, li_20, li_23, li_25, li_30, li_31, li_32, li_38, li_40, li_41, li_44, li_48, li_50, li_51, li_52, li_57, li_59, li_60, li_61, li_62, li_63, li_66, li_81, li_94, li_97, li_98, li_99, li_100, li_101, li_103, li_104, li_105, li_107, li_108, li_109, li_110, li_111, li_112, li_114, li_115, li_116, li_117, li_118, li_122, li_200, li_572, li_600, li_9999, li_10000, li_12345, li_1103515245]
      · rw [e3]
        congr 1
        rw [show exA tz tp 2 m (i + 1) - i = (exA tz tp 2 m (i + 1) - (i + 1)) + 1 by omega, vlA, ← ha]
    · rw [if_neg c] at q2 ⊢
      refine ⟨U, ?_, h4, by rw [Nat.sub_self]; exact h6, fun _ _ => rfl, fun _ _ _ => rfl⟩
      rw [h4]
      simp (disch := omega) only [h5, q1, q2, letv, o_b, ↓reduceIte, e_sub, e_add, e_mul, e_ld, e_st, e_lt, e_nlt, e_le, e_nle, e_eq, e_neq, e_div, e_rem, m_lt, m_le, m_eq, m_eq2, m_ng, o_ld, true_and, and_true, Nat.one_ne_zero, Nat.zero_ne_one, Nat.reduceEqDiff, Bool.false_eq_true, not_true_eq_false, not_false_eq_true, li_0, li_1, li_2, li_3, li_4, li_5, li_6, li_7, li_8, li_9, li_10, li_11, li_12, li_13, li_14, li_15, li_16, li_20, li_23, li_25, li_30, li_31, li_32, li_38, li_40, li_41, li_44, li_48, li_50, li_51, li_52, li_57, li_59, li_60, li_61, li_62, li_63, li_66, li_81, li_94, li_97, li_98, li_99, li_100, li_101, li_103, li_104, li_105, li_107, li_108, li_109, li_110, li_111, li_112, li_114, li_115, li_116, li_117, li_118, li_122, li_200, li_572, li_600, li_9999, li_10000, li_12345, li_1103515245]
theorem exA_first {so F : Nat} (h : tcA tz tp F = so) (hF : F < tz) : exA tz tp so (tz - F) F = exA tz tp so (tz - (F + 1)) (F + 1) := by
  rw [show tz - F = (tz - (F + 1)) + 1 by omega, exA, if_pos h]
theorem m_next (hn : 1000 ≤ n) (hB : TB tz tp) (h : TaM b tz tp U) (hp : p ≤ tz) (h8 : U b 8 = nI p) : ∃ U', pX9_nextToken n U b = some U' ∧ ToM b tz tp U' p ∧ (∀ x, x ≠ b → U' x = U x) ∧ ∀ k, (k < 6 ∨ 9 < k) → U' b k = U b k := by
  have hz := hB.1
  have f1 := tf_le (tp := tp) hp
  have f2 := tt_le (tp := tp) hp
  have s3 := tc_3 tz tp (tfA tz tp p)
  have s0 : tcA tz tp (tfA tz tp p) = 0 ↔ tz ≤ tfA tz tp p := tc_0
  have sk : lX9_nextToken_8 b n (up2 U b 7 (nI p)) = some (up2 U b 7 (nI (tfA tz tp p))) := by
    rw [m_skip hB (tz - p) p n (up2 U b 7 (nI p)) (by omega) (by omega) (h.up (by omega)) w_same, w_w]
    rfl
  have tA : ttA tz tp p = if tcA tz tp (tfA tz tp p) = 0 then tfA tz tp p else if tcA tz tp (tfA tz tp p) = 3 then tfA tz tp p + 1 else exA tz tp (tcA tz tp (tfA tz tp p)) (tz - (tfA tz tp p + 1)) (tfA tz tp p + 1) := rfl
  have tS : tkA tz tp p = tcA tz tp (tfA tz tp p) := rfl
  have tv : tvA tz tp p = vlA tp (ttA tz tp p - tfA tz tp p) (tfA tz tp p) 0 := rfl
  unfold ToM
  rw [tv, tS]
  obtain ⟨q, q1, q2, q3, q4, -⟩ := m_cls (h.up (k := 7) (v := nI (tfA tz tp p)) (by omega) |>.up (k := 8) (v := nI (tfA tz tp p)) (by omega)) hB (i := tfA tz tp p) (by omega)
  generalize tfA tz tp p = F at *
  generalize ttA tz tp p = T at *
  have fi := exA_first (tp := tp) (tz := tz) (so := tcA tz tp F) (F := F) rfl
  generalize hS : tcA tz tp F = S at *
  obtain ⟨Y, hY⟩ : ∃ Y, Y = up2 (up2 (up2 (up2 U b 7 (nI F)) b 8 (nI F)) b 6 (nI S)) b 9 (nI 0) := ⟨_, rfl⟩
  have y6 : Y b 6 = nI S := by rw [hY, w_idx (by omega), w_same]
  have y7 : Y b 7 = nI F := by rw [hY, w_idx (by omega), w_idx (by omega), w_idx (by omega), w_same]
  have y8 : Y b 8 = nI F := by rw [hY, w_idx (by omega), w_idx (by omega), w_same]
  have y9 : Y b 9 = nI 0 := by rw [hY, w_same]
  have yo : ∀ x, x ≠ b → Y x = U x := fun x hx => by rw [hY, w_row hx, w_row hx, w_row hx, w_row hx]
  have yk : ∀ k, (k < 6 ∨ 9 < k) → Y b k = U b k := fun k hk => by rw [hY, w_idx (by omega), w_idx (by omega), w_idx (by omega), w_idx (by omega)]
  have yT : TaM b tz tp Y := by rw [hY]; exact (((h.up (by omega)).up (by omega)).up (by omega)).up (by omega)
  have L : ∃ W X, lX9_nextToken_91 b n Y = some W ∧ lX9_nextToken_126 b n W = some X ∧ X b 6 = nI S ∧ X b 7 = nI F ∧ X b 8 = nI (if S = 3 then F else T) ∧ (S = 2 → X b 9 = nI (vlA tp (T - F) F 0)) ∧ (∀ x, x ≠ b → X x = U x) ∧ ∀ k, (k < 6 ∨ 9 < k) → X b k = U b k := by
    obtain ⟨f, hf⟩ : ∃ g, n = g + 1 := ⟨n - 1, by omega⟩
    have no1 : S ≠ 1 → lX9_nextToken_91 b n Y = some Y := fun e => by
      rw [hf]; unfold lX9_nextToken_91; rw [y6]
      simp (disch := omega) only [letv, o_b, ↓reduceIte, e_sub, e_add, e_mul, e_ld, e_st, e_lt, e_nlt, e_le, e_nle, e_eq, e_neq, e_div, e_rem, m_lt, m_le, m_eq, m_eq2, m_ng, o_ld, true_and, and_true, Nat.one_ne_zero, Nat.zero_ne_one, Nat.reduceEqDiff, Bool.false_eq_true, not_true_eq_false, not_false_eq_true, li_0, li_1, li_2, li_3, li_4, li_5, li_6, li_7, li_8, li_9, li_10, li_11, li_12, li_13, li_14, li_15, li_16, li_20, li_23, li_25, li_30, li_31, li_32, li_38, li_40, li_41, li_44, li_48, li_50, li_51, li_52, li_57, li_59, li_60, li_61, li_62, li_63, li_66, li_81, li_94, li_97, li_98, li_99, li_100, li_101, li_103, li_104, li_105, li_107, li_108, li_109, li_110, li_111, li_112, li_114, li_115, li_116, li_117, li_118, li_122, li_200, li_572, li_600, li_9999, li_10000, li_12345, li_1103515245]
    have no2 : ∀ W, W b 6 = nI S → S ≠ 2 → lX9_nextToken_126 b n W = some W := fun W w6 e => by
      rw [hf]; unfold lX9_nextToken_126; rw [w6]
      simp (disch := omega) only [letv, o_b, ↓reduceIte, e_sub, e_add, e_mul, e_ld, e_st, e_lt, e_nlt, e_le, e_nle, e_eq, e_neq, e_div, e_rem, m_lt, m_le, m_eq, m_eq2, m_ng, o_ld, true_and, and_true, Nat.one_ne_zero, Nat.zero_ne_one, Nat.reduceEqDiff, Bool.false_eq_true, not_true_eq_false, not_false_eq_true, li_0, li_1, li_2, li_3, li_4, li_5, li_6, li_7, li_8, li_9, li_10, li_11, li_12, li_13, li_14, li_15, li_16, li_20, li_23, li_25, li_30, li_31, li_32, li_38, li_40, li_41, li_44, li_48, li_50, li_51, li_52, li_57, li_59, li_60, li_61, li_62, li_63, li_66, li_81, li_94, li_97, li_98, li_99, li_100, li_101, li_103, li_104, li_105, li_107, li_108, li_109, li_110, li_111, li_112, li_114, li_115, li_116, li_117, li_118, li_122, li_200, li_572, li_600, li_9999, li_10000, li_12345, li_1103515245]
    rcases (show S = 0 ∨ S = 1 ∨ S = 2 ∨ S = 3 by omega) with e | e | e | e
    · rw [if_pos e] at tA
      refine ⟨Y, Y, no1 (by omega), no2 Y y6 (by omega), y6, y7, ?_, fun q => by omega, yo, yk⟩
      rw [if_neg (by omega), tA]; exact y8
    · rw [if_neg (by omega), if_neg (by omega)] at tA
      have a1 := m_ext1 hB (tz - F) F n Y (by omega) (by omega) yT y8 (by rw [y6, e])
      rw [e] at fi tA
      rw [fi (by omega), ← tA] at a1
      refine ⟨_, _, a1, no2 _ (by rw [w_idx (by omega)]; exact y6) (by omega), ?_, ?_, ?_, fun q => by omega, fun x hx => by rw [w_row hx]; exact yo x hx, fun k hk => by rw [w_idx (by omega)]; exact yk k hk⟩
      · rw [w_idx (by omega)]; exact y6
      · rw [w_idx (by omega)]; exact y7
      · rw [if_neg (by omega), w_same]
    · rw [if_neg (by omega), if_neg (by omega)] at tA
      obtain ⟨X, a1, a2, a3, a4, a5⟩ := m_ext2 hB (tz - F) F 0 n Y (by omega) (by omega) yT y8 (by rw [y6, e]) y9 (by omega)
      rw [e] at fi tA
      rw [fi (by omega), ← tA] at a2 a3
      refine ⟨_, X, no1 (by omega), a1, ?_, ?_, ?_, fun _ => a3, fun x hx => by rw [a4 x hx]; exact yo x hx, fun k hk => by rw [a5 k (by omega) (by omega)]; exact yk k hk⟩
      · rw [a5 6 (by omega) (by omega)]; exact y6
      · rw [a5 7 (by omega) (by omega)]; exact y7
      · rw [if_neg (by omega)]; exact a2
    · rw [if_neg (by omega), if_pos e] at tA
      refine ⟨Y, Y, no1 (by omega), no2 Y y6 (by omega), y6, y7, ?_, fun q => by omega, yo, yk⟩
      rw [if_pos e]; exact y8
  obtain ⟨W, X, l1, l2, l3, l4, l5, l6, l7, l8⟩ := L
  refine ⟨up2 X b 8 (nI T), ?_, ⟨?_, w_same, ?_, fun e => ?_⟩, fun x hx => by rw [w_row hx]; exact l7 x hx, fun k hk => by rw [w_idx (by omega)]; exact l8 k hk⟩
  · unfold pX9_nextToken
    have g7 : up2 U b 7 (nI F) b 7 = nI F := w_same
    have g7' : ∀ v, up2 (up2 U b 7 (nI F)) b 8 v b 7 = nI F := fun v => by rw [w_idx (by omega), w_same]
    have ej : ((if (0 : Int32) ≤ q then ((pX9_isAlpha q).bind fun q10 => if q10 = 0 then ((pX9_isDigit q).bind fun q11 => if q11 = 0 then (some 3) else (some 2)) else (some 1)) else (some 0) : Option (Int32))) = some (nI S) := by
      rw [q2, q3]
      rcases (show S = 0 ∨ S = 1 ∨ S = 2 ∨ S = 3 by omega) with e | e | e | e
      · rw [if_neg (fun g => (q4.mp g) e), e]; rfl
      · rw [if_pos (q4.mpr (by omega)), e]; rfl
      · rw [if_pos (q4.mpr (by omega)), e]; rfl
      · rw [if_pos (q4.mpr (by omega)), e]; rfl
    have hY' : up2 (up2 (up2 (up2 U b 7 (nI F)) b 8 (nI F)) b 6 (nI S)) b 9 0 = Y := hY.symm
    have fin : up2 X b 8 (X b 8 + (if X b 6 ≤ (2 : Int32) then 0 else 1 : Int32)) = up2 X b 8 (nI T) := by
      rw [l3, l5]
      rcases (show S = 3 ∨ S ≤ 2 by omega) with e | e
      · rw [e] at tA ⊢
        rw [if_neg (by decide), if_pos rfl] at tA
        rw [if_pos rfl, if_neg (by decide), tA, show (1 : Int32) = nI 1 from rfl, e_add]
      · rw [if_neg (by omega), if_pos (show nI S ≤ (2 : Int32) from nI_le (a := S) (b := 2) e (by omega)), show (0 : Int32) = nI 0 from rfl, e_add, Nat.add_zero]
    simp only [letv, h8, sk, o_b, g7, g7', q1, ej, hY', l1, l2, fin]
  · rw [w_idx (by omega)]; exact l4
  · rw [w_idx (by omega)]; exact l3
  · rw [w_idx (by omega)]; exact l6 e
end X3
