/-! signs, values, what is needed -/
section X5
variable {n r b tz p : Nat} {tp : Nat → Nat} {V U : V2}
def sgA (tz : Nat) (tp : Nat → Nat) (p c : Nat) : Nat := if tkA tz tp p = 3 ∧ tp (tfA tz tp p) = c then 1 else 0
theorem sg_y {c : Nat} (q : tkA tz tp p = 3) (w : tp (tfA tz tp p) = c) : sgA tz tp p c = 1 := if_pos ⟨q, w⟩
theorem sg_n {c : Nat} (q : ¬ (tkA tz tp p = 3 ∧ tp (tfA tz tp p) = c)) : sgA tz tp p c = 0 := if_neg q
theorem c_sign (hB : TB tz tp) (h : TaC r tz tp V) (hp : p ≤ tz) (hT : ToC r tz tp V p) {c : Nat} {c' : Int32} (hc : c' = nI c) (hc2 : c < 256) : pX5_isSign V r c' = some (nI (sgA tz tp p c)) := by
  subst hc
  obtain ⟨t2, t3, t4, -⟩ := hT
  have f1 := tf_le (tp := tp) hp
  have f2 := tt_le (tp := tp) hp
  have hz := hB.1
  have s3 : tkA tz tp p ≤ 3 := tc_3 _ _ _
  unfold pX5_isSign
  by_cases q : tkA tz tp p = 3
  · have e := h.2 (tfA tz tp p) (by omega)
    have y := hB.2 (tfA tz tp p) (by omega)
    by_cases w : tp (tfA tz tp p) = c
    · rw [sg_y q w]
      simp (disch := omega) only [t2, t4, q, e, w, letv, o_b, ↓reduceIte, e_sub, e_add, e_mul, e_ld, e_st, e_lt, e_nlt, e_le, e_nle, e_eq, e_neq, e_div, e_rem, m_lt, m_le, m_eq, m_eq2, m_ng, o_ld, true_and, and_true, Nat.one_ne_zero, Nat.zero_ne_one, Nat.reduceEqDiff, Bool.false_eq_true, not_true_eq_false, not_false_eq_true, li_0, li_1, li_2, li_3, li_4, li_5, li_6, li_7, li_8, li_9, li_10, li_11, li_12, li_13, li_14, li_15, li_16, li_20, li_23, li_25, li_30, li_31, li_32, li_38, li_40, li_41, li_44, li_48, li_50, li_51, li_52, li_57, li_59, li_60, li_61, li_62, li_63, li_66, li_81, li_94, li_97, li_98, li_99, li_100, li_101, li_103, li_104, li_105, li_107, li_108, li_109, li_110, li_111, li_112, li_114, li_115, li_116, li_117, li_118, li_122, li_200, li_572, li_600, li_9999, li_10000, li_12345, li_1103515245]
    · rw [sg_n (fun z => w z.2)]
      simp (disch := omega) only [t2, t4, q, e, w, letv, o_b, ↓reduceIte, e_sub, e_add, e_mul, e_ld, e_st, e_lt, e_nlt, e_le, e_nle, e_eq, e_neq, e_div, e_rem, m_lt, m_le, m_eq, m_eq2, m_ng, o_ld, true_and, and_true, Nat.one_ne_zero, Nat.zero_ne_one, Nat.reduceEqDiff, Bool.false_eq_true, not_true_eq_false, not_false_eq_true, li_0, li_1, li_2, li_3, li_4, li_5, li_6, li_7, li_8, li_9, li_10, li_11, li_12, li_13, li_14, li_15, li_16, li_20, li_23, li_25, li_30, li_31, li_32, li_38, li_40, li_41, li_44, li_48, li_50, li_51, li_52, li_57, li_59, li_60, li_61, li_62, li_63, li_66, li_81, li_94, li_97, li_98, li_99, li_100, li_101, li_103, li_104, li_105, li_107, li_108, li_109, li_110, li_111, li_112, li_114, li_115, li_116, li_117, li_118, li_122, li_200, li_572, li_600, li_9999, li_10000, li_12345, li_1103515245]
  · rw [sg_n (fun z => q z.1)]
    simp (disch := omega) only [t4, q, letv, o_b, ↓reduceIte, e_sub, e_add, e_mul, e_ld, e_st, e_lt, e_nlt, e_le, e_nle, e_eq, e_neq, e_div, e_rem, m_lt, m_le, m_eq, m_eq2, m_ng, o_ld, true_and, and_true, Nat.one_ne_zero, Nat.zero_ne_one, Nat.reduceEqDiff, Bool.false_eq_true, not_true_eq_false, not_false_eq_true, li_0, li_1, li_2, li_3, li_4, li_5, li_6, li_7, li_8, li_9, li_10, li_11, li_12, li_13, li_14, li_15, li_16, li_20, li_23, li_25, li_30, li_31, li_32, li_38, li_40, li_41, li_44, li_48, li_50, li_51, li_52, li_57, li_59, li_60, li_61, li_62, li_63, li_66, li_81, li_94, li_97, li_98, li_99, li_100, li_101, li_103, li_104, li_105, li_107, li_108, li_109, li_110, li_111, li_112, li_114, li_115, li_116, li_117, li_118, li_122, li_200, li_572, li_600, li_9999, li_10000, li_12345, li_1103515245]
theorem m_sign (hB : TB tz tp) (h : TaM b tz tp U) (hp : p ≤ tz) (hT : ToM b tz tp U p) {c : Nat} {c' : Int32} (hc : c' = nI c) (hc2 : c < 256) : pX9_isByte U b c' = some (nI (sgA tz tp p c)) := by
  subst hc
  obtain ⟨t7, t8, t6, -⟩ := hT
  have f1 := tf_le (tp := tp) hp
  have f2 := tt_le (tp := tp) hp
  have hz := hB.1
  have s3 : tkA tz tp p ≤ 3 := tc_3 _ _ _
  unfold pX9_isByte
  by_cases q : tkA tz tp p = 3
  · have y := hB.2 (tfA tz tp p) (by omega)
    have e := m_byte h hB (i := tfA tz tp p) (by omega)
    rw [if_pos (by omega)] at e
    by_cases w : tp (tfA tz tp p) = c
    · rw [sg_y q w]
      simp (disch := omega) only [t7, t6, q, e, w, letv, o_b, ↓reduceIte, e_sub, e_add, e_mul, e_ld, e_st, e_lt, e_nlt, e_le, e_nle, e_eq, e_neq, e_div, e_rem, m_lt, m_le, m_eq, m_eq2, m_ng, o_ld, true_and, and_true, Nat.one_ne_zero, Nat.zero_ne_one, Nat.reduceEqDiff, Bool.false_eq_true, not_true_eq_false, not_false_eq_true, li_0, li_1, li_2, li_3, li_4, li_5, li_6, li_7, li_8, li_9, li_10, li_11, li_12, li_13, li_14, li_15, li_16, li_20, li_23, li_25, li_30, li_31, li_32, li_38, li_40, li_41, li_44, li_48, li_50, li_51, li_52, li_57, li_59, li_60, li_61, li_62, li_63, li_66, li_81, li_94, li_97, li_98, li_99, li_100, li_101, li_103, li_104, li_105, li_107, li_108, li_109, li_110, li_111, li_112, li_114, li_115, li_116, li_117, li_118, li_122, li_200, li_572, li_600, li_9999, li_10000, li_12345, li_1103515245]
    · rw [sg_n (fun z => w z.2)]
      simp (disch := omega) only [t7, t6, q, e, w, letv, o_b, ↓reduceIte, e_sub, e_add, e_mul, e_ld, e_st, e_lt, e_nlt, e_le, e_nle, e_eq, e_neq, e_div, e_rem, m_lt, m_le, m_eq, m_eq2, m_ng, o_ld, true_and, and_true, Nat.one_ne_zero, Nat.zero_ne_one, Nat.reduceEqDiff, Bool.false_eq_true, not_true_eq_false, not_false_eq_true, li_0, li_1, li_2, li_3, li_4, li_5, li_6, li_7, li_8, li_9, li_10, li_11, li_12, li_13, li_14, li_15, li_16, li_20, li_23, li_25, li_30, li_31, li_32, li_38, li_40, li_41, li_44, li_48, li_50, li_51, li_52, li_57, li_59, li_60, li_61, li_62, li_63, li_66, li_81, li_94, li_97, li_98, li_99, li_100, li_101, li_103, li_104, li_105, li_107, li_108, li_109, li_110, li_111, li_112, li_114, li_115, li_116, li_117, li_118, li_122, li_200, li_572, li_600, li_9999, li_10000, li_12345, li_1103515245]
  · rw [sg_n (fun z => q z.1)]
    simp (disch := omega) only [t6, q, letv, o_b, ↓reduceIte, e_sub, e_add, e_mul, e_ld, e_st, e_lt, e_nlt, e_le, e_nle, e_eq, e_neq, e_div, e_rem, m_lt, m_le, m_eq, m_eq2, m_ng, o_ld, true_and, and_true, Nat.one_ne_zero, Nat.zero_ne_one, Nat.reduceEqDiff, Bool.false_eq_true, not_true_eq_false, not_false_eq_true, li_0, li_1, li_2, li_3, li_4, li_5, li_6, li_7, li_8, li_9, li_10, li_11, li_12, li_13, li_14, li_15, li_16, li_20, li_23, li_25, li_30, li_31, li_32, li_38, li_40, li_41, li_44, li_48, li_50, li_51, li_52, li_57, li_59, li_60, li_61, li_62, li_63, li_66, li_81, li_94, li_97, li_98, li_99, li_100, li_101, li_103, li_104, li_105, li_107, li_108, li_109, li_110, li_111, li_112, li_114, li_115, li_116, li_117, li_118, li_122, li_200, li_572, li_600, li_9999, li_10000, li_12345, li_1103515245]
theorem sg_01 (tz : Nat) (tp : Nat → Nat) (p c : Nat) : sgA tz tp p c = 0 ∨ sgA tz tp p c = 1 := by
  unfold sgA
  split
  · exact Or.inr rfl
  · exact Or.inl rfl
theorem sg_tt (hp : p ≤ tz) {c : Nat} (h : sgA tz tp p c = 1) : p + 1 ≤ ttA tz tp p := by
  have f1 := tf_le (tp := tp) hp
  have f2 := tt_le (tp := tp) hp
  unfold sgA at h
  split at h
  · rename_i q
    have := f2.2.2 (by omega)
    omega
  · omega
theorem c_isW {w : Nat} (h : V r 5 = wnI w) (hw : w ≤ 18) {a c : Nat} {a' c' : Int32} (ha : a' = nI a) (hc : c' = nI c) (h20 : a ≤ 20 ∧ c ≤ 20) : pX5_isWord V r a' c' = some (nI (if a + 1 ≤ w ∧ w ≤ c + 1 then 1 else 0)) := by
  subst ha hc
  unfold pX5_isWord
  rw [h]
  match w, hw with
  | 0, _ =>
    rw [wn_0, if_neg (show ¬ (a + 1 ≤ 0 ∧ 0 ≤ c + 1) by omega)]
    simp (disch := omega) only [letv, o_b, ↓reduceIte, e_sub, e_add, e_mul, e_ld, e_st, e_lt, e_nlt, e_le, e_nle, e_eq, e_neq, e_div, e_rem, m_lt, m_le, m_eq, m_eq2, m_ng, o_ld, true_and, and_true, Nat.one_ne_zero, Nat.zero_ne_one, Nat.reduceEqDiff, Bool.false_eq_true, not_true_eq_false, not_false_eq_true, li_0, li_1, li_2, li_3, li_4, li_5, li_6, li_7, li_8, li_9, li_10, li_11, li_12, li_13, li_14, li_15, li_16, li_20, li_23, li_25, li_30, li_31, li_32, li_38, li_40, li_41, li_44, li_48, li_50, li_51, li_52, li_57, li_59, li_60, li_61, li_62, li_63, li_66, li_81, li_94, li_97, li_98, li_99, li_100, li_101, li_103, li_104, li_105, li_107, li_108, li_109, li_110, li_111, li_112, li_114, li_115, li_116, li_117, li_118, li_122, li_200, li_572, li_600, li_9999, li_10000, li_12345, li_1103515245]
  | w + 1, hw =>
    rw [wn_s]
    by_cases q1 : w < a
    · rw [if_neg (show ¬ (a + 1 ≤ w + 1 ∧ w + 1 ≤ c + 1) by omega)]
      simp (disch := omega) only [q1, letv, o_b, ↓reduceIte, e_sub, e_add, e_mul, e_ld, e_st, e_lt, e_nlt, e_le, e_nle, e_eq, e_neq, e_div, e_rem, m_lt, m_le, m_eq, m_eq2, m_ng, o_ld, true_and, and_true, Nat.one_ne_zero, Nat.zero_ne_one, Nat.reduceEqDiff, Bool.false_eq_true, not_true_eq_false, not_false_eq_true, li_0, li_1, li_2, li_3, li_4, li_5, li_6, li_7, li_8, li_9, li_10, li_11, li_12, li_13, li_14, li_15, li_16, li_20, li_23, li_25, li_30, li_31, li_32, li_38, li_40, li_41, li_44, li_48, li_50, li_51, li_52, li_57, li_59, li_60, li_61, li_62, li_63, li_66, li_81, li_94, li_97, li_98, li_99, li_100, li_101, li_103, li_104, li_105, li_107, li_108, li_109, li_110, li_111, li_112, li_114, li_115, li_116, li_117, li_118, li_122, li_200, li_572, li_600, li_9999, li_10000, li_12345, li_1103515245]
    · by_cases q2 : c < w
      · rw [if_neg (show ¬ (a + 1 ≤ w + 1 ∧ w + 1 ≤ c + 1) by omega)]
        simp (disch := omega) only [q1, q2, letv, o_b, ↓reduceIte, e_sub, e_add, e_mul, e_ld, e_st, e_lt, e_nlt, e_le, e_nle, e_eq, e_neq, e_div, e_rem, m_lt, m_le, m_eq, m_eq2, m_ng, o_ld, true_and, and_true, Nat.one_ne_zero, Nat.zero_ne_one, Nat.reduceEqDiff, Bool.false_eq_true, not_true_eq_false, not_false_eq_true, li_0, li_1, li_2, li_3, li_4, li_5, li_6, li_7, li_8, li_9, li_10, li_11, li_12, li_13, li_14, li_15, li_16, li_20, li_23, li_25, li_30, li_31, li_32, li_38, li_40, li_41, li_44, li_48, li_50, li_51, li_52, li_57, li_59, li_60, li_61, li_62, li_63, li_66, li_81, li_94, li_97, li_98, li_99, li_100, li_101, li_103, li_104, li_105, li_107, li_108, li_109, li_110, li_111, li_112, li_114, li_115, li_116, li_117, li_118, li_122, li_200, li_572, li_600, li_9999, li_10000, li_12345, li_1103515245]
      · rw [if_pos (show (a + 1 ≤ w + 1 ∧ w + 1 ≤ c + 1) by omega)]
        simp (disch := omega) only [q1, q2, letv, o_b, ↓reduceIte, e_sub, e_add, e_mul, e_ld, e_st, e_lt, e_nlt, e_le, e_nle, e_eq, e_neq, e_div, e_rem, m_lt, m_le, m_eq, m_eq2, m_ng, o_ld, true_and, and_true, Nat.one_ne_zero, Nat.zero_ne_one, Nat.reduceEqDiff, Bool.false_eq_true, not_true_eq_false, not_false_eq_true, li_0, li_1, li_2, li_3, li_4, li_5, li_6, li_7, li_8, li_9, li_10, li_11, li_12, li_13, li_14, li_15, li_16, li_20, li_23, li_25, li_30, li_31, li_32, li_38, li_40, li_41, li_44, li_48, li_50, li_51, li_52, li_57, li_59, li_60, li_61, li_62, li_63, li_66, li_81, li_94, li_97, li_98, li_99, li_100, li_101, li_103, li_104, li_105, li_107, li_108, li_109, li_110, li_111, li_112, li_114, li_115, li_116, li_117, li_118, li_122, li_200, li_572, li_600, li_9999, li_10000, li_12345, li_1103515245]
theorem c_atW {w : Nat} (h : V r 5 = wnI w) (hw : w ≤ 18) {a : Nat} {a' : Int32} (ha : a' = nI a) (h20 : a ≤ 20) : V r 5 = a' ↔ w = a + 1 := by
  rw [h, ha]
  match w, hw with
  | 0, _ =>
    rw [wn_0]
    exact ⟨fun e => absurd e (of_eq_false (m_eq2 (a := a) (b := 1) (by omega) (by omega) (by omega))), fun e => by omega⟩
  | w + 1, hw =>
    rw [wn_s]
    exact ⟨fun e => by have := (nI_eq (by omega) (by omega)).mp e; omega, fun e => by rw [show w = a by omega]⟩
def vhA (tz : Nat) (tp : Nat → Nat) (p : Nat) : Nat := if ftA (wA (tyL tz tp p)) ≠ 0 then 10000 + ftA (wA (tyL tz tp p)) else if tkA tz tp p = 2 ∧ ttA tz tp p - tfA tz tp p ≤ 4 then tvA tz tp p + 1 else 0
theorem ft_y {w : Nat} (h : 10 ≤ w ∧ w ≤ 14) : ftA w = w - 9 := if_pos h
theorem ft_n {w : Nat} (h : ¬ (10 ≤ w ∧ w ≤ 14)) : ftA w = 0 := if_neg h
theorem vh_w (h : ftA (wA (tyL tz tp p)) ≠ 0) : vhA tz tp p = 10000 + ftA (wA (tyL tz tp p)) := if_pos h
theorem vh_d (h : ftA (wA (tyL tz tp p)) = 0) (h2 : tkA tz tp p = 2) (h3 : ttA tz tp p - tfA tz tp p ≤ 4) : vhA tz tp p = tvA tz tp p + 1 := by
  unfold vhA
  rw [if_neg (fun e => e h), if_pos ⟨h2, h3⟩]
theorem vh_0 (h : ftA (wA (tyL tz tp p)) = 0) (h2 : ¬ (tkA tz tp p = 2 ∧ ttA tz tp p - tfA tz tp p ≤ 4)) : vhA tz tp p = 0 := by
  unfold vhA
  rw [if_neg (fun e => e h), if_neg h2]
theorem vl_le : ∀ m i acc, (∀ j, i ≤ j → j < i + m → 48 ≤ tp j ∧ tp j ≤ 57) → (acc + 1) * 10 ^ m ≤ 10 ^ 4 → vlA tp m i acc ≤ 9999
  | 0, i, acc, _, h => by unfold vlA; omega
  | m + 1, i, acc, hd, h => by
    obtain ⟨d1, d2⟩ := hd i (by omega) (by omega)
    have hp : 1 ≤ 10 ^ (m + 1) := Nat.one_le_iff_ne_zero.mpr (Nat.pos_iff_ne_zero.mp (Nat.pow_pos (by omega)))
    have ha : acc + 1 ≤ 10 ^ 4 := Nat.le_trans (Nat.le_mul_of_pos_right _ hp) h
    have ha : acc ≤ 9999 := by omega
    unfold vlA
    rw [if_neg (by omega)]
    refine vl_le m (i + 1) _ (fun j h1 h2 => hd j (by omega) (by omega)) (Nat.le_trans (Nat.mul_le_mul_right _ (show 10 * acc + tp i - 48 + 1 ≤ 10 * (acc + 1) by omega)) ?_)
    rw [Nat.pow_succ] at h
    rw [Nat.mul_comm 10, Nat.mul_assoc, Nat.mul_comm 10]
    exact h
theorem c_vl {en : Nat} (hB : TB tz tp) (h : TaC r tz tp V) (h3 : V r 3 = nI en) (he : en ≤ tz) : ∀ m i acc f, i + m = en → m < f → (∀ j, i ≤ j → j < i + m → 48 ≤ tp j ∧ tp j ≤ 57) → (acc + 1) * 10 ^ m ≤ 10 ^ 4 → lX5_valueHere_53 V r f (nI acc) (nI i) = some (nI (vlA tp m i acc)) := by
  have hz := hB.1
  intro m
  induction m with
  | zero =>
    intro i acc f h1 h2 hd h4
    obtain ⟨f, rfl⟩ : ∃ g, f = g + 1 := ⟨f - 1, by omega⟩
    unfold lX5_valueHere_53 vlA
    simp (disch := omega) only [h3, letv, o_b, ↓reduceIte, e_sub, e_add, e_mul, e_ld, e_st, e_lt, e_nlt, e_le, e_nle, e_eq, e_neq, e_div, e_rem, m_lt, m_le, m_eq, m_eq2, m_ng, o_ld, true_and, and_true, Nat.one_ne_zero, Nat.zero_ne_one, Nat.reduceEqDiff, Bool.false_eq_true, not_true_eq_false, not_false_eq_true, li_0, li_1, li_2, li_3, li_4, li_5, li_6, li_7, li_8, li_9, li_10, li_11, li_12, li_13, li_14, li_15, li_16, li_20, li_23, li_25, li_30, li_31, li_32, li_38, li_40, li_41, li_44, li_48, li_50, li_51, li_52, li_57, li_59, li_60, li_61, li_62, li_63, li_66, li_81, li_94, li_97, li_98, li_99, li_100, li_101, li_103, li_104, li_105, li_107, li_108, li_109, li_110, li_111, li_112, li_114, li_115, li_116, li_117, li_118, li_122, li_200, li_572, li_600, li_9999, li_10000, li_12345, li_1103515245]
  | succ m ih =>
    intro i acc f h1 h2 hd h4
    obtain ⟨f, rfl⟩ : ∃ g, f = g + 1 := ⟨f - 1, by omega⟩
    obtain ⟨d1, d2⟩ := hd i (by omega) (by omega)
    have hp : 1 ≤ 10 ^ (m + 1) := Nat.one_le_iff_ne_zero.mpr (Nat.pos_iff_ne_zero.mp (Nat.pow_pos (by omega)))
    have ha : acc + 1 ≤ 10 ^ 4 := Nat.le_trans (Nat.le_mul_of_pos_right _ hp) h4
    have ha : acc ≤ 9999 := by omega
    have e := h.2 i (by omega)
    have := ih (i + 1) (10 * acc + tp i - 48) f (by omega) (by omega) (fun j h1 h2 => hd j (by omega) (by omega)) (Nat.le_trans (Nat.mul_le_mul_right _ (show 10 * acc + tp i - 48 + 1 ≤ 10 * (acc + 1) by omega)) (by
      rw [Nat.pow_succ] at h4
      rw [Nat.mul_comm 10, Nat.mul_assoc, Nat.mul_comm 10]
      exact h4))
    have e2 : (nI acc * 10 + nI (tp i)) - 48 = nI (10 * acc + tp i - 48) := by
      have e3 : nI acc * 10 = nI (10 * acc) := by rw [show (10 : Int32) = nI 10 from rfl, e_mul, Nat.mul_comm]
      rw [e3, e_add, show (48 : Int32) = nI 48 from rfl, e_sub (by omega)]
    unfold lX5_valueHere_53 vlA
    rw [if_neg (show ¬ 9999 < acc by omega), h3, if_neg (nI_ge (by omega) (by omega)), e_ld (by omega) (by omega), o_b, e]
    simp only [letv, e2]
    rw [show (1 : Int32) = nI 1 from rfl, e_add]
    exact this
theorem c_value (hn : 1000 ≤ n) (hB : TB tz tp) (h : TaC r tz tp V) (hp : p ≤ tz) (hT : ToC r tz tp V p) : pX5_valueHere n V r = some (wnI (vhA tz tp p)) ∧ vhA tz tp p ≤ 10005 ∧ (tkA tz tp p = 2 → ttA tz tp p - tfA tz tp p ≤ 4 → tvA tz tp p ≤ 9999) := by
  obtain ⟨t2, t3, t4, t5⟩ := id hT
  have f1 := tf_le (tp := tp) hp
  have f2 := tt_le (tp := tp) hp
  have hz := hB.1
  have s3 : tkA tz tp p ≤ 3 := tc_3 _ _ _
  have w18 := wA_le (tyL tz tp p)
  have hv : tkA tz tp p = 2 → ttA tz tp p - tfA tz tp p ≤ 4 → tvA tz tp p ≤ 9999 ∧ lX5_valueHere_53 V r n 0 (V r 2) = some (nI (tvA tz tp p)) := fun q ql => by
    have dg : ∀ j, tfA tz tp p ≤ j → j < tfA tz tp p + (ttA tz tp p - tfA tz tp p) → 48 ≤ tp j ∧ tp j ≤ 57 := fun j h1 h2 => (tc_2 (tt_dg q j h1 (by omega))).2
    have pw : (0 + 1) * 10 ^ (ttA tz tp p - tfA tz tp p) ≤ 10 ^ 4 := by
      rw [Nat.zero_add, Nat.one_mul]
      exact Nat.pow_le_pow_right (by omega) ql
    refine ⟨vl_le _ _ _ dg pw, ?_⟩
    rw [t2]
    exact c_vl hB h t3 f2.2.1 _ _ 0 n (by omega) (by omega) dg pw
  have hw := c_isW t5 w18 (a := 9) (c := 13) rfl rfl (by omega) (a' := 9) (c' := 13)
  refine ⟨?_, ?_, fun a c => (hv a c).1⟩
  · unfold pX5_valueHere
    rw [hw, o_b]
    by_cases q : 10 ≤ wA (tyL tz tp p) ∧ wA (tyL tz tp p) ≤ 14
    · rw [vh_w (by rw [ft_y q]; omega), ft_y q, if_pos (show 9 + 1 ≤ wA (tyL tz tp p) ∧ wA (tyL tz tp p) ≤ 13 + 1 from q), if_neg (show ¬ nI 1 = (0 : Int32) by decide), t5]
      obtain ⟨w, hw⟩ : ∃ w, wA (tyL tz tp p) = w + 1 := ⟨wA (tyL tz tp p) - 1, by omega⟩
      rw [hw, wn_s, show 10000 + (w + 1 - 9) = (10000 + w - 9) + 1 by omega, wn_s, show (10000 : Int32) = nI 10000 from rfl, e_add, show (9 : Int32) = nI 9 from rfl, e_sub (by omega)]
    · rw [if_neg (show ¬ (9 + 1 ≤ wA (tyL tz tp p) ∧ wA (tyL tz tp p) ≤ 13 + 1) from q), if_pos (show nI 0 = (0 : Int32) from rfl), t4]
      have hs : nI (ttA tz tp p) - nI (tfA tz tp p) = nI (ttA tz tp p - tfA tz tp p) := e_sub f2.1
      by_cases c : tkA tz tp p = 2
      · rw [if_pos (show nI (tkA tz tp p) = (2 : Int32) by rw [c]; rfl), t3, t2, hs]
        by_cases ql : ttA tz tp p - tfA tz tp p ≤ 4
        · rw [if_pos (show nI (ttA tz tp p - tfA tz tp p) ≤ (4 : Int32) from nI_le (a := ttA tz tp p - tfA tz tp p) (b := 4) ql (by omega)), vh_d (ft_n q) c ql, wn_s]
          have := (hv c ql).2
          rw [t2] at this
          simp only [letv, this, o_b]
        · rw [if_neg (show ¬ nI (ttA tz tp p - tfA tz tp p) ≤ (4 : Int32) from nI_ge (a := 4) (b := ttA tz tp p - tfA tz tp p) (by omega) (by omega)), vh_0 (ft_n q) (fun z => ql z.2)]
          rfl
      · rw [if_neg (show ¬ nI (tkA tz tp p) = (2 : Int32) from fun z => c ((nI_eq (by omega) (by omega)).mp (show nI (tkA tz tp p) = nI 2 from z))), vh_0 (ft_n q) (fun z => c z.1)]
        rfl
  · have f5 : ftA (wA (tyL tz tp p)) ≤ 5 := by unfold ftA; split <;> omega
    by_cases q : ftA (wA (tyL tz tp p)) = 0
    · by_cases c : tkA tz tp p = 2 ∧ ttA tz tp p - tfA tz tp p ≤ 4
      · rw [vh_d q c.1 c.2]
        have := (hv c.1 c.2).1
        omega
      · rw [vh_0 q c]; omega
    · rw [vh_w q]; omega
theorem m_needs1 (hn : 1000 ≤ n) (hB : TB tz tp) (h : TaM b tz tp U) (hp : p ≤ tz) (h8 : U b 8 = nI p) (h10 : U b 10 = nI 0) : ∃ U', pX9_needs n U b (nI 1) = some U' ∧ ToM b tz tp U' p ∧ (∀ x, x ≠ b → U' x = U x) ∧ ∀ k, (k < 6 ∨ 9 < k) → U' b k = U b k := by
  obtain ⟨U', e1, e2⟩ := m_next hn hB h hp h8
  refine ⟨U', ?_, e2⟩
  unfold pX9_needs
  have i1 : isb (0 : Int32) = true := by decide
  have w0 : up2 U b 10 (0 : Int32) = U := w_id h10
  rw [h10]
  simp only [letv, show (nI 0 = (0 : Int32)) = True from eq_true rfl, show (nI 1 = (0 : Int32)) = False from eq_false (by decide), ↓reduceIte, i1, w0, h10, e1, o_b]
theorem m_needs0 (h10 : U b 10 = nI 0) : pX9_needs n U b (nI 0) = some (up2 U b 10 (nI 1)) := by
  unfold pX9_needs
  have i1 : isb (1 : Int32) = true := by decide
  rw [h10]
  have w1 : up2 U b 10 (1 : Int32) b 10 = 1 := w_same
  simp only [letv, show (nI 0 = (0 : Int32)) = True from eq_true rfl, ↓reduceIte, i1, w1, show ((1 : Int32) = 0) = False from eq_false (by decide)]
  rfl
theorem m_needsw (h10 : U b 10 = nI 1) {x : Int32} : pX9_needs n U b x = some U := by
  unfold pX9_needs
  have i1 : isb (1 : Int32) = true := by decide
  have w1 : up2 U b 10 (1 : Int32) = U := w_id h10
  rw [h10]
  simp only [letv, show (nI 1 = (0 : Int32)) = False from eq_false (by decide), ↓reduceIte, i1, w1, h10]
theorem ft_le (w : Nat) : ftA w ≤ 5 := by unfold ftA; split <;> omega
theorem m_pos (hn : 1000 ≤ n) (hB : TB tz tp) (h : TaM b tz tp U) (hp : p ≤ tz) (hT : ToM b tz tp U p) : ∃ j, pX9_valueHere n U b = (pX9_needs n U b (nI (if vhA tz tp p = 0 then 0 else 1))).bind (fun q4 => some (j, q4)) ∧ (vhA tz tp p ≠ 0 → j = nI (vhA tz tp p - 1)) := by
  obtain ⟨t7, t8, t6, t9⟩ := id hT
  have f1 := tf_le (tp := tp) hp
  have f2 := tt_le (tp := tp) hp
  have hz := hB.1
  have s3 : tkA tz tp p ≤ 3 := tc_3 _ _ _
  have f5 := ft_le (wA (tyL tz tp p))
  have hs : nI (ttA tz tp p) - nI (tfA tz tp p) = nI (ttA tz tp p - tfA tz tp p) := e_sub f2.1
  unfold pX9_valueHere
  rw [m_fact hB h hp hT, o_b]
  simp only [letv]
  by_cases q : ftA (wA (tyL tz tp p)) = 0
  · rw [q, wn_0, if_pos (show -(nI 1) < (0 : Int32) by decide), if_neg (show ¬ (0 : Int32) ≤ -(nI 1) by decide), t6, t8, t7, hs]
    by_cases c : tkA tz tp p = 2
    · rw [if_pos (show nI (tkA tz tp p) = (2 : Int32) by rw [c]; rfl)]
      by_cases ql : ttA tz tp p - tfA tz tp p ≤ 4
      · rw [if_neg (show ¬ (4 : Int32) < nI (ttA tz tp p - tfA tz tp p) from nI_nlt (a := 4) (b := ttA tz tp p - tfA tz tp p) (by omega) (by omega)), vh_d q c ql]
        exact ⟨_, rfl, fun _ => t9 c⟩
      · rw [if_pos (show (4 : Int32) < nI (ttA tz tp p - tfA tz tp p) from nI_lt (a := 4) (b := ttA tz tp p - tfA tz tp p) (by omega) (by omega)), vh_0 q (fun z => ql z.2)]
        exact ⟨_, rfl, fun z => absurd rfl z⟩
    · rw [if_neg (show ¬ nI (tkA tz tp p) = (2 : Int32) from fun z => c ((nI_eq (by omega) (by omega)).mp (show nI (tkA tz tp p) = nI 2 from z))), vh_0 q (fun z => c z.1)]
      exact ⟨_, rfl, fun z => absurd rfl z⟩
  · rw [vh_w q]
    obtain ⟨f, hf⟩ : ∃ f, ftA (wA (tyL tz tp p)) = f + 1 := ⟨ftA (wA (tyL tz tp p)) - 1, by omega⟩
    rw [hf, wn_s, if_neg (show ¬ nI f < (0 : Int32) from nI_nlt (a := f) (b := 0) (by omega) (by omega)), if_pos (show (0 : Int32) ≤ nI f from nI_le (a := 0) (b := f) (by omega) (by omega)), if_neg (show ¬ 10000 + (f + 1) = 0 by omega)]
    exact ⟨_, rfl, fun _ => by rw [show (10000 : Int32) = nI 10000 from rfl, e_add]; congr 1⟩
theorem m_val0 (hn : 1000 ≤ n) (hB : TB tz tp) (h : TaM b tz tp U) (hp : p ≤ tz) (hT : ToM b tz tp U p) (h10 : U b 10 = nI 0) (hv : vhA tz tp p = 0) : ∃ j, pX9_valueHere n U b = some (j, up2 U b 10 (nI 1)) := by
  obtain ⟨j, e, -⟩ := m_pos hn hB h hp hT
  refine ⟨j, ?_⟩
  rw [e, if_pos hv, m_needs0 h10]
  rfl
theorem m_valw (hn : 1000 ≤ n) (hB : TB tz tp) (h : TaM b tz tp U) (hp : p ≤ tz) (hT : ToM b tz tp U p) (h10 : U b 10 = nI 1) : ∃ j, pX9_valueHere n U b = some (j, U) := by
  obtain ⟨j, e, -⟩ := m_pos hn hB h hp hT
  refine ⟨j, ?_⟩
  rw [e, m_needsw h10]
  rfl
theorem m_val1 (hn : 1000 ≤ n) (hB : TB tz tp) (h : TaM b tz tp U) (hp : p ≤ tz) (hT : ToM b tz tp U p) (h10 : U b 10 = nI 0) (hv : vhA tz tp p ≠ 0) : ∃ U', pX9_valueHere n U b = some (nI (vhA tz tp p - 1), U') ∧ ToM b tz tp U' (ttA tz tp p) ∧ (∀ x, x ≠ b → U' x = U x) ∧ ∀ k, (k < 6 ∨ 9 < k) → U' b k = U b k := by
  obtain ⟨j, e, ej⟩ := m_pos hn hB h hp hT
  obtain ⟨U', e1, e2⟩ := m_needs1 hn hB h (tt_le (tp := tp) hp).2.1 hT.2.1 h10
  refine ⟨U', ?_, e2⟩
  rw [e, if_neg hv, e1, ej hv]
  rfl
theorem vh_tt (hp : p ≤ tz) (h : vhA tz tp p ≠ 0) : p + 1 ≤ ttA tz tp p := by
  have f1 := tf_le (tp := tp) hp
  have f2 := tt_le (tp := tp) hp
  have : tkA tz tp p ≠ 0 := by
    intro e
    have : wA (tyL tz tp p) = 0 := by unfold tyL; rw [if_neg (by omega)]; rfl
    unfold vhA at h
    rw [this, e] at h
    exact h rfl
  have := f2.2.2 this
  omega
theorem w_tt (hp : p ≤ tz) (h : wA (tyL tz tp p) ≠ 0) : p + 2 ≤ ttA tz tp p ∧ (wA (tyL tz tp p) = 17 ∨ wA (tyL tz tp p) = 18 → p + 3 ≤ ttA tz tp p) := by
  have f1 := tf_le (tp := tp) hp
  have f2 := tt_le (tp := tp) hp
  have hl := tl_len (tz := tz) (tp := tp) (p := p)
  rw [if_pos (tl_wA h)] at hl
  have key : ∀ t : List Nat, wA t ≠ 0 → 2 ≤ t.length ∧ (wA t = 17 ∨ wA t = 18 → 3 ≤ t.length) := by
    intro t h
    refine ⟨?_, fun z => ?_⟩
    · rcases Nat.lt_or_ge t.length 2 with g | g
      · exfalso
        apply h
        match t, g with
        | [], _ => rfl
        | [a], _ => unfold wA; simp
      · exact g
    · rcases z with z | z
      · rw [(wA_17 t).mp z]; decide
      · rw [(wA_18 t).mp z]; decide
  have := key _ h
  omega
end X5
