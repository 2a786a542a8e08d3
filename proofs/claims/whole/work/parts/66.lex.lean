/-! the tape's tokens: where one begins, where it ends, of what sort it is -/
def tcA (tz : Nat) (tp : Nat → Nat) (i : Nat) : Nat := if tz ≤ i then 0 else if 97 ≤ tp i ∧ tp i ≤ 122 then 1 else if 48 ≤ tp i ∧ tp i ≤ 57 then 2 else 3
def skA (tp : Nat → Nat) : Nat → Nat → Nat
  | 0, i => i
  | m + 1, i => if tp i = 32 then skA tp m (i + 1) else i
def exA (tz : Nat) (tp : Nat → Nat) (so : Nat) : Nat → Nat → Nat
  | 0, i => i
  | m + 1, i => if tcA tz tp i = so then exA tz tp so m (i + 1) else i
def vlA (tp : Nat → Nat) : Nat → Nat → Nat → Nat
  | 0, _, acc => acc
  | m + 1, i, acc => vlA tp m (i + 1) (if 9999 < acc then acc else 10 * acc + tp i - 48)
def tfA (tz : Nat) (tp : Nat → Nat) (p : Nat) : Nat := skA tp (tz - p) p
def tkA (tz : Nat) (tp : Nat → Nat) (p : Nat) : Nat := tcA tz tp (tfA tz tp p)
def ttA (tz : Nat) (tp : Nat → Nat) (p : Nat) : Nat := if tkA tz tp p = 0 then tfA tz tp p else if tkA tz tp p = 3 then tfA tz tp p + 1 else exA tz tp (tkA tz tp p) (tz - (tfA tz tp p + 1)) (tfA tz tp p + 1)
def tvA (tz : Nat) (tp : Nat → Nat) (p : Nat) : Nat := vlA tp (ttA tz tp p - tfA tz tp p) (tfA tz tp p) 0
def tkL (tp : Nat → Nat) (st en : Nat) : List Nat := (List.range (en - st)).map (fun j => tp (st + j))
def tyL (tz : Nat) (tp : Nat → Nat) (p : Nat) : List Nat := if tkA tz tp p = 1 then tkL tp (tfA tz tp p) (ttA tz tp p) else []
theorem w_w {α : Type} {V : Nat → Nat → α} {x k : Nat} {v w : α} : up2 (up2 V x k v) x k w = up2 V x k w := by
  funext y j
  unfold up2 va_up
  by_cases h : y = x
  · by_cases g : j = k <;> simp [h, g]
  · simp [h]
/-- one more than a place, or 0: none -/
def wnI (w : Nat) : Int32 := if w = 0 then -(nI 1) else nI (w - 1)
theorem wn_0 : wnI 0 = -(nI 1) := rfl
theorem wn_s (w : Nat) : wnI (w + 1) = nI w := rfl
theorem skA_le {tp : Nat → Nat} : ∀ m i, i ≤ skA tp m i ∧ skA tp m i ≤ i + m
  | 0, i => ⟨Nat.le_refl _, Nat.le_refl _⟩
  | m + 1, i => by
    have := skA_le (tp := tp) m (i + 1)
    unfold skA
    split <;> omega
theorem exA_le {tz : Nat} {tp : Nat → Nat} {so : Nat} : ∀ m i, i ≤ exA tz tp so m i ∧ exA tz tp so m i ≤ i + m
  | 0, i => ⟨Nat.le_refl _, Nat.le_refl _⟩
  | m + 1, i => by
    have := exA_le (tz := tz) (tp := tp) (so := so) m (i + 1)
    unfold exA
    split <;> omega
theorem exA_in {tz : Nat} {tp : Nat → Nat} {so : Nat} : ∀ m i j, i ≤ j → j < exA tz tp so m i → tcA tz tp j = so
  | 0, i, j, h1, h2 => by unfold exA at h2; omega
  | m + 1, i, j, h1, h2 => by
    unfold exA at h2
    split at h2
    · rename_i q
      by_cases e : j = i
      · rw [e]; exact q
      · exact exA_in m (i + 1) j (by omega) h2
    · omega
theorem tc_3 (tz : Nat) (tp : Nat → Nat) (i : Nat) : tcA tz tp i ≤ 3 := by
  unfold tcA
  split
  · omega
  split
  · omega
  split <;> omega
theorem tc_0 {tz : Nat} {tp : Nat → Nat} {i : Nat} : tcA tz tp i = 0 ↔ tz ≤ i := by
  unfold tcA
  split
  · simp_all
  split
  · simp_all
  split <;> simp_all
theorem tc_2 {tz : Nat} {tp : Nat → Nat} {i : Nat} (h : tcA tz tp i = 2) : i < tz ∧ 48 ≤ tp i ∧ tp i ≤ 57 := by
  unfold tcA at h
  split at h
  · omega
  split at h
  · omega
  split at h
  · omega
  · omega
section X1
variable {n r b tz p : Nat} {tp : Nat → Nat} {V U : V2}
theorem tf_le (hp : p ≤ tz) : p ≤ tfA tz tp p ∧ tfA tz tp p ≤ tz := by
  have := skA_le (tp := tp) (tz - p) p
  unfold tfA; omega
theorem tt_le (hp : p ≤ tz) : tfA tz tp p ≤ ttA tz tp p ∧ ttA tz tp p ≤ tz ∧ (tkA tz tp p ≠ 0 → tfA tz tp p < ttA tz tp p) := by
  have h1 := tf_le (tp := tp) hp
  have h2 : tkA tz tp p = 0 ↔ tz ≤ tfA tz tp p := tc_0
  have h3 := exA_le (tz := tz) (tp := tp) (so := tkA tz tp p) (tz - (tfA tz tp p + 1)) (tfA tz tp p + 1)
  unfold ttA
  split
  · omega
  split
  · omega
  · omega
theorem tt_dg (h : tkA tz tp p = 2) : ∀ j, tfA tz tp p ≤ j → j < ttA tz tp p → tcA tz tp j = 2 := by
  intro j h1 h2
  unfold ttA at h2
  rw [if_neg (by omega), if_neg (by omega)] at h2
  by_cases q : j = tfA tz tp p
  · rw [q]; exact h
  · have := exA_in _ _ j (by omega) h2
    rw [this]; exact h
def TaC (r tz : Nat) (tp : Nat → Nat) (V : V2) : Prop := V r 1 = nI tz ∧ ∀ i, i < tz → V (r + 1) i = nI (tp i)
def TaM (b tz : Nat) (tp : Nat → Nat) (U : V2) : Prop := U b 5 = nI tz ∧ ∀ i, i < tz → U (b + 4) i = nI (tp i)
def TB (tz : Nat) (tp : Nat → Nat) : Prop := tz ≤ 200 ∧ ∀ i, i < tz → tp i < 256
theorem TaC.up (h : TaC r tz tp V) {k : Nat} {v : Int32} (hk : k ≠ 1) : TaC r tz tp (up2 V r k v) := ⟨by rw [w_idx (by omega)]; exact h.1, fun i hi => by rw [w_row (by omega)]; exact h.2 i hi⟩
theorem TaM.up (h : TaM b tz tp U) {k : Nat} {v : Int32} (hk : k ≠ 5) : TaM b tz tp (up2 U b k v) := ⟨by rw [w_idx (by omega)]; exact h.1, fun i hi => by rw [w_row (by omega)]; exact h.2 i hi⟩
theorem c_sort (hB : TB tz tp) (h : TaC r tz tp V) {i : Nat} (hi : i ≤ 200) : pX5_sortAt V r (nI i) = some (nI (tcA tz tp i)) := by
  obtain ⟨hz, hb⟩ := hB
  unfold pX5_sortAt
  by_cases q : tz ≤ i
  · rw [show tcA tz tp i = 0 by unfold tcA; rw [if_pos q]]
    simp (disch := omega) only [h.1, letv, o_b, ↓reduceIte, e_sub, e_add, e_mul, e_ld, e_st, e_lt, e_nlt, e_le, e_nle, e_eq, e_neq, e_div, e_rem, m_lt, m_le, m_eq, m_eq2, m_ng, o_ld, true_and, and_true, Nat.one_ne_zero, Nat.zero_ne_one, Nat.reduceEqDiff, Bool.false_eq_true, not_true_eq_false, not_false_eq_true, li_0, li_1, li_2, li_3, li_4, li_5, li_6, li_7, li_8, li_9, li_10, li_11, li_12, li_13, li_14, li_15, li_16, li_20, li_23, li_25, li_30, li_31, li_32, li_38, li_40, li_41, li_44, li_48, li_50, li_51, li_52, li_57, li_59, li_60, li_61, li_62, li_63, li_66, li_81, li_94, li_97, li_98, li_99, li_100, li_101, li_103, li_104, li_105, li_107, li_108, li_109, li_110, li_111, li_112, li_114, li_115, li_116, li_117, li_118, li_122, li_200, li_572, li_600, li_9999, li_10000, li_12345, li_1103515245]
  · have g := hb i (by omega)
    have e := h.2 i (by omega)
    rcases (show tp i < 48 ∨ (48 ≤ tp i ∧ tp i ≤ 57) ∨ (58 ≤ tp i ∧ tp i ≤ 96) ∨ (97 ≤ tp i ∧ tp i ≤ 122) ∨ 123 ≤ tp i by omega) with c | c | c | c | c
    · rw [show tcA tz tp i = 3 by unfold tcA; rw [if_neg q, if_neg (by omega), if_neg (by omega)]]
      simp (disch := omega) only [h.1, e, letv, o_b, ↓reduceIte, e_sub, e_add, e_mul, e_ld, e_st, e_lt, e_nlt, e_le, e_nle, e_eq, e_neq, e_div, e_rem, m_lt, m_le, m_eq, m_eq2, m_ng, o_ld, true_and, and_true, Nat.one_ne_zero, Nat.zero_ne_one, Nat.reduceEqDiff, Bool.false_eq_true, not_true_eq_false, not_false_eq_true, li_0, li_1, li_2, li_3, li_4, li_5, li_6, li_7, li_8, li_9, li_10, li_11, li_12, li_13, li_14, li_15, li_16, li_20, li_23, li_25, li_30, li_31, li_32, li_38, li_40, li_41, li_44, li_48, li_50, li_51, li_52, li_57, li_59, li_60, li_61, li_62, li_63, li_66, li_81, li_94, li_97, li_98, li_99, li_100, li_101, li_103, li_104, li_105, li_107, li_108, li_109, li_110, li_111, li_112, li_114, li_115, li_116, li_117, li_118, li_122, li_200, li_572, li_600, li_9999, li_10000, li_12345, li_1103515245]
    · rw [show tcA tz tp i = 2 by unfold tcA; rw [if_neg q, if_neg (by omega), if_pos (by omega)]]
      simp (disch := omega) only [h.1, e, letv, o_b, ↓reduceIte, e_sub, e_add, e_mul, e_ld, e_st, e_lt, e_nlt, e_le, e_nle, e_eq, e_neq, e_div, e_rem, m_lt, m_le, m_eq, m_eq2, m_ng, o_ld, true_and, and_true, Nat.one_ne_zero, Nat.zero_ne_one, Nat.reduceEqDiff, Bool.false_eq_true, not_true_eq_false, not_false_eq_true, li_0, li_1, li_2, li_3, li_4, li_5, li_6, li_7, li_8, li_9, li_10, li_11, li_12, li_13, li_14, li_15, li_16, li_20, li_23, li_25, li_30, li_31, li_32, li_38, li_40, li_41, li_44, li_48, li_50, li_51, li_52, li_57, li_59, li_60, li_61, li_62, li_63, li_66, li_81, li_94, li_97, li_98, li_99, li_100, li_101, li_103, li_104, li_105, li_107, li_108, li_109, li_110, li_111, li_112, li_114, li_115, li_116, li_117, li_118, li_122, li_200, li_572, li_600, li_9999, li_10000, li_12345, li_1103515245]
    · rw [show tcA tz tp i = 3 by unfold tcA; rw [if_neg q, if_neg (by omega), if_neg (by omega)]]
      simp (disch := omega) only [h.1, e, letv, o_b, ↓reduceIte, e_sub, e_add, e_mul, e_ld, e_st, e_lt, e_nlt, e_le, e_nle, e_eq, e_neq, e_div, e_rem, m_lt, m_le, m_eq, m_eq2, m_ng, o_ld, true_and, and_true, Nat.one_ne_zero, Nat.zero_ne_one, Nat.reduceEqDiff, Bool.false_eq_true, not_true_eq_false, not_false_eq_true, li_0, li_1, li_2, li_3, li_4, li_5, li_6, li_7, li_8, li_9, li_10, li_11, li_12, li_13, li_14, li_15, li_16, li_20, li_23, li_25, li_30, li_31, li_32, li_38, li_40, li_41, li_44, li_48, li_50, li_51, li_52, li_57, li_59, li_60, li_61, li_62, li_63, li_66, li_81, li_94, li_97, li_98, li_99, li_100, li_101, li_103, li_104, li_105, li_107, li_108, li_109, li_110, li_111, li_112, li_114, li_115, li_116, li_117, li_118, li_122, li_200, li_572, li_600, li_9999, li_10000, li_12345, li_1103515245]
    · rw [show tcA tz tp i = 1 by unfold tcA; rw [if_neg q, if_pos (by omega)]]
      simp (disch := omega) only [h.1, e, letv, o_b, ↓reduceIte, e_sub, e_add, e_mul, e_ld, e_st, e_lt, e_nlt, e_le, e_nle, e_eq, e_neq, e_div, e_rem, m_lt, m_le, m_eq, m_eq2, m_ng, o_ld, true_and, and_true, Nat.one_ne_zero, Nat.zero_ne_one, Nat.reduceEqDiff, Bool.false_eq_true, not_true_eq_false, not_false_eq_true, li_0, li_1, li_2, li_3, li_4, li_5, li_6, li_7, li_8, li_9, li_10, li_11, li_12, li_13, li_14, li_15, li_16, li_20, li_23, li_25, li_30, li_31, li_32, li_38, li_40, li_41, li_44, li_48, li_50, li_51, li_52, li_57, li_59, li_60, li_61, li_62, li_63, li_66, li_81, li_94, li_97, li_98, li_99, li_100, li_101, li_103, li_104, li_105, li_107, li_108, li_109, li_110, li_111, li_112, li_114, li_115, li_116, li_117, li_118, li_122, li_200, li_572, li_600, li_9999, li_10000, li_12345, li_1103515245]
    · rw [show tcA tz tp i = 3 by unfold tcA; rw [if_neg q, if_neg (by omega), if_neg (by omega)]]
      simp (disch := omega) only [h.1, e, letv, o_b, ↓reduceIte, e_sub, e_add, e_mul, e_ld, e_st, e_lt, e_nlt, e_le, e_nle, e_eq, e_neq, e_div, e_rem, m_lt, m_le, m_eq, m_eq2, m_ng, o_ld, true_and, and_true, Nat.one_ne_zero, Nat.zero_ne_one, Nat.reduceEqDiff, Bool.false_eq_true, not_true_eq_false, not_false_eq_true, li_0, li_1, li_2, li_3, li_4, li_5, li_6, li_7, li_8, li_9, li_10, li_11, li_12, li_13, li_14, li_15, li_16, li_20, li_23, li_25, li_30, li_31, li_32, li_38, li_40, li_41, li_44, li_48, li_50, li_51, li_52, li_57, li_59, li_60, li_61, li_62, li_63, li_66, li_81, li_94, li_97, li_98, li_99, li_100, li_101, li_103, li_104, li_105, li_107, li_108, li_109, li_110, li_111, li_112, li_114, li_115, li_116, li_117, li_118, li_122, li_200, li_572, li_600, li_9999, li_10000, li_12345, li_1103515245]
theorem c_skip (hB : TB tz tp) : ∀ m i f V, i + m = tz → m < f → TaC r tz tp V → V r 2 = nI i → lX5_goOn_8 r f V = some (up2 V r 2 (nI (skA tp m i))) := by
  obtain ⟨hz, hb⟩ := hB
  intro m
  induction m with
  | zero =>
    intro i f V h1 h2 h3 h4
    obtain ⟨f, rfl⟩ : ∃ g, f = g + 1 := ⟨f - 1, by omega⟩
    unfold lX5_goOn_8 skA
    rw [w_id h4]
    simp (disch := omega) only [h3.1, h4, letv, o_b, ↓reduceIte, e_sub, e_add, e_mul, e_ld, e_st, e_lt, e_nlt, e_le, e_nle, e_eq, e_neq, e_div, e_rem, m_lt, m_le, m_eq, m_eq2, m_ng, o_ld, true_and, and_true, Nat.one_ne_zero, Nat.zero_ne_one, Nat.reduceEqDiff, Bool.false_eq_true, not_true_eq_false, not_false_eq_true, li_0, li_1, li_2, li_3, li_4, li_5, li_6, li_7, li_8, li_9, li_10, li_11, li_12, li_13, li_14, li_15, li_16, li_20, li_23, li_25, li_30, li_31, li_32, li_38, li_40, li_41, li_44, li_48, li_50, li_51, li_52, li_57, li_59, li_60, li_61, li_62, li_63, li_66, li_81, li_94, li_97, li_98, li_99, li_100, li_101, li_103, li_104, li_105, li_107, li_108, li_109, li_110, li_111, li_112, li_114, li_115, li_116, li_117, li_118, li_122, li_200, li_572, li_600, li_9999, li_10000, li_12345, li_1103515245]
  | succ m ih =>
    intro i f V h1 h2 h3 h4
    obtain ⟨f, rfl⟩ : ∃ g, f = g + 1 := ⟨f - 1, by omega⟩
    have g := hb i (by omega)
    have e := h3.2 i (by omega)
    unfold lX5_goOn_8 skA
    by_cases q : tp i = 32
    · have := ih (i + 1) f (up2 V r 2 (nI (i + 1))) (by omega) (by omega) (h3.up (by omega)) w_same
      rw [w_w] at this
      rw [if_pos q]
      simp (disch := omega) only [h3.1, h4, e, q, this, letv, o_b, ↓reduceIte, e_sub, e_add, e_mul, e_ld, e_st, e_lt, e_nlt, e_le, e_nle, e_eq, e_neq, e_div, e_rem, m_lt, m_le, m_eq, m_eq2, m_ng, o_ld, true_and, and_true, Nat.one_ne_zero, Nat.zero_ne_one, Nat.reduceEqDiff, Bool.false_eq_true, not_true_eq_false, not_false_eq_true, li_0, li_1, li_2, li_3, li_4, li_5, li_6, li_7, li_8, li_9, li_10, li_11, li_12, li_13, li_14, li_15, li_16, li_20, li_23, li_25, li_30, li_31, li_32, li_38, li_40, li_41, li_44, li_48, li_50, li_51, li_52, li_57, li_59, li_60, li_61, li_62, li_63, li_66, li_81, li_94, li_97, li_98, li_99, li_100, li_101, li_103, li_104, li_105, li_107, li_108, li_109, li_110, li_111, li_112, li_114, li_115, li_116, li_117, li_118, li_122, li_200, li_572, li_600, li_9999, li_10000, li_12345, li_1103515245]
    · rw [if_neg q, w_id h4]
      simp (disch := omega) only [h3.1, h4, e, q, letv, o_b, ↓reduceIte, e_sub, e_add, e_mul, e_ld, e_st, e_lt, e_nlt, e_le, e_nle, e_eq, e_neq, e_div, e_rem, m_lt, m_le, m_eq, m_eq2, m_ng, o_ld, true_and, and_true, Nat.one_ne_zero, Nat.zero_ne_one, Nat.reduceEqDiff, Bool.false_eq_true, not_true_eq_false, not_false_eq_true, li_0, li_1, li_2, li_3, li_4, li_5, li_6, li_7, li_8, li_9, li_10, li_11, li_12, li_13, li_14, li_15, li_16, li_20, li_23, li_25, li_30, li_31, li_32, li_38, li_40, li_41, li_44, li_48, li_50, li_51, li_52, li_57, li_59, li_60, li_61, li_62, li_63, li_66, li_81, li_94, li_97, li_98, li_99, li_100, li_101, li_103, li_104, li_105, li_107, li_108, li_109, li_110, li_111, li_112, li_114, li_115, li_116, li_117, li_118, li_122, li_200, li_572, li_600, li_9999, li_10000, li_12345, li_1103515245]
theorem c_ext (hB : TB tz tp) {so : Nat} (hs : so ≤ 3) (hs3 : so ≠ 3) : ∀ m i f V, i + m = tz → m < f → TaC r tz tp V → V r 3 = nI i → V r 4 = nI so → lX5_goOn_82 r f V = some (up2 V r 3 (nI (exA tz tp so m i))) := by
  intro m
  have hz := hB.1
  induction m with
  | zero =>
    intro i f V h1 h2 h3 h4 h5
    obtain ⟨f, rfl⟩ : ∃ g, f = g + 1 := ⟨f - 1, by omega⟩
    unfold lX5_goOn_82 exA
    rw [w_id h4]
    simp (disch := omega) only [h3.1, h4, h5, letv, o_b, ↓reduceIte, e_sub, e_add, e_mul, e_ld, e_st, e_lt, e_nlt, e_le, e_nle, e_eq, e_neq, e_div, e_rem, m_lt, m_le, m_eq, m_eq2, m_ng, o_ld, true_and, and_true, Nat.one_ne_zero, Nat.zero_ne_one, Nat.reduceEqDiff, Bool.false_eq_true, not_true_eq_false, not_false_eq_true, li_0, li_1, li_2, li_3, li_4, li_5, li_6, li_7, li_8, li_9, li_10, li_11, li_12, li_13, li_14, li_15, li_16, li_20, li_23, li_25, li_30, li_31, li_32, li_38, li_40, li_41, li_44, li_48, li_50, li_51, li_52, li_57, li_59, li_60, li_61, li_62, li_63, li_66, li_81, li_94, li_97, li_98, li_99, li_100, li_101, li_103, li_104, li_105, li_107, li_108, li_109, li_110, li_111, li_112, li_114, li_115, li_116, li_117, li_118, li_122, li_200, li_572, li_600, li_9999, li_10000, li_12345, li_1103515245]
  | succ m ih =>
    intro i f V h1 h2 h3 h4 h5
    obtain ⟨f, rfl⟩ : ∃ g, f = g + 1 := ⟨f - 1, by omega⟩
    have t3 := tc_3 tz tp i
    unfold lX5_goOn_82 exA
    by_cases q : tcA tz tp i = so
    · have := ih (i + 1) f (up2 V r 3 (nI (i + 1))) (by omega) (by omega) (h3.up (by omega)) w_same (by rw [w_idx (by omega)]; exact h5)
      rw [w_w] at this
      rw [if_pos q]
      simp (disch := omega) only [h3.1, h4, h5, c_sort hB h3, q, this, letv, o_b, ↓reduceIte, e_sub, e_add, e_mul, e_ld, e_st, e_lt, e_nlt, e_le, e_nle, e_eq, e_neq, e_div, e_rem, m_lt, m_le, m_eq, m_eq2, m_ng, o_ld, true_and, and_true, Nat.one_ne_zero, Nat.zero_ne_one, Nat.reduceEqDiff, Bool.false_eq_true, not_true_eq_false, not_false_eq_true, li_0, li_1, li_2, li_3, li_4, li_5, li_6, li_7, li_8, li_9, li_10, li_11, li_12, li_13, li_14, li_15, li_16, li_20, li_23, li_25, li_30, li_31, li_32, li_38, li_40, li_41, li_44, li_48, li_50, li_51, li_52, li_57, li_59, li_60, li_61, li_62, li_63, li_66, li_81, li_94, li_97, li_98, li_99, li_100, li_101, li_103, li_104, li_105, li_107, li_108, li_109, li_110, li_111, li_112, li_114, li_115, li_116, li_117, li_118, li_122, li_200, li_572, li_600, li_9999, li_10000, li_12345, li_1103515245]
    · rw [if_neg q, w_id h4]
      simp (disch := omega) only [h3.1, h4, h5, c_sort hB h3, q, letv, o_b, ↓reduceIte, e_sub, e_add, e_mul, e_ld, e_st, e_lt, e_nlt, e_le, e_nle, e_eq, e_neq, e_div, e_rem, m_lt, m_le, m_eq, m_eq2, m_ng, o_ld, true_and, and_true, Nat.one_ne_zero, Nat.zero_ne_one, Nat.reduceEqDiff, Bool.false_eq_true, not_true_eq_false, not_false_eq_true, li_0, li_1, li_2, li_3, li_4, li_5, li_6, li_7, li_8, li_9, li_10, li_11, li_12, li_13, li_14, li_15, li_16, li_20, li_23, li_25, li_30, li_31, li_32, li_38, li_40, li_41, li_44, li_48, li_50, li_51, li_52, li_57, li_59, li_60, li_61, li_62, li_63, li_66, li_81, li_94, li_97, li_98, li_99, li_100, li_101, li_103, li_104, li_105, li_107, li_108, li_109, li_110, li_111, li_112, li_114, li_115, li_116, li_117, li_118, li_122, li_200, li_572, li_600, li_9999, li_10000, li_12345, li_1103515245]
end X1
