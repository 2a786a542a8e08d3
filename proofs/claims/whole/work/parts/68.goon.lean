/-! the class's next token -/
theorem tk_len {tp : Nat → Nat} {st en : Nat} : (tkL tp st en).length = en - st := by unfold tkL; rw [List.length_map, List.length_range]
theorem tk_get {tp : Nat → Nat} {st en j : Nat} : (tkL tp st en)[j]? = if j < en - st then some (tp (st + j)) else none := by
  by_cases h : j < en - st
  · rw [if_pos h]; unfold tkL; rw [List.getElem?_map, List.getElem?_range h]; rfl
  · rw [if_neg h]; exact List.getElem?_eq_none (by rw [tk_len]; omega)
theorem tx_drop : ∀ i, i < 94 → txN.drop i = txN.getD i 0 :: txN.drop (i + 1) := by decide +kernel
section X2
variable {n r b tz p : Nat} {tp : Nat → Nat} {V U : V2}
theorem c_words (hB : TB tz tp) (h : TaC r tz tp V) {st en : Nat} (h2 : V r 2 = nI st) (h3 : V r 3 = nI en) (hse : st ≤ en) (hen : en ≤ tz) : ∀ m i k s f, i + m = 94 → m + 1 < f → s ≤ en - st + 1 → lX5_placeInWords_6 V r f (nI k) (wnI s) (nI i) (fun _ => some (-1)) = some (wnI (plA (tkL tp st en) k s (txN.drop i))) := by
  obtain ⟨hz, hb⟩ := hB
  have hd : nI en - nI st = nI (en - st) := e_sub hse
  intro m
  induction m with
  | zero =>
    intro i k s f h4 h5 h6
    obtain ⟨f, rfl⟩ : ∃ g, f = g + 1 + 1 := ⟨f - 2, by omega⟩
    have hi : i = 94 := by omega
    subst hi
    have e95 : ∀ x y, lX5_placeInWords_6 V r (f + 1) x y (nI 95) (fun _ => some (-1)) = some (-1) := fun x y => by
      unfold lX5_placeInWords_6
      rw [if_pos (show (94 : Int32) < nI 95 by decide)]
    have e95' : ∀ x y, lX5_placeInWords_6 V r (f + 1) x y (nI 95) (fun _ => some (-(nI 1))) = some (-(nI 1)) := e95
    rw [show txN.drop 94 = [] from rfl]
    have pe : plA (tkL tp st en) k s [] = if s = en - st + 1 then k + 1 else 0 := by rw [plA, tk_len]
    match s, h6, pe with
    | 0, _, pe =>
      rw [if_neg (show ¬ 0 = en - st + 1 by omega)] at pe
      rw [pe, wn_0]
      unfold lX5_placeInWords_6
      simp (disch := omega) only [h2, h3, hd, e95', letv, o_b, ↓reduceIte, e_sub, e_add, e_mul, e_ld, e_st, e_lt, e_nlt, e_le, e_nle, e_eq, e_neq, e_div, e_rem, m_lt, m_le, m_eq, m_eq2, m_ng, o_ld, true_and, and_true, Nat.one_ne_zero, Nat.zero_ne_one, Nat.reduceEqDiff, Bool.false_eq_true, not_true_eq_false, not_false_eq_true, li_0, li_1, li_2, li_3, li_4, li_5, li_6, li_7, li_8, li_9, li_10, li_11, li_12, li_13, li_14, li_15, li_16, li_20, li_23, li_25, li_30, li_31, li_32, li_38, li_40, li_41, li_44, li_48, li_50, li_51, li_52, li_57, li_59, li_60, li_61, li_62, li_63, li_66, li_81, li_94, li_97, li_98, li_99, li_100, li_101, li_103, li_104, li_105, li_107, li_108, li_109, li_110, li_111, li_112, li_114, li_115, li_116, li_117, li_118, li_122, li_200, li_572, li_600, li_9999, li_10000, li_12345, li_1103515245]
    | s + 1, h6, pe =>
      rw [wn_s]
      by_cases q : s = en - st
      · rw [if_pos (by omega)] at pe
        rw [pe, wn_s]
        unfold lX5_placeInWords_6
        simp (disch := omega) only [h2, h3, hd, q, letv, o_b, ↓reduceIte, e_sub, e_add, e_mul, e_ld, e_st, e_lt, e_nlt, e_le, e_nle, e_eq, e_neq, e_div, e_rem, m_lt, m_le, m_eq, m_eq2, m_ng, o_ld, true_and, and_true, Nat.one_ne_zero, Nat.zero_ne_one, Nat.reduceEqDiff, Bool.false_eq_true, not_true_eq_false, not_false_eq_true, li_0, li_1, li_2, li_3, li_4, li_5, li_6, li_7, li_8, li_9, li_10, li_11, li_12, li_13, li_14, li_15, li_16, li_20, li_23, li_25, li_30, li_31, li_32, li_38, li_40, li_41, li_44, li_48, li_50, li_51, li_52, li_57, li_59, li_60, li_61, li_62, li_63, li_66, li_81, li_94, li_97, li_98, li_99, li_100, li_101, li_103, li_104, li_105, li_107, li_108, li_109, li_110, li_111, li_112, li_114, li_115, li_116, li_117, li_118, li_122, li_200, li_572, li_600, li_9999, li_10000, li_12345, li_1103515245]
      · rw [if_neg (by omega)] at pe
        rw [pe, wn_0]
        unfold lX5_placeInWords_6
        simp (disch := omega) only [h2, h3, hd, q, e95', letv, o_b, ↓reduceIte, e_sub, e_add, e_mul, e_ld, e_st, e_lt, e_nlt, e_le, e_nle, e_eq, e_neq, e_div, e_rem, m_lt, m_le, m_eq, m_eq2, m_ng, o_ld, true_and, and_true, Nat.one_ne_zero, Nat.zero_ne_one, Nat.reduceEqDiff, Bool.false_eq_true, not_true_eq_false, not_false_eq_true, li_0, li_1, li_2, li_3, li_4, li_5, li_6, li_7, li_8, li_9, li_10, li_11, li_12, li_13, li_14, li_15, li_16, li_20, li_23, li_25, li_30, li_31, li_32, li_38, li_40, li_41, li_44, li_48, li_50, li_51, li_52, li_57, li_59, li_60, li_61, li_62, li_63, li_66, li_81, li_94, li_97, li_98, li_99, li_100, li_101, li_103, li_104, li_105, li_107, li_108, li_109, li_110, li_111, li_112, li_114, li_115, li_116, li_117, li_118, li_122, li_200, li_572, li_600, li_9999, li_10000, li_12345, li_1103515245]
  | succ m ih =>
    intro i k s f h4 h5 h6
    obtain ⟨f, rfl⟩ : ∃ g, f = g + 1 := ⟨f - 1, by omega⟩
    obtain ⟨x1, x2⟩ := tx_at i (by omega)
    rw [tx_drop i (by omega)]
    obtain ⟨c, hc⟩ : ∃ c, c = txN.getD i 0 := ⟨_, rfl⟩
    rw [← hc] at x1 x2 ⊢
    have x1 : wrdT.getD i (nI 0) = nI c := x1
    have pe : plA (tkL tp st en) k s (c :: txN.drop (i + 1)) = if c = 32 then (if s = en - st + 1 then k + 1 else plA (tkL tp st en) (k + 1) 1 (txN.drop (i + 1))) else plA (tkL tp st en) k (if s ≠ 0 ∧ (tkL tp st en)[s - 1]? = some c then s + 1 else 0) (txN.drop (i + 1)) := by rw [plA, tk_len]
    have i0 := fun k => ih (i + 1) k 0 f (by omega) (by omega) (by omega)
    have i1 := fun k => ih (i + 1) k 1 f (by omega) (by omega) (by omega)
    have i0 : ∀ k, lX5_placeInWords_6 V r f (nI k) (-(nI 1)) (nI (i + 1)) (fun _ => some (-(nI 1))) = some (wnI (plA (tkL tp st en) k 0 (txN.drop (i + 1)))) := i0
    have i1 : ∀ k, lX5_placeInWords_6 V r f (nI k) (nI 0) (nI (i + 1)) (fun _ => some (-(nI 1))) = some (wnI (plA (tkL tp st en) k 1 (txN.drop (i + 1)))) := i1
    by_cases q : c = 32
    · rw [if_pos q] at pe
      match s, h6, pe with
      | 0, _, pe =>
        rw [if_neg (show ¬ 0 = en - st + 1 by omega)] at pe
        rw [pe, wn_0]
        unfold lX5_placeInWords_6
        simp (disch := omega) only [x1, h2, h3, hd, i1, q, letv, o_b, ↓reduceIte, e_sub, e_add, e_mul, e_ld, e_st, e_lt, e_nlt, e_le, e_nle, e_eq, e_neq, e_div, e_rem, m_lt, m_le, m_eq, m_eq2, m_ng, o_ld, true_and, and_true, Nat.one_ne_zero, Nat.zero_ne_one, Nat.reduceEqDiff, Bool.false_eq_true, not_true_eq_false, not_false_eq_true, li_0, li_1, li_2, li_3, li_4, li_5, li_6, li_7, li_8, li_9, li_10, li_11, li_12, li_13, li_14, li_15, li_16, li_20, li_23, li_25, li_30, li_31, li_32, li_38, li_40, li_41, li_44, li_48, li_50, li_51, li_52, li_57, li_59, li_60, li_61, li_62, li_63, li_66, li_81, li_94, li_97, li_98, li_99, li_100, li_101, li_103, li_104, li_105, li_107, li_108, li_109, li_110, li_111, li_112, li_114, li_115, li_116, li_117, li_118, li_122, li_200, li_572, li_600, li_9999, li_10000, li_12345, li_1103515245]
      | s + 1, h6, pe =>
        rw [wn_s]
        by_cases g : s = en - st
        · rw [if_pos (by omega)] at pe
          rw [pe, wn_s]
          unfold lX5_placeInWords_6
          simp (disch := omega) only [x1, h2, h3, hd, q, g, letv, o_b, ↓reduceIte, e_sub, e_add, e_mul, e_ld, e_st, e_lt, e_nlt, e_le, e_nle, e_eq, e_neq, e_div, e_rem, m_lt, m_le, m_eq, m_eq2, m_ng, o_ld, true_and, and_true, Nat.one_ne_zero, Nat.zero_ne_one, Nat.reduceEqDiff, Bool.false_eq_true, not_true_eq_false, not_false_eq_true, li_0, li_1, li_2, li_3, li_4, li_5, li_6, li_7, li_8, li_9, li_10, li_11, li_12, li_13, li_14, li_15, li_16, li_20, li_23, li_25, li_30, li_31, li_32, li_38, li_40, li_41, li_44, li_48, li_50, li_51, li_52, li_57, li_59, li_60, li_61, li_62, li_63, li_66, li_81, li_94, li_97, li_98, li_99, li_100, li_101, li_103, li_104, li_105, li_107, li_108, li_109, li_110, li_111, li_112, li_114, li_115, li_116, li_117, li_118, li_122, li_200, li_572, li_600, li_9999, li_10000, li_12345, li_1103515245]
        · rw [if_neg (by omega)] at pe
          rw [pe]
          unfold lX5_placeInWords_6
          simp (disch := omega) only [x1, h2, h3, hd, q, g, i1, letv, o_b, ↓reduceIte, e_sub, e_add, e_mul, e_ld, e_st, e_lt, e_nlt, e_le, e_nle, e_eq, e_neq, e_div, e_rem, m_lt, m_le, m_eq, m_eq2, m_ng, o_ld, true_and, and_true, Nat.one_ne_zero, Nat.zero_ne_one, Nat.reduceEqDiff, Bool.false_eq_true, not_true_eq_false, not_false_eq_true, li_0, li_1, li_2, li_3, li_4, li_5, li_6, li_7, li_8, li_9, li_10, li_11, li_12, li_13, li_14, li_15, li_16, li_20, li_23, li_25, li_30, li_31, li_32, li_38, li_40, li_41, li_44, li_48, li_50, li_51, li_52, li_57, li_59, li_60, li_61, li_62, li_63, li_66, li_81, li_94, li_97, li_98, li_99, li_100, li_101, li_103, li_104, li_105, li_107, li_108, li_109, li_110, li_111, li_112, li_114, li_115, li_116, li_117, li_118, li_122, li_200, li_572, li_600, li_9999, li_10000, li_12345, li_1103515245]
    · rw [if_neg q] at pe
      match s, h6, pe with
      | 0, _, pe =>
        rw [if_neg (fun e => e.1 rfl)] at pe
        rw [pe, wn_0]
        unfold lX5_placeInWords_6
        simp (disch := omega) only [x1, h2, h3, hd, i0, q, letv, o_b, ↓reduceIte, e_sub, e_add, e_mul, e_ld, e_st, e_lt, e_nlt, e_le, e_nle, e_eq, e_neq, e_div, e_rem, m_lt, m_le, m_eq, m_eq2, m_ng, o_ld, true_and, and_true, Nat.one_ne_zero, Nat.zero_ne_one, Nat.reduceEqDiff, Bool.false_eq_true, not_true_eq_false, not_false_eq_true, li_0, li_1, li_2, li_3, li_4, li_5, li_6, li_7, li_8, li_9, li_10, li_11, li_12, li_13, li_14, li_15, li_16, li_20, li_23, li_25, li_30, li_31, li_32, li_38, li_40, li_41, li_44, li_48, li_50, li_51, li_52, li_57, li_59, li_60, li_61, li_62, li_63, li_66, li_81, li_94, li_97, li_98, li_99, li_100, li_101, li_103, li_104, li_105, li_107, li_108, li_109, li_110, li_111, li_112, li_114, li_115, li_116, li_117, li_118, li_122, li_200, li_572, li_600, li_9999, li_10000, li_12345, li_1103515245]
      | s + 1, h6, pe =>
        rw [Nat.add_sub_cancel, tk_get] at pe
        rw [wn_s]
        by_cases g : s < en - st
        · have gt := hb (st + s) (by omega)
          have e := h.2 (st + s) (by omega)
          rw [if_pos g] at pe
          by_cases w : tp (st + s) = c
          · rw [if_pos ⟨by omega, by rw [w]⟩] at pe
            rw [pe]
            have i2 : lX5_placeInWords_6 V r f (nI k) (nI (s + 1)) (nI (i + 1)) (fun _ => some (-(nI 1))) = some (wnI (plA (tkL tp st en) k (s + 1 + 1) (txN.drop (i + 1)))) := ih (i + 1) k (s + 1 + 1) f (by omega) (by omega) (by omega)
            unfold lX5_placeInWords_6
            simp (disch := omega) only [x1, h2, h3, hd, q, e, w, i2, letv, o_b, ↓reduceIte, e_sub, e_add, e_mul, e_ld, e_st, e_lt, e_nlt, e_le, e_nle, e_eq, e_neq, e_div, e_rem, m_lt, m_le, m_eq, m_eq2, m_ng, o_ld, true_and, and_true, Nat.one_ne_zero, Nat.zero_ne_one, Nat.reduceEqDiff, Bool.false_eq_true, not_true_eq_false, not_false_eq_true, li_0, li_1, li_2, li_3, li_4, li_5, li_6, li_7, li_8, li_9, li_10, li_11, li_12, li_13, li_14, li_15, li_16, li_20, li_23, li_25, li_30, li_31, li_32, li_38, li_40, li_41, li_44, li_48, li_50, li_51, li_52, li_57, li_59, li_60, li_61, li_62, li_63, li_66, li_81, li_94, li_97, li_98, li_99, li_100, li_101, li_103, li_104, li_105, li_107, li_108, li_109, li_110, li_111, li_112, li_114, li_115, li_116, li_117, li_118, li_122, li_200, li_572, li_600, li_9999, li_10000, li_12345, li_1103515245]
          · rw [if_neg (fun z => w (Option.some.inj z.2))] at pe
            rw [pe]
            unfold lX5_placeInWords_6
            simp (disch := omega) only [x1, h2, h3, hd, q, e, w, i0, letv, o_b, ↓reduceIte, e_sub, e_add, e_mul, e_ld, e_st, e_lt, e_nlt, e_le, e_nle, e_eq, e_neq, e_div, e_rem, m_lt, m_le, m_eq, m_eq2, m_ng, o_ld, true_and, and_true, Nat.one_ne_zero, Nat.zero_ne_one, Nat.reduceEqDiff, Bool.false_eq_true, not_true_eq_false, not_false_eq_true, li_0, li_1, li_2, li_3, li_4, li_5, li_6, li_7, li_8, li_9, li_10, li_11, li_12, li_13, li_14, li_15, li_16, li_20, li_23, li_25, li_30, li_31, li_32, li_38, li_40, li_41, li_44, li_48, li_50, li_51, li_52, li_57, li_59, li_60, li_61, li_62, li_63, li_66, li_81, li_94, li_97, li_98, li_99, li_100, li_101, li_103, li_104, li_105, li_107, li_108, li_109, li_110, li_111, li_112, li_114, li_115, li_116, li_117, li_118, li_122, li_200, li_572, li_600, li_9999, li_10000, li_12345, li_1103515245]
        · rw [if_neg g, if_neg (fun z => nomatch z.2)] at pe
          rw [pe]
          unfold lX5_placeInWords_6
          simp (disch := omega) only [x1, h2, h3, hd, q, i0, letv, o_b, ↓reduceIte, e_sub, e_add, e_mul, e_ld, e_st, e_lt, e_nlt, e_le, e_nle, e_eq, e_neq, e_div, e_rem, m_lt, m_le, m_eq, m_eq2, m_ng, o_ld, true_and, and_true, Nat.one_ne_zero, Nat.zero_ne_one, Nat.reduceEqDiff, Bool.false_eq_true, not_true_eq_false, not_false_eq_true, li_0, li_1, li_2, li_3, li_4, li_5, li_6, li_7, li_8, li_9, li_10, li_11, li_12, li_13, li_14, li_15, li_16, li_20, li_23, li_25, li_30, li_31, li_32, li_38, li_40, li_41, li_44, li_48, li_50, li_51, li_52, li_57, li_59, li_60, li_61, li_62, li_63, li_66, li_81, li_94, li_97, li_98, li_99, li_100, li_101, li_103, li_104, li_105, li_107, li_108, li_109, li_110, li_111, li_112, li_114, li_115, li_116, li_117, li_118, li_122, li_200, li_572, li_600, li_9999, li_10000, li_12345, li_1103515245]
def ToC (r tz : Nat) (tp : Nat → Nat) (V : V2) (p : Nat) : Prop := V r 2 = nI (tfA tz tp p) ∧ V r 3 = nI (ttA tz tp p) ∧ V r 4 = nI (tkA tz tp p) ∧ V r 5 = wnI (wA (tyL tz tp p))
theorem c_goOn (hn : 1000 ≤ n) (hB : TB tz tp) (h : TaC r tz tp V) (hp : p ≤ tz) (h3 : V r 3 = nI p) : ∃ V', pX5_goOn n V r = some V' ∧ ToC r tz tp V' p ∧ (∀ x, x ≠ r → V' x = V x) ∧ ∀ k, (k < 2 ∨ 5 < k) → V' r k = V r k := by
  have hz := hB.1
  have f1 := tf_le (tp := tp) hp
  have f2 := tt_le (tp := tp) hp
  have s3 := tc_3 tz tp (tfA tz tp p)
  have s0 : tkA tz tp p = 0 ↔ tz ≤ tfA tz tp p := tc_0
  have sk : lX5_goOn_8 r n (up2 V r 2 (nI p)) = some (up2 V r 2 (nI (tfA tz tp p))) := by
    rw [c_skip hB (tz - p) p n (up2 V r 2 (nI p)) (by omega) (by omega) (h.up (by omega)) w_same, w_w]
    rfl
  have so : pX5_sortAt (up2 V r 2 (nI (tfA tz tp p))) r (nI (tfA tz tp p)) = some (nI (tkA tz tp p)) := c_sort hB (h.up (by omega)) (by omega)
  have tA : ttA tz tp p = if tkA tz tp p = 0 then tfA tz tp p else if tkA tz tp p = 3 then tfA tz tp p + 1 else exA tz tp (tkA tz tp p) (tz - (tfA tz tp p + 1)) (tfA tz tp p + 1) := rfl
  have tL : tyL tz tp p = if tkA tz tp p = 1 then tkL tp (tfA tz tp p) (ttA tz tp p) else [] := rfl
  unfold ToC
  rw [tL]
  change tkA tz tp p ≤ 3 at s3
  generalize tfA tz tp p = F at *
  generalize tkA tz tp p = S at *
  generalize hT : ttA tz tp p = T at *
  have W4 : ∀ v, up2 (up2 (up2 V r 2 (nI F)) r 4 (nI S)) r 3 v r 4 = nI S := fun v => by rw [w_idx (by omega), w_same]
  have st : ∃ J, J = (if S = 0 then F else F + 1) := ⟨_, rfl⟩
  obtain ⟨J, hJ⟩ := st
  have ex : lX5_goOn_82 r n (up2 (up2 (up2 V r 2 (nI F)) r 4 (nI S)) r 3 (nI J)) = some (up2 (up2 (up2 V r 2 (nI F)) r 4 (nI S)) r 3 (nI T)) := by
    have tC : TaC r tz tp (up2 (up2 (up2 V r 2 (nI F)) r 4 (nI S)) r 3 (nI J)) := ((h.up (by omega)).up (by omega)).up (by omega)
    by_cases q3 : S = 3
    · obtain ⟨f, rfl⟩ : ∃ g, n = g + 1 := ⟨n - 1, by omega⟩
      rw [if_neg (by omega), if_pos q3] at tA
      rw [if_neg (by omega)] at hJ
      subst q3
      rw [hJ, tA]
      unfold lX5_goOn_82
      rw [W4, if_pos (by decide)]
    · by_cases q0 : S = 0
      · rw [if_pos q0] at tA hJ
        have := c_ext hB (so := S) s3 q3 (tz - J) J n _ (by omega) (by omega) tC w_same (W4 _)
        rw [this, w_w, hJ, tA, show tz - F = 0 by omega]
        rfl
      · rw [if_neg q0, if_neg q3] at tA
        rw [if_neg q0] at hJ
        have := c_ext hB (so := S) s3 q3 (tz - J) J n _ (by omega) (by omega) tC w_same (W4 _)
        rw [this, w_w, hJ, tA]
  generalize hX : up2 (up2 (up2 V r 2 (nI F)) r 4 (nI S)) r 3 (nI T) = X at ex
  have x2 : X r 2 = nI F := by rw [← hX, w_idx (by omega), w_idx (by omega), w_same]
  have x3 : X r 3 = nI T := by rw [← hX, w_same]
  have x4 : X r 4 = nI S := by rw [← hX, w_idx (by omega), w_same]
  have tX : TaC r tz tp X := by rw [← hX]; exact ((h.up (by omega)).up (by omega)).up (by omega)
  have wo : ((if X r 4 = (1 : Int32) then ((pX5_placeInWords n X r).bind fun q17 => some q17) else (some (-1)) : Option (Int32))) = some (wnI (wA (if S = 1 then tkL tp F T else []))) := by
    rw [x4]
    by_cases q : S = 1
    · rw [if_pos (by rw [q]; rfl), if_pos q]
      have := c_words hB tX x2 x3 f2.1 f2.2.1 94 0 0 1 n (by omega) (by omega) (by omega)
      rw [List.drop_zero, pl_all] at this
      have e : pX5_placeInWords n X r = some (wnI (wA (tkL tp F T))) := this
      rw [e]
      rfl
    · rw [if_neg (show ¬ nI S = (1 : Int32) from fun e => q ((nI_eq (by omega) (by omega)).mp (show nI S = nI 1 from e))), if_neg q]
      rfl
  refine ⟨up2 X r 5 (wnI (wA (if S = 1 then tkL tp F T else []))), ?_, ⟨?_, ?_, ?_, ?_⟩, fun x hx => ?_, fun k hk => ?_⟩
  · unfold pX5_goOn
    have eJ : (if nI S = nI 0 then nI F else nI F + nI 1 : Int32) = nI J := by
      by_cases q0 : S = 0
      · rw [if_pos (by rw [q0]), hJ, if_pos q0]
      · rw [if_neg (fun e => q0 ((nI_eq (by omega) (by omega)).mp e)), e_add, hJ, if_neg q0]
    have eJ' : (if nI S = 0 then nI F else nI F + 1 : Int32) = nI J := eJ
    have g2 : up2 V r 2 (nI F) r 2 = nI F := w_same
    have g3 : ∀ v, up2 (up2 V r 2 (nI F)) r 4 v r 4 = v := fun v => w_same
    have g4 : ∀ v, up2 (up2 V r 2 (nI F)) r 4 v r 2 = nI F := fun v => by rw [w_idx (by omega), w_same]
    simp only [letv, h3, sk, o_b, g2, so, g3, g4, eJ', ex, wo]
  · rw [w_idx (by omega), x2]
  · rw [w_idx (by omega), x3]
  · rw [w_idx (by omega), x4]
  · rw [w_same]
  · rw [w_row hx, ← hX, w_row hx, w_row hx, w_row hx]
  · rw [w_idx (by omega), ← hX, w_idx (by omega), w_idx (by omega), w_idx (by omega)]
end X2
