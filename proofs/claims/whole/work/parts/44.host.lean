/-! items, shelves, acts by items -/
theorem isShe {x : Int32} : pX9_isSheet x = (pX9_isIn x.toInt64 (lN 0) (lN 3)).bind fun q => if isb q then some q else none := rfl
theorem isSlf {x : Int32} : pX9_isShelf x = (pX9_isIn x.toInt64 (lN 0) (lN 3)).bind fun q => if isb q then some q else none := rfl
theorem isb1 : isb (nI 1) = true := by decide
theorem isb0 : isb (nI 0) = true := by decide
section S6
variable {n z b : Nat} {V : V2} {R : R2} {G Gm : G2} {U : V2}
/-- a row of a sheet is written -/
theorem RuC.wr {y y' kd wl m i : Nat} {v : Int32} {g : Nat → Nat × Nat × Nat} (hX : GX G) (hy : own G y 17) (h : RuC G V y' z kd wl m g) : RuC G (up2 V (y + 1) i v) y' z kd wl m g := by
  obtain ⟨h1, h2, h3, h4, h5, h6⟩ := h
  have o1 := ownB_k h2
  have o2 := sheet_row hX hy
  have n1 : y' ≠ y + 1 := own_ne o1 o2 (by omega)
  have n2 : y' ≠ y := own_ne o1 hy (by omega)
  refine ⟨h1, h2, ?_, ?_, h5, fun j hj => ?_⟩
  · rw [w_row n1]; exact h3
  · rw [w_row n1]; exact h4
  · rw [w_row (by omega)]; exact h6 j hj
theorem NR.wr {y i Y : Nat} {v : Int32} {s : Nat → Int32} (hX : GX G) (hy : own G y 17) (hz : z + 93 ≤ y) (hY : Y + 14 < z + 93) (h : NR G V R z Y s) : NR G (up2 V (y + 1) i v) R z Y s := by
  obtain ⟨E, L, rn, rp, h1, h2, h3, ⟨g1, g2, g3, g4, g5⟩, h5, h6, h7, h8, h9, h10, h11⟩ := h
  refine ⟨E, L, rn, rp, h1, h2, h3, ⟨?_, ?_, fun i hi => ?_, fun i hi => ?_, fun i hi => ?_⟩, h5.up (by omega), h6, h7, ?_, ?_, h10.up (by omega), h11⟩
  · rw [w_row (by omega)]; exact g1
  · rw [w_row (by omega)]; exact g2
  · rw [w_row (by omega)]; exact g3 i hi
  · rw [w_row (by omega), w_row (by omega)]; exact g4 i hi
  · obtain ⟨y', hy', hr⟩ := g5 i hi
    exact ⟨y', hy', hr.wr hX hy⟩
  · rw [w_row (by omega)]; exact h8
  · rw [w_row (by omega)]; exact h9
theorem ShR.wr {y y' so sz i : Nat} {v : Int32} (hX : GX G) (hy : own G y 17) (h : ShR G V z y' so sz) : ShR G (up2 V (y + 1) i v) z y' so sz := by
  obtain ⟨h1, h2, h3, h4, h5, h6⟩ := h
  exact ⟨h1, h2, by rw [w_row (own_ne (ownB_k h2) (sheet_row hX hy) (by omega))]; exact h3, h4, h5, h6⟩
theorem rl_write {t y so sz i : Nat} {v : Int32} (hX : GX G) (h : RelB z b V R G U) (ht : t < 4) (hy : R (z + 70) t = some y) (hs : ShR G V z y so sz) (hi : i < sz) : RelB z b (up2 V (y + 1) i v) R G (up2 U (b + 13) (40 * t + i) v) := by
  have hz := hs.1
  have ho := ownB_k hs.2.1
  have hsz := hs.2.2.2.2.2
  obtain ⟨hW, hN, ⟨k1, k2⟩, ⟨tz, tp, t1, t2, t3, t4⟩, ⟨rn, r1, r2, r3, r4⟩, hS, sl, ⟨tn, u1, u2, u3, u4⟩, st⟩ := h
  refine ⟨hW, ?_, ⟨?_, ?_⟩, ⟨tz, tp, t1, by rw [w_row (by omega)]; exact t2, by rw [w_row (by omega)]; exact t3, fun i hi => by rw [w_row (by omega), w_row (by omega)]; exact t4 i hi⟩, ⟨rn, r1, by rw [w_row (by omega)]; exact r2, by rw [w_row (by omega)]; exact r3, fun i hi => by rw [w_row (by omega), w_row (by omega)]; exact r4 i hi⟩, ⟨fun t' ht' => ?_, hS.2⟩, fun s hs' => ?_, ⟨tn, u1, by rw [w_row (by omega)]; exact u2, by rw [w_row (by omega)]; exact u3, fun i hi => by rw [w_row (by omega), w_row (by omega)]; exact u4 i hi⟩, st⟩
  · rw [w_row (x := b + 13) (y := b + 1) (by omega)]
    exact hN.wr hX ho hz (by omega)
  · rw [w_row (by omega), w_row (by omega)]; exact k1
  · rw [w_row (x := b + 13) (y := b) (by omega), w_row (x := b + 13) (y := b + 2) (by omega)]
    exact k2.imp id fun q => ⟨q.1, q.2.wr hX ho hz (by omega)⟩
  · rw [w_row (x := b + 13) (y := b + 11) (by omega), w_row (x := b + 13) (y := b + 12) (by omega)]
    rcases hS.1 t' ht' with q | ⟨y', so', sz', q1, q2, q3, q4, q5⟩
    · exact Or.inl q
    · have s40 := q2.2.2.2.2.2
      refine Or.inr ⟨y', so', sz', q1, q2.wr hX ho, q3, q4, fun i' hi' => ?_⟩
      by_cases g : t' = t
      · subst g
        rw [hy] at q1
        cases q1
        rw [w_at, w_at]
        by_cases g2 : i' = i
        · rw [if_pos g2, if_pos (by omega)]
        · rw [if_neg g2, if_neg (by omega)]
          exact q5 i' hi'
      · have ny : y' ≠ y := fun e => g (hS.2 t' t y ht' ht (by rw [q1, e]) hy)
        rw [w_row (by omega), w_idx (by omega)]
        exact q5 i' hi'
  · rw [w_row (x := b + 13) (y := b + 14) (by omega), w_row (x := b + 13) (y := b + 15) (by omega), w_row (x := b + 13) (y := b + 16) (by omega), w_row (x := y + 1) (y := z + 71) (by omega)]
    rcases sl s hs' with q | q | ⟨y', so', sz', q1, q2, q3, q4⟩
    · exact Or.inl q
    · exact Or.inr (Or.inl q)
    · exact Or.inr (Or.inr ⟨y', so', sz', q1, q2, q3.wr hX ho, q4⟩)
/-- is there such a place -/
theorem hs_or {y sz : Nat} (hl : G.2.2.1 (y + 1) = sz) (hz : sz ≤ 40) (x : Int32) : (∃ p, p < sz ∧ x = nI p ∧ pX7_has G V y x = some (nI 1) ∧ pX9_isIn x.toInt64 (lN 0) (nI sz - nI 1).toInt64 = some (nI 1)) ∨ (pX7_has G V y x = some (nI 0) ∧ pX9_isIn x.toInt64 (lN 0) (nI sz - nI 1).toInt64 = some (nI 0)) := by
  unfold pX7_has
  rw [hl]
  rcases wcl (x := x) (c := sz) (by omega) with ⟨p, h1, h2, h3, h4⟩ | ⟨h3, h4⟩
  · exact Or.inl ⟨p, h1, h2, by simp only [li_0, li_1, h3, o_b, isb1, ↓reduceIte], h4⟩
  · exact Or.inr ⟨by simp only [li_0, li_1, h3, o_b, isb0, ↓reduceIte], h4⟩
theorem ok_item' (h : RelB z b V R G U) (a1 a2 a3 : Int32) : ∃ o om, pX8_item G V R z a1 a2 a3 = some o ∧ pX9_item U b a1 a2 a3 = some om ∧ o = om ∧ RelB z b V R G U := by
  obtain ⟨hW, hN, hO⟩ := id h
  unfold pX8_item pX9_item pX9_lacks
  rw [isShe]
  rcases wi (x := a1) (lo := 0) (hi := 3) (by omega) (by omega) with ⟨t, -, ht, rfl, w1, w2⟩ | ⟨w1, w2⟩
  · rcases wi (x := a2) (lo := 0) (hi := 4) (by omega) (by omega) with ⟨so, -, hso, rfl, w3, w4⟩ | ⟨w3, w4⟩
    · rcases hO.2.2.2.1.1 t (by omega) with ⟨q1, q2⟩ | ⟨y, s', sz, q1, q2, q3, q4, q5⟩
      · exact pkq (-(nI 11)) (by simp (disch := omega) only [w1, e_10, w3, q1, ocase, letv, o_b, ↓reduceIte, e_sub, e_add, e_mul, e_ld, e_st, e_lt, e_nlt, e_le, e_nle, e_eq, e_neq, e_div, e_rem, m_lt, m_le, m_eq, m_eq2, m_ng, o_ld, true_and, and_true, Nat.one_ne_zero, Nat.zero_ne_one, Nat.reduceEqDiff, Bool.false_eq_true, not_true_eq_false, not_false_eq_true, li_0, li_1, li_2, li_3, li_4, li_5, li_6, li_7, li_8, li_9, li_10, li_11, li_12, li_13, li_14, li_15, li_16, li_20, li_23, li_25, li_30, li_31, li_32, li_38, li_40, li_41, li_44, li_48, li_50, li_51, li_52, li_57, li_59, li_60, li_61, li_62, li_63, li_66, li_81, li_94, li_97, li_98, li_99, li_100, li_101, li_103, li_104, li_105, li_107, li_108, li_109, li_110, li_111, li_112, li_114, li_115, li_116, li_117, li_118, li_122, li_200, li_572, li_600, li_9999, li_10000, li_12345, li_1103515245]) (by simp (disch := omega) only [lj_0, lj_4, w2, isb1, e_10, w4, q2, letv, o_b, ↓reduceIte, e_sub, e_add, e_mul, e_ld, e_st, e_lt, e_nlt, e_le, e_nle, e_eq, e_neq, e_div, e_rem, m_lt, m_le, m_eq, m_eq2, m_ng, o_ld, true_and, and_true, Nat.one_ne_zero, Nat.zero_ne_one, Nat.reduceEqDiff, Bool.false_eq_true, not_true_eq_false, not_false_eq_true, li_0, li_1, li_2, li_3, li_4, li_5, li_6, li_7, li_8, li_9, li_10, li_11, li_12, li_13, li_14, li_15, li_16, li_20, li_23, li_25, li_30, li_31, li_32, li_38, li_40, li_41, li_44, li_48, li_50, li_51, li_52, li_57, li_59, li_60, li_61, li_62, li_63, li_66, li_81, li_94, li_97, li_98, li_99, li_100, li_101, li_103, li_104, li_105, li_107, li_108, li_109, li_110, li_111, li_112, li_114, li_115, li_116, li_117, li_118, li_122, li_200, li_572, li_600, li_9999, li_10000, li_12345, li_1103515245]) h
      · have s4 := q2.2.2.2.1
        have s40 := q2.2.2.2.2.2
        by_cases g : s' = so
        · subst g
          rcases hs_or (V := V) q2.2.2.2.2.1 s40 a3 with ⟨p, hp, rfl, h1, h2⟩ | ⟨h1, h2⟩
          · refine pkq (V (y + 1) p) ?_ ?_ h
            · simp (disch := omega) only [li_0, li_3, li_4, w1, o_b, e_10, ↓reduceIte, w3, o_ld, q1, ocase, q2.2.1, q2.2.2.1, h1, e_ld, q2.2.2.2.2.1]
            · simp (disch := omega) only [li_0, li_1, li_40, lj_0, lj_4, w2, o_b, isb1, e_10, ↓reduceIte, w4, e_ld, q3, e_le, q4, h2, e_mul, e_add, q5 p hp]
          · refine pkq (-(nI 12)) ?_ ?_ h
            · simp (disch := omega) only [li_0, li_3, li_4, li_12, w1, o_b, e_10, ↓reduceIte, w3, o_ld, q1, ocase, q2.2.1, q2.2.2.1, h1]
            · simp (disch := omega) only [li_0, li_1, li_12, lj_0, lj_4, w2, o_b, isb1, e_10, ↓reduceIte, w4, e_ld, q3, e_le, q4, h2]
        · refine pkq (-(nI 13)) ?_ ?_ h
          · simp (disch := omega) only [li_0, li_3, li_4, li_13, w1, o_b, e_10, ↓reduceIte, w3, o_ld, q1, ocase, q2.2.1, q2.2.2.1, e_neq]
          · simp (disch := omega) only [lj_0, lj_4, w2, isb1, e_10, w4, q3, letv, o_b, ↓reduceIte, e_sub, e_add, e_mul, e_ld, e_st, e_lt, e_nlt, e_le, e_nle, e_eq, e_neq, e_div, e_rem, m_lt, m_le, m_eq, m_eq2, m_ng, o_ld, true_and, and_true, Nat.one_ne_zero, Nat.zero_ne_one, Nat.reduceEqDiff, Bool.false_eq_true, not_true_eq_false, not_false_eq_true, li_0, li_1, li_2, li_3, li_4, li_5, li_6, li_7, li_8, li_9, li_10, li_11, li_12, li_13, li_14, li_15, li_16, li_20, li_23, li_25, li_30, li_31, li_32, li_38, li_40, li_41, li_44, li_48, li_50, li_51, li_52, li_57, li_59, li_60, li_61, li_62, li_63, li_66, li_81, li_94, li_97, li_98, li_99, li_100, li_101, li_103, li_104, li_105, li_107, li_108, li_109, li_110, li_111, li_112, li_114, li_115, li_116, li_117, li_118, li_122, li_200, li_572, li_600, li_9999, li_10000, li_12345, li_1103515245]
    · exact pkq (-(nI 1)) (by simp (disch := omega) only [w1, e_10, w3, letv, o_b, ↓reduceIte, e_sub, e_add, e_mul, e_ld, e_st, e_lt, e_nlt, e_le, e_nle, e_eq, e_neq, e_div, e_rem, m_lt, m_le, m_eq, m_eq2, m_ng, o_ld, true_and, and_true, Nat.one_ne_zero, Nat.zero_ne_one, Nat.reduceEqDiff, Bool.false_eq_true, not_true_eq_false, not_false_eq_true, li_0, li_1, li_2, li_3, li_4, li_5, li_6, li_7, li_8, li_9, li_10, li_11, li_12, li_13, li_14, li_15, li_16, li_20, li_23, li_25, li_30, li_31, li_32, li_38, li_40, li_41, li_44, li_48, li_50, li_51, li_52, li_57, li_59, li_60, li_61, li_62, li_63, li_66, li_81, li_94, li_97, li_98, li_99, li_100, li_101, li_103, li_104, li_105, li_107, li_108, li_109, li_110, li_111, li_112, li_114, li_115, li_116, li_117, li_118, li_122, li_200, li_572, li_600, li_9999, li_10000, li_12345, li_1103515245]) (by simp (disch := omega) only [lj_0, lj_4, w2, isb1, e_10, w4, letv, o_b, ↓reduceIte, e_sub, e_add, e_mul, e_ld, e_st, e_lt, e_nlt, e_le, e_nle, e_eq, e_neq, e_div, e_rem, m_lt, m_le, m_eq, m_eq2, m_ng, o_ld, true_and, and_true, Nat.one_ne_zero, Nat.zero_ne_one, Nat.reduceEqDiff, Bool.false_eq_true, not_true_eq_false, not_false_eq_true, li_0, li_1, li_2, li_3, li_4, li_5, li_6, li_7, li_8, li_9, li_10, li_11, li_12, li_13, li_14, li_15, li_16, li_20, li_23, li_25, li_30, li_31, li_32, li_38, li_40, li_41, li_44, li_48, li_50, li_51, li_52, li_57, li_59, li_60, li_61, li_62, li_63, li_66, li_81, li_94, li_97, li_98, li_99, li_100, li_101, li_103, li_104, li_105, li_107, li_108, li_109, li_110, li_111, li_112, li_114, li_115, li_116, li_117, li_118, li_122, li_200, li_572, li_600, li_9999, li_10000, li_12345, li_1103515245]) h
  · exact pkq (-(nI 1)) (by simp (disch := omega) only [w1, letv, o_b, ↓reduceIte, e_sub, e_add, e_mul, e_ld, e_st, e_lt, e_nlt, e_le, e_nle, e_eq, e_neq, e_div, e_rem, m_lt, m_le, m_eq, m_eq2, m_ng, o_ld, true_and, and_true, Nat.one_ne_zero, Nat.zero_ne_one, Nat.reduceEqDiff, Bool.false_eq_true, not_true_eq_false, not_false_eq_true, li_0, li_1, li_2, li_3, li_4, li_5, li_6, li_7, li_8, li_9, li_10, li_11, li_12, li_13, li_14, li_15, li_16, li_20, li_23, li_25, li_30, li_31, li_32, li_38, li_40, li_41, li_44, li_48, li_50, li_51, li_52, li_57, li_59, li_60, li_61, li_62, li_63, li_66, li_81, li_94, li_97, li_98, li_99, li_100, li_101, li_103, li_104, li_105, li_107, li_108, li_109, li_110, li_111, li_112, li_114, li_115, li_116, li_117, li_118, li_122, li_200, li_572, li_600, li_9999, li_10000, li_12345, li_1103515245]) (by simp (disch := omega) only [lj_0, lj_4, w2, isb0, letv, o_b, ↓reduceIte, e_sub, e_add, e_mul, e_ld, e_st, e_lt, e_nlt, e_le, e_nle, e_eq, e_neq, e_div, e_rem, m_lt, m_le, m_eq, m_eq2, m_ng, o_ld, true_and, and_true, Nat.one_ne_zero, Nat.zero_ne_one, Nat.reduceEqDiff, Bool.false_eq_true, not_true_eq_false, not_false_eq_true, li_0, li_1, li_2, li_3, li_4, li_5, li_6, li_7, li_8, li_9, li_10, li_11, li_12, li_13, li_14, li_15, li_16, li_20, li_23, li_25, li_30, li_31, li_32, li_38, li_40, li_41, li_44, li_48, li_50, li_51, li_52, li_57, li_59, li_60, li_61, li_62, li_63, li_66, li_81, li_94, li_97, li_98, li_99, li_100, li_101, li_103, li_104, li_105, li_107, li_108, li_109, li_110, li_111, li_112, li_114, li_115, li_116, li_117, li_118, li_122, li_200, li_572, li_600, li_9999, li_10000, li_12345, li_1103515245]) h
theorem ok_write' (h : RelB z b V R G U) (hI : LI z Gm G) (a1 a2 a3 : Int32) : ∃ o om, pX8_write G V R z a1 a2 a3 = some o ∧ pX9_write U b a1 a2 a3 = some om ∧ o.1 = om.1 ∧ RelB z b o.2 R G om.2 := by
  obtain ⟨hW, hN, hO⟩ := id h
  unfold pX8_write pX9_write
  rw [isShe]
  rcases wi (x := a1) (lo := 0) (hi := 3) (by omega) (by omega) with ⟨t, -, ht, rfl, w1, w2⟩ | ⟨w1, w2⟩
  · rcases hO.2.2.2.1.1 t (by omega) with ⟨q1, q2⟩ | ⟨y, so, sz, q1, q2, q3, q4, q5⟩
    · exact pkx (-(nI 11)) (by simp (disch := omega) only [w1, e_10, q1, ocase, letv, o_b, ↓reduceIte, e_sub, e_add, e_mul, e_ld, e_st, e_lt, e_nlt, e_le, e_nle, e_eq, e_neq, e_div, e_rem, m_lt, m_le, m_eq, m_eq2, m_ng, o_ld, true_and, and_true, Nat.one_ne_zero, Nat.zero_ne_one, Nat.reduceEqDiff, Bool.false_eq_true, not_true_eq_false, not_false_eq_true, li_0, li_1, li_2, li_3, li_4, li_5, li_6, li_7, li_8, li_9, li_10, li_11, li_12, li_13, li_14, li_15, li_16, li_20, li_23, li_25, li_30, li_31, li_32, li_38, li_40, li_41, li_44, li_48, li_50, li_51, li_52, li_57, li_59, li_60, li_61, li_62, li_63, li_66, li_81, li_94, li_97, li_98, li_99, li_100, li_101, li_103, li_104, li_105, li_107, li_108, li_109, li_110, li_111, li_112, li_114, li_115, li_116, li_117, li_118, li_122, li_200, li_572, li_600, li_9999, li_10000, li_12345, li_1103515245]) (by simp (disch := omega) only [lj_0, lj_3, w2, isb1, e_10, q2, show (nI 0 ≤ -(nI 1)) = False from eq_false (by decide), letv, o_b, ↓reduceIte, e_sub, e_add, e_mul, e_ld, e_st, e_lt, e_nlt, e_le, e_nle, e_eq, e_neq, e_div, e_rem, m_lt, m_le, m_eq, m_eq2, m_ng, o_ld, true_and, and_true, Nat.one_ne_zero, Nat.zero_ne_one, Nat.reduceEqDiff, Bool.false_eq_true, not_true_eq_false, not_false_eq_true, li_0, li_1, li_2, li_3, li_4, li_5, li_6, li_7, li_8, li_9, li_10, li_11, li_12, li_13, li_14, li_15, li_16, li_20, li_23, li_25, li_30, li_31, li_32, li_38, li_40, li_41, li_44, li_48, li_50, li_51, li_52, li_57, li_59, li_60, li_61, li_62, li_63, li_66, li_81, li_94, li_97, li_98, li_99, li_100, li_101, li_103, li_104, li_105, li_107, li_108, li_109, li_110, li_111, li_112, li_114, li_115, li_116, li_117, li_118, li_122, li_200, li_572, li_600, li_9999, li_10000, li_12345, li_1103515245]) h
    · have s4 := q2.2.2.2.1
      have s40 := q2.2.2.2.2.2
      rcases hs_or (V := V) q2.2.2.2.2.1 s40 a2 with ⟨p, hp, rfl, h1, h2⟩ | ⟨h1, h2⟩
      · unfold pX7_put
        have fin : ∀ v : Int32, RelB z b (up2 V (y + 1) p v) R G (up2 U (b + 13) (40 * t + p) v) := fun v => rl_write hI.1 h (by omega) q1 q2 hp
        rcases (show so = 0 ∨ so = 1 ∨ so = 2 ∨ so = 3 ∨ so = 4 by omega) with rfl | rfl | rfl | rfl | rfl
        · refine pk (x := nI 1) ?_ ?_ rfl (fin a3.toInt8.toInt32)
          · simp (disch := omega) only [letv, li_0, li_1, li_3, w1, o_b, e_10, ↓reduceIte, o_ld, q1, ocase, q2.2.1, q2.2.2.1, h1, q2.2.2.2.2.1, e_st]
          · simp (disch := omega) only [li_0, li_1, li_40, lj_0, lj_3, w2, o_b, isb1, e_10, ↓reduceIte, e_ld, q3, e_le, q4, h2, e_mul, e_add, e_st]
        · refine pk (x := nI 1) ?_ ?_ rfl (fin a3.toInt16.toInt32)
          · simp (disch := omega) only [letv, li_0, li_1, li_3, w1, o_b, e_10, ↓reduceIte, o_ld, q1, ocase, q2.2.1, q2.2.2.1, h1, q2.2.2.2.2.1, e_st, e_neq]
          · simp (disch := omega) only [li_0, li_1, li_40, lj_0, lj_3, w2, o_b, isb1, e_10, ↓reduceIte, e_ld, q3, e_le, q4, h2, e_mul, e_add, e_st, e_neq]
        · refine pk (x := nI 1) ?_ ?_ rfl (fin a3)
          · simp (disch := omega) only [letv, li_0, li_1, li_2, li_3, w1, o_b, e_10, ↓reduceIte, o_ld, q1, ocase, q2.2.1, q2.2.2.1, h1, q2.2.2.2.2.1, e_st, e_neq]
          · simp (disch := omega) only [li_0, li_1, li_4, li_40, lj_0, lj_3, w2, o_b, isb1, e_10, ↓reduceIte, e_ld, q3, e_le, q4, h2, e_mul, e_add, e_st, e_neq]
        · refine pk (x := nI 1) ?_ ?_ rfl (fin a3)
          · simp (disch := omega) only [letv, li_0, li_1, li_2, li_3, w1, o_b, e_10, ↓reduceIte, o_ld, q1, ocase, q2.2.1, q2.2.2.1, h1, q2.2.2.2.2.1, e_st, e_neq]
          · simp (disch := omega) only [li_0, li_1, li_4, li_40, lj_0, lj_3, w2, o_b, isb1, e_10, ↓reduceIte, e_ld, q3, e_le, q4, h2, e_mul, e_add, e_st, e_neq]
        · have ev : ∀ c : Prop, [Decidable c] → (if c then (some (0 : Int32)) else some 1) = some (if c then (0 : Int32) else 1) := fun c _ => by split <;> rfl
          refine pk (x := nI 1) ?_ ?_ rfl (fin (if a3 = 0 then (0 : Int32) else 1))
          · by_cases a0 : a3 = 0
            · subst a0
              simp (disch := omega) only [letv, li_0, li_1, li_2, li_3, li_4, w1, o_b, e_10, ↓reduceIte, o_ld, q1, ocase, q2.2.1, q2.2.2.1, h1, q2.2.2.2.2.1, e_st, e_neq]
            · have a0' : ¬ a3 = nI 0 := a0
              simp (disch := omega) only [letv, li_0, li_1, li_2, li_3, li_4, w1, o_b, e_10, ↓reduceIte, o_ld, q1, ocase, q2.2.1, q2.2.2.1, h1, q2.2.2.2.2.1, e_st, e_neq, a0']
          · by_cases a0 : a3 = 0
            · subst a0
              simp (disch := omega) only [li_0, li_1, li_4, li_40, lj_0, lj_3, w2, o_b, isb1, e_10, ↓reduceIte, e_ld, q3, e_le, q4, h2, e_mul, e_add, e_st, e_neq]
            · have a0' : ¬ a3 = nI 0 := a0
              simp (disch := omega) only [li_0, li_1, li_4, li_40, lj_0, lj_3, w2, o_b, isb1, e_10, ↓reduceIte, e_ld, q3, e_le, q4, h2, e_mul, e_add, e_st, e_neq, a0']
      · refine pkx (-(nI 12)) ?_ ?_ h
        · simp (disch := omega) only [li_0, li_3, li_12, w1, o_b, e_10, ↓reduceIte, o_ld, q1, ocase, q2.2.1, h1]
        · simp (disch := omega) only [li_0, li_1, li_12, lj_0, lj_3, w2, o_b, isb1, e_10, ↓reduceIte, e_ld, q3, e_le, q4, h2]
  · exact pkx (-(nI 1)) (by simp (disch := omega) only [w1, letv, o_b, ↓reduceIte, e_sub, e_add, e_mul, e_ld, e_st, e_lt, e_nlt, e_le, e_nle, e_eq, e_neq, e_div, e_rem, m_lt, m_le, m_eq, m_eq2, m_ng, o_ld, true_and, and_true, Nat.one_ne_zero, Nat.zero_ne_one, Nat.reduceEqDiff, Bool.false_eq_true, not_true_eq_false, not_false_eq_true, li_0, li_1, li_2, li_3, li_4, li_5, li_6, li_7, li_8, li_9, li_10, li_11, li_12, li_13, li_14, li_15, li_16, li_20, li_23, li_25, li_30, li_31, li_32, li_38, li_40, li_41, li_44, li_48, li_50, li_51, li_52, li_57, li_59, li_60, li_61, li_62, li_63, li_66, li_81, li_94, li_97, li_98, li_99, li_100, li_101, li_103, li_104, li_105, li_107, li_108, li_109, li_110, li_111, li_112, li_114, li_115, li_116, li_117, li_118, li_122, li_200, li_572, li_600, li_9999, li_10000, li_12345, li_1103515245]) (by simp (disch := omega) only [lj_0, lj_3, w2, isb0, letv, o_b, ↓reduceIte, e_sub, e_add, e_mul, e_ld, e_st, e_lt, e_nlt, e_le, e_nle, e_eq, e_neq, e_div, e_rem, m_lt, m_le, m_eq, m_eq2, m_ng, o_ld, true_and, and_true, Nat.one_ne_zero, Nat.zero_ne_one, Nat.reduceEqDiff, Bool.false_eq_true, not_true_eq_false, not_false_eq_true, li_0, li_1, li_2, li_3, li_4, li_5, li_6, li_7, li_8, li_9, li_10, li_11, li_12, li_13, li_14, li_15, li_16, li_20, li_23, li_25, li_30, li_31, li_32, li_38, li_40, li_41, li_44, li_48, li_50, li_51, li_52, li_57, li_59, li_60, li_61, li_62, li_63, li_66, li_81, li_94, li_97, li_98, li_99, li_100, li_101, li_103, li_104, li_105, li_107, li_108, li_109, li_110, li_111, li_112, li_114, li_115, li_116, li_117, li_118, li_122, li_200, li_572, li_600, li_9999, li_10000, li_12345, li_1103515245]) h
/-- a place that is told by two numbers -/
theorem hs2_or {y sz : Nat} (hl : G.2.2.1 (y + 1) = sz) (hz : sz ≤ 40) (x : Int32) {j : Nat} (hj : j ≤ 20) : (∃ p, p < sz ∧ x + nI j = nI p ∧ pX7_has G V y (x + nI j) = some (nI 1) ∧ pX9_isIn (x.toInt64 + (nI j).toInt64) (lN 0) ((nI sz).toInt64 - lN 1) = some (nI 1)) ∨ (pX7_has G V y (x + nI j) = some (nI 0) ∧ pX9_isIn (x.toInt64 + (nI j).toInt64) (lN 0) ((nI sz).toInt64 - lN 1) = some (nI 0)) := by
  have b1 := Int32.le_toInt x
  have b2 := Int32.toInt_lt x
  have es : ((nI sz).toInt64 - lN 1).toInt = (sz : Int) - 1 := by
    rw [nI_l (by omega)]
    by_cases q : 1 ≤ sz
    · rw [lN_sub q, lN_toInt (by omega)]; omega
    · have : sz = 0 := by omega
      subst this; decide
  have el : (x.toInt64 + (nI j).toInt64).toInt = x.toInt + j := by
    rw [Int64.toInt_add, Int32.toInt_toInt64, Int32.toInt_toInt64, nI_toInt (by omega)]
    exact Int.bmod_eq_of_le (by omega) (by omega)
  have ei : (x + nI j).toInt = (x.toInt + j).bmod (2 ^ 32) := by rw [Int32.toInt_add, nI_toInt (by omega)]
  have c1 : (lg_cmp (x.toInt64 + (nI j).toInt64) (lN 0) < 0) ↔ x.toInt + j < 0 := by
    rw [lg_cmp_lt, Int64.lt_iff_toInt_lt, el, lN_toInt (by omega)]; omega
  have c2 : (0 < lg_cmp (x.toInt64 + (nI j).toInt64) ((nI sz).toInt64 - lN 1)) ↔ (sz : Int) - 1 < x.toInt + j := by
    rw [lg_cmp_gt, Int64.lt_iff_toInt_lt, el, es]
  unfold pX7_has
  rw [hl]
  rcases wc (x := x + nI j) (c := sz) (by omega) with ⟨p, h1, h2, h3⟩ | ⟨h3, h4⟩
  · have e6 : (x.toInt + j).bmod (2 ^ 32) = p := by rw [← ei, h2, nI_toInt (by omega)]
    have e7 : x.toInt + j = p := by
      by_cases q : x.toInt + j < 2 ^ 31
      · rw [Int.bmod_eq_of_le (by omega) (by omega)] at e6
        exact e6
      · rw [Int.bmod_def] at e6
        split at e6 <;> omega
    refine Or.inl ⟨p, h1, h2, by simp only [li_0, li_1, h3, o_b, isb1, ↓reduceIte], ?_⟩
    unfold pX9_isIn
    rw [if_neg (fun q => by have := c1.mp q; omega), if_neg (fun q => by have := c2.mp q; omega)]
    rfl
  · refine Or.inr ⟨by simp only [li_0, li_1, h3, o_b, isb0, ↓reduceIte], ?_⟩
    have e3 : (x + nI j < nI 0) ↔ (x.toInt + j).bmod (2 ^ 32) < 0 := by rw [Int32.lt_iff_toInt_lt, nI_toInt (by omega), ei]; omega
    have e6 : (nI sz ≤ x + nI j) ↔ (sz : Int) ≤ (x.toInt + j).bmod (2 ^ 32) := by rw [Int32.le_iff_toInt_le, nI_toInt (by omega), ei]
    unfold pX9_isIn
    by_cases q : x.toInt + j < 2 ^ 31
    · rw [Int.bmod_eq_of_le (by omega) (by omega)] at e3 e6
      rcases h4 with h4 | ⟨h4, h5⟩
      · rw [if_pos (c1.mpr (e3.mp h4))]
        rfl
      · rw [if_neg (fun q => h4 (e3.mpr (c1.mp q))), if_pos (c2.mpr (by have := e6.mp h5; omega))]
        rfl
    · rw [if_neg (fun q2 => by have := c1.mp q2; omega), if_pos (c2.mpr (by omega))]
      rfl
end S6
