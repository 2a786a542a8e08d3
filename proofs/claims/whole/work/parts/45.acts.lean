/-! acts out of a sheet; shelves -/
section S7
variable {n z b : Nat} {V : V2} {R : R2} {G Gm : G2} {U : V2} {E : En} {rn : Nat} {rp : Nat → Nat → Nat}
theorem isA {L : Ld} {W : V2} (m : MC (W (b + 1)) L) (hL : IL L) (x : Int32) : (∃ k, k ≤ L_c L ∧ x = nI k ∧ pX8_within x (nI 0) (nI (L_c L)) = some (nI 1) ∧ pX9_isAct W b x = some (nI 1)) ∨ (pX8_within x (nI 0) (nI (L_c L)) = some (nI 0) ∧ pX9_isAct W b x = some (nI 0)) := by
  have hc := hL.2.1
  have key : pX9_isAct W b x = (pX9_isIn x.toInt64 (lN 0) (lN (L_c L))).bind fun q2 => if isb q2 then some q2 else none := by
    unfold pX9_isAct
    simp (disch := omega) only [li_0, e_ld, o_b, m.2.1, lj_0]
    rw [nI_l (by omega)]
  rw [key]
  rcases wi (x := x) (lo := 0) (hi := L_c L) (by omega) (by omega) with ⟨k, -, h2, h3, h4, h5⟩ | ⟨h4, h5⟩
  · exact Or.inl ⟨k, h2, h3, h4, by rw [h5]; rfl⟩
  · exact Or.inr ⟨h4, by rw [h5]; rfl⟩
theorem go_l (hn : 1000 ≤ n) (h : RelB z b V R G U) {t y sz N : Nat} (ht : t < 4) (hy : R (z + 70) t = some y) (hs : ShR G V z y 0 sz) (hsz : U (b + 12) t = nI sz) (hit : ∀ i, i < sz → V (y + 1) i = U (b + 13) (40 * t + i)) (a2 : Int32) (hN : N ≤ 20) : ∀ m x f {acc : Int32} {V1 U1 : V2} {L : Ld}, x + m = N → m < f → NQ G V1 R z (z + 1) (U1 (b + 1)) E L rn rp → OV z V V1 → (∀ y, y ≠ b + 1 → U1 y = U y) → ∃ o V' U', lX8_goAll_30 n G R z a2 (nI N) (some y) f V1 acc (nI x) (fun w18 w19 => some (w19, w18)) = some (o, V') ∧ lX9_goAll_43 n b (nI t) a2 (nI N) f U1 acc (nI x) (fun w20 w21 => some (w21, w20)) = some (o, U') ∧ RelB z b V' R G U' := by
  have hO := h.2.2
  have s40 := hs.2.2.2.2.2
  intro m
  induction m with
  | zero =>
    intro x f acc V1 U1 L h1 h2 hq hv hu
    obtain ⟨f, rfl⟩ : ∃ g, f = g + 1 := ⟨f - 1, by omega⟩
    refine ⟨acc, V1, U1, ?_, ?_, h.1, ⟨E, L, rn, rp, hq⟩, hO.fr hv (OU.all fun y g _ => hu y g)⟩
    · unfold lX8_goAll_30
      simp (disch := omega) only [letv, o_b, ↓reduceIte, e_sub, e_add, e_mul, e_ld, e_st, e_lt, e_nlt, e_le, e_nle, e_eq, e_neq, e_div, e_rem, m_lt, m_le, m_eq, m_eq2, m_ng, o_ld, true_and, and_true, Nat.one_ne_zero, Nat.zero_ne_one, Nat.reduceEqDiff, Bool.false_eq_true, not_true_eq_false, not_false_eq_true, li_0, li_1, li_2, li_3, li_4, li_5, li_6, li_7, li_8, li_9, li_10, li_11, li_12, li_13, li_14, li_15, li_16, li_20, li_23, li_25, li_30, li_31, li_32, li_38, li_40, li_41, li_44, li_48, li_50, li_51, li_52, li_57, li_59, li_60, li_61, li_62, li_63, li_66, li_81, li_94, li_97, li_98, li_99, li_100, li_101, li_103, li_104, li_105, li_107, li_108, li_109, li_110, li_111, li_112, li_114, li_115, li_116, li_117, li_118, li_122, li_200, li_572, li_600, li_9999, li_10000, li_12345, li_1103515245]
    · unfold lX9_goAll_43
      simp (disch := omega) only [letv, o_b, ↓reduceIte, e_sub, e_add, e_mul, e_ld, e_st, e_lt, e_nlt, e_le, e_nle, e_eq, e_neq, e_div, e_rem, m_lt, m_le, m_eq, m_eq2, m_ng, o_ld, true_and, and_true, Nat.one_ne_zero, Nat.zero_ne_one, Nat.reduceEqDiff, Bool.false_eq_true, not_true_eq_false, not_false_eq_true, li_0, li_1, li_2, li_3, li_4, li_5, li_6, li_7, li_8, li_9, li_10, li_11, li_12, li_13, li_14, li_15, li_16, li_20, li_23, li_25, li_30, li_31, li_32, li_38, li_40, li_41, li_44, li_48, li_50, li_51, li_52, li_57, li_59, li_60, li_61, li_62, li_63, li_66, li_81, li_94, li_97, li_98, li_99, li_100, li_101, li_103, li_104, li_105, li_107, li_108, li_109, li_110, li_111, li_112, li_114, li_115, li_116, li_117, li_118, li_122, li_200, li_572, li_600, li_9999, li_10000, li_12345, li_1103515245]
  | succ m ih =>
    intro x f acc V1 U1 L h1 h2 hq hv hu
    obtain ⟨f, rfl⟩ : ∃ g, f = g + 1 := ⟨f - 1, by omega⟩
    have rel : RelB z b V1 R G U1 := ⟨h.1, ⟨E, L, rn, rp, hq⟩, hO.fr hv (OU.all fun y g _ => hu y g)⟩
    obtain ⟨iE, iL, hw, hE, hL, mE, mC, hs', hz, pC, pM, iR⟩ := nw_parts hq
    have ez : U1 (b + 12) t = nI sz := by rw [hu _ (by omega)]; exact hsz
    have ea : acc + nI 0 = acc := by rw [← li_0]; exact Int32.add_zero acc
    rcases hs2_or (V := V1) hs.2.2.2.2.1 s40 a2 (j := x) (by omega) with ⟨p, hp, e0, h3, h4⟩ | ⟨h3, h4⟩
    · have ei : V1 (y + 1) p = U (b + 13) (40 * t + p) := by rw [hv.2.2.2.2 (y + 1) (by have := hs.1; omega)]; exact hit p hp
      have ei2 : U1 (b + 13) (40 * t + p) = U (b + 13) (40 * t + p) := by rw [hu _ (by omega)]
      have ex : nI (40 * t) + a2 + nI x = nI (40 * t + p) := by rw [Int32.add_assoc, e0, e_add]
      have f1 : V1 (z + 2) 1 = nI (L_c L) := hL.2.1
      generalize U (b + 13) (40 * t + p) = it at ei ei2
      rcases isA mC iL it with ⟨k, hk, rfl, w1, w2⟩ | ⟨w1, w2⟩
      · by_cases q : E_en E ≤ L_w L
        · obtain ⟨o, V', U', c1, c2, c3⟩ := ih (x + 1) f (acc := acc) (by omega) (by omega) hq hv hu
          refine ⟨o, V', U', ?_, ?_, c3⟩
          · unfold lX8_goAll_30
            rw [e0] at h3
            simp (disch := omega) only [letv, li_0, li_1, e_nle, ↓reduceIte, ocase, hs.2.1, e0, h3, o_b, e_10, hs.2.2.2.2.1, e_ld, ei, f1, w1, c_over hE iE hL iL, q, e_add, c1]
          · unfold lX9_goAll_43
            simp (disch := omega) only [letv, li_0, li_1, li_40, lj_0, lj_1, e_nle, ↓reduceIte, e_ld, ez, o_b, h4, e_10, e_mul, ex, ei2, w2, m_over mE iE mC iL, q, e_add, ea, c2]
        · obtain ⟨V2', U2', d1, d2, d3, d4, d5⟩ := rl_go hn hq (show L_w L < E_en E by omega) hk
          obtain ⟨o, V', U', c1, c2, c3⟩ := ih (x + 1) f (acc := acc + nI (goW E L k)) (by omega) (by omega) d3 (hv.tr d4) (fun y hy => by rw [d5 y hy, hu y hy])
          refine ⟨o, V', U', ?_, ?_, c3⟩
          · unfold lX8_goAll_30
            rw [e0] at h3
            simp (disch := omega) only [letv, li_0, li_1, e_nle, ↓reduceIte, ocase, hs.2.1, e0, h3, o_b, e_10, hs.2.2.2.2.1, e_ld, ei, f1, w1, c_over hE iE hL iL, q, d1, e_add, c1]
          · unfold lX9_goAll_43
            simp (disch := omega) only [letv, li_0, li_1, li_40, lj_0, lj_1, e_nle, ↓reduceIte, e_ld, ez, o_b, h4, e_10, e_mul, ex, ei2, w2, m_over mE iE mC iL, q, d2, e_add, c2]
      · obtain ⟨o, V', U', c1, c2, c3⟩ := ih (x + 1) f (acc := acc) (by omega) (by omega) hq hv hu
        refine ⟨o, V', U', ?_, ?_, c3⟩
        · unfold lX8_goAll_30
          rw [e0] at h3
          simp (disch := omega) only [letv, li_0, li_1, e_nle, ↓reduceIte, ocase, hs.2.1, e0, h3, o_b, e_10, hs.2.2.2.2.1, e_ld, ei, f1, w1, e_add, c1]
        · unfold lX9_goAll_43
          simp (disch := omega) only [letv, li_0, li_1, li_40, lj_0, lj_1, e_nle, ↓reduceIte, e_ld, ez, o_b, h4, e_10, e_mul, ex, ei2, w2, e_add, ea, c2]
    · refine ⟨-(nI 12), V1, U1, ?_, ?_, rel⟩
      · unfold lX8_goAll_30
        simp (disch := omega) only [letv, li_0, li_12, e_nle, ↓reduceIte, ocase, hs.2.1, h3, o_b]
      · unfold lX9_goAll_43
        simp (disch := omega) only [letv, li_0, li_12, lj_0, lj_1, e_nle, ↓reduceIte, e_ld, ez, o_b, h4]
/-- why not: both say the same -/
theorem rf_or (h : RelB z b V R G U) (a1 a3 : Int32) : (∃ t N y sz, t < 4 ∧ N ≤ 20 ∧ a1 = nI t ∧ a3 = nI N ∧ R (z + 70) t = some y ∧ ShR G V z y 0 sz ∧ U (b + 12) t = nI sz ∧ (∀ i, i < sz → V (y + 1) i = U (b + 13) (40 * t + i)) ∧ pX8_refusedAsActs G V R z a1 a3 = some (nI 0) ∧ pX9_isSheet a1 = some (nI 1) ∧ pX9_isIn a3.toInt64 (lN 0) (lN 20) = some (nI 1) ∧ pX9_lacks U b a1 (nI 0) = some (nI 0)) ∨ ∃ k, 0 < k ∧ k < 20 ∧ pX8_refusedAsActs G V R z a1 a3 = some (-(nI k)) ∧ ((k = 1 ∧ (pX9_isSheet a1 = some (nI 0) ∨ pX9_isSheet a1 = some (nI 1) ∧ pX9_isIn a3.toInt64 (lN 0) (lN 20) = some (nI 0))) ∨ (pX9_isSheet a1 = some (nI 1) ∧ pX9_isIn a3.toInt64 (lN 0) (lN 20) = some (nI 1) ∧ pX9_lacks U b a1 (nI 0) = some (-(nI k)))) := by
  have hO := h.2.2
  unfold pX8_refusedAsActs
  rw [isShe]
  rcases wi (x := a1) (lo := 0) (hi := 3) (by omega) (by omega) with ⟨t, -, ht, rfl, w1, w2⟩ | ⟨w1, w2⟩
  · rcases wi (x := a3) (lo := 0) (hi := 20) (by omega) (by omega) with ⟨N, -, hN, rfl, w3, w4⟩ | ⟨w3, w4⟩
    · rcases hO.2.2.2.1.1 t (by omega) with ⟨q1, q2⟩ | ⟨y, so, sz, q1, q2, q3, q4, q5⟩
      · refine Or.inr ⟨11, by omega, by omega, by simp (disch := omega) only [w1, e_10, w3, q1, ocase, letv, o_b, ↓reduceIte, e_sub, e_add, e_mul, e_ld, e_st, e_lt, e_nlt, e_le, e_nle, e_eq, e_neq, e_div, e_rem, m_lt, m_le, m_eq, m_eq2, m_ng, o_ld, true_and, and_true, Nat.one_ne_zero, Nat.zero_ne_one, Nat.reduceEqDiff, Bool.false_eq_true, not_true_eq_false, not_false_eq_true, li_0, li_1, li_2, li_3, li_4, li_5, li_6, li_7, li_8, li_9, li_10, li_11, li_12, li_13, li_14, li_15, li_16, li_20, li_23, li_25, li_30, li_31, li_32, li_38, li_40, li_41, li_44, li_48, li_50, li_51, li_52, li_57, li_59, li_60, li_61, li_62, li_63, li_66, li_81, li_94, li_97, li_98, li_99, li_100, li_101, li_103, li_104, li_105, li_107, li_108, li_109, li_110, li_111, li_112, li_114, li_115, li_116, li_117, li_118, li_122, li_200, li_572, li_600, li_9999, li_10000, li_12345, li_1103515245], Or.inr ⟨by rw [w2]; rfl, w4, ?_⟩⟩
        unfold pX9_lacks
        simp (disch := omega) only [q2, show (nI 0 ≤ -(nI 1)) = False from eq_false (by decide), letv, o_b, ↓reduceIte, e_sub, e_add, e_mul, e_ld, e_st, e_lt, e_nlt, e_le, e_nle, e_eq, e_neq, e_div, e_rem, m_lt, m_le, m_eq, m_eq2, m_ng, o_ld, true_and, and_true, Nat.one_ne_zero, Nat.zero_ne_one, Nat.reduceEqDiff, Bool.false_eq_true, not_true_eq_false, not_false_eq_true, li_0, li_1, li_2, li_3, li_4, li_5, li_6, li_7, li_8, li_9, li_10, li_11, li_12, li_13, li_14, li_15, li_16, li_20, li_23, li_25, li_30, li_31, li_32, li_38, li_40, li_41, li_44, li_48, li_50, li_51, li_52, li_57, li_59, li_60, li_61, li_62, li_63, li_66, li_81, li_94, li_97, li_98, li_99, li_100, li_101, li_103, li_104, li_105, li_107, li_108, li_109, li_110, li_111, li_112, li_114, li_115, li_116, li_117, li_118, li_122, li_200, li_572, li_600, li_9999, li_10000, li_12345, li_1103515245]
      · by_cases g : so = 0
        · subst g
          refine Or.inl ⟨t, N, y, sz, by omega, hN, rfl, rfl, q1, q2, q4, q5, ?_, by rw [w2]; rfl, w4, ?_⟩
          · simp (disch := omega) only [li_0, li_3, li_20, w1, o_b, e_10, ↓reduceIte, w3, o_ld, q1, ocase, q2.2.1, q2.2.2.1]
          · unfold pX9_lacks
            simp (disch := omega) only [q3, letv, o_b, ↓reduceIte, e_sub, e_add, e_mul, e_ld, e_st, e_lt, e_nlt, e_le, e_nle, e_eq, e_neq, e_div, e_rem, m_lt, m_le, m_eq, m_eq2, m_ng, o_ld, true_and, and_true, Nat.one_ne_zero, Nat.zero_ne_one, Nat.reduceEqDiff, Bool.false_eq_true, not_true_eq_false, not_false_eq_true, li_0, li_1, li_2, li_3, li_4, li_5, li_6, li_7, li_8, li_9, li_10, li_11, li_12, li_13, li_14, li_15, li_16, li_20, li_23, li_25, li_30, li_31, li_32, li_38, li_40, li_41, li_44, li_48, li_50, li_51, li_52, li_57, li_59, li_60, li_61, li_62, li_63, li_66, li_81, li_94, li_97, li_98, li_99, li_100, li_101, li_103, li_104, li_105, li_107, li_108, li_109, li_110, li_111, li_112, li_114, li_115, li_116, li_117, li_118, li_122, li_200, li_572, li_600, li_9999, li_10000, li_12345, li_1103515245]
        · have s4 := q2.2.2.2.1
          refine Or.inr ⟨13, by omega, by omega, ?_, Or.inr ⟨by rw [w2]; rfl, w4, ?_⟩⟩
          · simp (disch := omega) only [li_0, li_3, li_13, li_20, w1, o_b, e_10, ↓reduceIte, w3, o_ld, q1, ocase, q2.2.1, q2.2.2.1, e_neq]
          · unfold pX9_lacks
            simp (disch := omega) only [q3, letv, o_b, ↓reduceIte, e_sub, e_add, e_mul, e_ld, e_st, e_lt, e_nlt, e_le, e_nle, e_eq, e_neq, e_div, e_rem, m_lt, m_le, m_eq, m_eq2, m_ng, o_ld, true_and, and_true, Nat.one_ne_zero, Nat.zero_ne_one, Nat.reduceEqDiff, Bool.false_eq_true, not_true_eq_false, not_false_eq_true, li_0, li_1, li_2, li_3, li_4, li_5, li_6, li_7, li_8, li_9, li_10, li_11, li_12, li_13, li_14, li_15, li_16, li_20, li_23, li_25, li_30, li_31, li_32, li_38, li_40, li_41, li_44, li_48, li_50, li_51, li_52, li_57, li_59, li_60, li_61, li_62, li_63, li_66, li_81, li_94, li_97, li_98, li_99, li_100, li_101, li_103, li_104, li_105, li_107, li_108, li_109, li_110, li_111, li_112, li_114, li_115, li_116, li_117, li_118, li_122, li_200, li_572, li_600, li_9999, li_10000, li_12345, li_1103515245]
    · exact Or.inr ⟨1, by omega, by omega, by simp (disch := omega) only [w1, e_10, w3, letv, o_b, ↓reduceIte, e_sub, e_add, e_mul, e_ld, e_st, e_lt, e_nlt, e_le, e_nle, e_eq, e_neq, e_div, e_rem, m_lt, m_le, m_eq, m_eq2, m_ng, o_ld, true_and, and_true, Nat.one_ne_zero, Nat.zero_ne_one, Nat.reduceEqDiff, Bool.false_eq_true, not_true_eq_false, not_false_eq_true, li_0, li_1, li_2, li_3, li_4, li_5, li_6, li_7, li_8, li_9, li_10, li_11, li_12, li_13, li_14, li_15, li_16, li_20, li_23, li_25, li_30, li_31, li_32, li_38, li_40, li_41, li_44, li_48, li_50, li_51, li_52, li_57, li_59, li_60, li_61, li_62, li_63, li_66, li_81, li_94, li_97, li_98, li_99, li_100, li_101, li_103, li_104, li_105, li_107, li_108, li_109, li_110, li_111, li_112, li_114, li_115, li_116, li_117, li_118, li_122, li_200, li_572, li_600, li_9999, li_10000, li_12345, li_1103515245], Or.inl ⟨rfl, Or.inr ⟨by rw [w2]; rfl, w4⟩⟩⟩
  · exact Or.inr ⟨1, by omega, by omega, by simp (disch := omega) only [w1, letv, o_b, ↓reduceIte, e_sub, e_add, e_mul, e_ld, e_st, e_lt, e_nlt, e_le, e_nle, e_eq, e_neq, e_div, e_rem, m_lt, m_le, m_eq, m_eq2, m_ng, o_ld, true_and, and_true, Nat.one_ne_zero, Nat.zero_ne_one, Nat.reduceEqDiff, Bool.false_eq_true, not_true_eq_false, not_false_eq_true, li_0, li_1, li_2, li_3, li_4, li_5, li_6, li_7, li_8, li_9, li_10, li_11, li_12, li_13, li_14, li_15, li_16, li_20, li_23, li_25, li_30, li_31, li_32, li_38, li_40, li_41, li_44, li_48, li_50, li_51, li_52, li_57, li_59, li_60, li_61, li_62, li_63, li_66, li_81, li_94, li_97, li_98, li_99, li_100, li_101, li_103, li_104, li_105, li_107, li_108, li_109, li_110, li_111, li_112, li_114, li_115, li_116, li_117, li_118, li_122, li_200, li_572, li_600, li_9999, li_10000, li_12345, li_1103515245], Or.inl ⟨rfl, Or.inl (by rw [w2]; rfl)⟩⟩
theorem ok_goAll' (hn : 1000 ≤ n) (h : RelB z b V R G U) (a1 a2 a3 : Int32) : ∃ o om, pX8_goAll n G V R z a1 a2 a3 = some o ∧ pX9_goAll n U b a1 a2 a3 = some om ∧ o.1 = om.1 ∧ RelB z b o.2 R G om.2 := by
  unfold pX8_goAll pX9_goAll
  rcases rf_or h a1 a3 with ⟨t, N, y, sz, ht, hN, rfl, rfl, q1, q2, q4, q5, r1, r2, r3, r4⟩ | ⟨k, hk0, hk, r1, r2⟩
  · obtain ⟨hW, ⟨E, L, rn, rp, hq⟩, hO⟩ := id h
    obtain ⟨o, V', U', c1, c2, c3⟩ := go_l hn h ht q1 q2 q4 q5 a2 hN N 0 n (acc := nI 0) (by omega) (by omega) hq OV.rf (fun _ _ => rfl)
    refine pk (x := o) (V' := V') (U' := U') ?_ ?_ rfl c3
    · simp (disch := omega) only [li_0, r1, o_b, ↓reduceIte, o_ld, q1, c1]
    · simp (disch := omega) only [li_0, lj_0, lj_20, r2, r3, r4, o_b, e_10, ↓reduceIte, c2]
  · refine pkx (-(nI k)) ?_ ?_ h
    · simp (disch := omega) only [li_0, r1, o_b, m_eq2, ↓reduceIte]
    · rcases r2 with ⟨rfl, r2 | ⟨r2, r3⟩⟩ | ⟨r2, r3, r4⟩
      · simp (disch := omega) only [li_0, li_1, lj_0, r2, o_b, ↓reduceIte]
      · simp (disch := omega) only [li_0, li_1, lj_0, lj_20, r2, r3, o_b, e_10, ↓reduceIte]
      · simp (disch := omega) only [li_0, li_1, lj_0, lj_20, r2, r3, r4, o_b, e_10, m_eq2, ↓reduceIte]
theorem wb_l (hn : 1000 ≤ n) {t y sz N : Nat} (ht : t < 4) (hs : ShR G V z y 0 sz) (hsz : U (b + 12) t = nI sz) (hit : ∀ i, i < sz → V (y + 1) i = U (b + 13) (40 * t + i)) (a2 : Int32) (hN : N ≤ 20) (iE : IE E) : ∀ m x f {acc : Int32} {V1 U1 : V2} {L : Ld}, x + m = N → m < f → EC G V1 R z (z + 1) E → LC V1 (z + 31) L → ME (U1 (b + 1)) E → MC (U1 (b + 1)) L → IL L → CF (z + 31) V V1 → (∀ y, y ≠ b + 1 → y ≠ b + 3 → U1 y = U y) → ∃ o V' U', lX8_wouldBe_44 n G R z a2 (nI N) (some y) f V1 acc (nI x) (fun w18 w19 => some (w19, w18)) = some (o, V') ∧ lX9_sumBy_6 n b (nI t) a2 (nI N) f U1 acc (nI x) (fun w20 w21 => some (w21, w20)) = some (o, U') ∧ CF (z + 31) V V' ∧ MF b U1 U' := by
  have s40 := hs.2.2.2.2.2
  intro m
  induction m with
  | zero =>
    intro x f acc V1 U1 L h1 h2 hE hL mE mC iL hv hu
    obtain ⟨f, rfl⟩ : ∃ g, f = g + 1 := ⟨f - 1, by omega⟩
    refine ⟨acc, V1, U1, ?_, ?_, hv, MF.rf⟩
    · unfold lX8_wouldBe_44
      simp (disch := omega) only [letv, o_b, ↓reduceIte, e_sub, e_add, e_mul, e_ld, e_st, e_lt, e_nlt, e_le, e_nle, e_eq, e_neq, e_div, e_rem, m_lt, m_le, m_eq, m_eq2, m_ng, o_ld, true_and, and_true, Nat.one_ne_zero, Nat.zero_ne_one, Nat.reduceEqDiff, Bool.false_eq_true, not_true_eq_false, not_false_eq_true, li_0, li_1, li_2, li_3, li_4, li_5, li_6, li_7, li_8, li_9, li_10, li_11, li_12, li_13, li_14, li_15, li_16, li_20, li_23, li_25, li_30, li_31, li_32, li_38, li_40, li_41, li_44, li_48, li_50, li_51, li_52, li_57, li_59, li_60, li_61, li_62, li_63, li_66, li_81, li_94, li_97, li_98, li_99, li_100, li_101, li_103, li_104, li_105, li_107, li_108, li_109, li_110, li_111, li_112, li_114, li_115, li_116, li_117, li_118, li_122, li_200, li_572, li_600, li_9999, li_10000, li_12345, li_1103515245]
    · unfold lX9_sumBy_6
      simp (disch := omega) only [letv, o_b, ↓reduceIte, e_sub, e_add, e_mul, e_ld, e_st, e_lt, e_nlt, e_le, e_nle, e_eq, e_neq, e_div, e_rem, m_lt, m_le, m_eq, m_eq2, m_ng, o_ld, true_and, and_true, Nat.one_ne_zero, Nat.zero_ne_one, Nat.reduceEqDiff, Bool.false_eq_true, not_true_eq_false, not_false_eq_true, li_0, li_1, li_2, li_3, li_4, li_5, li_6, li_7, li_8, li_9, li_10, li_11, li_12, li_13, li_14, li_15, li_16, li_20, li_23, li_25, li_30, li_31, li_32, li_38, li_40, li_41, li_44, li_48, li_50, li_51, li_52, li_57, li_59, li_60, li_61, li_62, li_63, li_66, li_81, li_94, li_97, li_98, li_99, li_100, li_101, li_103, li_104, li_105, li_107, li_108, li_109, li_110, li_111, li_112, li_114, li_115, li_116, li_117, li_118, li_122, li_200, li_572, li_600, li_9999, li_10000, li_12345, li_1103515245]
  | succ m ih =>
    intro x f acc V1 U1 L h1 h2 hE hL mE mC iL hv hu
    obtain ⟨f, rfl⟩ : ∃ g, f = g + 1 := ⟨f - 1, by omega⟩
    have he := iE.2.1
    have ez : U1 (b + 12) t = nI sz := by rw [hu _ (by omega) (by omega)]; exact hsz
    rcases hs2_or (V := V1) hs.2.2.2.2.1 s40 a2 (j := x) (by omega) with ⟨p, hp, e0, h3, h4⟩ | ⟨h3, h4⟩
    · have ei : V1 (y + 1) p = U (b + 13) (40 * t + p) := by rw [hv (y + 1) (by have := hs.1; omega)]; exact hit p hp
      have ei2 : U1 (b + 13) (40 * t + p) = U (b + 13) (40 * t + p) := by rw [hu _ (by omega) (by omega)]
      have ex : nI (40 * t) + a2 + nI x = nI (40 * t + p) := by rw [Int32.add_assoc, e0, e_add]
      have f1 : V1 (z + 31) 1 = nI (L_c L) := hL.2.1
      generalize U (b + 13) (40 * t + p) = it at ei ei2
      rcases isA mC iL it with ⟨k, hk, rfl, w1, w2⟩ | ⟨w1, w2⟩
      · by_cases q : E_en E ≤ L_w L
        · refine ⟨-(nI 4), V1, U1, ?_, ?_, hv, MF.rf⟩
          · unfold lX8_wouldBe_44
            rw [e0] at h3
            simp (disch := omega) only [letv, li_0, li_1, li_4, e_nle, ↓reduceIte, ocase, hs.2.1, e0, h3, o_b, e_10, hs.2.2.2.2.1, e_ld, ei, f1, w1, c_over hE iE hL iL, q]
          · unfold lX9_sumBy_6
            simp (disch := omega) only [letv, li_0, li_1, li_4, li_40, lj_0, lj_1, e_nle, ↓reduceIte, e_ld, ez, o_b, h4, e_10, e_mul, ex, ei2, w2, m_over mE iE mC iL, q]
        · obtain ⟨V2', d1, d2, d3⟩ := c_goBy hn hE iE (ad_tr (a := z + 31) (by omega)) hL iL hk
          obtain ⟨U2', d4, d5, d6, -⟩ := m_goes hn mE iE mC iL hk
          obtain ⟨o, V', U', c1, c2, c3, c4⟩ := ih (x + 1) f (acc := acc + nI (goW E L k)) (by omega) (by omega) (hE.cf (ad_tr (by omega)) d3) d2 (mE.mf d6) d5 (goL_IL iL hk (by omega)) (hv.tr d3) (fun y hy hy2 => by rw [d6.1 y hy, hu y hy hy2])
          refine ⟨o, V', U', ?_, ?_, c3, d6.tr c4⟩
          · unfold lX8_wouldBe_44
            rw [e0] at h3
            simp (disch := omega) only [letv, li_0, li_1, li_4, e_nle, ↓reduceIte, ocase, hs.2.1, e0, h3, o_b, e_10, hs.2.2.2.2.1, e_ld, ei, f1, w1, c_over hE iE hL iL, q, d1, e_add, c1]
          · unfold lX9_sumBy_6
            simp (disch := omega) only [letv, li_0, li_1, li_4, li_40, lj_0, lj_1, e_nle, ↓reduceIte, e_ld, ez, o_b, h4, e_10, e_mul, ex, ei2, w2, m_over mE iE mC iL, q, d4, e_add, c2]
      · refine ⟨-(nI 4), V1, U1, ?_, ?_, hv, MF.rf⟩
        · unfold lX8_wouldBe_44
          rw [e0] at h3
          simp (disch := omega) only [letv, li_0, li_1, li_4, e_nle, ↓reduceIte, ocase, hs.2.1, e0, h3, o_b, e_10, hs.2.2.2.2.1, e_ld, ei, f1, w1]
        · unfold lX9_sumBy_6
          simp (disch := omega) only [letv, li_0, li_1, li_4, li_40, lj_0, lj_1, e_nle, ↓reduceIte, e_ld, ez, o_b, h4, e_10, e_mul, ex, ei2, w2]
    · refine ⟨-(nI 12), V1, U1, ?_, ?_, hv, MF.rf⟩
      · unfold lX8_wouldBe_44
        simp (disch := omega) only [letv, li_0, li_12, e_nle, ↓reduceIte, ocase, hs.2.1, h3, o_b]
      · unfold lX9_sumBy_6
        simp (disch := omega) only [letv, li_0, li_12, lj_0, lj_1, e_nle, ↓reduceIte, e_ld, ez, o_b, h4]
theorem ok_wouldBe' (hn : 1000 ≤ n) (h : RelB z b V R G U) (a1 a2 a3 : Int32) : ∃ o om, pX8_wouldBe n G V R z a1 a2 a3 = some o ∧ pX9_wouldBe n U b a1 a2 a3 = some om ∧ o.1 = om.1 ∧ RelB z b o.2 R G om.2 := by
  unfold pX8_wouldBe pX9_wouldBe pX9_sumBy
  rcases rf_or h a1 a3 with ⟨t, N, y, sz, ht, hN, rfl, rfl, q1, q2, q4, q5, r1, r2, r3, r4⟩ | ⟨k, hk0, hk, r1, r2⟩
  · obtain ⟨hW, ⟨E, L, rn, rp, hq⟩, hO⟩ := id h
    obtain ⟨iE, iL, hw, hE, hL, mE, mC, hs', hz, pC, pM, iR⟩ := nw_parts hq
    obtain ⟨V1, c1, c2, c3⟩ := c_copy (b := z + 31) (a := z + 2) hL (by omega)
    obtain ⟨U1, g1, g2, g3, g4⟩ := m_think (n := n) (b := b) (U := U) hn
    obtain ⟨o, V', U', d1, d2, d3, d4⟩ := wb_l (R := R) (V := V) (U := U) hn ht q2 q4 q5 a2 hN iE N 0 n (acc := nI 0) (V1 := V1) (U1 := U1) (by omega) (by omega) (hE.cf (ad_tr (by omega)) c3) c2 (by rw [g2]; exact mE) (by rw [g2]; exact mC) iL c3 (fun y _ hy => g3 y hy)
    obtain ⟨U3, f1, f2⟩ := g4 U' d4
    have hqq := sd_fr d3 (z := z) (by omega)
    refine pk (x := o) (V' := V') (U' := U3) ?_ ?_ rfl (h.ask (tr_NF hqq) (tr_OV hqq) (f2 _ (by omega)) (OU.asd f2))
    · simp (disch := omega) only [li_0, r1, o_b, ↓reduceIte, o_ld, q1, c1, d1]
    · simp (disch := omega) only [li_0, lj_0, lj_20, r2, r3, r4, o_b, e_10, ↓reduceIte, g1, d2, f1]
  · refine pkx (-(nI k)) ?_ ?_ h
    · simp (disch := omega) only [li_0, r1, o_b, m_eq2, ↓reduceIte]
    · rcases r2 with ⟨rfl, r2 | ⟨r2, r3⟩⟩ | ⟨r2, r3, r4⟩
      · simp (disch := omega) only [li_0, li_1, lj_0, r2, o_b, ↓reduceIte]
      · simp (disch := omega) only [li_0, li_1, lj_0, lj_20, r2, r3, o_b, e_10, ↓reduceIte]
      · simp (disch := omega) only [li_0, li_1, lj_0, lj_20, r2, r3, r4, o_b, e_10, m_eq2, ↓reduceIte]
/-- a shelf is filled -/
theorem rl_shelf {V' U' : V2} {t : Nat} {q : Option Nat} (h : RelB z b V R G U) (ht : t < 4) (hq : (V' (z + 71) t = -(nI 1) ∧ q = none ∧ U' (b + 14) t = nI 0) ∨ (∃ k, k < 6 ∧ V' (z + 71) t = nI k ∧ q = none ∧ U' (b + 14) t = nI 1 ∧ U' (b + 15) t = nI k) ∨ ∃ y so sz, V' (z + 71) t = -(nI 1) ∧ q = some y ∧ ShR G V z y so sz ∧ U' (b + 14) t = nI 2 ∧ U' (b + 15) t = nI so ∧ U' (b + 16) t = nI sz) (hv : ∀ y, y ≠ z + 71 → V' y = V y) (hv2 : ∀ t', t' ≠ t → V' (z + 71) t' = V (z + 71) t') (h1 : ∀ y, y ≠ b + 14 → y ≠ b + 15 → y ≠ b + 16 → U' y = U y) (h2 : ∀ t', t' ≠ t → U' (b + 14) t' = U (b + 14) t' ∧ U' (b + 15) t' = U (b + 15) t' ∧ U' (b + 16) t' = U (b + 16) t') : RelB z b V' (up2 R (z + 72) t q) G U' := by
  obtain ⟨hW, hN, ⟨k1, k2⟩, ⟨tz, tp, t1, t2, t3, t4⟩, ⟨rn, r1, r2, r3, r4⟩, hS, sl, ⟨tn, u1, u2, u3, u4⟩, st⟩ := h
  have ub := h1 b (by omega) (by omega) (by omega)
  refine ⟨hW, ?_, ⟨?_, ?_⟩, ⟨tz, tp, t1, by rw [hv _ (by omega)]; exact t2, by rw [ub]; exact t3, fun i hi => by rw [hv _ (by omega), h1 _ (by omega) (by omega) (by omega)]; exact t4 i hi⟩, ⟨rn, r1, by rw [hv _ (by omega)]; exact r2, by rw [ub]; exact r3, fun i hi => by rw [hv _ (by omega), h1 _ (by omega) (by omega) (by omega)]; exact r4 i hi⟩, ⟨fun t' ht' => ?_, fun t' t'' y ht' ht'' e e' => ?_⟩, fun s hs' => ?_, ⟨tn, u1, by rw [hv _ (by omega)]; exact u2, by rw [ub]; exact u3, fun i hi => by rw [hv _ (by omega), h1 _ (by omega) (by omega) (by omega)]; exact u4 i hi⟩, st.rfr (w_row (by omega))⟩
  · rw [h1 (b + 1) (by omega) (by omega) (by omega)]
    exact (hN.fr (NF.all fun x hx => hv x (by omega))).rfr (w_row (by omega))
  · rw [hv _ (by omega), ub]; exact k1
  · rw [ub, h1 (b + 2) (by omega) (by omega) (by omega)]
    exact k2.imp id fun q => ⟨q.1, (q.2.fr (NF.all fun x hx => hv x (by omega))).rfr (w_row (by omega))⟩
  · rw [w_row (by omega), h1 (b + 11) (by omega) (by omega) (by omega), h1 (b + 12) (by omega) (by omega) (by omega), h1 (b + 13) (by omega) (by omega) (by omega)]
    rcases hS.1 t' ht' with p | ⟨y, so, sz, q1, q2, q3, q4, q5⟩
    · exact Or.inl p
    · refine Or.inr ⟨y, so, sz, q1, q2.fr fun x hx => hv x (by omega), q3, q4, fun i hi => ?_⟩
      rw [hv _ (by have := q2.1; omega)]
      exact q5 i hi
  · rw [w_row (by omega)] at e e'
    exact hS.2 t' t'' y ht' ht'' e e'
  · by_cases g : s = t
    · subst g
      rw [w_same]
      rcases hq with p | p | ⟨y, so, sz, q1, q2, q3, q4⟩
      · exact Or.inl p
      · exact Or.inr (Or.inl p)
      · exact Or.inr (Or.inr ⟨y, so, sz, q1, q2, q3.fr fun x hx => hv x (by omega), q4⟩)
    · rw [w_idx g, hv2 s g, (h2 s g).1, (h2 s g).2.1, (h2 s g).2.2]
      rcases sl s hs' with p | p | ⟨y, so, sz, q1, q2, q3, q4⟩
      · exact Or.inl p
      · exact Or.inr (Or.inl p)
      · exact Or.inr (Or.inr ⟨y, so, sz, q1, q2, q3.fr fun x hx => hv x (by omega), q4⟩)
theorem ok_shelf' (h : RelB z b V R G U) (a1 a2 a3 : Int32) : ∃ o om, pX8_shelf G V R z a1 a2 a3 = some o ∧ pX9_shelf U b a1 a2 a3 = some om ∧ o.1 = om.1 ∧ RelB z b o.2.1 o.2.2 G om.2 := by
  have pb : ∀ x, pX8_shelf G V R z a1 a2 a3 = some (x, V, R) → pX9_shelf U b a1 a2 a3 = some (x, U) → ∃ o om, pX8_shelf G V R z a1 a2 a3 = some o ∧ pX9_shelf U b a1 a2 a3 = some om ∧ o.1 = om.1 ∧ RelB z b o.2.1 o.2.2 G om.2 := fun x e1 e2 => ⟨_, _, e1, e2, rfl, h⟩
  obtain ⟨hW, ⟨E, L, rn, rp, hN⟩, hO⟩ := id h
  obtain ⟨iE, iL, hw, hE, hL, mE, mC, hs, hz, pC, pM, iR⟩ := nw_parts hN
  rcases wi (x := a1) (lo := 0) (hi := 3) (by omega) (by omega) with ⟨t, -, ht, rfl, w1, w2⟩ | ⟨w1, w2⟩
  · have sl1 : pX9_isShelf (nI t) = some (nI 1) := by rw [isSlf, w2]; rfl
    rcases wi (x := a2) (lo := 0) (hi := 2) (by omega) (by omega) with ⟨j, -, hj, rfl, w3, w4⟩ | ⟨w3, w4⟩
    · rcases (show j = 0 ∨ j = 1 ∨ j = 2 by omega) with rfl | rfl | rfl
      · rcases isT hL mC iL a3 with ⟨k, hk, hk6, rfl, t1, t2⟩ | ⟨t1, t2⟩
        · refine pkt (x := nI 1) (V' := up2 V (z + 71) t (nI k)) (R' := up2 R (z + 72) t none) (U' := up2 (up2 (up2 U (b + 14) t (nI 1)) (b + 15) t (nI k)) (b + 16) t (nI 0)) ?_ ?_ rfl (rl_shelf h (by omega) (Or.inr (Or.inl ⟨k, hk6, w_same, rfl, ?_, ?_⟩)) (fun y g => w_row g) (fun t' g => w_idx g) (fun y g1 g2 g3 => by rw [w_row g3, w_row g2, w_row g1]) fun t' g => ?_)
          · unfold pX8_shelf okQ
            simp (disch := omega) only [letv, li_0, li_1, li_2, li_3, w1, o_b, e_10, ↓reduceIte, w3, t1, e_neq, e_st, o_st]
          · unfold pX9_shelf
            simp (disch := omega) only [letv, li_0, li_1, lj_0, lj_2, sl1, o_b, e_10, ↓reduceIte, w4, t2, e_neq, e_st]
          · rw [w_row (by omega), w_row (by omega), w_same]
          · rw [w_row (by omega), w_same]
          · rw [w_row (by omega), w_row (by omega), w_idx g, w_row (by omega), w_idx g, w_row (by omega), w_idx g, w_row (by omega), w_row (by omega)]
            exact ⟨rfl, rfl, rfl⟩
        · refine pb (-(nI 1)) ?_ ?_
          · unfold pX8_shelf
            simp (disch := omega) only [letv, li_0, li_1, li_2, li_3, w1, o_b, e_10, ↓reduceIte, w3, t1]
          · unfold pX9_shelf
            simp (disch := omega) only [letv, li_0, li_1, lj_0, lj_2, sl1, o_b, e_10, ↓reduceIte, w4, t2]
      · rcases wi (x := a3) (lo := 0) (hi := 3) (by omega) (by omega) with ⟨k, -, hk, rfl, w5, w6⟩ | ⟨w5, w6⟩
        · have sh1 : pX9_isSheet (nI k) = some (nI 1) := by rw [isShe, w6]; rfl
          rcases hO.2.2.2.1.1 k (by omega) with ⟨q1, q2⟩ | ⟨y, so, sz, q1, q2, q3, q4, q5⟩
          · refine pkt (x := nI 1) (V' := up2 V (z + 71) t (-(nI 1))) (R' := up2 R (z + 72) t none) (U' := up2 (up2 (up2 U (b + 14) t (nI 0)) (b + 15) t (nI 0)) (b + 16) t (nI 0)) ?_ ?_ rfl (rl_shelf h (by omega) (Or.inl ⟨w_same, rfl, ?_⟩) (fun y g => w_row g) (fun t' g => w_idx g) (fun y g1 g2 g3 => by rw [w_row g3, w_row g2, w_row g1]) fun t' g => ?_)
            · unfold pX8_shelf okQ
              simp (disch := omega) only [letv, li_0, li_1, li_2, li_3, w1, o_b, e_10, ↓reduceIte, w3, w5, e_neq, e_st, o_ld, q1, o_st]
            · unfold pX9_shelf
              simp (disch := omega) only [letv, li_0, li_1, lj_0, lj_2, sl1, o_b, e_10, ↓reduceIte, w4, sh1, e_neq, e_ld, q2, m_ng, e_st]
            · rw [w_row (by omega), w_row (by omega), w_same]
            · rw [w_row (by omega), w_row (by omega), w_idx g, w_row (by omega), w_idx g, w_row (by omega), w_idx g, w_row (by omega), w_row (by omega)]
              exact ⟨rfl, rfl, rfl⟩
          · have s4 := q2.2.2.2.1
            refine pkt (x := nI 1) (V' := up2 V (z + 71) t (-(nI 1))) (R' := up2 R (z + 72) t (some y)) (U' := up2 (up2 (up2 U (b + 14) t (nI 2)) (b + 15) t (nI so)) (b + 16) t (nI sz)) ?_ ?_ rfl (rl_shelf h (by omega) (Or.inr (Or.inr ⟨y, so, sz, w_same, rfl, q2, ?_, ?_, w_same⟩)) (fun y g => w_row g) (fun t' g => w_idx g) (fun y g1 g2 g3 => by rw [w_row g3, w_row g2, w_row g1]) fun t' g => ?_)
            · unfold pX8_shelf okQ
              simp (disch := omega) only [letv, li_0, li_1, li_2, li_3, w1, o_b, e_10, ↓reduceIte, w3, w5, e_neq, e_st, o_ld, q1, o_st, q2.2.1]
            · unfold pX9_shelf
              simp (disch := omega) only [letv, li_0, li_1, li_2, lj_0, lj_2, sl1, o_b, e_10, ↓reduceIte, w4, sh1, e_neq, e_ld, q3, e_nlt, e_st, w_row, q4]
            · rw [w_row (by omega), w_row (by omega), w_same]
            · rw [w_row (by omega), w_same]
            · rw [w_row (by omega), w_row (by omega), w_idx g, w_row (by omega), w_idx g, w_row (by omega), w_idx g, w_row (by omega), w_row (by omega)]
              exact ⟨rfl, rfl, rfl⟩
        · have sh1 : pX9_isSheet a3 = some (nI 0) := by rw [isShe, w6]; rfl
          refine pb (-(nI 1)) ?_ ?_
          · unfold pX8_shelf
            simp (disch := omega) only [letv, li_0, li_1, li_2, li_3, w1, o_b, e_10, ↓reduceIte, w3, w5]
          · unfold pX9_shelf
            simp (disch := omega) only [letv, li_0, li_1, lj_0, lj_2, sl1, o_b, e_10, ↓reduceIte, w4, sh1]
      · refine pkt (x := nI 1) (V' := up2 V (z + 71) t (-(nI 1))) (R' := up2 R (z + 72) t none) (U' := up2 (up2 (up2 U (b + 14) t (nI 0)) (b + 15) t (nI 0)) (b + 16) t (nI 0)) ?_ ?_ rfl (rl_shelf h (by omega) (Or.inl ⟨w_same, rfl, ?_⟩) (fun y g => w_row g) (fun t' g => w_idx g) (fun y g1 g2 g3 => by rw [w_row g3, w_row g2, w_row g1]) fun t' g => ?_)
        · unfold pX8_shelf okQ
          simp (disch := omega) only [letv, li_0, li_1, li_2, li_3, w1, o_b, e_10, ↓reduceIte, w3, e_neq, e_st, o_st]
        · unfold pX9_shelf
          simp (disch := omega) only [letv, li_0, li_1, lj_0, lj_2, sl1, o_b, e_10, ↓reduceIte, w4, e_neq, e_st]
        · rw [w_row (by omega), w_row (by omega), w_same]
        · rw [w_row (by omega), w_row (by omega), w_idx g, w_row (by omega), w_idx g, w_row (by omega), w_idx g, w_row (by omega), w_row (by omega)]
          exact ⟨rfl, rfl, rfl⟩
    · refine pb (-(nI 1)) ?_ ?_
      · unfold pX8_shelf
        simp (disch := omega) only [letv, li_0, li_1, li_2, li_3, w1, o_b, e_10, ↓reduceIte, w3]
      · unfold pX9_shelf
        simp (disch := omega) only [letv, li_0, li_1, lj_0, lj_2, sl1, o_b, e_10, ↓reduceIte, w4]
  · have sl1 : pX9_isShelf a1 = some (nI 0) := by rw [isSlf, w2]; rfl
    refine pb (-(nI 1)) ?_ ?_
    · unfold pX8_shelf
      simp (disch := omega) only [letv, li_0, li_1, li_3, w1, o_b, ↓reduceIte]
    · unfold pX9_shelf
      simp (disch := omega) only [letv, li_0, li_1, sl1, o_b, ↓reduceIte]
end S7
