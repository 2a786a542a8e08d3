/-! what is asked of plans and games -/
def adn (wa ev : Nat) : Nat := wa &&& (63 ^^^ ev)
theorem b_adn : ∀ wa, wa < 64 → ∀ ev, ev < 64 → nI wa &&& (nI ev ^^^ -(nI 1)) = nI (adn wa ev) ∧ adn wa ev < 64 := by decide +kernel
theorem b_adb : ∀ wa, wa < 64 → ∀ ev, ev < 64 → ∀ k, k < 6 → bt wa k = 0 → bt (adn wa ev) k = 0 := by decide +kernel
theorem b_bit1 : ∀ f, f < 64 → ∀ k, k < 6 → ((nI f >>> (nI k &&& nI 31)) &&& nI 1 = nI 1) = (bt f k = 1) := fun f hf k hk => by
  rw [b_flat f hf k hk]
  exact propext (nI_eq (by have := bt_lt f k; omega) (by omega))
theorem b_max : ∀ c, c ≤ 6 → nI 1 <<< (nI c &&& nI 31) - nI 1 = nI (2 ^ c - 1) ∧ 2 ^ c - 1 < 64 := by decide +kernel
theorem b_top : ∀ c, c ≤ 6 → ∀ f, f < 64 → f ≤ 2 ^ c - 1 → ∀ k, k < 6 → c ≤ k → bt f k = 0 := by decide +kernel
theorem b_fs : ∀ g, g < 64 → g ≠ 0 → ∃ k, k < 6 ∧ bt g k = 1 ∧ ∀ j, j < k → bt g j = 0 := by
  intro g hg h0
  by_cases q0 : bt g 0 = 1
  · exact ⟨0, by omega, q0, fun j hj => by omega⟩
  by_cases q1 : bt g 1 = 1
  · refine ⟨1, by omega, q1, fun j hj => ?_⟩
    have hj0 : j = 0 := by omega
    rw [hj0]
    have := bt_01 g 0
    omega
  by_cases q2 : bt g 2 = 1
  · refine ⟨2, by omega, q2, fun j hj => ?_⟩
    rcases (show j = 0 ∨ j = 1 by omega) with rfl | rfl
    · have := bt_01 g 0; omega
    · have := bt_01 g 1; omega
  by_cases q3 : bt g 3 = 1
  · refine ⟨3, by omega, q3, fun j hj => ?_⟩
    rcases (show j = 0 ∨ j = 1 ∨ j = 2 by omega) with rfl | rfl | rfl
    · have := bt_01 g 0; omega
    · have := bt_01 g 1; omega
    · have := bt_01 g 2; omega
  by_cases q4 : bt g 4 = 1
  · refine ⟨4, by omega, q4, fun j hj => ?_⟩
    rcases (show j = 0 ∨ j = 1 ∨ j = 2 ∨ j = 3 by omega) with rfl | rfl | rfl | rfl
    · have := bt_01 g 0; omega
    · have := bt_01 g 1; omega
    · have := bt_01 g 2; omega
    · have := bt_01 g 3; omega
  by_cases q5 : bt g 5 = 1
  · refine ⟨5, by omega, q5, fun j hj => ?_⟩
    rcases (show j = 0 ∨ j = 1 ∨ j = 2 ∨ j = 3 ∨ j = 4 by omega) with rfl | rfl | rfl | rfl | rfl
    · have := bt_01 g 0; omega
    · have := bt_01 g 1; omega
    · have := bt_01 g 2; omega
    · have := bt_01 g 3; omega
    · have := bt_01 g 4; omega
  · exact absurd (b_ext g hg 0 (by omega) fun k hk => by
      rw [b_0 k hk]
      rcases (show k = 0 ∨ k = 1 ∨ k = 2 ∨ k = 3 ∨ k = 4 ∨ k = 5 by omega) with rfl | rfl | rfl | rfl | rfl | rfl
      · have := bt_01 g 0; omega
      · have := bt_01 g 1; omega
      · have := bt_01 g 2; omega
      · have := bt_01 g 3; omega
      · have := bt_01 g 4; omega
      · have := bt_01 g 5; omega) h0
theorem isLg {x : Int32} : pX9_isLong x = (pX9_isIn x.toInt64 (lN 0) (lN 4)).bind fun q => if isb q then some q else none := rfl
section P3
variable {n z b : Nat} {V : V2} {R : R2} {G Gm : G2} {U : V2}
/-- the search is begun -/
theorem c_begin {E : En} {L : Ld} {nn : Nat} (hE : EC G V R z (z + 1) E) (iE : IE E) (hL : LC V (z + 2) L) (iL : IL L) (hw : L_w L ≤ E_en E) (hnn : nn ≤ 4) (hR : ST z G R) : ∃ V1, pX6_begin G V R (z + 36) (z + 1) (nI nn) = some V1 ∧ LC V1 (z + 40) L ∧ V1 (z + 36) 4 = nI (min nn (E_en E - L_w L)) ∧ (∀ x, x ≠ z + 36 → (x < z + 40 ∨ z + 44 < x) → V1 x = V x) := by
  have he := iE.2.1
  obtain ⟨r1, r2⟩ := hR 0 (by omega)
  obtain ⟨V1, c1, c2, c3⟩ := c_copy (b := z + 40) (a := z + 2) hL (by omega)
  have e1 : V1 (z + 1) 1 = nI (E_en E) := by rw [c3 _ (by omega)]; exact hE.1
  have e2 : V1 (z + 2) 0 = nI (L_w L) := by rw [c3 _ (by omega)]; exact hL.1
  have r1' : R (z + 36 + 1) 0 = some (z + 40) := r1
  have r2' : ownB G (z + 40) 12 = true := r2
  refine ⟨up2 V1 (z + 36) 4 (nI (min nn (E_en E - L_w L))), ?_, c2.up (by omega), w_same, fun x h1 h2 => by rw [w_row h1]; exact c3 x h2⟩
  unfold pX6_begin
  have ej : jmax (nI 0) (jmin (jmin (nI nn) (nI 4)) (nI (E_en E) - nI (L_w L))) = nI (min nn (E_en E - L_w L)) := by
    rw [e_sub hw, e_jmin (by omega) (by omega), e_jmin (by omega) (by omega), e_jmax2 (by omega)]
    congr 1
    omega
  simp (disch := omega) only [li_0, li_4, o_ld, o_b, r1', ocase, r2', ↓reduceIte, show z + 1 + 1 = z + 2 from rfl, c1, letv, e1, e2, ej]
/-- both searches -/
theorem both (hn : 1000 ≤ n) (h : RelB z b V R G U) {nn wa : Nat} (hnn : nn ≤ 4) (hwa : wa < 64) : ∃ V' U' len cc, pX6_tryAll n G V R (z + 36) (z + 1) (nI nn) (nI wa) = some V' ∧ pX9_findsPlans n U b (nI nn) (nI wa) = some U' ∧ SR z b V' U' len 0 cc ∧ Pos b U' ∧ len ≤ 4 ∧ (∃ E L rn rp, NQ G V R z (z + 1) (U (b + 1)) E L rn rp ∧ cc = L_c L ∧ len = min nn (E_en E - L_w L)) ∧ 0 < 1 ∧ (∀ x, (x < z + 31 ∨ z + 64 < x) → V' x = V x) ∧ U' (b + 1) = U (b + 1) ∧ OU b U U' := by
  obtain ⟨hW, ⟨E, L, rn, rp, hN⟩, hO⟩ := id h
  obtain ⟨iE, iL, hw, hE, hL, mE, mC, hs, hz, pC, pM, iR⟩ := nw_parts hN
  have hR := hO.2.2.2.2.2.2
  have he := iE.2.1
  obtain ⟨V1, c1, c2, c3, c4⟩ := c_begin hE iE hL iL hw hnn hR
  obtain ⟨len, hlen⟩ : ∃ len, len = min nn (E_en E - L_w L) := ⟨_, rfl⟩
  rw [← hlen] at c3
  obtain ⟨Va, hVa⟩ : ∃ Va, Va = up2 (up2 (up2 (up2 (up2 V1 (z + 36) 2 (nI wa)) (z + 36) 5 (-(nI 1))) (z + 36) 6 (nI 0)) (z + 36) 7 (-(nI 3))) (z + 36) 8 (nI 0) := ⟨_, rfl⟩
  obtain ⟨Ua, hUa⟩ : ∃ Ua, Ua = up2 (up2 (up2 (up2 (up2 (up2 U b 15 (-(nI 1))) b 16 (nI 0)) b 17 (nI 0)) b 18 (nI wa)) b 19 (nI 9)) b 20 (nI 0) := ⟨_, rfl⟩
  have va : ∀ x, x ≠ z + 36 → Va x = V1 x := fun x hx => by rw [hVa, w_row hx, w_row hx, w_row hx, w_row hx, w_row hx]
  have ua : ∀ y, y ≠ b → Ua y = U y := fun y hy => by rw [hUa, w_row hy, w_row hy, w_row hy, w_row hy, w_row hy, w_row hy]
  have ub : ∀ k, (k < 15 ∨ 20 < k) → Ua b k = U b k := fun k hk => by rw [hUa, w_idx (by omega), w_idx (by omega), w_idx (by omega), w_idx (by omega), w_idx (by omega), w_idx (by omega)]
  have S0 : SR z b Va Ua len 0 (L_c L) := by
    rw [hVa, hUa]
    refine ⟨?_, ?_, ⟨9, by omega, ?_, ?_⟩, ⟨0, by omega, w_same, w_same⟩, ⟨wa, hwa, ?_, ?_⟩, ?_, fun i hi => by omega, 0, by omega, ?_, fun q => absurd q (by omega)⟩
    · simp (disch := omega) only [w_idx, w_same]
    · simp (disch := omega) only [w_idx, w_same]
    · simp (disch := omega) only [w_idx, w_same]
    · simp (disch := omega) only [w_idx, w_same, ↓reduceIte]
    · simp (disch := omega) only [w_idx, w_same]
    · simp (disch := omega) only [w_idx, w_same]
    · simp (disch := omega) only [w_idx]
      exact c3
    · simp (disch := omega) only [w_idx, w_same]
      decide
  have hE1 : EC G Va R z (z + 1) E := hE.fr (by rw [va _ (by omega), c4 _ (by omega) (by omega)]) (by rw [va _ (by omega), c4 _ (by omega) (by omega)]) fun x hx => by rw [va _ (by omega), c4 _ (by omega) (by omega)]
  have hL1 : LC Va (z + 40 + 5 * 0) L := (show LC V1 (z + 40 + 5 * 0) L from c2).fr fun x h1 h2 => va x (by omega)
  obtain ⟨V', U', a1, a2, a3, a4, a5, a6, a7, a8⟩ := p_try (n := n) (b := b) (len := len) (nn := nn) (w0 := L_w L) (cc := L_c L) hn hR iE (by omega) hnn (by omega) (by omega) (fun d hd => by omega) len 0 6 6 (V := Va) (U := Ua) (L := L) (wo := 0) (to' := 0) (by omega) (by omega) (by omega) S0 hE1 hL1 (by rw [ua _ (by omega)]; exact mE) (by rw [ua _ (by omega)]; exact mC) iL rfl rfl (fun i hi => by omega) (by omega) (by omega)
  refine ⟨V', U', len, L_c L, ?_, ?_, a3, a8, by omega, ⟨E, L, rn, rp, hN, rfl, hlen⟩, ?_, fun x hx => ?_, ?_, ?_⟩
  · unfold pX6_tryAll
    have hVa' := hVa.symm
    simp (disch := omega) only [c1, o_b, letv, li_0, li_1, li_3, hVa', a1]
  · unfold pX9_findsPlans
    have hUa' := hUa.symm
    simp (disch := omega) only [o_b, letv, li_0, li_1, li_9, hUa', a2]
  · omega
  · rw [a4 x (by omega), va x (by omega), c4 x (by omega) (by omega)]
  · rw [a6, ua _ (by omega)]
  · refine ⟨by rw [a5.2.1 _ (by omega), ub _ (by omega)], by rw [a5.2.1 _ (by omega), ub _ (by omega)], by rw [a5.2.1 _ (by omega), ub _ (by omega)], by rw [a5.2.1 _ (by omega), ub _ (by omega)], fun y hy => ?_⟩
    rw [a5.1 y (by omega) (by omega) (by omega) (by omega), ua y (by omega)]
theorem ok_best' (hn : 1000 ≤ n) (h : RelB z b V R G U) (a1 : Int32) : ∃ o om, pX8_best n G V R z a1 = some o ∧ pX9_best n U b a1 = some om ∧ o.1 = om.1 ∧ RelB z b o.2 R G om.2 := by
  unfold pX8_best pX9_best
  rw [isLg]
  rcases wi (x := a1) (lo := 0) (hi := 4) (by omega) (by omega) with ⟨nn, -, hnn, rfl, w1, w2⟩ | ⟨w1, w2⟩
  · obtain ⟨V', U', len, cc, c1, c2, c3, c4, c5, c6, c7, c8, c9, c10⟩ := both hn h hnn (wa := 0) (by omega)
    exact pk (by simp (disch := omega) only [w1, e_10, c1, letv, o_b, ↓reduceIte, e_sub, e_add, e_mul, e_ld, e_st, e_lt, e_nlt, e_le, e_nle, e_eq, e_neq, e_div, e_rem, m_lt, m_le, m_eq, m_eq2, m_ng, o_ld, true_and, and_true, Nat.one_ne_zero, Nat.zero_ne_one, Nat.reduceEqDiff, Bool.false_eq_true, not_true_eq_false, not_false_eq_true, li_0, li_1, li_2, li_3, li_4, li_5, li_6, li_7, li_8, li_9, li_10, li_11, li_12, li_13, li_14, li_15, li_16, li_20, li_23, li_25, li_30, li_31, li_32, li_38, li_40, li_41, li_44, li_48, li_50, li_51, li_52, li_57, li_59, li_60, li_61, li_62, li_63, li_66, li_81, li_94, li_97, li_98, li_99, li_100, li_101, li_103, li_104, li_105, li_107, li_108, li_109, li_110, li_111, li_112, li_114, li_115, li_116, li_117, li_118, li_122, li_200, li_572, li_600, li_9999, li_10000, li_12345, li_1103515245]) (by simp (disch := omega) only [w2, isb1, e_10, c2, letv, o_b, ↓reduceIte, e_sub, e_add, e_mul, e_ld, e_st, e_lt, e_nlt, e_le, e_nle, e_eq, e_neq, e_div, e_rem, m_lt, m_le, m_eq, m_eq2, m_ng, o_ld, true_and, and_true, Nat.one_ne_zero, Nat.zero_ne_one, Nat.reduceEqDiff, Bool.false_eq_true, not_true_eq_false, not_false_eq_true, li_0, li_1, li_2, li_3, li_4, li_5, li_6, li_7, li_8, li_9, li_10, li_11, li_12, li_13, li_14, li_15, li_16, li_20, li_23, li_25, li_30, li_31, li_32, li_38, li_40, li_41, li_44, li_48, li_50, li_51, li_52, li_57, li_59, li_60, li_61, li_62, li_63, li_66, li_81, li_94, li_97, li_98, li_99, li_100, li_101, li_103, li_104, li_105, li_107, li_108, li_109, li_110, li_111, li_112, li_114, li_115, li_116, li_117, li_118, li_122, li_200, li_572, li_600, li_9999, li_10000, li_12345, li_1103515245]) c3.1 (h.ask (tr_NF c8) (tr_OV c8) c9 c10)
  · exact pkx (-(nI 1)) (by simp (disch := omega) only [w1, letv, o_b, ↓reduceIte, e_sub, e_add, e_mul, e_ld, e_st, e_lt, e_nlt, e_le, e_nle, e_eq, e_neq, e_div, e_rem, m_lt, m_le, m_eq, m_eq2, m_ng, o_ld, true_and, and_true, Nat.one_ne_zero, Nat.zero_ne_one, Nat.reduceEqDiff, Bool.false_eq_true, not_true_eq_false, not_false_eq_true, li_0, li_1, li_2, li_3, li_4, li_5, li_6, li_7, li_8, li_9, li_10, li_11, li_12, li_13, li_14, li_15, li_16, li_20, li_23, li_25, li_30, li_31, li_32, li_38, li_40, li_41, li_44, li_48, li_50, li_51, li_52, li_57, li_59, li_60, li_61, li_62, li_63, li_66, li_81, li_94, li_97, li_98, li_99, li_100, li_101, li_103, li_104, li_105, li_107, li_108, li_109, li_110, li_111, li_112, li_114, li_115, li_116, li_117, li_118, li_122, li_200, li_572, li_600, li_9999, li_10000, li_12345, li_1103515245]) (by simp (disch := omega) only [w2, isb0, letv, o_b, ↓reduceIte, e_sub, e_add, e_mul, e_ld, e_st, e_lt, e_nlt, e_le, e_nle, e_eq, e_neq, e_div, e_rem, m_lt, m_le, m_eq, m_eq2, m_ng, o_ld, true_and, and_true, Nat.one_ne_zero, Nat.zero_ne_one, Nat.reduceEqDiff, Bool.false_eq_true, not_true_eq_false, not_false_eq_true, li_0, li_1, li_2, li_3, li_4, li_5, li_6, li_7, li_8, li_9, li_10, li_11, li_12, li_13, li_14, li_15, li_16, li_20, li_23, li_25, li_30, li_31, li_32, li_38, li_40, li_41, li_44, li_48, li_50, li_51, li_52, li_57, li_59, li_60, li_61, li_62, li_63, li_66, li_81, li_94, li_97, li_98, li_99, li_100, li_101, li_103, li_104, li_105, li_107, li_108, li_109, li_110, li_111, li_112, li_114, li_115, li_116, li_117, li_118, li_122, li_200, li_572, li_600, li_9999, li_10000, li_12345, li_1103515245]) h
theorem ok_ways' (hn : 1000 ≤ n) (h : RelB z b V R G U) (a1 : Int32) : ∃ o om, pX8_ways n G V R z a1 = some o ∧ pX9_ways n U b a1 = some om ∧ o.1 = om.1 ∧ RelB z b o.2 R G om.2 := by
  unfold pX8_ways pX9_ways
  rw [isLg]
  rcases wi (x := a1) (lo := 0) (hi := 4) (by omega) (by omega) with ⟨nn, -, hnn, rfl, w1, w2⟩ | ⟨w1, w2⟩
  · obtain ⟨V', U', len, cc, c1, c2, c3, c4, c5, c6, c7, c8, c9, c10⟩ := both hn h hnn (wa := 0) (by omega)
    exact pk (by simp (disch := omega) only [w1, e_10, c1, letv, o_b, ↓reduceIte, e_sub, e_add, e_mul, e_ld, e_st, e_lt, e_nlt, e_le, e_nle, e_eq, e_neq, e_div, e_rem, m_lt, m_le, m_eq, m_eq2, m_ng, o_ld, true_and, and_true, Nat.one_ne_zero, Nat.zero_ne_one, Nat.reduceEqDiff, Bool.false_eq_true, not_true_eq_false, not_false_eq_true, li_0, li_1, li_2, li_3, li_4, li_5, li_6, li_7, li_8, li_9, li_10, li_11, li_12, li_13, li_14, li_15, li_16, li_20, li_23, li_25, li_30, li_31, li_32, li_38, li_40, li_41, li_44, li_48, li_50, li_51, li_52, li_57, li_59, li_60, li_61, li_62, li_63, li_66, li_81, li_94, li_97, li_98, li_99, li_100, li_101, li_103, li_104, li_105, li_107, li_108, li_109, li_110, li_111, li_112, li_114, li_115, li_116, li_117, li_118, li_122, li_200, li_572, li_600, li_9999, li_10000, li_12345, li_1103515245]) (by simp (disch := omega) only [w2, isb1, e_10, c2, letv, o_b, ↓reduceIte, e_sub, e_add, e_mul, e_ld, e_st, e_lt, e_nlt, e_le, e_nle, e_eq, e_neq, e_div, e_rem, m_lt, m_le, m_eq, m_eq2, m_ng, o_ld, true_and, and_true, Nat.one_ne_zero, Nat.zero_ne_one, Nat.reduceEqDiff, Bool.false_eq_true, not_true_eq_false, not_false_eq_true, li_0, li_1, li_2, li_3, li_4, li_5, li_6, li_7, li_8, li_9, li_10, li_11, li_12, li_13, li_14, li_15, li_16, li_20, li_23, li_25, li_30, li_31, li_32, li_38, li_40, li_41, li_44, li_48, li_50, li_51, li_52, li_57, li_59, li_60, li_61, li_62, li_63, li_66, li_81, li_94, li_97, li_98, li_99, li_100, li_101, li_103, li_104, li_105, li_107, li_108, li_109, li_110, li_111, li_112, li_114, li_115, li_116, li_117, li_118, li_122, li_200, li_572, li_600, li_9999, li_10000, li_12345, li_1103515245]) c3.2.1 (h.ask (tr_NF c8) (tr_OV c8) c9 c10)
  · exact pkx (-(nI 1)) (by simp (disch := omega) only [w1, letv, o_b, ↓reduceIte, e_sub, e_add, e_mul, e_ld, e_st, e_lt, e_nlt, e_le, e_nle, e_eq, e_neq, e_div, e_rem, m_lt, m_le, m_eq, m_eq2, m_ng, o_ld, true_and, and_true, Nat.one_ne_zero, Nat.zero_ne_one, Nat.reduceEqDiff, Bool.false_eq_true, not_true_eq_false, not_false_eq_true, li_0, li_1, li_2, li_3, li_4, li_5, li_6, li_7, li_8, li_9, li_10, li_11, li_12, li_13, li_14, li_15, li_16, li_20, li_23, li_25, li_30, li_31, li_32, li_38, li_40, li_41, li_44, li_48, li_50, li_51, li_52, li_57, li_59, li_60, li_61, li_62, li_63, li_66, li_81, li_94, li_97, li_98, li_99, li_100, li_101, li_103, li_104, li_105, li_107, li_108, li_109, li_110, li_111, li_112, li_114, li_115, li_116, li_117, li_118, li_122, li_200, li_572, li_600, li_9999, li_10000, li_12345, li_1103515245]) (by simp (disch := omega) only [w2, isb0, letv, o_b, ↓reduceIte, e_sub, e_add, e_mul, e_ld, e_st, e_lt, e_nlt, e_le, e_nle, e_eq, e_neq, e_div, e_rem, m_lt, m_le, m_eq, m_eq2, m_ng, o_ld, true_and, and_true, Nat.one_ne_zero, Nat.zero_ne_one, Nat.reduceEqDiff, Bool.false_eq_true, not_true_eq_false, not_false_eq_true, li_0, li_1, li_2, li_3, li_4, li_5, li_6, li_7, li_8, li_9, li_10, li_11, li_12, li_13, li_14, li_15, li_16, li_20, li_23, li_25, li_30, li_31, li_32, li_38, li_40, li_41, li_44, li_48, li_50, li_51, li_52, li_57, li_59, li_60, li_61, li_62, li_63, li_66, li_81, li_94, li_97, li_98, li_99, li_100, li_101, li_103, li_104, li_105, li_107, li_108, li_109, li_110, li_111, li_112, li_114, li_115, li_116, li_117, li_118, li_122, li_200, li_572, li_600, li_9999, li_10000, li_12345, li_1103515245]) h
theorem pos_of {len dd cc : Nat} {V U : V2} (h : SR z b V U len dd cc) (hp : Pos b U) : U b 17 = nI len ∧ ∀ i, i < len → V (z + 39) i = U (b + 7) i ∧ ∃ a, a ≤ cc ∧ V (z + 39) i = nI a := by
  obtain ⟨mo, m1, m2, m3⟩ := h.2.2.2.2.2.2.2
  obtain ⟨mo', k1, k2, k3⟩ := hp
  refine m3 ?_
  by_cases q : 0 < mo
  · exact q
  · have q0 : mo = 0 := by omega
    rw [m2, q0, show (nI 0 - nI 1 : Int32) = -(nI 1) by decide, e_sub (a := mo') (b := 1) (by omega)] at k3
    exact absurd (m_eq2 (a := mo' - 1) (b := 1) (by omega) (by omega) (by omega)) (by rw [k3]; simp)
theorem ok_ith' (hn : 1000 ≤ n) (h : RelB z b V R G U) (a1 a2 : Int32) : ∃ o om, pX8_ith n G V R z a1 a2 = some o ∧ pX9_ith n U b a1 a2 = some om ∧ o.1 = om.1 ∧ RelB z b o.2 R G om.2 := by
  unfold pX8_ith pX9_ith
  rw [isLg]
  rcases wi (x := a1) (lo := 0) (hi := 4) (by omega) (by omega) with ⟨nn, -, hnn, rfl, w1, w2⟩ | ⟨w1, w2⟩
  · rcases wi (x := a2) (lo := 0) (hi := 3) (by omega) (by omega) with ⟨i, -, hi, rfl, w3, w4⟩ | ⟨w3, w4⟩
    · obtain ⟨V', U', len, cc, c1, c2, c3, c4, c5, c6, c7, c8, c9, c10⟩ := both hn h hnn (wa := 0) (by omega)
      obtain ⟨p1, p2⟩ := pos_of c3 c4
      have s6 : V' (z + 36) 4 = nI len := c3.2.2.2.2.2.1
      by_cases q : len ≤ i
      · exact pk (x := -(nI 3)) (by simp (disch := omega) only [w1, e_10, w3, c1, s6, letv, o_b, ↓reduceIte, e_sub, e_add, e_mul, e_ld, e_st, e_lt, e_nlt, e_le, e_nle, e_eq, e_neq, e_div, e_rem, m_lt, m_le, m_eq, m_eq2, m_ng, o_ld, true_and, and_true, Nat.one_ne_zero, Nat.zero_ne_one, Nat.reduceEqDiff, Bool.false_eq_true, not_true_eq_false, not_false_eq_true, li_0, li_1, li_2, li_3, li_4, li_5, li_6, li_7, li_8, li_9, li_10, li_11, li_12, li_13, li_14, li_15, li_16, li_20, li_23, li_25, li_30, li_31, li_32, li_38, li_40, li_41, li_44, li_48, li_50, li_51, li_52, li_57, li_59, li_60, li_61, li_62, li_63, li_66, li_81, li_94, li_97, li_98, li_99, li_100, li_101, li_103, li_104, li_105, li_107, li_108, li_109, li_110, li_111, li_112, li_114, li_115, li_116, li_117, li_118, li_122, li_200, li_572, li_600, li_9999, li_10000, li_12345, li_1103515245]) (by simp (disch := omega) only [w2, isb1, e_10, lj_0, lj_3, w4, c2, p1, letv, o_b, ↓reduceIte, e_sub, e_add, e_mul, e_ld, e_st, e_lt, e_nlt, e_le, e_nle, e_eq, e_neq, e_div, e_rem, m_lt, m_le, m_eq, m_eq2, m_ng, o_ld, true_and, and_true, Nat.one_ne_zero, Nat.zero_ne_one, Nat.reduceEqDiff, Bool.false_eq_true, not_true_eq_false, not_false_eq_true, li_0, li_1, li_2, li_3, li_4, li_5, li_6, li_7, li_8, li_9, li_10, li_11, li_12, li_13, li_14, li_15, li_16, li_20, li_23, li_25, li_30, li_31, li_32, li_38, li_40, li_41, li_44, li_48, li_50, li_51, li_52, li_57, li_59, li_60, li_61, li_62, li_63, li_66, li_81, li_94, li_97, li_98, li_99, li_100, li_101, li_103, li_104, li_105, li_107, li_108, li_109, li_110, li_111, li_112, li_114, li_115, li_116, li_117, li_118, li_122, li_200, li_572, li_600, li_9999, li_10000, li_12345, li_1103515245]) rfl (h.ask (tr_NF c8) (tr_OV c8) c9 c10)
      · exact pk (by simp (disch := omega) only [w1, e_10, w3, c1, s6, letv, o_b, ↓reduceIte, e_sub, e_add, e_mul, e_ld, e_st, e_lt, e_nlt, e_le, e_nle, e_eq, e_neq, e_div, e_rem, m_lt, m_le, m_eq, m_eq2, m_ng, o_ld, true_and, and_true, Nat.one_ne_zero, Nat.zero_ne_one, Nat.reduceEqDiff, Bool.false_eq_true, not_true_eq_false, not_false_eq_true, li_0, li_1, li_2, li_3, li_4, li_5, li_6, li_7, li_8, li_9, li_10, li_11, li_12, li_13, li_14, li_15, li_16, li_20, li_23, li_25, li_30, li_31, li_32, li_38, li_40, li_41, li_44, li_48, li_50, li_51, li_52, li_57, li_59, li_60, li_61, li_62, li_63, li_66, li_81, li_94, li_97, li_98, li_99, li_100, li_101, li_103, li_104, li_105, li_107, li_108, li_109, li_110, li_111, li_112, li_114, li_115, li_116, li_117, li_118, li_122, li_200, li_572, li_600, li_9999, li_10000, li_12345, li_1103515245]) (by simp (disch := omega) only [w2, isb1, e_10, lj_0, lj_3, w4, c2, p1, letv, o_b, ↓reduceIte, e_sub, e_add, e_mul, e_ld, e_st, e_lt, e_nlt, e_le, e_nle, e_eq, e_neq, e_div, e_rem, m_lt, m_le, m_eq, m_eq2, m_ng, o_ld, true_and, and_true, Nat.one_ne_zero, Nat.zero_ne_one, Nat.reduceEqDiff, Bool.false_eq_true, not_true_eq_false, not_false_eq_true, li_0, li_1, li_2, li_3, li_4, li_5, li_6, li_7, li_8, li_9, li_10, li_11, li_12, li_13, li_14, li_15, li_16, li_20, li_23, li_25, li_30, li_31, li_32, li_38, li_40, li_41, li_44, li_48, li_50, li_51, li_52, li_57, li_59, li_60, li_61, li_62, li_63, li_66, li_81, li_94, li_97, li_98, li_99, li_100, li_101, li_103, li_104, li_105, li_107, li_108, li_109, li_110, li_111, li_112, li_114, li_115, li_116, li_117, li_118, li_122, li_200, li_572, li_600, li_9999, li_10000, li_12345, li_1103515245]) (p2 i (by omega)).1 (h.ask (tr_NF c8) (tr_OV c8) c9 c10)
    · exact pkx (-(nI 1)) (by simp (disch := omega) only [w1, e_10, w3, letv, o_b, ↓reduceIte, e_sub, e_add, e_mul, e_ld, e_st, e_lt, e_nlt, e_le, e_nle, e_eq, e_neq, e_div, e_rem, m_lt, m_le, m_eq, m_eq2, m_ng, o_ld, true_and, and_true, Nat.one_ne_zero, Nat.zero_ne_one, Nat.reduceEqDiff, Bool.false_eq_true, not_true_eq_false, not_false_eq_true, li_0, li_1, li_2, li_3, li_4, li_5, li_6, li_7, li_8, li_9, li_10, li_11, li_12, li_13, li_14, li_15, li_16, li_20, li_23, li_25, li_30, li_31, li_32, li_38, li_40, li_41, li_44, li_48, li_50, li_51, li_52, li_57, li_59, li_60, li_61, li_62, li_63, li_66, li_81, li_94, li_97, li_98, li_99, li_100, li_101, li_103, li_104, li_105, li_107, li_108, li_109, li_110, li_111, li_112, li_114, li_115, li_116, li_117, li_118, li_122, li_200, li_572, li_600, li_9999, li_10000, li_12345, li_1103515245]) (by simp (disch := omega) only [w2, isb1, e_10, lj_0, lj_3, w4, letv, o_b, ↓reduceIte, e_sub, e_add, e_mul, e_ld, e_st, e_lt, e_nlt, e_le, e_nle, e_eq, e_neq, e_div, e_rem, m_lt, m_le, m_eq, m_eq2, m_ng, o_ld, true_and, and_true, Nat.one_ne_zero, Nat.zero_ne_one, Nat.reduceEqDiff, Bool.false_eq_true, not_true_eq_false, not_false_eq_true, li_0, li_1, li_2, li_3, li_4, li_5, li_6, li_7, li_8, li_9, li_10, li_11, li_12, li_13, li_14, li_15, li_16, li_20, li_23, li_25, li_30, li_31, li_32, li_38, li_40, li_41, li_44, li_48, li_50, li_51, li_52, li_57, li_59, li_60, li_61, li_62, li_63, li_66, li_81, li_94, li_97, li_98, li_99, li_100, li_101, li_103, li_104, li_105, li_107, li_108, li_109, li_110, li_111, li_112, li_114, li_115, li_116, li_117, li_118, li_122, li_200, li_572, li_600, li_9999, li_10000, li_12345, li_1103515245]) h
  · exact pkx (-(nI 1)) (by simp (disch := omega) only [w1, letv, o_b, ↓reduceIte, e_sub, e_add, e_mul, e_ld, e_st, e_lt, e_nlt, e_le, e_nle, e_eq, e_neq, e_div, e_rem, m_lt, m_le, m_eq, m_eq2, m_ng, o_ld, true_and, and_true, Nat.one_ne_zero, Nat.zero_ne_one, Nat.reduceEqDiff, Bool.false_eq_true, not_true_eq_false, not_false_eq_true, li_0, li_1, li_2, li_3, li_4, li_5, li_6, li_7, li_8, li_9, li_10, li_11, li_12, li_13, li_14, li_15, li_16, li_20, li_23, li_25, li_30, li_31, li_32, li_38, li_40, li_41, li_44, li_48, li_50, li_51, li_52, li_57, li_59, li_60, li_61, li_62, li_63, li_66, li_81, li_94, li_97, li_98, li_99, li_100, li_101, li_103, li_104, li_105, li_107, li_108, li_109, li_110, li_111, li_112, li_114, li_115, li_116, li_117, li_118, li_122, li_200, li_572, li_600, li_9999, li_10000, li_12345, li_1103515245]) (by simp (disch := omega) only [w2, isb0, letv, o_b, ↓reduceIte, e_sub, e_add, e_mul, e_ld, e_st, e_lt, e_nlt, e_le, e_nle, e_eq, e_neq, e_div, e_rem, m_lt, m_le, m_eq, m_eq2, m_ng, o_ld, true_and, and_true, Nat.one_ne_zero, Nat.zero_ne_one, Nat.reduceEqDiff, Bool.false_eq_true, not_true_eq_false, not_false_eq_true, li_0, li_1, li_2, li_3, li_4, li_5, li_6, li_7, li_8, li_9, li_10, li_11, li_12, li_13, li_14, li_15, li_16, li_20, li_23, li_25, li_30, li_31, li_32, li_38, li_40, li_41, li_44, li_48, li_50, li_51, li_52, li_57, li_59, li_60, li_61, li_62, li_63, li_66, li_81, li_94, li_97, li_98, li_99, li_100, li_101, li_103, li_104, li_105, li_107, li_108, li_109, li_110, li_111, li_112, li_114, li_115, li_116, li_117, li_118, li_122, li_200, li_572, li_600, li_9999, li_10000, li_12345, li_1103515245]) h
/-- a set of things -/
theorem st_or {L : Ld} (hL : LC V (z + 2) L) (mC : MC (U (b + 1)) L) (iL : IL L) (x : Int32) : (∃ wa, wa < 64 ∧ wa ≤ 2 ^ L_c L - 1 ∧ x = nI wa ∧ pX8_isSetOfThings V z x = some (nI 1) ∧ pX9_isSet U b x = some (nI 1)) ∨ (pX8_isSetOfThings V z x = some (nI 0) ∧ pX9_isSet U b x = some (nI 0)) := by
  have hc := iL.2.1
  obtain ⟨m1, m2⟩ := b_max _ hc
  unfold pX8_isSetOfThings pX9_isSet
  simp (disch := omega) only [li_0, li_1, li_31, hL.2.1, e_ld, o_b, mC.2.1, m1, lj_0]
  rw [nI_l (by omega)]
  rcases wi (x := x) (lo := 0) (hi := 2 ^ L_c L - 1) (by omega) (by omega) with ⟨wa, -, h2, rfl, h3, h4⟩ | ⟨h3, h4⟩
  · exact Or.inl ⟨wa, by omega, h2, rfl, by rw [h3]; rfl, by rw [h4]; rfl⟩
  · exact Or.inr ⟨by rw [h3]; rfl, by rw [h4]; rfl⟩
theorem ok_note' (hn : 1000 ≤ n) (h : RelB z b V R G U) (a1 a2 : Int32) : ∃ o om, pX8_note n G V R z a1 a2 = some o ∧ pX9_note n U b a1 a2 = some om ∧ o.1 = om.1 ∧ RelB z b o.2 R G om.2 := by
  obtain ⟨hW, ⟨E, L, rn, rp, hN⟩, hO⟩ := id h
  obtain ⟨iE, iL, hw, hE, hL, mE, mC, hs, hz, pC, pM, iR⟩ := nw_parts hN
  unfold pX8_note pX9_note
  rw [isLg]
  rcases wi (x := a1) (lo := 0) (hi := 4) (by omega) (by omega) with ⟨nn, -, hnn, rfl, w1, w2⟩ | ⟨w1, w2⟩
  · rcases st_or hL mC iL a2 with ⟨wa, hwa, hwc, rfl, w3, w4⟩ | ⟨w3, w4⟩
    · obtain ⟨V', U', len, cc, c1, c2, c3, c4, c5, c6, c7, c8, c9, c10⟩ := both hn h hnn hwa
      obtain ⟨fe, f1, f2, f3⟩ := c3.2.2.1
      by_cases q : fe = 9
      · rw [if_pos q] at f3
        exact pk (x := -(nI 3)) (by simp (disch := omega) only [w1, e_10, w3, c1, f3, letv, o_b, ↓reduceIte, e_sub, e_add, e_mul, e_ld, e_st, e_lt, e_nlt, e_le, e_nle, e_eq, e_neq, e_div, e_rem, m_lt, m_le, m_eq, m_eq2, m_ng, o_ld, true_and, and_true, Nat.one_ne_zero, Nat.zero_ne_one, Nat.reduceEqDiff, Bool.false_eq_true, not_true_eq_false, not_false_eq_true, li_0, li_1, li_2, li_3, li_4, li_5, li_6, li_7, li_8, li_9, li_10, li_11, li_12, li_13, li_14, li_15, li_16, li_20, li_23, li_25, li_30, li_31, li_32, li_38, li_40, li_41, li_44, li_48, li_50, li_51, li_52, li_57, li_59, li_60, li_61, li_62, li_63, li_66, li_81, li_94, li_97, li_98, li_99, li_100, li_101, li_103, li_104, li_105, li_107, li_108, li_109, li_110, li_111, li_112, li_114, li_115, li_116, li_117, li_118, li_122, li_200, li_572, li_600, li_9999, li_10000, li_12345, li_1103515245]) (by simp (disch := omega) only [w2, isb1, e_10, w4, c2, f2, letv, o_b, ↓reduceIte, e_sub, e_add, e_mul, e_ld, e_st, e_lt, e_nlt, e_le, e_nle, e_eq, e_neq, e_div, e_rem, m_lt, m_le, m_eq, m_eq2, m_ng, o_ld, true_and, and_true, Nat.one_ne_zero, Nat.zero_ne_one, Nat.reduceEqDiff, Bool.false_eq_true, not_true_eq_false, not_false_eq_true, li_0, li_1, li_2, li_3, li_4, li_5, li_6, li_7, li_8, li_9, li_10, li_11, li_12, li_13, li_14, li_15, li_16, li_20, li_23, li_25, li_30, li_31, li_32, li_38, li_40, li_41, li_44, li_48, li_50, li_51, li_52, li_57, li_59, li_60, li_61, li_62, li_63, li_66, li_81, li_94, li_97, li_98, li_99, li_100, li_101, li_103, li_104, li_105, li_107, li_108, li_109, li_110, li_111, li_112, li_114, li_115, li_116, li_117, li_118, li_122, li_200, li_572, li_600, li_9999, li_10000, li_12345, li_1103515245]) rfl (h.ask (tr_NF c8) (tr_OV c8) c9 c10)
      · rw [if_neg q] at f3
        exact pk (x := nI fe) (by simp (disch := omega) only [w1, e_10, w3, c1, f3, letv, o_b, ↓reduceIte, e_sub, e_add, e_mul, e_ld, e_st, e_lt, e_nlt, e_le, e_nle, e_eq, e_neq, e_div, e_rem, m_lt, m_le, m_eq, m_eq2, m_ng, o_ld, true_and, and_true, Nat.one_ne_zero, Nat.zero_ne_one, Nat.reduceEqDiff, Bool.false_eq_true, not_true_eq_false, not_false_eq_true, li_0, li_1, li_2, li_3, li_4, li_5, li_6, li_7, li_8, li_9, li_10, li_11, li_12, li_13, li_14, li_15, li_16, li_20, li_23, li_25, li_30, li_31, li_32, li_38, li_40, li_41, li_44, li_48, li_50, li_51, li_52, li_57, li_59, li_60, li_61, li_62, li_63, li_66, li_81, li_94, li_97, li_98, li_99, li_100, li_101, li_103, li_104, li_105, li_107, li_108, li_109, li_110, li_111, li_112, li_114, li_115, li_116, li_117, li_118, li_122, li_200, li_572, li_600, li_9999, li_10000, li_12345, li_1103515245]) (by simp (disch := omega) only [w2, isb1, e_10, w4, c2, f2, letv, o_b, ↓reduceIte, e_sub, e_add, e_mul, e_ld, e_st, e_lt, e_nlt, e_le, e_nle, e_eq, e_neq, e_div, e_rem, m_lt, m_le, m_eq, m_eq2, m_ng, o_ld, true_and, and_true, Nat.one_ne_zero, Nat.zero_ne_one, Nat.reduceEqDiff, Bool.false_eq_true, not_true_eq_false, not_false_eq_true, li_0, li_1, li_2, li_3, li_4, li_5, li_6, li_7, li_8, li_9, li_10, li_11, li_12, li_13, li_14, li_15, li_16, li_20, li_23, li_25, li_30, li_31, li_32, li_38, li_40, li_41, li_44, li_48, li_50, li_51, li_52, li_57, li_59, li_60, li_61, li_62, li_63, li_66, li_81, li_94, li_97, li_98, li_99, li_100, li_101, li_103, li_104, li_105, li_107, li_108, li_109, li_110, li_111, li_112, li_114, li_115, li_116, li_117, li_118, li_122, li_200, li_572, li_600, li_9999, li_10000, li_12345, li_1103515245]) rfl (h.ask (tr_NF c8) (tr_OV c8) c9 c10)
    · exact pkx (-(nI 1)) (by simp (disch := omega) only [w1, e_10, w3, letv, o_b, ↓reduceIte, e_sub, e_add, e_mul, e_ld, e_st, e_lt, e_nlt, e_le, e_nle, e_eq, e_neq, e_div, e_rem, m_lt, m_le, m_eq, m_eq2, m_ng, o_ld, true_and, and_true, Nat.one_ne_zero, Nat.zero_ne_one, Nat.reduceEqDiff, Bool.false_eq_true, not_true_eq_false, not_false_eq_true, li_0, li_1, li_2, li_3, li_4, li_5, li_6, li_7, li_8, li_9, li_10, li_11, li_12, li_13, li_14, li_15, li_16, li_20, li_23, li_25, li_30, li_31, li_32, li_38, li_40, li_41, li_44, li_48, li_50, li_51, li_52, li_57, li_59, li_60, li_61, li_62, li_63, li_66, li_81, li_94, li_97, li_98, li_99, li_100, li_101, li_103, li_104, li_105, li_107, li_108, li_109, li_110, li_111, li_112, li_114, li_115, li_116, li_117, li_118, li_122, li_200, li_572, li_600, li_9999, li_10000, li_12345, li_1103515245]) (by simp (disch := omega) only [w2, isb1, e_10, w4, letv, o_b, ↓reduceIte, e_sub, e_add, e_mul, e_ld, e_st, e_lt, e_nlt, e_le, e_nle, e_eq, e_neq, e_div, e_rem, m_lt, m_le, m_eq, m_eq2, m_ng, o_ld, true_and, and_true, Nat.one_ne_zero, Nat.zero_ne_one, Nat.reduceEqDiff, Bool.false_eq_true, not_true_eq_false, not_false_eq_true, li_0, li_1, li_2, li_3, li_4, li_5, li_6, li_7, li_8, li_9, li_10, li_11, li_12, li_13, li_14, li_15, li_16, li_20, li_23, li_25, li_30, li_31, li_32, li_38, li_40, li_41, li_44, li_48, li_50, li_51, li_52, li_57, li_59, li_60, li_61, li_62, li_63, li_66, li_81, li_94, li_97, li_98, li_99, li_100, li_101, li_103, li_104, li_105, li_107, li_108, li_109, li_110, li_111, li_112, li_114, li_115, li_116, li_117, li_118, li_122, li_200, li_572, li_600, li_9999, li_10000, li_12345, li_1103515245]) h
  · exact pkx (-(nI 1)) (by simp (disch := omega) only [w1, letv, o_b, ↓reduceIte, e_sub, e_add, e_mul, e_ld, e_st, e_lt, e_nlt, e_le, e_nle, e_eq, e_neq, e_div, e_rem, m_lt, m_le, m_eq, m_eq2, m_ng, o_ld, true_and, and_true, Nat.one_ne_zero, Nat.zero_ne_one, Nat.reduceEqDiff, Bool.false_eq_true, not_true_eq_false, not_false_eq_true, li_0, li_1, li_2, li_3, li_4, li_5, li_6, li_7, li_8, li_9, li_10, li_11, li_12, li_13, li_14, li_15, li_16, li_20, li_23, li_25, li_30, li_31, li_32, li_38, li_40, li_41, li_44, li_48, li_50, li_51, li_52, li_57, li_59, li_60, li_61, li_62, li_63, li_66, li_81, li_94, li_97, li_98, li_99, li_100, li_101, li_103, li_104, li_105, li_107, li_108, li_109, li_110, li_111, li_112, li_114, li_115, li_116, li_117, li_118, li_122, li_200, li_572, li_600, li_9999, li_10000, li_12345, li_1103515245]) (by simp (disch := omega) only [w2, isb0, letv, o_b, ↓reduceIte, e_sub, e_add, e_mul, e_ld, e_st, e_lt, e_nlt, e_le, e_nle, e_eq, e_neq, e_div, e_rem, m_lt, m_le, m_eq, m_eq2, m_ng, o_ld, true_and, and_true, Nat.one_ne_zero, Nat.zero_ne_one, Nat.reduceEqDiff, Bool.false_eq_true, not_true_eq_false, not_false_eq_true, li_0, li_1, li_2, li_3, li_4, li_5, li_6, li_7, li_8, li_9, li_10, li_11, li_12, li_13, li_14, li_15, li_16, li_20, li_23, li_25, li_30, li_31, li_32, li_38, li_40, li_41, li_44, li_48, li_50, li_51, li_52, li_57, li_59, li_60, li_61, li_62, li_63, li_66, li_81, li_94, li_97, li_98, li_99, li_100, li_101, li_103, li_104, li_105, li_107, li_108, li_109, li_110, li_111, li_112, li_114, li_115, li_116, li_117, li_118, li_122, li_200, li_572, li_600, li_9999, li_10000, li_12345, li_1103515245]) h
theorem bars_l {L : Ld} {U' : V2} {wa ev g : Nat} (mC : MC (U' (b + 1)) L) (iL : IL L) (hg : nI wa &&& (U' b 20 ^^^ -(nI 1)) = nI g) (hg6 : g < 64) {k : Nat} (hk : k < L_c L) (hb : bt g k = 1) (hlo : ∀ j, j < k → bt g j = 0) {K : Unit → Option (Int32 × V2)} : ∀ m x f, x + m = k → m < f → lX9_bars_25 b (nI wa) U' f (nI x) K = some (nI k, U') := by
  have hc := iL.2.1
  intro m
  induction m with
  | zero =>
    intro x f h1 h2
    obtain ⟨f, rfl⟩ : ∃ g, f = g + 1 := ⟨f - 1, by omega⟩
    have hx : x = k := by omega
    subst hx
    unfold lX9_bars_25
    simp (disch := omega) only [li_0, li_1, li_31, e_ld, o_b, mC.2.1, e_nle, ↓reduceIte, hg, b_bit1 g hg6 x (by omega), hb]
  | succ m ih =>
    intro x f h1 h2
    obtain ⟨f, rfl⟩ : ∃ g, f = g + 1 := ⟨f - 1, by omega⟩
    have := hlo x (by omega)
    unfold lX9_bars_25
    simp (disch := omega) only [letv, li_0, li_1, li_31, e_ld, o_b, mC.2.1, e_nle, ↓reduceIte, hg, b_bit1 g hg6 x (by omega), this, Nat.zero_ne_one, e_add, ih (x + 1) f (by omega) (by omega)]
theorem bars_n {L : Ld} {U' : V2} {wa g : Nat} (mC : MC (U' (b + 1)) L) (iL : IL L) (hg : nI wa &&& (U' b 20 ^^^ -(nI 1)) = nI g) (hg0 : g = 0) {K : Unit → Option (Int32 × V2)} : ∀ m x f, x + m = L_c L → m < f → lX9_bars_25 b (nI wa) U' f (nI x) K = K () := by
  have hc := iL.2.1
  intro m
  induction m with
  | zero =>
    intro x f h1 h2
    obtain ⟨f, rfl⟩ : ∃ g, f = g + 1 := ⟨f - 1, by omega⟩
    unfold lX9_bars_25
    simp (disch := omega) only [li_0, e_ld, o_b, mC.2.1, e_le, ↓reduceIte]
  | succ m ih =>
    intro x f h1 h2
    obtain ⟨f, rfl⟩ : ∃ g, f = g + 1 := ⟨f - 1, by omega⟩
    have := b_0 x (by omega)
    unfold lX9_bars_25
    simp (disch := omega) only [letv, li_0, li_1, li_31, e_ld, o_b, mC.2.1, e_nle, ↓reduceIte, hg, hg0, b_bit1 0 (by omega) x (by omega), this, Nat.zero_ne_one, e_add, ih (x + 1) f (by omega) (by omega)]
theorem ok_bars' (hn : 1000 ≤ n) (h : RelB z b V R G U) (a1 a2 : Int32) : ∃ o om, pX8_bars n G V R z a1 a2 = some o ∧ pX9_bars n U b a1 a2 = some om ∧ o.1 = om.1 ∧ RelB z b o.2 R G om.2 := by
  obtain ⟨hW, ⟨E, L, rn, rp, hN⟩, hO⟩ := id h
  obtain ⟨iE, iL, hw, hE, hL, mE, mC, hs, hz, pC, pM, iR⟩ := nw_parts hN
  have hc := iL.2.1
  unfold pX8_bars pX9_bars
  rw [isLg]
  rcases wi (x := a1) (lo := 0) (hi := 4) (by omega) (by omega) with ⟨nn, -, hnn, rfl, w1, w2⟩ | ⟨w1, w2⟩
  · rcases st_or hL mC iL a2 with ⟨wa, hwa, hwc, rfl, w3, w4⟩ | ⟨w3, w4⟩
    · obtain ⟨V', U', len, cc, c1, c2, c3, c4, c5, c6, c7, c8, c9, c10⟩ := both hn h hnn hwa
      obtain ⟨ev, f1, f2, f3⟩ := c3.2.2.2.1
      obtain ⟨g1, g2⟩ := b_adn wa hwa ev f1
      have mC' : MC (U' (b + 1)) L := by rw [c9]; exact mC
      have hg : nI wa &&& (U' b 20 ^^^ -(nI 1)) = nI (adn wa ev) := by rw [f3]; exact g1
      have top : ∀ k, k < 6 → L_c L ≤ k → bt (adn wa ev) k = 0 := fun k hk hl => b_adb wa hwa ev f1 k hk (b_top _ hc wa hwa hwc k hk hl)
      generalize adn wa ev = g at g1 g2 hg top
      by_cases q : g = 0
      · have key := bars_n mC' iL hg q (K := fun _ => some (-(nI 3), U')) (L_c L) 0 n (by omega) (by omega)
        exact pk (x := -(nI 3)) (by simp (disch := omega) only [w1, e_10, w3, c1, f2, g1, q, letv, o_b, ↓reduceIte, e_sub, e_add, e_mul, e_ld, e_st, e_lt, e_nlt, e_le, e_nle, e_eq, e_neq, e_div, e_rem, m_lt, m_le, m_eq, m_eq2, m_ng, o_ld, true_and, and_true, Nat.one_ne_zero, Nat.zero_ne_one, Nat.reduceEqDiff, Bool.false_eq_true, not_true_eq_false, not_false_eq_true, li_0, li_1, li_2, li_3, li_4, li_5, li_6, li_7, li_8, li_9, li_10, li_11, li_12, li_13, li_14, li_15, li_16, li_20, li_23, li_25, li_30, li_31, li_32, li_38, li_40, li_41, li_44, li_48, li_50, li_51, li_52, li_57, li_59, li_60, li_61, li_62, li_63, li_66, li_81, li_94, li_97, li_98, li_99, li_100, li_101, li_103, li_104, li_105, li_107, li_108, li_109, li_110, li_111, li_112, li_114, li_115, li_116, li_117, li_118, li_122, li_200, li_572, li_600, li_9999, li_10000, li_12345, li_1103515245]) (by simp (disch := omega) only [w2, isb1, e_10, w4, c2, key, letv, o_b, ↓reduceIte, e_sub, e_add, e_mul, e_ld, e_st, e_lt, e_nlt, e_le, e_nle, e_eq, e_neq, e_div, e_rem, m_lt, m_le, m_eq, m_eq2, m_ng, o_ld, true_and, and_true, Nat.one_ne_zero, Nat.zero_ne_one, Nat.reduceEqDiff, Bool.false_eq_true, not_true_eq_false, not_false_eq_true, li_0, li_1, li_2, li_3, li_4, li_5, li_6, li_7, li_8, li_9, li_10, li_11, li_12, li_13, li_14, li_15, li_16, li_20, li_23, li_25, li_30, li_31, li_32, li_38, li_40, li_41, li_44, li_48, li_50, li_51, li_52, li_57, li_59, li_60, li_61, li_62, li_63, li_66, li_81, li_94, li_97, li_98, li_99, li_100, li_101, li_103, li_104, li_105, li_107, li_108, li_109, li_110, li_111, li_112, li_114, li_115, li_116, li_117, li_118, li_122, li_200, li_572, li_600, li_9999, li_10000, li_12345, li_1103515245]) rfl (h.ask (tr_NF c8) (tr_OV c8) c9 c10)
      · obtain ⟨k, k1, k2, k3⟩ := b_fs g g2 q
        have hk : k < L_c L := by
          by_cases q2 : k < L_c L
          · exact q2
          · have := top k k1 (by omega)
            omega
        have key := bars_l (ev := 0) mC' iL hg g2 hk k2 k3 (K := fun _ => some (-(nI 3), U')) k 0 n (by omega) (by omega)
        exact pk (x := nI k) (by simp (disch := omega) only [w1, e_10, w3, c1, f2, g1, b_ntz g g2 k k1 k2 k3, letv, o_b, ↓reduceIte, e_sub, e_add, e_mul, e_ld, e_st, e_lt, e_nlt, e_le, e_nle, e_eq, e_neq, e_div, e_rem, m_lt, m_le, m_eq, m_eq2, m_ng, o_ld, true_and, and_true, Nat.one_ne_zero, Nat.zero_ne_one, Nat.reduceEqDiff, Bool.false_eq_true, not_true_eq_false, not_false_eq_true, li_0, li_1, li_2, li_3, li_4, li_5, li_6, li_7, li_8, li_9, li_10, li_11, li_12, li_13, li_14, li_15, li_16, li_20, li_23, li_25, li_30, li_31, li_32, li_38, li_40, li_41, li_44, li_48, li_50, li_51, li_52, li_57, li_59, li_60, li_61, li_62, li_63, li_66, li_81, li_94, li_97, li_98, li_99, li_100, li_101, li_103, li_104, li_105, li_107, li_108, li_109, li_110, li_111, li_112, li_114, li_115, li_116, li_117, li_118, li_122, li_200, li_572, li_600, li_9999, li_10000, li_12345, li_1103515245]) (by simp (disch := omega) only [w2, isb1, e_10, w4, c2, key, letv, o_b, ↓reduceIte, e_sub, e_add, e_mul, e_ld, e_st, e_lt, e_nlt, e_le, e_nle, e_eq, e_neq, e_div, e_rem, m_lt, m_le, m_eq, m_eq2, m_ng, o_ld, true_and, and_true, Nat.one_ne_zero, Nat.zero_ne_one, Nat.reduceEqDiff, Bool.false_eq_true, not_true_eq_false, not_false_eq_true, li_0, li_1, li_2, li_3, li_4, li_5, li_6, li_7, li_8, li_9, li_10, li_11, li_12, li_13, li_14, li_15, li_16, li_20, li_23, li_25, li_30, li_31, li_32, li_38, li_40, li_41, li_44, li_48, li_50, li_51, li_52, li_57, li_59, li_60, li_61, li_62, li_63, li_66, li_81, li_94, li_97, li_98, li_99, li_100, li_101, li_103, li_104, li_105, li_107, li_108, li_109, li_110, li_111, li_112, li_114, li_115, li_116, li_117, li_118, li_122, li_200, li_572, li_600, li_9999, li_10000, li_12345, li_1103515245]) rfl (h.ask (tr_NF c8) (tr_OV c8) c9 c10)
    · exact pkx (-(nI 1)) (by simp (disch := omega) only [w1, e_10, w3, letv, o_b, ↓reduceIte, e_sub, e_add, e_mul, e_ld, e_st, e_lt, e_nlt, e_le, e_nle, e_eq, e_neq, e_div, e_rem, m_lt, m_le, m_eq, m_eq2, m_ng, o_ld, true_and, and_true, Nat.one_ne_zero, Nat.zero_ne_one, Nat.reduceEqDiff, Bool.false_eq_true, not_true_eq_false, not_false_eq_true, li_0, li_1, li_2, li_3, li_4, li_5, li_6, li_7, li_8, li_9, li_10, li_11, li_12, li_13, li_14, li_15, li_16, li_20, li_23, li_25, li_30, li_31, li_32, li_38, li_40, li_41, li_44, li_48, li_50, li_51, li_52, li_57, li_59, li_60, li_61, li_62, li_63, li_66, li_81, li_94, li_97, li_98, li_99, li_100, li_101, li_103, li_104, li_105, li_107, li_108, li_109, li_110, li_111, li_112, li_114, li_115, li_116, li_117, li_118, li_122, li_200, li_572, li_600, li_9999, li_10000, li_12345, li_1103515245]) (by simp (disch := omega) only [w2, isb1, e_10, w4, letv, o_b, ↓reduceIte, e_sub, e_add, e_mul, e_ld, e_st, e_lt, e_nlt, e_le, e_nle, e_eq, e_neq, e_div, e_rem, m_lt, m_le, m_eq, m_eq2, m_ng, o_ld, true_and, and_true, Nat.one_ne_zero, Nat.zero_ne_one, Nat.reduceEqDiff, Bool.false_eq_true, not_true_eq_false, not_false_eq_true, li_0, li_1, li_2, li_3, li_4, li_5, li_6, li_7, li_8, li_9, li_10, li_11, li_12, li_13, li_14, li_15, li_16, li_20, li_23, li_25, li_30, li_31, li_32, li_38, li_40, li_41, li_44, li_48, li_50, li_51, li_52, li_57, li_59, li_60, li_61, li_62, li_63, li_66, li_81, li_94, li_97, li_98, li_99, li_100, li_101, li_103, li_104, li_105, li_107, li_108, li_109, li_110, li_111, li_112, li_114, li_115, li_116, li_117, li_118, li_122, li_200, li_572, li_600, li_9999, li_10000, li_12345, li_1103515245]) h
  · exact pkx (-(nI 1)) (by simp (disch := omega) only [w1, letv, o_b, ↓reduceIte, e_sub, e_add, e_mul, e_ld, e_st, e_lt, e_nlt, e_le, e_nle, e_eq, e_neq, e_div, e_rem, m_lt, m_le, m_eq, m_eq2, m_ng, o_ld, true_and, and_true, Nat.one_ne_zero, Nat.zero_ne_one, Nat.reduceEqDiff, Bool.false_eq_true, not_true_eq_false, not_false_eq_true, li_0, li_1, li_2, li_3, li_4, li_5, li_6, li_7, li_8, li_9, li_10, li_11, li_12, li_13, li_14, li_15, li_16, li_20, li_23, li_25, li_30, li_31, li_32, li_38, li_40, li_41, li_44, li_48, li_50, li_51, li_52, li_57, li_59, li_60, li_61, li_62, li_63, li_66, li_81, li_94, li_97, li_98, li_99, li_100, li_101, li_103, li_104, li_105, li_107, li_108, li_109, li_110, li_111, li_112, li_114, li_115, li_116, li_117, li_118, li_122, li_200, li_572, li_600, li_9999, li_10000, li_12345, li_1103515245]) (by simp (disch := omega) only [w2, isb0, letv, o_b, ↓reduceIte, e_sub, e_add, e_mul, e_ld, e_st, e_lt, e_nlt, e_le, e_nle, e_eq, e_neq, e_div, e_rem, m_lt, m_le, m_eq, m_eq2, m_ng, o_ld, true_and, and_true, Nat.one_ne_zero, Nat.zero_ne_one, Nat.reduceEqDiff, Bool.false_eq_true, not_true_eq_false, not_false_eq_true, li_0, li_1, li_2, li_3, li_4, li_5, li_6, li_7, li_8, li_9, li_10, li_11, li_12, li_13, li_14, li_15, li_16, li_20, li_23, li_25, li_30, li_31, li_32, li_38, li_40, li_41, li_44, li_48, li_50, li_51, li_52, li_57, li_59, li_60, li_61, li_62, li_63, li_66, li_81, li_94, li_97, li_98, li_99, li_100, li_101, li_103, li_104, li_105, li_107, li_108, li_109, li_110, li_111, li_112, li_114, li_115, li_116, li_117, li_118, li_122, li_200, li_572, li_600, li_9999, li_10000, li_12345, li_1103515245]) h
end P3
