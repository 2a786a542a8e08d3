/-! the class's laundry, tied to the numbers -/
def LC (V : V2) (a : Nat) (L : Ld) : Prop := V a 0 = nI (L_w L) ∧ V a 1 = nI (L_c L) ∧ V a 2 = nI (L_f L) ∧ ∀ k, k < 6 → V (a + 1) k = nI (L_t L k 0) ∧ V (a + 2) k = nI (L_t L k 1) ∧ V (a + 3) k = nI (L_t L k 2) ∧ V (a + 4) k = nI (L_t L k 3)
def CF (a : Nat) (V V' : V2) : Prop := ∀ x, x < a ∨ a + 4 < x → V' x = V x
def RuC (G : G2) (V : V2) (y z kd wl m : Nat) (g : Nat → Nat × Nat × Nat) : Prop := z + 93 ≤ y ∧ ownB G y 14 = true ∧ V y 0 = nI kd ∧ V y 1 = nI wl ∧ G.2.2.1 (y + 1) = 3 * m ∧ ∀ j, j < m → V (y + 1) (3 * j) = nI (g j).1 ∧ V (y + 1) (3 * j + 1) = nI (g j).2.1 ∧ V (y + 1) (3 * j + 2) = nI (g j).2.2
def EC (G : G2) (V : V2) (R : R2) (z Y : Nat) (E : En) : Prop := V Y 1 = nI (E_en E) ∧ V Y 8 = nI (E_rc E) ∧ (∀ i, i < 16 → V (Y + 6) i = nI (E_ir E i)) ∧ (∀ i, i < 6 → V (Y + 7) i = nI (E_wt E i) ∧ V (Y + 8) i = nI (E_rp E i)) ∧ ∀ i, i < E_rc E → ∃ y, R (Y + 9) i = some y ∧ RuC G V y z (E_rk E i) (E_rw E i) (E_rm E i) (E_rs E i)
/-- the load's place a is none of the rows of what it goes by -/
def AD (z Y a : Nat) : Prop := (Y < a ∧ a + 4 < Y + 6 ∨ Y + 8 < a) ∧ a + 4 < z + 93 ∧ Y + 9 < z + 93
theorem CF.rf {a : Nat} {V : V2} : CF a V V := fun _ _ => rfl
theorem CF.tr {a : Nat} {V V' V'' : V2} (h : CF a V V') (h2 : CF a V' V'') : CF a V V'' := fun x hx => (h2 x hx).trans (h x hx)
theorem CF.up {a x k : Nat} {V : V2} {v : Int32} (h : a ≤ x ∧ x ≤ a + 4) : CF a V (up2 V x k v) := fun y hy => w_row (by omega)
theorem RuC.fr {G : G2} {V V' : V2} {y z kd wl m : Nat} {g : Nat → Nat × Nat × Nat} (h : RuC G V y z kd wl m g) (hV : ∀ x, z + 93 ≤ x → V' x = V x) : RuC G V' y z kd wl m g := by
  obtain ⟨h1, h2, h3, h4, h5, h6⟩ := h
  refine ⟨h1, h2, ?_, ?_, h5, fun j hj => ?_⟩
  · rw [hV y h1]; exact h3
  · rw [hV y h1]; exact h4
  · rw [hV (y + 1) (by omega)]; exact h6 j hj
theorem EC.fr {G : G2} {V V' : V2} {R : R2} {z Y : Nat} {E : En} (h : EC G V R z Y E) (h1 : V' Y 1 = V Y 1) (h2 : V' Y 8 = V Y 8) (hV : ∀ x, Y + 6 ≤ x ∧ x ≤ Y + 8 ∨ z + 93 ≤ x → V' x = V x) : EC G V' R z Y E := by
  obtain ⟨g1, g2, g3, g4, g5⟩ := h
  refine ⟨h1.trans g1, h2.trans g2, fun i hi => ?_, fun i hi => ?_, fun i hi => ?_⟩
  · rw [hV (Y + 6) (by omega)]; exact g3 i hi
  · rw [hV (Y + 7) (by omega), hV (Y + 8) (by omega)]; exact g4 i hi
  · obtain ⟨y, hy, hr⟩ := g5 i hi
    exact ⟨y, hy, hr.fr fun x hx => hV x (Or.inr hx)⟩
theorem EC.cf {G : G2} {V V' : V2} {R : R2} {z Y a : Nat} {E : En} (h : EC G V R z Y E) (ha : AD z Y a) (hc : CF a V V') : EC G V' R z Y E := by
  obtain ⟨h1, h2, h3⟩ := ha
  have hY : V' Y = V Y := hc Y (by omega)
  exact h.fr (by rw [hY]) (by rw [hY]) fun x hx => hc x (by omega)
section C1
variable {n z Y a : Nat} {G : G2} {V : V2} {R : R2} {E : En} {L : Ld}
theorem c_flat (h : LC V a L) (hL : IL L) {k : Nat} (hk : k < 6) : pX2_isFlat V a (nI k) = some (nI (bt (L_f L) k)) := by
  unfold pX2_isFlat
  rw [h.2.2.1]
  simp (disch := omega) only [b_flat _ hL.2.2.1 k hk, letv, o_b, ↓reduceIte, e_sub, e_add, e_mul, e_ld, e_st, e_lt, e_nlt, e_le, e_nle, e_eq, e_neq, e_div, e_rem, m_lt, m_le, m_eq, m_eq2, m_ng, o_ld, true_and, and_true, Nat.one_ne_zero, Nat.zero_ne_one, Nat.reduceEqDiff, Bool.false_eq_true, not_true_eq_false, not_false_eq_true, li_0, li_1, li_2, li_3, li_4, li_5, li_6, li_7, li_8, li_9, li_10, li_11, li_12, li_13, li_14, li_15, li_16, li_20, li_23, li_25, li_30, li_31, li_32, li_38, li_40, li_41, li_44, li_48, li_50, li_51, li_52, li_57, li_59, li_60, li_61, li_62, li_63, li_66, li_81, li_94, li_97, li_98, li_99, li_100, li_101, li_103, li_104, li_105, li_107, li_108, li_109, li_110, li_111, li_112, li_114, li_115, li_116, li_117, li_118, li_122, li_200, li_572, li_600, li_9999, li_10000, li_12345, li_1103515245]
  rcases bt_01 (L_f L) k with q | q <;> rw [q] <;> simp (disch := omega) only [letv, o_b, ↓reduceIte, e_sub, e_add, e_mul, e_ld, e_st, e_lt, e_nlt, e_le, e_nle, e_eq, e_neq, e_div, e_rem, m_lt, m_le, m_eq, m_eq2, m_ng, o_ld, true_and, and_true, Nat.one_ne_zero, Nat.zero_ne_one, Nat.reduceEqDiff, Bool.false_eq_true, not_true_eq_false, not_false_eq_true, li_0, li_1, li_2, li_3, li_4, li_5, li_6, li_7, li_8, li_9, li_10, li_11, li_12, li_13, li_14, li_15, li_16, li_20, li_23, li_25, li_30, li_31, li_32, li_38, li_40, li_41, li_44, li_48, li_50, li_51, li_52, li_57, li_59, li_60, li_61, li_62, li_63, li_66, li_81, li_94, li_97, li_98, li_99, li_100, li_101, li_103, li_104, li_105, li_107, li_108, li_109, li_110, li_111, li_112, li_114, li_115, li_116, li_117, li_118, li_122, li_200, li_572, li_600, li_9999, li_10000, li_12345, li_1103515245]
theorem c_setF {f k : Nat} (h : V a 2 = nI f) (hf : f < 64) (hk : k < 6) : pX2_setFlat V a (nI k) (nI 1) = some (up2 V a 2 (nI (stB f k))) := by
  unfold pX2_setFlat
  rw [h]
  simp (disch := omega) only [b_set _ hf k hk, letv, o_b, ↓reduceIte, e_sub, e_add, e_mul, e_ld, e_st, e_lt, e_nlt, e_le, e_nle, e_eq, e_neq, e_div, e_rem, m_lt, m_le, m_eq, m_eq2, m_ng, o_ld, true_and, and_true, Nat.one_ne_zero, Nat.zero_ne_one, Nat.reduceEqDiff, Bool.false_eq_true, not_true_eq_false, not_false_eq_true, li_0, li_1, li_2, li_3, li_4, li_5, li_6, li_7, li_8, li_9, li_10, li_11, li_12, li_13, li_14, li_15, li_16, li_20, li_23, li_25, li_30, li_31, li_32, li_38, li_40, li_41, li_44, li_48, li_50, li_51, li_52, li_57, li_59, li_60, li_61, li_62, li_63, li_66, li_81, li_94, li_97, li_98, li_99, li_100, li_101, li_103, li_104, li_105, li_107, li_108, li_109, li_110, li_111, li_112, li_114, li_115, li_116, li_117, li_118, li_122, li_200, li_572, li_600, li_9999, li_10000, li_12345, li_1103515245]
theorem c_clrF {f k : Nat} (h : V a 2 = nI f) (hf : f < 64) (hk : k < 6) : pX2_setFlat V a (nI k) (nI 0) = some (up2 V a 2 (nI (clB f k))) := by
  unfold pX2_setFlat
  rw [h]
  simp (disch := omega) only [b_clr _ hf k hk, letv, o_b, ↓reduceIte, e_sub, e_add, e_mul, e_ld, e_st, e_lt, e_nlt, e_le, e_nle, e_eq, e_neq, e_div, e_rem, m_lt, m_le, m_eq, m_eq2, m_ng, o_ld, true_and, and_true, Nat.one_ne_zero, Nat.zero_ne_one, Nat.reduceEqDiff, Bool.false_eq_true, not_true_eq_false, not_false_eq_true, li_0, li_1, li_2, li_3, li_4, li_5, li_6, li_7, li_8, li_9, li_10, li_11, li_12, li_13, li_14, li_15, li_16, li_20, li_23, li_25, li_30, li_31, li_32, li_38, li_40, li_41, li_44, li_48, li_50, li_51, li_52, li_57, li_59, li_60, li_61, li_62, li_63, li_66, li_81, li_94, li_97, li_98, li_99, li_100, li_101, li_103, li_104, li_105, li_107, li_108, li_109, li_110, li_111, li_112, li_114, li_115, li_116, li_117, li_118, li_122, li_200, li_572, li_600, li_9999, li_10000, li_12345, li_1103515245]
theorem c_iron (hE : EC G V R z Y E) {w : Nat} (hw : w < 100) : pX1_ironAt V Y (nI w) = some (nI (irA E w)) := by
  unfold pX1_ironAt irA
  by_cases h : w < 16
  · simp (disch := omega) only [hE.2.2.1 w h, h, letv, o_b, ↓reduceIte, e_sub, e_add, e_mul, e_ld, e_st, e_lt, e_nlt, e_le, e_nle, e_eq, e_neq, e_div, e_rem, m_lt, m_le, m_eq, m_eq2, m_ng, o_ld, true_and, and_true, Nat.one_ne_zero, Nat.zero_ne_one, Nat.reduceEqDiff, Bool.false_eq_true, not_true_eq_false, not_false_eq_true, li_0, li_1, li_2, li_3, li_4, li_5, li_6, li_7, li_8, li_9, li_10, li_11, li_12, li_13, li_14, li_15, li_16, li_20, li_23, li_25, li_30, li_31, li_32, li_38, li_40, li_41, li_44, li_48, li_50, li_51, li_52, li_57, li_59, li_60, li_61, li_62, li_63, li_66, li_81, li_94, li_97, li_98, li_99, li_100, li_101, li_103, li_104, li_105, li_107, li_108, li_109, li_110, li_111, li_112, li_114, li_115, li_116, li_117, li_118, li_122, li_200, li_572, li_600, li_9999, li_10000, li_12345, li_1103515245]
  · simp (disch := omega) only [h, letv, o_b, ↓reduceIte, e_sub, e_add, e_mul, e_ld, e_st, e_lt, e_nlt, e_le, e_nle, e_eq, e_neq, e_div, e_rem, m_lt, m_le, m_eq, m_eq2, m_ng, o_ld, true_and, and_true, Nat.one_ne_zero, Nat.zero_ne_one, Nat.reduceEqDiff, Bool.false_eq_true, not_true_eq_false, not_false_eq_true, li_0, li_1, li_2, li_3, li_4, li_5, li_6, li_7, li_8, li_9, li_10, li_11, li_12, li_13, li_14, li_15, li_16, li_20, li_23, li_25, li_30, li_31, li_32, li_38, li_40, li_41, li_44, li_48, li_50, li_51, li_52, li_57, li_59, li_60, li_61, li_62, li_63, li_66, li_81, li_94, li_97, li_98, li_99, li_100, li_101, li_103, li_104, li_105, li_107, li_108, li_109, li_110, li_111, li_112, li_114, li_115, li_116, li_117, li_118, li_122, li_200, li_572, li_600, li_9999, li_10000, li_12345, li_1103515245]
theorem c_sigh (hE : EC G V R z Y E) (hi : IE E) (h : LC V a L) (hL : IL L) : pX1_sighNow V Y a = some (nI (sgh E L)) := by
  have h1 := irA_le hi (L_w L)
  have h2 := hL.1
  unfold pX1_sighNow sgh
  rw [h.1, c_iron hE (by omega)]
  simp (disch := omega) only [letv, o_b, ↓reduceIte, e_sub, e_add, e_mul, e_ld, e_st, e_lt, e_nlt, e_le, e_nle, e_eq, e_neq, e_div, e_rem, m_lt, m_le, m_eq, m_eq2, m_ng, o_ld, true_and, and_true, Nat.one_ne_zero, Nat.zero_ne_one, Nat.reduceEqDiff, Bool.false_eq_true, not_true_eq_false, not_false_eq_true, li_0, li_1, li_2, li_3, li_4, li_5, li_6, li_7, li_8, li_9, li_10, li_11, li_12, li_13, li_14, li_15, li_16, li_20, li_23, li_25, li_30, li_31, li_32, li_38, li_40, li_41, li_44, li_48, li_50, li_51, li_52, li_57, li_59, li_60, li_61, li_62, li_63, li_66, li_81, li_94, li_97, li_98, li_99, li_100, li_101, li_103, li_104, li_105, li_107, li_108, li_109, li_110, li_111, li_112, li_114, li_115, li_116, li_117, li_118, li_122, li_200, li_572, li_600, li_9999, li_10000, li_12345, li_1103515245]
theorem c_steam (hE : EC G V R z Y E) (hi : IE E) (h : LC V a L) (hL : IL L) : pX1_steamNow V Y a = some (nI (stm E L)) := by
  have h1 := irA_le hi (L_w L)
  have h2 := hL.1
  unfold pX1_steamNow stm
  rw [h.1, c_iron hE (by omega)]
  simp (disch := omega) only [letv, o_b, ↓reduceIte, e_sub, e_add, e_mul, e_ld, e_st, e_lt, e_nlt, e_le, e_nle, e_eq, e_neq, e_div, e_rem, m_lt, m_le, m_eq, m_eq2, m_ng, o_ld, true_and, and_true, Nat.one_ne_zero, Nat.zero_ne_one, Nat.reduceEqDiff, Bool.false_eq_true, not_true_eq_false, not_false_eq_true, li_0, li_1, li_2, li_3, li_4, li_5, li_6, li_7, li_8, li_9, li_10, li_11, li_12, li_13, li_14, li_15, li_16, li_20, li_23, li_25, li_30, li_31, li_32, li_38, li_40, li_41, li_44, li_48, li_50, li_51, li_52, li_57, li_59, li_60, li_61, li_62, li_63, li_66, li_81, li_94, li_97, li_98, li_99, li_100, li_101, li_103, li_104, li_105, li_107, li_108, li_109, li_110, li_111, li_112, li_114, li_115, li_116, li_117, li_118, li_122, li_200, li_572, li_600, li_9999, li_10000, li_12345, li_1103515245]
theorem c_swell {kd k sg w : Nat} (h1 : 1 ≤ kd) (h2 : kd ≤ 5) (hk : k < 6) (hs : sg ≤ 3) (hw : w ≤ 16) : pX8_swelling (nI kd) (nI k) (nI sg) (nI w) = some (nI (swA kd k sg w)) := by
  unfold pX8_swelling swA
  rcases (show kd = 1 ∨ kd = 2 ∨ kd = 3 ∨ kd = 4 ∨ kd = 5 by omega) with rfl | rfl | rfl | rfl | rfl <;> simp (disch := omega) only [e_jmax, letv, o_b, ↓reduceIte, e_sub, e_add, e_mul, e_ld, e_st, e_lt, e_nlt, e_le, e_nle, e_eq, e_neq, e_div, e_rem, m_lt, m_le, m_eq, m_eq2, m_ng, o_ld, true_and, and_true, Nat.one_ne_zero, Nat.zero_ne_one, Nat.reduceEqDiff, Bool.false_eq_true, not_true_eq_false, not_false_eq_true, li_0, li_1, li_2, li_3, li_4, li_5, li_6, li_7, li_8, li_9, li_10, li_11, li_12, li_13, li_14, li_15, li_16, li_20, li_23, li_25, li_30, li_31, li_32, li_38, li_40, li_41, li_44, li_48, li_50, li_51, li_52, li_57, li_59, li_60, li_61, li_62, li_63, li_66, li_81, li_94, li_97, li_98, li_99, li_100, li_101, li_103, li_104, li_105, li_107, li_108, li_109, li_110, li_111, li_112, li_114, li_115, li_116, li_117, li_118, li_122, li_200, li_572, li_600, li_9999, li_10000, li_12345, li_1103515245] <;> rfl
theorem c_need {kd bk cr : Nat} (h1 : 1 ≤ kd) (h2 : kd ≤ 5) (hb : bk ≤ 99) (hc : cr ≤ 9) : pX8_needing (nI kd) (nI bk) (nI cr) = some (nI (ndA kd bk cr)) := by
  unfold pX8_needing ndA
  rcases (show kd = 1 ∨ kd = 2 ∨ kd = 3 ∨ kd = 4 ∨ kd = 5 by omega) with rfl | rfl | rfl | rfl | rfl <;> simp (disch := omega) only [letv, o_b, ↓reduceIte, e_sub, e_add, e_mul, e_ld, e_st, e_lt, e_nlt, e_le, e_nle, e_eq, e_neq, e_div, e_rem, m_lt, m_le, m_eq, m_eq2, m_ng, o_ld, true_and, and_true, Nat.one_ne_zero, Nat.zero_ne_one, Nat.reduceEqDiff, Bool.false_eq_true, not_true_eq_false, not_false_eq_true, li_0, li_1, li_2, li_3, li_4, li_5, li_6, li_7, li_8, li_9, li_10, li_11, li_12, li_13, li_14, li_15, li_16, li_20, li_23, li_25, li_30, li_31, li_32, li_38, li_40, li_41, li_44, li_48, li_50, li_51, li_52, li_57, li_59, li_60, li_61, li_62, li_63, li_66, li_81, li_94, li_97, li_98, li_99, li_100, li_101, li_103, li_104, li_105, li_107, li_108, li_109, li_110, li_111, li_112, li_114, li_115, li_116, li_117, li_118, li_122, li_200, li_572, li_600, li_9999, li_10000, li_12345, li_1103515245] <;> rfl
theorem c_swl (hE : EC G V R z Y E) (hi : IE E) (h : LC V a L) (hL : IL L) {k : Nat} (hk : k < L_c L) : pX1_swells V Y a (nI k) (nI (sgh E L)) = some (nI (swl E L k)) := by
  have hc := hL.2.1
  have hk6 : k < 6 := by omega
  obtain ⟨t0, t1, t2, t3⟩ := h.2.2.2 k hk6
  obtain ⟨i0, i1, i2, i3, i4⟩ := hL.2.2.2.2 k hk6
  have i1 := i1 hk
  have hr := (hE.2.2.2.1 (L_t L k 3) (by omega)).2
  have hr9 := (hi.2.2.2.1 (L_t L k 3) (by omega)).2
  have hs := swA_le (kd := L_t L k 0) (w := L_w L) hk6 (sgh_le E L)
  unfold pX1_swells swl
  simp (disch := omega) only [t0, t3, h.1, c_swell i1 i0 hk6 (sgh_le E L) hL.1, hr, e_jmax, letv, o_b, ↓reduceIte, e_sub, e_add, e_mul, e_ld, e_st, e_lt, e_nlt, e_le, e_nle, e_eq, e_neq, e_div, e_rem, m_lt, m_le, m_eq, m_eq2, m_ng, o_ld, true_and, and_true, Nat.one_ne_zero, Nat.zero_ne_one, Nat.reduceEqDiff, Bool.false_eq_true, not_true_eq_false, not_false_eq_true, li_0, li_1, li_2, li_3, li_4, li_5, li_6, li_7, li_8, li_9, li_10, li_11, li_12, li_13, li_14, li_15, li_16, li_20, li_23, li_25, li_30, li_31, li_32, li_38, li_40, li_41, li_44, li_48, li_50, li_51, li_52, li_57, li_59, li_60, li_61, li_62, li_63, li_66, li_81, li_94, li_97, li_98, li_99, li_100, li_101, li_103, li_104, li_105, li_107, li_108, li_109, li_110, li_111, li_112, li_114, li_115, li_116, li_117, li_118, li_122, li_200, li_572, li_600, li_9999, li_10000, li_12345, li_1103515245]
theorem c_flo_l (h : LC V a L) (hL : IL L) {bd : Nat} (hb : bd < 6) : ∀ m x f acc, x + m = L_c L → m < f → lX2_flatOn_4 V a (nI bd) f (nI acc) (nI x) = some (nI (acc + smA (fun k => if bt (L_f L) k = 1 ∧ L_t L k 3 = bd then 1 else 0) x m)) := by
  have hc := hL.2.1
  intro m
  induction m with
  | zero =>
    intro x f acc h1 h2
    obtain ⟨f, rfl⟩ : ∃ g, f = g + 1 := ⟨f - 1, by omega⟩
    unfold lX2_flatOn_4
    simp (disch := omega) only [h.2.1, smA, Nat.add_zero, letv, o_b, ↓reduceIte, e_sub, e_add, e_mul, e_ld, e_st, e_lt, e_nlt, e_le, e_nle, e_eq, e_neq, e_div, e_rem, m_lt, m_le, m_eq, m_eq2, m_ng, o_ld, true_and, and_true, Nat.one_ne_zero, Nat.zero_ne_one, Nat.reduceEqDiff, Bool.false_eq_true, not_true_eq_false, not_false_eq_true, li_0, li_1, li_2, li_3, li_4, li_5, li_6, li_7, li_8, li_9, li_10, li_11, li_12, li_13, li_14, li_15, li_16, li_20, li_23, li_25, li_30, li_31, li_32, li_38, li_40, li_41, li_44, li_48, li_50, li_51, li_52, li_57, li_59, li_60, li_61, li_62, li_63, li_66, li_81, li_94, li_97, li_98, li_99, li_100, li_101, li_103, li_104, li_105, li_107, li_108, li_109, li_110, li_111, li_112, li_114, li_115, li_116, li_117, li_118, li_122, li_200, li_572, li_600, li_9999, li_10000, li_12345, li_1103515245]
  | succ m ih =>
    intro x f acc h1 h2
    obtain ⟨f, rfl⟩ : ∃ g, f = g + 1 := ⟨f - 1, by omega⟩
    have hk : x < 6 := by omega
    have hd := (hL.2.2.2.2 x hk).2.2.2.2
    have ht := (h.2.2.2 x hk).2.2.2
    unfold lX2_flatOn_4
    unfold smA
    rcases bt_01 (L_f L) x with q | q
    · simp (disch := omega) only [h.2.1, c_flat h hL hk, q, ih (x + 1) f acc (by omega) (by omega), Nat.zero_add, false_and, Nat.zero_ne_one, letv, o_b, ↓reduceIte, e_sub, e_add, e_mul, e_ld, e_st, e_lt, e_nlt, e_le, e_nle, e_eq, e_neq, e_div, e_rem, m_lt, m_le, m_eq, m_eq2, m_ng, o_ld, true_and, and_true, Nat.one_ne_zero, Nat.zero_ne_one, Nat.reduceEqDiff, Bool.false_eq_true, not_true_eq_false, not_false_eq_true, li_0, li_1, li_2, li_3, li_4, li_5, li_6, li_7, li_8, li_9, li_10, li_11, li_12, li_13, li_14, li_15, li_16, li_20, li_23, li_25, li_30, li_31, li_32, li_38, li_40, li_41, li_44, li_48, li_50, li_51, li_52, li_57, li_59, li_60, li_61, li_62, li_63, li_66, li_81, li_94, li_97, li_98, li_99, li_100, li_101, li_103, li_104, li_105, li_107, li_108, li_109, li_110, li_111, li_112, li_114, li_115, li_116, li_117, li_118, li_122, li_200, li_572, li_600, li_9999, li_10000, li_12345, li_1103515245]
    · by_cases hq : L_t L x 3 = bd
      · simp (disch := omega) only [h.2.1, c_flat h hL hk, q, ht, hq, ih (x + 1) f (acc + 1) (by omega) (by omega), Nat.add_assoc, letv, o_b, ↓reduceIte, e_sub, e_add, e_mul, e_ld, e_st, e_lt, e_nlt, e_le, e_nle, e_eq, e_neq, e_div, e_rem, m_lt, m_le, m_eq, m_eq2, m_ng, o_ld, true_and, and_true, Nat.one_ne_zero, Nat.zero_ne_one, Nat.reduceEqDiff, Bool.false_eq_true, not_true_eq_false, not_false_eq_true, li_0, li_1, li_2, li_3, li_4, li_5, li_6, li_7, li_8, li_9, li_10, li_11, li_12, li_13, li_14, li_15, li_16, li_20, li_23, li_25, li_30, li_31, li_32, li_38, li_40, li_41, li_44, li_48, li_50, li_51, li_52, li_57, li_59, li_60, li_61, li_62, li_63, li_66, li_81, li_94, li_97, li_98, li_99, li_100, li_101, li_103, li_104, li_105, li_107, li_108, li_109, li_110, li_111, li_112, li_114, li_115, li_116, li_117, li_118, li_122, li_200, li_572, li_600, li_9999, li_10000, li_12345, li_1103515245]
      · simp (disch := omega) only [h.2.1, c_flat h hL hk, q, ht, hq, ih (x + 1) f acc (by omega) (by omega), Nat.zero_add, letv, o_b, ↓reduceIte, e_sub, e_add, e_mul, e_ld, e_st, e_lt, e_nlt, e_le, e_nle, e_eq, e_neq, e_div, e_rem, m_lt, m_le, m_eq, m_eq2, m_ng, o_ld, true_and, and_true, Nat.one_ne_zero, Nat.zero_ne_one, Nat.reduceEqDiff, Bool.false_eq_true, not_true_eq_false, not_false_eq_true, li_0, li_1, li_2, li_3, li_4, li_5, li_6, li_7, li_8, li_9, li_10, li_11, li_12, li_13, li_14, li_15, li_16, li_20, li_23, li_25, li_30, li_31, li_32, li_38, li_40, li_41, li_44, li_48, li_50, li_51, li_52, li_57, li_59, li_60, li_61, li_62, li_63, li_66, li_81, li_94, li_97, li_98, li_99, li_100, li_101, li_103, li_104, li_105, li_107, li_108, li_109, li_110, li_111, li_112, li_114, li_115, li_116, li_117, li_118, li_122, li_200, li_572, li_600, li_9999, li_10000, li_12345, li_1103515245]
theorem c_flo (hn : 1000 ≤ n) (h : LC V a L) (hL : IL L) {bd : Nat} (hb : bd < 6) : pX2_flatOn n V a (nI bd) = some (nI (flo L bd)) := by
  have hc := hL.2.1
  unfold pX2_flatOn
  simp (disch := omega) only [c_flo_l h hL hb (L_c L) 0 n 0 (by omega) (by omega), Nat.zero_add, letv, o_b, ↓reduceIte, e_sub, e_add, e_mul, e_ld, e_st, e_lt, e_nlt, e_le, e_nle, e_eq, e_neq, e_div, e_rem, m_lt, m_le, m_eq, m_eq2, m_ng, o_ld, true_and, and_true, Nat.one_ne_zero, Nat.zero_ne_one, Nat.reduceEqDiff, Bool.false_eq_true, not_true_eq_false, not_false_eq_true, li_0, li_1, li_2, li_3, li_4, li_5, li_6, li_7, li_8, li_9, li_10, li_11, li_12, li_13, li_14, li_15, li_16, li_20, li_23, li_25, li_30, li_31, li_32, li_38, li_40, li_41, li_44, li_48, li_50, li_51, li_52, li_57, li_59, li_60, li_61, li_62, li_63, li_66, li_81, li_94, li_97, li_98, li_99, li_100, li_101, li_103, li_104, li_105, li_107, li_108, li_109, li_110, li_111, li_112, li_114, li_115, li_116, li_117, li_118, li_122, li_200, li_572, li_600, li_9999, li_10000, li_12345, li_1103515245]
  rfl
theorem c_pays (hn : 1000 ≤ n) (hE : EC G V R z Y E) (hi : IE E) (h : LC V a L) (hL : IL L) {k st : Nat} (hk : k < L_c L) (hs : st ≤ 3) : pX1_pays n V Y a (nI k) (nI st) = some (nI (pyA E L k st)) := by
  have hc := hL.2.1
  have hk6 : k < 6 := by omega
  obtain ⟨t0, t1, t2, t3⟩ := h.2.2.2 k hk6
  obtain ⟨i0, i1, i2, i3, i4⟩ := hL.2.2.2.2 k hk6
  have i1 := i1 hk
  have hw := (hE.2.2.2.1 (L_t L k 3) (by omega)).1
  have hw9 := (hi.2.2.2.1 (L_t L k 3) (by omega)).1
  have hf := flo_le hL (L_t L k 3)
  have hd := ndA_le (kd := L_t L k 0) i2 i3
  have hp := prs_le hi hL hk6 hs
  unfold pX1_pays pyA
  rcases bt_01 (L_f L) k with q | q
  · rw [c_flat h hL hk6, q]
    by_cases hq : ndL L k ≤ prs E L k st
    · have hq' := hq
      unfold ndL prs at hq'
      simp (disch := omega) only [t0, t1, t2, t3, hw, c_flo hn h hL (show L_t L k 3 < 6 by omega), c_need i1 i0 i2 i3, hq, letv, o_b, ↓reduceIte, e_sub, e_add, e_mul, e_ld, e_st, e_lt, e_nlt, e_le, e_nle, e_eq, e_neq, e_div, e_rem, m_lt, m_le, m_eq, m_eq2, m_ng, o_ld, true_and, and_true, Nat.one_ne_zero, Nat.zero_ne_one, Nat.reduceEqDiff, Bool.false_eq_true, not_true_eq_false, not_false_eq_true, li_0, li_1, li_2, li_3, li_4, li_5, li_6, li_7, li_8, li_9, li_10, li_11, li_12, li_13, li_14, li_15, li_16, li_20, li_23, li_25, li_30, li_31, li_32, li_38, li_40, li_41, li_44, li_48, li_50, li_51, li_52, li_57, li_59, li_60, li_61, li_62, li_63, li_66, li_81, li_94, li_97, li_98, li_99, li_100, li_101, li_103, li_104, li_105, li_107, li_108, li_109, li_110, li_111, li_112, li_114, li_115, li_116, li_117, li_118, li_122, li_200, li_572, li_600, li_9999, li_10000, li_12345, li_1103515245]
    · have hq' := hq
      unfold ndL prs at hq'
      simp (disch := omega) only [t0, t1, t2, t3, hw, c_flo hn h hL (show L_t L k 3 < 6 by omega), c_need i1 i0 i2 i3, hq, and_false, letv, o_b, ↓reduceIte, e_sub, e_add, e_mul, e_ld, e_st, e_lt, e_nlt, e_le, e_nle, e_eq, e_neq, e_div, e_rem, m_lt, m_le, m_eq, m_eq2, m_ng, o_ld, true_and, and_true, Nat.one_ne_zero, Nat.zero_ne_one, Nat.reduceEqDiff, Bool.false_eq_true, not_true_eq_false, not_false_eq_true, li_0, li_1, li_2, li_3, li_4, li_5, li_6, li_7, li_8, li_9, li_10, li_11, li_12, li_13, li_14, li_15, li_16, li_20, li_23, li_25, li_30, li_31, li_32, li_38, li_40, li_41, li_44, li_48, li_50, li_51, li_52, li_57, li_59, li_60, li_61, li_62, li_63, li_66, li_81, li_94, li_97, li_98, li_99, li_100, li_101, li_103, li_104, li_105, li_107, li_108, li_109, li_110, li_111, li_112, li_114, li_115, li_116, li_117, li_118, li_122, li_200, li_572, li_600, li_9999, li_10000, li_12345, li_1103515245]
  · rw [c_flat h hL hk6, q]
    simp (disch := omega) only [false_and, Nat.one_ne_zero, letv, o_b, ↓reduceIte, e_sub, e_add, e_mul, e_ld, e_st, e_lt, e_nlt, e_le, e_nle, e_eq, e_neq, e_div, e_rem, m_lt, m_le, m_eq, m_eq2, m_ng, o_ld, true_and, and_true, Nat.one_ne_zero, Nat.zero_ne_one, Nat.reduceEqDiff, Bool.false_eq_true, not_true_eq_false, not_false_eq_true, li_0, li_1, li_2, li_3, li_4, li_5, li_6, li_7, li_8, li_9, li_10, li_11, li_12, li_13, li_14, li_15, li_16, li_20, li_23, li_25, li_30, li_31, li_32, li_38, li_40, li_41, li_44, li_48, li_50, li_51, li_52, li_57, li_59, li_60, li_61, li_62, li_63, li_66, li_81, li_94, li_97, li_98, li_99, li_100, li_101, li_103, li_104, li_105, li_107, li_108, li_109, li_110, li_111, li_112, li_114, li_115, li_116, li_117, li_118, li_122, li_200, li_572, li_600, li_9999, li_10000, li_12345, li_1103515245]
theorem un_st {kd a x f : Nat} {K : Unit → Option Int32} (h5 : kd ≤ 5) (ha : a ≤ 5) (hx : x < 6) : lX8_isOrIsUnder_4 (nI a) (f + 1) (nI kd) (nI x) K = if kd = a then some (nI 1) else lX8_isOrIsUnder_4 (nI a) f (abvT.getD kd 0) (nI (x + 1)) K := by
  have w0 : pX8_within (nI kd) (nI 0) (nI 5) = some (nI 1) := by
    unfold pX8_within
    simp (disch := omega) only [letv, o_b, ↓reduceIte, e_sub, e_add, e_mul, e_ld, e_st, e_lt, e_nlt, e_le, e_nle, e_eq, e_neq, e_div, e_rem, m_lt, m_le, m_eq, m_eq2, m_ng, o_ld, true_and, and_true, Nat.one_ne_zero, Nat.zero_ne_one, Nat.reduceEqDiff, Bool.false_eq_true, not_true_eq_false, not_false_eq_true, li_0, li_1, li_2, li_3, li_4, li_5, li_6, li_7, li_8, li_9, li_10, li_11, li_12, li_13, li_14, li_15, li_16, li_20, li_23, li_25, li_30, li_31, li_32, li_38, li_40, li_41, li_44, li_48, li_50, li_51, li_52, li_57, li_59, li_60, li_61, li_62, li_63, li_66, li_81, li_94, li_97, li_98, li_99, li_100, li_101, li_103, li_104, li_105, li_107, li_108, li_109, li_110, li_111, li_112, li_114, li_115, li_116, li_117, li_118, li_122, li_200, li_572, li_600, li_9999, li_10000, li_12345, li_1103515245]
  have e : (nI 6 - nI 1 : Int32) = nI 5 := by decide
  conv => lhs; unfold lX8_isOrIsUnder_4
  by_cases q : kd = a
  · subst q
    simp (disch := omega) only [li_1, li_0, e, w0, o_b, e_nle, e_neq, ↓reduceIte]
  · simp (disch := omega) only [li_1, li_0, e, w0, o_b, e_nle, e_neq, ↓reduceIte, q, e_ld, letv, e_add]
theorem un_en {a x f : Nat} {K : Unit → Option Int32} (hx : x < 6) : lX8_isOrIsUnder_4 (nI a) (f + 1) (-1) (nI x) K = K () := by
  have w1 : pX8_within (-1) (nI 0) (nI 6 - nI 1) = some (nI 0) := by decide +kernel
  conv => lhs; unfold lX8_isOrIsUnder_4
  rw [show (0 : Int32) = nI 0 from rfl, show (1 : Int32) = nI 1 from rfl] at *
  simp (disch := omega) only [w1, o_b, e_nle, ↓reduceIte]
theorem c_und_l {kd a : Nat} (h5 : kd ≤ 5) (ha : a ≤ 5) {f : Nat} (hf : 7 < f) : lX8_isOrIsUnder_4 (nI a) f (nI kd) (nI 0) (fun _ => some (nI 0)) = some (nI (if unA kd a = true then 1 else 0)) := by
  obtain ⟨f, rfl⟩ : ∃ g, f = g + 1 + 1 + 1 + 1 := ⟨f - 4, by omega⟩
  have t0 : abvT.getD 0 0 = -1 := by decide
  have t1 : abvT.getD 1 0 = nI 0 := by decide
  have t2 : abvT.getD 2 0 = nI 0 := by decide
  have t3 : abvT.getD 3 0 = nI 2 := by decide
  have t4 : abvT.getD 4 0 = nI 0 := by decide
  have t5 : abvT.getD 5 0 = nI 4 := by decide
  rcases (show kd = 0 ∨ kd = 1 ∨ kd = 2 ∨ kd = 3 ∨ kd = 4 ∨ kd = 5 by omega) with rfl | rfl | rfl | rfl | rfl | rfl
  · rw [un_st (by omega) ha (by omega), t0, un_en (by omega)]
    rcases (show a = 0 ∨ a = 1 ∨ a = 2 ∨ a = 3 ∨ a = 4 ∨ a = 5 by omega) with rfl | rfl | rfl | rfl | rfl | rfl <;> rfl
  · rw [un_st (by omega) ha (by omega), t1, un_st (by omega) ha (by omega), t0, un_en (by omega)]
    rcases (show a = 0 ∨ a = 1 ∨ a = 2 ∨ a = 3 ∨ a = 4 ∨ a = 5 by omega) with rfl | rfl | rfl | rfl | rfl | rfl <;> rfl
  · rw [un_st (by omega) ha (by omega), t2, un_st (by omega) ha (by omega), t0, un_en (by omega)]
    rcases (show a = 0 ∨ a = 1 ∨ a = 2 ∨ a = 3 ∨ a = 4 ∨ a = 5 by omega) with rfl | rfl | rfl | rfl | rfl | rfl <;> rfl
  · rw [un_st (by omega) ha (by omega), t3, un_st (by omega) ha (by omega), t2, un_st (by omega) ha (by omega), t0, un_en (by omega)]
    rcases (show a = 0 ∨ a = 1 ∨ a = 2 ∨ a = 3 ∨ a = 4 ∨ a = 5 by omega) with rfl | rfl | rfl | rfl | rfl | rfl <;> rfl
  · rw [un_st (by omega) ha (by omega), t4, un_st (by omega) ha (by omega), t0, un_en (by omega)]
    rcases (show a = 0 ∨ a = 1 ∨ a = 2 ∨ a = 3 ∨ a = 4 ∨ a = 5 by omega) with rfl | rfl | rfl | rfl | rfl | rfl <;> rfl
  · rw [un_st (by omega) ha (by omega), t5, un_st (by omega) ha (by omega), t4, un_st (by omega) ha (by omega), t0, un_en (by omega)]
    rcases (show a = 0 ∨ a = 1 ∨ a = 2 ∨ a = 3 ∨ a = 4 ∨ a = 5 by omega) with rfl | rfl | rfl | rfl | rfl | rfl <;> rfl
theorem c_und (hn : 1000 ≤ n) {kd b : Nat} (h5 : kd ≤ 5) (hb : b ≤ 5) : pX8_isOrIsUnder n V (nI kd) (nI b) = some (nI (if unA kd b then 1 else 0)) := by
  unfold pX8_isOrIsUnder
  exact c_und_l h5 hb (by omega)
theorem c_val (h : LC V a L) {k v : Nat} (hk : k < 6) (hv : v ≤ 10004) : pX4_valueOf V (nI v) a (nI k) (nI (stm E L)) = some (nI (fcA E L k v)) := by
  obtain ⟨t0, t1, t2, t3⟩ := h.2.2.2 k hk
  unfold pX4_valueOf fcA
  by_cases hq : v < 10000
  · have e : nI v - nI 10000 = -(nI (10000 - v)) := by rw [← e_sub (a := 10000) (b := v) (by omega), Int32.neg_sub]
    simp (disch := omega) only [e, show ¬ v = 10000 by omega, show ¬ v = 10001 by omega, show ¬ v = 10002 by omega, show ¬ v = 10003 by omega, show ¬ v = 10004 by omega, letv, o_b, ↓reduceIte, e_sub, e_add, e_mul, e_ld, e_st, e_lt, e_nlt, e_le, e_nle, e_eq, e_neq, e_div, e_rem, m_lt, m_le, m_eq, m_eq2, m_ng, o_ld, true_and, and_true, Nat.one_ne_zero, Nat.zero_ne_one, Nat.reduceEqDiff, Bool.false_eq_true, not_true_eq_false, not_false_eq_true, li_0, li_1, li_2, li_3, li_4, li_5, li_6, li_7, li_8, li_9, li_10, li_11, li_12, li_13, li_14, li_15, li_16, li_20, li_23, li_25, li_30, li_31, li_32, li_38, li_40, li_41, li_44, li_48, li_50, li_51, li_52, li_57, li_59, li_60, li_61, li_62, li_63, li_66, li_81, li_94, li_97, li_98, li_99, li_100, li_101, li_103, li_104, li_105, li_107, li_108, li_109, li_110, li_111, li_112, li_114, li_115, li_116, li_117, li_118, li_122, li_200, li_572, li_600, li_9999, li_10000, li_12345, li_1103515245]
  · rcases (show v = 10000 ∨ v = 10001 ∨ v = 10002 ∨ v = 10003 ∨ v = 10004 by omega) with rfl | rfl | rfl | rfl | rfl <;> simp (disch := omega) only [h.1, t1, t2, Nat.reduceSub, Nat.reduceEqDiff, letv, o_b, ↓reduceIte, e_sub, e_add, e_mul, e_ld, e_st, e_lt, e_nlt, e_le, e_nle, e_eq, e_neq, e_div, e_rem, m_lt, m_le, m_eq, m_eq2, m_ng, o_ld, true_and, and_true, Nat.one_ne_zero, Nat.zero_ne_one, Nat.reduceEqDiff, Bool.false_eq_true, not_true_eq_false, not_false_eq_true, li_0, li_1, li_2, li_3, li_4, li_5, li_6, li_7, li_8, li_9, li_10, li_11, li_12, li_13, li_14, li_15, li_16, li_20, li_23, li_25, li_30, li_31, li_32, li_38, li_40, li_41, li_44, li_48, li_50, li_51, li_52, li_57, li_59, li_60, li_61, li_62, li_63, li_66, li_81, li_94, li_97, li_98, li_99, li_100, li_101, li_103, li_104, li_105, li_107, li_108, li_109, li_110, li_111, li_112, li_114, li_115, li_116, li_117, li_118, li_122, li_200, li_572, li_600, li_9999, li_10000, li_12345, li_1103515245]
theorem fcA_le (hi : IE E) (hL : IL L) {k v : Nat} (hk : k < 6) (hv : v ≤ 10004) : fcA E L k v ≤ 10004 := by
  have h1 := hL.1
  obtain ⟨i0, i1, i2, i3, i4⟩ := hL.2.2.2.2 k hk
  have h2 := stm_le (L := L) hi
  unfold fcA
  split
  · omega
  split
  · omega
  split
  · omega
  split
  · omega
  split <;> omega
theorem c_cmp {op x y : Nat} (ho : op < 3) (hx : x < 2147483648) (hy : y < 2147483648) : pX4_compares (nI op) (nI x) (nI y) = some (nI (cpA op x y)) := by
  unfold pX4_compares cpA
  rcases (show op = 0 ∨ op = 1 ∨ op = 2 by omega) with rfl | rfl | rfl
  · by_cases h : x < y
    · simp (disch := omega) only [h, letv, o_b, ↓reduceIte, e_sub, e_add, e_mul, e_ld, e_st, e_lt, e_nlt, e_le, e_nle, e_eq, e_neq, e_div, e_rem, m_lt, m_le, m_eq, m_eq2, m_ng, o_ld, true_and, and_true, Nat.one_ne_zero, Nat.zero_ne_one, Nat.reduceEqDiff, Bool.false_eq_true, not_true_eq_false, not_false_eq_true, li_0, li_1, li_2, li_3, li_4, li_5, li_6, li_7, li_8, li_9, li_10, li_11, li_12, li_13, li_14, li_15, li_16, li_20, li_23, li_25, li_30, li_31, li_32, li_38, li_40, li_41, li_44, li_48, li_50, li_51, li_52, li_57, li_59, li_60, li_61, li_62, li_63, li_66, li_81, li_94, li_97, li_98, li_99, li_100, li_101, li_103, li_104, li_105, li_107, li_108, li_109, li_110, li_111, li_112, li_114, li_115, li_116, li_117, li_118, li_122, li_200, li_572, li_600, li_9999, li_10000, li_12345, li_1103515245]
    · simp (disch := omega) only [h, letv, o_b, ↓reduceIte, e_sub, e_add, e_mul, e_ld, e_st, e_lt, e_nlt, e_le, e_nle, e_eq, e_neq, e_div, e_rem, m_lt, m_le, m_eq, m_eq2, m_ng, o_ld, true_and, and_true, Nat.one_ne_zero, Nat.zero_ne_one, Nat.reduceEqDiff, Bool.false_eq_true, not_true_eq_false, not_false_eq_true, li_0, li_1, li_2, li_3, li_4, li_5, li_6, li_7, li_8, li_9, li_10, li_11, li_12, li_13, li_14, li_15, li_16, li_20, li_23, li_25, li_30, li_31, li_32, li_38, li_40, li_41, li_44, li_48, li_50, li_51, li_52, li_57, li_59, li_60, li_61, li_62, li_63, li_66, li_81, li_94, li_97, li_98, li_99, li_100, li_101, li_103, li_104, li_105, li_107, li_108, li_109, li_110, li_111, li_112, li_114, li_115, li_116, li_117, li_118, li_122, li_200, li_572, li_600, li_9999, li_10000, li_12345, li_1103515245]
  · by_cases h : x = y
    · simp (disch := omega) only [h, letv, o_b, ↓reduceIte, e_sub, e_add, e_mul, e_ld, e_st, e_lt, e_nlt, e_le, e_nle, e_eq, e_neq, e_div, e_rem, m_lt, m_le, m_eq, m_eq2, m_ng, o_ld, true_and, and_true, Nat.one_ne_zero, Nat.zero_ne_one, Nat.reduceEqDiff, Bool.false_eq_true, not_true_eq_false, not_false_eq_true, li_0, li_1, li_2, li_3, li_4, li_5, li_6, li_7, li_8, li_9, li_10, li_11, li_12, li_13, li_14, li_15, li_16, li_20, li_23, li_25, li_30, li_31, li_32, li_38, li_40, li_41, li_44, li_48, li_50, li_51, li_52, li_57, li_59, li_60, li_61, li_62, li_63, li_66, li_81, li_94, li_97, li_98, li_99, li_100, li_101, li_103, li_104, li_105, li_107, li_108, li_109, li_110, li_111, li_112, li_114, li_115, li_116, li_117, li_118, li_122, li_200, li_572, li_600, li_9999, li_10000, li_12345, li_1103515245]
    · simp (disch := omega) only [h, letv, o_b, ↓reduceIte, e_sub, e_add, e_mul, e_ld, e_st, e_lt, e_nlt, e_le, e_nle, e_eq, e_neq, e_div, e_rem, m_lt, m_le, m_eq, m_eq2, m_ng, o_ld, true_and, and_true, Nat.one_ne_zero, Nat.zero_ne_one, Nat.reduceEqDiff, Bool.false_eq_true, not_true_eq_false, not_false_eq_true, li_0, li_1, li_2, li_3, li_4, li_5, li_6, li_7, li_8, li_9, li_10, li_11, li_12, li_13, li_14, li_15, li_16, li_20, li_23, li_25, li_30, li_31, li_32, li_38, li_40, li_41, li_44, li_48, li_50, li_51, li_52, li_57, li_59, li_60, li_61, li_62, li_63, li_66, li_81, li_94, li_97, li_98, li_99, li_100, li_101, li_103, li_104, li_105, li_107, li_108, li_109, li_110, li_111, li_112, li_114, li_115, li_116, li_117, li_118, li_122, li_200, li_572, li_600, li_9999, li_10000, li_12345, li_1103515245]
  · by_cases h : y < x
    · simp (disch := omega) only [h, Nat.reduceEqDiff, letv, o_b, ↓reduceIte, e_sub, e_add, e_mul, e_ld, e_st, e_lt, e_nlt, e_le, e_nle, e_eq, e_neq, e_div, e_rem, m_lt, m_le, m_eq, m_eq2, m_ng, o_ld, true_and, and_true, Nat.one_ne_zero, Nat.zero_ne_one, Nat.reduceEqDiff, Bool.false_eq_true, not_true_eq_false, not_false_eq_true, li_0, li_1, li_2, li_3, li_4, li_5, li_6, li_7, li_8, li_9, li_10, li_11, li_12, li_13, li_14, li_15, li_16, li_20, li_23, li_25, li_30, li_31, li_32, li_38, li_40, li_41, li_44, li_48, li_50, li_51, li_52, li_57, li_59, li_60, li_61, li_62, li_63, li_66, li_81, li_94, li_97, li_98, li_99, li_100, li_101, li_103, li_104, li_105, li_107, li_108, li_109, li_110, li_111, li_112, li_114, li_115, li_116, li_117, li_118, li_122, li_200, li_572, li_600, li_9999, li_10000, li_12345, li_1103515245]
    · simp (disch := omega) only [h, Nat.reduceEqDiff, letv, o_b, ↓reduceIte, e_sub, e_add, e_mul, e_ld, e_st, e_lt, e_nlt, e_le, e_nle, e_eq, e_neq, e_div, e_rem, m_lt, m_le, m_eq, m_eq2, m_ng, o_ld, true_and, and_true, Nat.one_ne_zero, Nat.zero_ne_one, Nat.reduceEqDiff, Bool.false_eq_true, not_true_eq_false, not_false_eq_true, li_0, li_1, li_2, li_3, li_4, li_5, li_6, li_7, li_8, li_9, li_10, li_11, li_12, li_13, li_14, li_15, li_16, li_20, li_23, li_25, li_30, li_31, li_32, li_38, li_40, li_41, li_44, li_48, li_50, li_51, li_52, li_57, li_59, li_60, li_61, li_62, li_63, li_66, li_81, li_94, li_97, li_98, li_99, li_100, li_101, li_103, li_104, li_105, li_107, li_108, li_109, li_110, li_111, li_112, li_114, li_115, li_116, li_117, li_118, li_122, li_200, li_572, li_600, li_9999, li_10000, li_12345, li_1103515245]
theorem t_and : ∀ st, st < 1024 → (nI st >>> (nI 1 &&& nI 31)) &&& ((nI st &&& nI 1) ||| -(nI 2)) = nI (anT st) := by decide +kernel
theorem t_or : ∀ st, st < 1024 → (nI st >>> (nI 1 &&& nI 31)) ||| (nI st &&& nI 1) = nI (orT st) := by decide +kernel
theorem t_not : ∀ st, st < 1024 → nI st ^^^ nI 1 = nI (ntT st) := by decide +kernel
theorem t_p0 : ∀ st, st < 1024 → (nI st <<< (nI 1 &&& nI 31)) ||| nI 0 = nI (2 * st + 0) := by decide +kernel
theorem t_p1 : ∀ st, st < 1024 → (nI st <<< (nI 1 &&& nI 31)) ||| nI 1 = nI (2 * st + 1) := by decide +kernel
theorem t_bit : ∀ st, st < 1024 → nI st &&& nI 1 = nI (st % 2) := by decide +kernel
theorem c_holds_l (hi : IE E) (h : LC V a L) (hL : IL L) {k y M : Nat} {g : Nat → Nat × Nat × Nat} (hk : k < 6) (hM : M ≤ 100) (hy : G.2.2.1 (y + 1) = 3 * M) (hg : ∀ j, j < M → V (y + 1) (3 * j) = nI (g j).1 ∧ V (y + 1) (3 * j + 1) = nI (g j).2.1 ∧ V (y + 1) (3 * j + 2) = nI (g j).2.2) :
    ∀ m j d st f, j + m = M → m < f → d ≤ 9 → st < 2 ^ (d + 1) → prB g d j m → lX4_holds_6 G V y a (nI k) (nI (stm E L)) f (nI st) (nI (3 * j)) = some (nI (rnA E L k g st j m)) ∧ rnA E L k g st j m < 1024 := by
  intro m
  induction m with
  | zero =>
    intro j d st f h1 h2 hd hst hp
    obtain ⟨f, rfl⟩ : ∃ g, f = g + 1 := ⟨f - 1, by omega⟩
    have hs : st < 1024 := Nat.lt_of_lt_of_le hst (Nat.pow_le_pow_right (n := 2) (by omega) (show d + 1 ≤ 10 by omega))
    unfold lX4_holds_6 rnA
    rw [hy]
    refine ⟨?_, hs⟩
    simp (disch := omega) only [letv, o_b, ↓reduceIte, e_sub, e_add, e_mul, e_ld, e_st, e_lt, e_nlt, e_le, e_nle, e_eq, e_neq, e_div, e_rem, m_lt, m_le, m_eq, m_eq2, m_ng, o_ld, true_and, and_true, Nat.one_ne_zero, Nat.zero_ne_one, Nat.reduceEqDiff, Bool.false_eq_true, not_true_eq_false, not_false_eq_true, li_0, li_1, li_2, li_3, li_4, li_5, li_6, li_7, li_8, li_9, li_10, li_11, li_12, li_13, li_14, li_15, li_16, li_20, li_23, li_25, li_30, li_31, li_32, li_38, li_40, li_41, li_44, li_48, li_50, li_51, li_52, li_57, li_59, li_60, li_61, li_62, li_63, li_66, li_81, li_94, li_97, li_98, li_99, li_100, li_101, li_103, li_104, li_105, li_107, li_108, li_109, li_110, li_111, li_112, li_114, li_115, li_116, li_117, li_118, li_122, li_200, li_572, li_600, li_9999, li_10000, li_12345, li_1103515245]
  | succ m ih =>
    intro j d st f h1 h2 hd hst hp
    obtain ⟨f, rfl⟩ : ∃ g, f = g + 1 := ⟨f - 1, by omega⟩
    have hs : st < 1024 := Nat.lt_of_lt_of_le hst (Nat.pow_le_pow_right (n := 2) (by omega) (show d + 1 ≤ 10 by omega))
    obtain ⟨p1, p2, p3, p4, p5⟩ := hp
    obtain ⟨g1, g2, g3⟩ := hg j (by omega)
    have hst' := spA_lt (E := E) (L := L) (k := k) p1 hst
    have ih' := ih (j + 1) (dpA (g j).1 d) (spA E L k (g j) st) f (by omega) (by omega) p4 hst' p5
    rw [show 3 * (j + 1) = 3 * j + 3 by omega] at ih'
    have b1 := fcA_le hi hL hk p2
    have b2 := fcA_le hi hL hk p3
    unfold rnA
    have go : ∀ v, spA E L k (g j) st = v → (lX4_holds_6 G V y a (nI k) (nI (stm E L)) f (nI v) (nI (3 * j + 3)) = some (nI (rnA E L k g (spA E L k (g j) st) (j + 1) m)) → lX4_holds_6 G V y a (nI k) (nI (stm E L)) (f + 1) (nI st) (nI (3 * j)) = some (nI (rnA E L k g (spA E L k (g j) st) (j + 1) m))) → lX4_holds_6 G V y a (nI k) (nI (stm E L)) (f + 1) (nI st) (nI (3 * j)) = some (nI (rnA E L k g (spA E L k (g j) st) (j + 1) m)) := fun v hv hh => hh (by rw [← hv]; exact ih'.1)
    refine ⟨?_, ih'.2⟩
    generalize rnA E L k g (spA E L k (g j) st) (j + 1) m = res at go ⊢
    rcases (show (g j).1 < 3 ∨ (g j).1 = 3 ∨ (g j).1 = 4 ∨ (g j).1 = 5 by omega) with q | q | q | q
    · have q0 := cpA_le (g j).1 (fcA E L k (g j).2.1) (fcA E L k (g j).2.2)
      rcases (show cpA (g j).1 (fcA E L k (g j).2.1) (fcA E L k (g j).2.2) = 0 ∨ cpA (g j).1 (fcA E L k (g j).2.1) (fcA E L k (g j).2.2) = 1 by omega) with c0 | c0
      · refine go (2 * st + 0) (by unfold spA; rw [if_pos q, c0]) fun ih => ?_
        unfold lX4_holds_6
        rw [hy]
        simp (disch := omega) only [g1, g2, g3, c_val (E := E) h hk p2, c_val (E := E) h hk p3, c_cmp q (show fcA E L k (g j).2.1 < 2147483648 by omega) (show fcA E L k (g j).2.2 < 2147483648 by omega), c0, t_p0 st hs, ih, letv, o_b, ↓reduceIte, e_sub, e_add, e_mul, e_ld, e_st, e_lt, e_nlt, e_le, e_nle, e_eq, e_neq, e_div, e_rem, m_lt, m_le, m_eq, m_eq2, m_ng, o_ld, true_and, and_true, Nat.one_ne_zero, Nat.zero_ne_one, Nat.reduceEqDiff, Bool.false_eq_true, not_true_eq_false, not_false_eq_true, li_0, li_1, li_2, li_3, li_4, li_5, li_6, li_7, li_8, li_9, li_10, li_11, li_12, li_13, li_14, li_15, li_16, li_20, li_23, li_25, li_30, li_31, li_32, li_38, li_40, li_41, li_44, li_48, li_50, li_51, li_52, li_57, li_59, li_60, li_61, li_62, li_63, li_66, li_81, li_94, li_97, li_98, li_99, li_100, li_101, li_103, li_104, li_105, li_107, li_108, li_109, li_110, li_111, li_112, li_114, li_115, li_116, li_117, li_118, li_122, li_200, li_572, li_600, li_9999, li_10000, li_12345, li_1103515245]
      · refine go (2 * st + 1) (by unfold spA; rw [if_pos q, c0]) fun ih => ?_
        unfold lX4_holds_6
        rw [hy]
        simp (disch := omega) only [g1, g2, g3, c_val (E := E) h hk p2, c_val (E := E) h hk p3, c_cmp q (show fcA E L k (g j).2.1 < 2147483648 by omega) (show fcA E L k (g j).2.2 < 2147483648 by omega), c0, t_p1 st hs, ih, letv, o_b, ↓reduceIte, e_sub, e_add, e_mul, e_ld, e_st, e_lt, e_nlt, e_le, e_nle, e_eq, e_neq, e_div, e_rem, m_lt, m_le, m_eq, m_eq2, m_ng, o_ld, true_and, and_true, Nat.one_ne_zero, Nat.zero_ne_one, Nat.reduceEqDiff, Bool.false_eq_true, not_true_eq_false, not_false_eq_true, li_0, li_1, li_2, li_3, li_4, li_5, li_6, li_7, li_8, li_9, li_10, li_11, li_12, li_13, li_14, li_15, li_16, li_20, li_23, li_25, li_30, li_31, li_32, li_38, li_40, li_41, li_44, li_48, li_50, li_51, li_52, li_57, li_59, li_60, li_61, li_62, li_63, li_66, li_81, li_94, li_97, li_98, li_99, li_100, li_101, li_103, li_104, li_105, li_107, li_108, li_109, li_110, li_111, li_112, li_114, li_115, li_116, li_117, li_118, li_122, li_200, li_572, li_600, li_9999, li_10000, li_12345, li_1103515245]
    · refine go (anT st) (by unfold spA; rw [if_neg (by omega), if_pos q]) fun ih => ?_
      unfold lX4_holds_6
      rw [hy]
      simp (disch := omega) only [g1, q, t_and st hs, ih, letv, o_b, ↓reduceIte, e_sub, e_add, e_mul, e_ld, e_st, e_lt, e_nlt, e_le, e_nle, e_eq, e_neq, e_div, e_rem, m_lt, m_le, m_eq, m_eq2, m_ng, o_ld, true_and, and_true, Nat.one_ne_zero, Nat.zero_ne_one, Nat.reduceEqDiff, Bool.false_eq_true, not_true_eq_false, not_false_eq_true, li_0, li_1, li_2, li_3, li_4, li_5, li_6, li_7, li_8, li_9, li_10, li_11, li_12, li_13, li_14, li_15, li_16, li_20, li_23, li_25, li_30, li_31, li_32, li_38, li_40, li_41, li_44, li_48, li_50, li_51, li_52, li_57, li_59, li_60, li_61, li_62, li_63, li_66, li_81, li_94, li_97, li_98, li_99, li_100, li_101, li_103, li_104, li_105, li_107, li_108, li_109, li_110, li_111, li_112, li_114, li_115, li_116, li_117, li_118, li_122, li_200, li_572, li_600, li_9999, li_10000, li_12345, li_1103515245]
    · refine go (orT st) (by unfold spA; rw [if_neg (by omega), if_neg (by omega), if_pos q]) fun ih => ?_
      unfold lX4_holds_6
      rw [hy]
      simp (disch := omega) only [g1, q, t_or st hs, ih, letv, o_b, ↓reduceIte, e_sub, e_add, e_mul, e_ld, e_st, e_lt, e_nlt, e_le, e_nle, e_eq, e_neq, e_div, e_rem, m_lt, m_le, m_eq, m_eq2, m_ng, o_ld, true_and, and_true, Nat.one_ne_zero, Nat.zero_ne_one, Nat.reduceEqDiff, Bool.false_eq_true, not_true_eq_false, not_false_eq_true, li_0, li_1, li_2, li_3, li_4, li_5, li_6, li_7, li_8, li_9, li_10, li_11, li_12, li_13, li_14, li_15, li_16, li_20, li_23, li_25, li_30, li_31, li_32, li_38, li_40, li_41, li_44, li_48, li_50, li_51, li_52, li_57, li_59, li_60, li_61, li_62, li_63, li_66, li_81, li_94, li_97, li_98, li_99, li_100, li_101, li_103, li_104, li_105, li_107, li_108, li_109, li_110, li_111, li_112, li_114, li_115, li_116, li_117, li_118, li_122, li_200, li_572, li_600, li_9999, li_10000, li_12345, li_1103515245]
    · refine go (ntT st) (by unfold spA; rw [if_neg (by omega), if_neg (by omega), if_neg (by omega)]) fun ih => ?_
      unfold lX4_holds_6
      rw [hy]
      simp (disch := omega) only [g1, q, t_not st hs, ih, letv, o_b, ↓reduceIte, e_sub, e_add, e_mul, e_ld, e_st, e_lt, e_nlt, e_le, e_nle, e_eq, e_neq, e_div, e_rem, m_lt, m_le, m_eq, m_eq2, m_ng, o_ld, true_and, and_true, Nat.one_ne_zero, Nat.zero_ne_one, Nat.reduceEqDiff, Bool.false_eq_true, not_true_eq_false, not_false_eq_true, li_0, li_1, li_2, li_3, li_4, li_5, li_6, li_7, li_8, li_9, li_10, li_11, li_12, li_13, li_14, li_15, li_16, li_20, li_23, li_25, li_30, li_31, li_32, li_38, li_40, li_41, li_44, li_48, li_50, li_51, li_52, li_57, li_59, li_60, li_61, li_62, li_63, li_66, li_81, li_94, li_97, li_98, li_99, li_100, li_101, li_103, li_104, li_105, li_107, li_108, li_109, li_110, li_111, li_112, li_114, li_115, li_116, li_117, li_118, li_122, li_200, li_572, li_600, li_9999, li_10000, li_12345, li_1103515245]
theorem c_holds (hn : 1000 ≤ n) (hi : IE E) (h : LC V a L) (hL : IL L) {k i y : Nat} (hk : k < 6) (hr : i < E_rc E) (hy : RuC G V y z (E_rk E i) (E_rw E i) (E_rm E i) (E_rs E i)) : pX4_holds n G V y a (nI k) (nI (stm E L)) = some (nI (if hlA E L k i then 1 else 0)) := by
  obtain ⟨-, -, r3, r4⟩ := hi.2.2.2.2.2 i hr
  have key := c_holds_l hi h hL hk r3 hy.2.2.2.2.1 hy.2.2.2.2.2 (E_rm E i) 0 0 1 n (by omega) (by omega) (by omega) (by decide) r4
  unfold pX4_holds hlA
  rw [show nI (3 * 0) = nI 0 from rfl] at key
  by_cases q : rnA E L k (E_rs E i) 1 0 (E_rm E i) % 2 = 1
  · simp (disch := omega) only [key.1, t_bit _ key.2, q, decide_true, letv, o_b, ↓reduceIte, e_sub, e_add, e_mul, e_ld, e_st, e_lt, e_nlt, e_le, e_nle, e_eq, e_neq, e_div, e_rem, m_lt, m_le, m_eq, m_eq2, m_ng, o_ld, true_and, and_true, Nat.one_ne_zero, Nat.zero_ne_one, Nat.reduceEqDiff, Bool.false_eq_true, not_true_eq_false, not_false_eq_true, li_0, li_1, li_2, li_3, li_4, li_5, li_6, li_7, li_8, li_9, li_10, li_11, li_12, li_13, li_14, li_15, li_16, li_20, li_23, li_25, li_30, li_31, li_32, li_38, li_40, li_41, li_44, li_48, li_50, li_51, li_52, li_57, li_59, li_60, li_61, li_62, li_63, li_66, li_81, li_94, li_97, li_98, li_99, li_100, li_101, li_103, li_104, li_105, li_107, li_108, li_109, li_110, li_111, li_112, li_114, li_115, li_116, li_117, li_118, li_122, li_200, li_572, li_600, li_9999, li_10000, li_12345, li_1103515245]
  · simp (disch := omega) only [key.1, t_bit _ key.2, show rnA E L k (E_rs E i) 1 0 (E_rm E i) % 2 = 0 by omega, Nat.zero_ne_one, decide_false, letv, o_b, ↓reduceIte, e_sub, e_add, e_mul, e_ld, e_st, e_lt, e_nlt, e_le, e_nle, e_eq, e_neq, e_div, e_rem, m_lt, m_le, m_eq, m_eq2, m_ng, o_ld, true_and, and_true, Nat.one_ne_zero, Nat.zero_ne_one, Nat.reduceEqDiff, Bool.false_eq_true, not_true_eq_false, not_false_eq_true, li_0, li_1, li_2, li_3, li_4, li_5, li_6, li_7, li_8, li_9, li_10, li_11, li_12, li_13, li_14, li_15, li_16, li_20, li_23, li_25, li_30, li_31, li_32, li_38, li_40, li_41, li_44, li_48, li_50, li_51, li_52, li_57, li_59, li_60, li_61, li_62, li_63, li_66, li_81, li_94, li_97, li_98, li_99, li_100, li_101, li_103, li_104, li_105, li_107, li_108, li_109, li_110, li_111, li_112, li_114, li_115, li_116, li_117, li_118, li_122, li_200, li_572, li_600, li_9999, li_10000, li_12345, li_1103515245]
theorem c_will_l (hn : 1000 ≤ n) (hE : EC G V R z Y E) (hi : IE E) (h : LC V a L) (hL : IL L) {k : Nat} (hk : k < 6) {K : Unit → Option Int32} : ∀ m x f, x + m = E_rc E → m < f → lX1_will_3 n G V R Y a (nI k) (nI (stm E L)) f (nI x) K = if fsA (tlA E L k) x m = 0 then K () else some (nI (E_rw E (fsA (tlA E L k) x m - 1))) := by
  have hc := hi.2.2.2.2.1
  intro m
  induction m with
  | zero =>
    intro x f h1 h2
    obtain ⟨f, rfl⟩ : ∃ g, f = g + 1 := ⟨f - 1, by omega⟩
    unfold lX1_will_3
    simp (disch := omega) only [hE.2.1, fsA, letv, o_b, ↓reduceIte, e_sub, e_add, e_mul, e_ld, e_st, e_lt, e_nlt, e_le, e_nle, e_eq, e_neq, e_div, e_rem, m_lt, m_le, m_eq, m_eq2, m_ng, o_ld, true_and, and_true, Nat.one_ne_zero, Nat.zero_ne_one, Nat.reduceEqDiff, Bool.false_eq_true, not_true_eq_false, not_false_eq_true, li_0, li_1, li_2, li_3, li_4, li_5, li_6, li_7, li_8, li_9, li_10, li_11, li_12, li_13, li_14, li_15, li_16, li_20, li_23, li_25, li_30, li_31, li_32, li_38, li_40, li_41, li_44, li_48, li_50, li_51, li_52, li_57, li_59, li_60, li_61, li_62, li_63, li_66, li_81, li_94, li_97, li_98, li_99, li_100, li_101, li_103, li_104, li_105, li_107, li_108, li_109, li_110, li_111, li_112, li_114, li_115, li_116, li_117, li_118, li_122, li_200, li_572, li_600, li_9999, li_10000, li_12345, li_1103515245]
  | succ m ih =>
    intro x f h1 h2
    obtain ⟨f, rfl⟩ : ∃ g, f = g + 1 := ⟨f - 1, by omega⟩
    have hx : x < E_rc E := by omega
    obtain ⟨y, hy, hr⟩ := hE.2.2.2.2 x hx
    obtain ⟨r1, r2, -, -⟩ := hi.2.2.2.2.2 x hx
    have t0 := (h.2.2.2 k hk).1
    have i0 := (hL.2.2.2.2 k hk).1
    have ih := ih (x + 1) f (by omega) (by omega)
    unfold lX1_will_3 fsA
    have e : tlA E L k x = (unA (L_t L k 0) (E_rk E x) && hlA E L k x) := rfl
    cases q1 : unA (L_t L k 0) (E_rk E x) with
    | false =>
      rw [q1, Bool.false_and] at e
      simp (disch := omega) only [hE.2.1, hy, ocase, hr.2.1, t0, hr.2.2.1, c_und hn i0 r1, q1, e, ih, letv, o_b, ↓reduceIte, e_sub, e_add, e_mul, e_ld, e_st, e_lt, e_nlt, e_le, e_nle, e_eq, e_neq, e_div, e_rem, m_lt, m_le, m_eq, m_eq2, m_ng, o_ld, true_and, and_true, Nat.one_ne_zero, Nat.zero_ne_one, Nat.reduceEqDiff, Bool.false_eq_true, not_true_eq_false, not_false_eq_true, li_0, li_1, li_2, li_3, li_4, li_5, li_6, li_7, li_8, li_9, li_10, li_11, li_12, li_13, li_14, li_15, li_16, li_20, li_23, li_25, li_30, li_31, li_32, li_38, li_40, li_41, li_44, li_48, li_50, li_51, li_52, li_57, li_59, li_60, li_61, li_62, li_63, li_66, li_81, li_94, li_97, li_98, li_99, li_100, li_101, li_103, li_104, li_105, li_107, li_108, li_109, li_110, li_111, li_112, li_114, li_115, li_116, li_117, li_118, li_122, li_200, li_572, li_600, li_9999, li_10000, li_12345, li_1103515245]
    | true =>
      cases q2 : hlA E L k x with
      | false =>
        rw [q1, q2, Bool.true_and] at e
        simp (disch := omega) only [hE.2.1, hy, ocase, hr.2.1, t0, hr.2.2.1, c_und hn i0 r1, q1, e, c_holds hn hi h hL hk hx hr, q2, ih, letv, o_b, ↓reduceIte, e_sub, e_add, e_mul, e_ld, e_st, e_lt, e_nlt, e_le, e_nle, e_eq, e_neq, e_div, e_rem, m_lt, m_le, m_eq, m_eq2, m_ng, o_ld, true_and, and_true, Nat.one_ne_zero, Nat.zero_ne_one, Nat.reduceEqDiff, Bool.false_eq_true, not_true_eq_false, not_false_eq_true, li_0, li_1, li_2, li_3, li_4, li_5, li_6, li_7, li_8, li_9, li_10, li_11, li_12, li_13, li_14, li_15, li_16, li_20, li_23, li_25, li_30, li_31, li_32, li_38, li_40, li_41, li_44, li_48, li_50, li_51, li_52, li_57, li_59, li_60, li_61, li_62, li_63, li_66, li_81, li_94, li_97, li_98, li_99, li_100, li_101, li_103, li_104, li_105, li_107, li_108, li_109, li_110, li_111, li_112, li_114, li_115, li_116, li_117, li_118, li_122, li_200, li_572, li_600, li_9999, li_10000, li_12345, li_1103515245]
      | true =>
        rw [q1, q2, Bool.true_and] at e
        simp (disch := omega) only [hE.2.1, hy, ocase, hr.2.1, t0, hr.2.2.1, c_und hn i0 r1, q1, e, c_holds hn hi h hL hk hx hr, q2, hr.2.2.2.1, Nat.add_sub_cancel, Nat.succ_ne_zero, Nat.add_one_ne_zero, letv, o_b, ↓reduceIte, e_sub, e_add, e_mul, e_ld, e_st, e_lt, e_nlt, e_le, e_nle, e_eq, e_neq, e_div, e_rem, m_lt, m_le, m_eq, m_eq2, m_ng, o_ld, true_and, and_true, Nat.one_ne_zero, Nat.zero_ne_one, Nat.reduceEqDiff, Bool.false_eq_true, not_true_eq_false, not_false_eq_true, li_0, li_1, li_2, li_3, li_4, li_5, li_6, li_7, li_8, li_9, li_10, li_11, li_12, li_13, li_14, li_15, li_16, li_20, li_23, li_25, li_30, li_31, li_32, li_38, li_40, li_41, li_44, li_48, li_50, li_51, li_52, li_57, li_59, li_60, li_61, li_62, li_63, li_66, li_81, li_94, li_97, li_98, li_99, li_100, li_101, li_103, li_104, li_105, li_107, li_108, li_109, li_110, li_111, li_112, li_114, li_115, li_116, li_117, li_118, li_122, li_200, li_572, li_600, li_9999, li_10000, li_12345, li_1103515245]
theorem c_will (hn : 1000 ≤ n) (hE : EC G V R z Y E) (hi : IE E) (h : LC V a L) (hL : IL L) {k : Nat} (hk : k < 6) : pX1_will n G V R Y a (nI k) (nI (stm E L)) = some (nI (wlA E L k)) := by
  have hc := hi.2.2.2.2.1
  unfold pX1_will wlA wlR
  rw [show (0 : Int32) = nI 0 from rfl, c_will_l hn hE hi h hL hk (E_rc E) 0 n (by omega) (by omega)]
  split <;> rfl
theorem wlA_le (hi : IE E) (k : Nat) : wlA E L k ≤ 2 := by
  have h1 := fsA_le (p := tlA E L k) (E_rc E) 0
  unfold wlA wlR
  split
  · omega
  · exact (hi.2.2.2.2.2 _ (by omega)).2.1
theorem c_may (hn : 1000 ≤ n) (hE : EC G V R z Y E) (hi : IE E) (h : LC V a L) (hL : IL L) {k : Nat} (hk : k < L_c L) : pX1_mayBePressed n G V R Y a (nI k) (nI (stm E L)) = some (nI (if myA E L k then 1 else 0)) := by
  have hc := hL.2.1
  have hk6 : k < 6 := by omega
  have h1 := stm_le (L := L) hi
  have h2 := pyA_le (E := E) (st := stm E L) hL hk6
  have h3 := wlA_le (L := L) hi k
  unfold pX1_mayBePressed myA
  by_cases q : 0 < pyA E L k (stm E L)
  · by_cases q2 : wlA E L k = 0
    · simp (disch := omega) only [c_pays hn hE hi h hL hk h1, c_will hn hE hi h hL hk6, q, q2, decide_true, letv, o_b, ↓reduceIte, e_sub, e_add, e_mul, e_ld, e_st, e_lt, e_nlt, e_le, e_nle, e_eq, e_neq, e_div, e_rem, m_lt, m_le, m_eq, m_eq2, m_ng, o_ld, true_and, and_true, Nat.one_ne_zero, Nat.zero_ne_one, Nat.reduceEqDiff, Bool.false_eq_true, not_true_eq_false, not_false_eq_true, li_0, li_1, li_2, li_3, li_4, li_5, li_6, li_7, li_8, li_9, li_10, li_11, li_12, li_13, li_14, li_15, li_16, li_20, li_23, li_25, li_30, li_31, li_32, li_38, li_40, li_41, li_44, li_48, li_50, li_51, li_52, li_57, li_59, li_60, li_61, li_62, li_63, li_66, li_81, li_94, li_97, li_98, li_99, li_100, li_101, li_103, li_104, li_105, li_107, li_108, li_109, li_110, li_111, li_112, li_114, li_115, li_116, li_117, li_118, li_122, li_200, li_572, li_600, li_9999, li_10000, li_12345, li_1103515245]
    · simp (disch := omega) only [c_pays hn hE hi h hL hk h1, c_will hn hE hi h hL hk6, q, q2, decide_false, letv, o_b, ↓reduceIte, e_sub, e_add, e_mul, e_ld, e_st, e_lt, e_nlt, e_le, e_nle, e_eq, e_neq, e_div, e_rem, m_lt, m_le, m_eq, m_eq2, m_ng, o_ld, true_and, and_true, Nat.one_ne_zero, Nat.zero_ne_one, Nat.reduceEqDiff, Bool.false_eq_true, not_true_eq_false, not_false_eq_true, li_0, li_1, li_2, li_3, li_4, li_5, li_6, li_7, li_8, li_9, li_10, li_11, li_12, li_13, li_14, li_15, li_16, li_20, li_23, li_25, li_30, li_31, li_32, li_38, li_40, li_41, li_44, li_48, li_50, li_51, li_52, li_57, li_59, li_60, li_61, li_62, li_63, li_66, li_81, li_94, li_97, li_98, li_99, li_100, li_101, li_103, li_104, li_105, li_107, li_108, li_109, li_110, li_111, li_112, li_114, li_115, li_116, li_117, li_118, li_122, li_200, li_572, li_600, li_9999, li_10000, li_12345, li_1103515245]
  · simp (disch := omega) only [c_pays hn hE hi h hL hk h1, q, decide_false, false_and, letv, o_b, ↓reduceIte, e_sub, e_add, e_mul, e_ld, e_st, e_lt, e_nlt, e_le, e_nle, e_eq, e_neq, e_div, e_rem, m_lt, m_le, m_eq, m_eq2, m_ng, o_ld, true_and, and_true, Nat.one_ne_zero, Nat.zero_ne_one, Nat.reduceEqDiff, Bool.false_eq_true, not_true_eq_false, not_false_eq_true, li_0, li_1, li_2, li_3, li_4, li_5, li_6, li_7, li_8, li_9, li_10, li_11, li_12, li_13, li_14, li_15, li_16, li_20, li_23, li_25, li_30, li_31, li_32, li_38, li_40, li_41, li_44, li_48, li_50, li_51, li_52, li_57, li_59, li_60, li_61, li_62, li_63, li_66, li_81, li_94, li_97, li_98, li_99, li_100, li_101, li_103, li_104, li_105, li_107, li_108, li_109, li_110, li_111, li_112, li_114, li_115, li_116, li_117, li_118, li_122, li_200, li_572, li_600, li_9999, li_10000, li_12345, li_1103515245]
theorem c_rest_l (hn : 1000 ≤ n) (hE : EC G V R z Y E) (hi : IE E) (h : LC V a L) (hL : IL L) {K : Unit → Option Int32} : ∀ m x f, x + m = L_c L → m < f → lX1_actOfRest_8 n G V R Y a (nI (stm E L)) f (nI x) K = if fsA (myA E L) x m = 0 then K () else some (nI (fsA (myA E L) x m)) := by
  have hc := hL.2.1
  intro m
  induction m with
  | zero =>
    intro x f h1 h2
    obtain ⟨f, rfl⟩ : ∃ g, f = g + 1 := ⟨f - 1, by omega⟩
    unfold lX1_actOfRest_8
    simp (disch := omega) only [h.2.1, fsA, letv, o_b, ↓reduceIte, e_sub, e_add, e_mul, e_ld, e_st, e_lt, e_nlt, e_le, e_nle, e_eq, e_neq, e_div, e_rem, m_lt, m_le, m_eq, m_eq2, m_ng, o_ld, true_and, and_true, Nat.one_ne_zero, Nat.zero_ne_one, Nat.reduceEqDiff, Bool.false_eq_true, not_true_eq_false, not_false_eq_true, li_0, li_1, li_2, li_3, li_4, li_5, li_6, li_7, li_8, li_9, li_10, li_11, li_12, li_13, li_14, li_15, li_16, li_20, li_23, li_25, li_30, li_31, li_32, li_38, li_40, li_41, li_44, li_48, li_50, li_51, li_52, li_57, li_59, li_60, li_61, li_62, li_63, li_66, li_81, li_94, li_97, li_98, li_99, li_100, li_101, li_103, li_104, li_105, li_107, li_108, li_109, li_110, li_111, li_112, li_114, li_115, li_116, li_117, li_118, li_122, li_200, li_572, li_600, li_9999, li_10000, li_12345, li_1103515245]
  | succ m ih =>
    intro x f h1 h2
    obtain ⟨f, rfl⟩ : ∃ g, f = g + 1 := ⟨f - 1, by omega⟩
    have ih := ih (x + 1) f (by omega) (by omega)
    have hx : x < L_c L := by omega
    unfold lX1_actOfRest_8 fsA
    cases q1 : myA E L x with
    | false => simp (disch := omega) only [h.2.1, c_may hn hE hi h hL hx, q1, ih, letv, o_b, ↓reduceIte, e_sub, e_add, e_mul, e_ld, e_st, e_lt, e_nlt, e_le, e_nle, e_eq, e_neq, e_div, e_rem, m_lt, m_le, m_eq, m_eq2, m_ng, o_ld, true_and, and_true, Nat.one_ne_zero, Nat.zero_ne_one, Nat.reduceEqDiff, Bool.false_eq_true, not_true_eq_false, not_false_eq_true, li_0, li_1, li_2, li_3, li_4, li_5, li_6, li_7, li_8, li_9, li_10, li_11, li_12, li_13, li_14, li_15, li_16, li_20, li_23, li_25, li_30, li_31, li_32, li_38, li_40, li_41, li_44, li_48, li_50, li_51, li_52, li_57, li_59, li_60, li_61, li_62, li_63, li_66, li_81, li_94, li_97, li_98, li_99, li_100, li_101, li_103, li_104, li_105, li_107, li_108, li_109, li_110, li_111, li_112, li_114, li_115, li_116, li_117, li_118, li_122, li_200, li_572, li_600, li_9999, li_10000, li_12345, li_1103515245]
    | true => simp (disch := omega) only [h.2.1, c_may hn hE hi h hL hx, q1, Nat.add_one_ne_zero, letv, o_b, ↓reduceIte, e_sub, e_add, e_mul, e_ld, e_st, e_lt, e_nlt, e_le, e_nle, e_eq, e_neq, e_div, e_rem, m_lt, m_le, m_eq, m_eq2, m_ng, o_ld, true_and, and_true, Nat.one_ne_zero, Nat.zero_ne_one, Nat.reduceEqDiff, Bool.false_eq_true, not_true_eq_false, not_false_eq_true, li_0, li_1, li_2, li_3, li_4, li_5, li_6, li_7, li_8, li_9, li_10, li_11, li_12, li_13, li_14, li_15, li_16, li_20, li_23, li_25, li_30, li_31, li_32, li_38, li_40, li_41, li_44, li_48, li_50, li_51, li_52, li_57, li_59, li_60, li_61, li_62, li_63, li_66, li_81, li_94, li_97, li_98, li_99, li_100, li_101, li_103, li_104, li_105, li_107, li_108, li_109, li_110, li_111, li_112, li_114, li_115, li_116, li_117, li_118, li_122, li_200, li_572, li_600, li_9999, li_10000, li_12345, li_1103515245]
theorem c_rest (hn : 1000 ≤ n) (hE : EC G V R z Y E) (hi : IE E) (h : LC V a L) (hL : IL L) : pX1_actOfRest n G V R Y a = some (nI (rsA E L)) := by
  have hc := hL.2.1
  unfold pX1_actOfRest rsA
  rw [c_steam hE hi h hL]
  simp (disch := omega) only [c_rest_l hn hE hi h hL (L_c L) 0 n (by omega) (by omega), letv, o_b, ↓reduceIte, e_sub, e_add, e_mul, e_ld, e_st, e_lt, e_nlt, e_le, e_nle, e_eq, e_neq, e_div, e_rem, m_lt, m_le, m_eq, m_eq2, m_ng, o_ld, true_and, and_true, Nat.one_ne_zero, Nat.zero_ne_one, Nat.reduceEqDiff, Bool.false_eq_true, not_true_eq_false, not_false_eq_true, li_0, li_1, li_2, li_3, li_4, li_5, li_6, li_7, li_8, li_9, li_10, li_11, li_12, li_13, li_14, li_15, li_16, li_20, li_23, li_25, li_30, li_31, li_32, li_38, li_40, li_41, li_44, li_48, li_50, li_51, li_52, li_57, li_59, li_60, li_61, li_62, li_63, li_66, li_81, li_94, li_97, li_98, li_99, li_100, li_101, li_103, li_104, li_105, li_107, li_108, li_109, li_110, li_111, li_112, li_114, li_115, li_116, li_117, li_118, li_122, li_200, li_572, li_600, li_9999, li_10000, li_12345, li_1103515245]
  split
  · rename_i q
    rw [q]
  · rfl
theorem rsA_le : rsA E L ≤ L_c L := by
  have := fsA_le (p := myA E L) (L_c L) 0
  unfold rsA; omega
end C1
