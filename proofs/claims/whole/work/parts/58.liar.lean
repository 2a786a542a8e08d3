/-! the lone thing, and who lies -/
section F2
variable {n z b : Nat} {V : V2} {R : R2} {G Gm : G2} {U : V2} {E : En} {rn : Nat} {rp : Nat → Nat → Nat}
theorem wi_NF {ir : Nat → Nat} {V' : V2} {j : Nat} (h : WI z ir rn rp V V' j) : NF z (z + 1) V V' := by
  obtain ⟨h1, h2, -⟩ := h
  exact ⟨by rw [h1 _ (by omega)], by rw [h1 _ (by omega)], by rw [h1 _ (by omega)], by rw [h1 _ (by omega)], h2 0 (by omega), fun x hx => h1 x (by omega)⟩
theorem wi_OV {ir : Nat → Nat} {V' : V2} {j : Nat} (h : WI z ir rn rp V V' j) : OV z V V' := OV.all fun x hx => h.1 x (by omega)
theorem FI.tr {P Q : Nat → Bool} {U U' U'' : V2} {j k : Nat} (h : FI b P U U' j) (h2 : FI b Q U' U'' k) : FI b Q U U'' k := ⟨h2.1, h2.2.1, fun y h1 h3 h4 => (h2.2.2.1 y h1 h3 h4).trans (h.2.2.1 y h1 h3 h4), fun i h1 h3 => (h2.2.2.2 i h1 h3).trans (h.2.2.2 i h1 h3)⟩
theorem FI.ou {P : Nat → Bool} {U U' : V2} {j : Nat} (h : FI b P U U' j) : OU b U U' := ⟨h.2.2.2 _ (by omega) (by omega), h.2.2.2 _ (by omega) (by omega), h.2.2.2 _ (by omega) (by omega), h.2.2.2 _ (by omega) (by omega), fun y hy => h.2.2.1 y (by omega) (by omega) (by omega)⟩
theorem ok_lone' (hn : 1000 ≤ n) (h : RelB z b V R G U) (hI : LI z Gm G) (a1 : Int32) : ∃ o om, pX8_lone n G V z a1 = some o ∧ pX9_lone n U b a1 = some om ∧ o.1 = om.1 ∧ RelB z b o.2 R G om.2 := by
  obtain ⟨hW, ⟨E, L, rn, rp, hN⟩, hO⟩ := id h
  obtain ⟨iE, iL, hw, hE, hL, mE, mC, hs, hz, pC, pM, iR⟩ := nw_parts hN
  obtain ⟨l3, l4, l5, l6, l7, l8, l9, l10, l25, l68⟩ := lg_of hI
  unfold pX8_lone pX9_lone
  rcases wi (x := a1) (lo := 0) (hi := 3) (by omega) (by omega) with ⟨k, -, hk, rfl, w1, w2⟩ | ⟨w1, w2⟩
  · obtain ⟨V', c1, c2⟩ := c_all hn iE iR l7 pC hE.2.2.1
    obtain ⟨U', d1, d2⟩ := m_finds (b := b) hn mE iE pM iR (-(nI 1))
    rw [Mq_m iR.1] at d2
    have hR := h.ask (wi_NF c2) (wi_OV c2) (d2.2.2.1 _ (by omega) (by omega) (by omega)) d2.ou
    obtain ⟨-, -, f5, -, f6⟩ := c2
    obtain ⟨g4, g5, -, -⟩ := d2
    have hc := cn_le (P := Pq (E_ir E) rn rp) 500
    have hf := fs_lt (P := Pq (E_ir E) rn rp) 500 (by omega)
    generalize cn (Pq (E_ir E) rn rp) 500 = c at f5 f6 g4 g5 hc
    generalize fsP (Pq (E_ir E) rn rp) 500 = fs at f6 g5 hf
    have c1' : pX3_weighAll n G V (z + 11) (z + 7) = some V' := c1
    by_cases k0 : k = 0
    · exact pk (x := nI c) (by simp (disch := omega) only [w1, e_10, c1', f5, letv, o_b, ↓reduceIte, e_sub, e_add, e_mul, e_ld, e_st, e_lt, e_nlt, e_le, e_nle, e_eq, e_neq, e_div, e_rem, m_lt, m_le, m_eq, m_eq2, m_ng, o_ld, true_and, and_true, Nat.one_ne_zero, Nat.zero_ne_one, Nat.reduceEqDiff, Bool.false_eq_true, not_true_eq_false, not_false_eq_true, li_0, li_1, li_2, li_3, li_4, li_5, li_6, li_7, li_8, li_9, li_10, li_11, li_12, li_13, li_14, li_15, li_16, li_20, li_23, li_25, li_30, li_31, li_32, li_38, li_40, li_41, li_44, li_48, li_50, li_51, li_52, li_57, li_59, li_60, li_61, li_62, li_63, li_66, li_81, li_94, li_97, li_98, li_99, li_100, li_101, li_103, li_104, li_105, li_107, li_108, li_109, li_110, li_111, li_112, li_114, li_115, li_116, li_117, li_118, li_122, li_200, li_572, li_600, li_9999, li_10000, li_12345, li_1103515245]) (by simp (disch := omega) only [lj_0, lj_3, w2, e_10, d1, g4, letv, o_b, ↓reduceIte, e_sub, e_add, e_mul, e_ld, e_st, e_lt, e_nlt, e_le, e_nle, e_eq, e_neq, e_div, e_rem, m_lt, m_le, m_eq, m_eq2, m_ng, o_ld, true_and, and_true, Nat.one_ne_zero, Nat.zero_ne_one, Nat.reduceEqDiff, Bool.false_eq_true, not_true_eq_false, not_false_eq_true, li_0, li_1, li_2, li_3, li_4, li_5, li_6, li_7, li_8, li_9, li_10, li_11, li_12, li_13, li_14, li_15, li_16, li_20, li_23, li_25, li_30, li_31, li_32, li_38, li_40, li_41, li_44, li_48, li_50, li_51, li_52, li_57, li_59, li_60, li_61, li_62, li_63, li_66, li_81, li_94, li_97, li_98, li_99, li_100, li_101, li_103, li_104, li_105, li_107, li_108, li_109, li_110, li_111, li_112, li_114, li_115, li_116, li_117, li_118, li_122, li_200, li_572, li_600, li_9999, li_10000, li_12345, li_1103515245]) rfl hR
    · by_cases q : c = 0
      · exact pk (x := -(nI 3)) (by simp (disch := omega) only [w1, e_10, c1', f5, letv, o_b, ↓reduceIte, e_sub, e_add, e_mul, e_ld, e_st, e_lt, e_nlt, e_le, e_nle, e_eq, e_neq, e_div, e_rem, m_lt, m_le, m_eq, m_eq2, m_ng, o_ld, true_and, and_true, Nat.one_ne_zero, Nat.zero_ne_one, Nat.reduceEqDiff, Bool.false_eq_true, not_true_eq_false, not_false_eq_true, li_0, li_1, li_2, li_3, li_4, li_5, li_6, li_7, li_8, li_9, li_10, li_11, li_12, li_13, li_14, li_15, li_16, li_20, li_23, li_25, li_30, li_31, li_32, li_38, li_40, li_41, li_44, li_48, li_50, li_51, li_52, li_57, li_59, li_60, li_61, li_62, li_63, li_66, li_81, li_94, li_97, li_98, li_99, li_100, li_101, li_103, li_104, li_105, li_107, li_108, li_109, li_110, li_111, li_112, li_114, li_115, li_116, li_117, li_118, li_122, li_200, li_572, li_600, li_9999, li_10000, li_12345, li_1103515245]) (by simp (disch := omega) only [lj_0, lj_3, w2, e_10, d1, g4, letv, o_b, ↓reduceIte, e_sub, e_add, e_mul, e_ld, e_st, e_lt, e_nlt, e_le, e_nle, e_eq, e_neq, e_div, e_rem, m_lt, m_le, m_eq, m_eq2, m_ng, o_ld, true_and, and_true, Nat.one_ne_zero, Nat.zero_ne_one, Nat.reduceEqDiff, Bool.false_eq_true, not_true_eq_false, not_false_eq_true, li_0, li_1, li_2, li_3, li_4, li_5, li_6, li_7, li_8, li_9, li_10, li_11, li_12, li_13, li_14, li_15, li_16, li_20, li_23, li_25, li_30, li_31, li_32, li_38, li_40, li_41, li_44, li_48, li_50, li_51, li_52, li_57, li_59, li_60, li_61, li_62, li_63, li_66, li_81, li_94, li_97, li_98, li_99, li_100, li_101, li_103, li_104, li_105, li_107, li_108, li_109, li_110, li_111, li_112, li_114, li_115, li_116, li_117, li_118, li_122, li_200, li_572, li_600, li_9999, li_10000, li_12345, li_1103515245]) rfl hR
      · rw [if_neg q] at g5
        obtain ⟨e6, e7, e8⟩ := f6 (by omega)
        have d3 : nI (100 + fs) / nI 100 = nI (1 + fs / 100) := by rw [e_div (by omega) (by omega)]; congr 1; omega
        have d4 : jrem (nI (100 + fs) / nI 10) (nI 10) = nI (fs / 10 % 10) := by rw [e_div (by omega) (by omega), e_rem (by omega) (by omega)]; congr 1; omega
        have d5 : jrem (nI (100 + fs)) (nI 10) * nI 9 = nI (fs % 10 * 9) := by rw [e_rem (by omega) (by omega), e_mul]; congr 1; omega
        by_cases k1 : k = 1
        · refine pk (x := nI (1 + fs / 100)) ?_ ?_ rfl hR
          · simp (disch := omega) only [w1, e_10, c1', f5, e6, letv, o_b, ↓reduceIte, e_sub, e_add, e_mul, e_ld, e_st, e_lt, e_nlt, e_le, e_nle, e_eq, e_neq, e_div, e_rem, m_lt, m_le, m_eq, m_eq2, m_ng, o_ld, true_and, and_true, Nat.one_ne_zero, Nat.zero_ne_one, Nat.reduceEqDiff, Bool.false_eq_true, not_true_eq_false, not_false_eq_true, li_0, li_1, li_2, li_3, li_4, li_5, li_6, li_7, li_8, li_9, li_10, li_11, li_12, li_13, li_14, li_15, li_16, li_20, li_23, li_25, li_30, li_31, li_32, li_38, li_40, li_41, li_44, li_48, li_50, li_51, li_52, li_57, li_59, li_60, li_61, li_62, li_63, li_66, li_81, li_94, li_97, li_98, li_99, li_100, li_101, li_103, li_104, li_105, li_107, li_108, li_109, li_110, li_111, li_112, li_114, li_115, li_116, li_117, li_118, li_122, li_200, li_572, li_600, li_9999, li_10000, li_12345, li_1103515245]
          · simp (disch := omega) only [letv, o_b, ↓reduceIte, li_0, li_1, li_2, li_3, li_9, li_10, li_100, lj_0, lj_3, w2, e_10, d1, g4, e_neq, e_eq, g5, d3]
        · by_cases k2 : k = 2
          · refine pk (x := nI (fs / 10 % 10)) ?_ ?_ rfl hR
            · simp (disch := omega) only [w1, e_10, c1', f5, e7, letv, o_b, ↓reduceIte, e_sub, e_add, e_mul, e_ld, e_st, e_lt, e_nlt, e_le, e_nle, e_eq, e_neq, e_div, e_rem, m_lt, m_le, m_eq, m_eq2, m_ng, o_ld, true_and, and_true, Nat.one_ne_zero, Nat.zero_ne_one, Nat.reduceEqDiff, Bool.false_eq_true, not_true_eq_false, not_false_eq_true, li_0, li_1, li_2, li_3, li_4, li_5, li_6, li_7, li_8, li_9, li_10, li_11, li_12, li_13, li_14, li_15, li_16, li_20, li_23, li_25, li_30, li_31, li_32, li_38, li_40, li_41, li_44, li_48, li_50, li_51, li_52, li_57, li_59, li_60, li_61, li_62, li_63, li_66, li_81, li_94, li_97, li_98, li_99, li_100, li_101, li_103, li_104, li_105, li_107, li_108, li_109, li_110, li_111, li_112, li_114, li_115, li_116, li_117, li_118, li_122, li_200, li_572, li_600, li_9999, li_10000, li_12345, li_1103515245]
            · simp (disch := omega) only [letv, o_b, ↓reduceIte, li_0, li_1, li_2, li_3, li_9, li_10, li_100, lj_0, lj_3, w2, e_10, d1, g4, e_neq, e_eq, g5, d4]
          · refine pk (x := nI (fs % 10 * 9)) ?_ ?_ rfl hR
            · simp (disch := omega) only [w1, e_10, c1', f5, e8, letv, o_b, ↓reduceIte, e_sub, e_add, e_mul, e_ld, e_st, e_lt, e_nlt, e_le, e_nle, e_eq, e_neq, e_div, e_rem, m_lt, m_le, m_eq, m_eq2, m_ng, o_ld, true_and, and_true, Nat.one_ne_zero, Nat.zero_ne_one, Nat.reduceEqDiff, Bool.false_eq_true, not_true_eq_false, not_false_eq_true, li_0, li_1, li_2, li_3, li_4, li_5, li_6, li_7, li_8, li_9, li_10, li_11, li_12, li_13, li_14, li_15, li_16, li_20, li_23, li_25, li_30, li_31, li_32, li_38, li_40, li_41, li_44, li_48, li_50, li_51, li_52, li_57, li_59, li_60, li_61, li_62, li_63, li_66, li_81, li_94, li_97, li_98, li_99, li_100, li_101, li_103, li_104, li_105, li_107, li_108, li_109, li_110, li_111, li_112, li_114, li_115, li_116, li_117, li_118, li_122, li_200, li_572, li_600, li_9999, li_10000, li_12345, li_1103515245]
            · simp (disch := omega) only [letv, o_b, ↓reduceIte, li_0, li_1, li_2, li_3, li_9, li_10, li_100, lj_0, lj_3, w2, e_10, d1, g4, e_neq, e_eq, g5, d5]
  · exact pkx (-(nI 1)) (by simp (disch := omega) only [w1, letv, o_b, ↓reduceIte, e_sub, e_add, e_mul, e_ld, e_st, e_lt, e_nlt, e_le, e_nle, e_eq, e_neq, e_div, e_rem, m_lt, m_le, m_eq, m_eq2, m_ng, o_ld, true_and, and_true, Nat.one_ne_zero, Nat.zero_ne_one, Nat.reduceEqDiff, Bool.false_eq_true, not_true_eq_false, not_false_eq_true, li_0, li_1, li_2, li_3, li_4, li_5, li_6, li_7, li_8, li_9, li_10, li_11, li_12, li_13, li_14, li_15, li_16, li_20, li_23, li_25, li_30, li_31, li_32, li_38, li_40, li_41, li_44, li_48, li_50, li_51, li_52, li_57, li_59, li_60, li_61, li_62, li_63, li_66, li_81, li_94, li_97, li_98, li_99, li_100, li_101, li_103, li_104, li_105, li_107, li_108, li_109, li_110, li_111, li_112, li_114, li_115, li_116, li_117, li_118, li_122, li_200, li_572, li_600, li_9999, li_10000, li_12345, li_1103515245]) (by simp (disch := omega) only [lj_0, lj_3, w2, letv, o_b, ↓reduceIte, e_sub, e_add, e_mul, e_ld, e_st, e_lt, e_nlt, e_le, e_nle, e_eq, e_neq, e_div, e_rem, m_lt, m_le, m_eq, m_eq2, m_ng, o_ld, true_and, and_true, Nat.one_ne_zero, Nat.zero_ne_one, Nat.reduceEqDiff, Bool.false_eq_true, not_true_eq_false, not_false_eq_true, li_0, li_1, li_2, li_3, li_4, li_5, li_6, li_7, li_8, li_9, li_10, li_11, li_12, li_13, li_14, li_15, li_16, li_20, li_23, li_25, li_30, li_31, li_32, li_38, li_40, li_41, li_44, li_48, li_50, li_51, li_52, li_57, li_59, li_60, li_61, li_62, li_63, li_66, li_81, li_94, li_97, li_98, li_99, li_100, li_101, li_103, li_104, li_105, li_107, li_108, li_109, li_110, li_111, li_112, li_114, li_115, li_116, li_117, li_118, li_122, li_200, li_572, li_600, li_9999, li_10000, li_12345, li_1103515245]) h
theorem m_liar (hn : 1000 ≤ n) (iE : IE E) (hI : IR rn rp) (h0 : ∀ j, j < 500 → Wq (E_ir E) rn rp j ≠ 0) : ∀ m r f {P : Nat → Bool} {U0 U : V2}, r + m = rn → m + 1 < f → ME (U (b + 1)) E → RpM (U (b + 1)) rn rp → FI b P U0 U 500 → (∀ i, i < r → bt (sl (Wq (E_ir E) rn rp) 500) i = 0) → ∃ U' o Q, lX9_liar_23 n b (nI 1) f U (-(nI 3)) (nI r) = some (U', o) ∧ FI b Q U0 U' 500 ∧ ((o = -(nI 3) ∧ ∀ i, i < rn → bt (sl (Wq (E_ir E) rn rp) 500) i = 0) ∨ ∃ k, k < rn ∧ o = nI k ∧ bt (sl (Wq (E_ir E) rn rp) 500) k = 1 ∧ ∀ i, i < k → bt (sl (Wq (E_ir E) rn rp) 500) i = 0) := by
  have r6 := hI.1
  intro m
  induction m with
  | zero =>
    intro r f P U0 U h1 h2 hE hM hF hl
    obtain ⟨f, rfl⟩ : ∃ g, f = g + 1 := ⟨f - 1, by omega⟩
    refine ⟨U, _, P, ?_, hF, Or.inl ⟨rfl, fun i hi => hl i (by omega)⟩⟩
    unfold lX9_liar_23
    simp (disch := omega) only [hM.1, letv, o_b, ↓reduceIte, e_sub, e_add, e_mul, e_ld, e_st, e_lt, e_nlt, e_le, e_nle, e_eq, e_neq, e_div, e_rem, m_lt, m_le, m_eq, m_eq2, m_ng, o_ld, true_and, and_true, Nat.one_ne_zero, Nat.zero_ne_one, Nat.reduceEqDiff, Bool.false_eq_true, not_true_eq_false, not_false_eq_true, li_0, li_1, li_2, li_3, li_4, li_5, li_6, li_7, li_8, li_9, li_10, li_11, li_12, li_13, li_14, li_15, li_16, li_20, li_23, li_25, li_30, li_31, li_32, li_38, li_40, li_41, li_44, li_48, li_50, li_51, li_52, li_57, li_59, li_60, li_61, li_62, li_63, li_66, li_81, li_94, li_97, li_98, li_99, li_100, li_101, li_103, li_104, li_105, li_107, li_108, li_109, li_110, li_111, li_112, li_114, li_115, li_116, li_117, li_118, li_122, li_200, li_572, li_600, li_9999, li_10000, li_12345, li_1103515245]
  | succ m ih =>
    intro r f P U0 U h1 h2 hE hM hF hl
    obtain ⟨f, rfl⟩ : ∃ g, f = g + 1 := ⟨f - 1, by omega⟩
    have hr : r < rn := by omega
    obtain ⟨U', d1, d2⟩ := m_finds (b := b) hn hE iE hM hI (nI r)
    have r1 : U' (b + 1) = U (b + 1) := d2.2.2.1 _ (by omega) (by omega) (by omega)
    have key := Mq_r hI.1 hr h0
    have hc := cn_le (P := Mq (E_ir E) rn rp (nI r)) 500
    have g4 := d2.1
    have hF' := hF.tr d2
    have hM' : RpM (U' (b + 1)) rn rp := by rw [r1]; exact hM
    have m3 : (nI 0 ≤ -(nI 3)) = False := m_le (by omega) (by omega) (by omega)
    by_cases q : cn (Mq (E_ir E) rn rp (nI r)) 500 = 0
    · have hb := key.mp q
      obtain ⟨U2, o, Q, e1, e2, e3⟩ := ih (r + 1) f (U0 := U0) (U := U') (by omega) (by omega) (by rw [r1]; exact hE) hM' hF' (fun i hi => by
        by_cases p : i = r
        · rw [p]; exact hb
        · exact hl i (by omega))
      refine ⟨U2, o, Q, ?_, e2, e3⟩
      have g40 : U' b 24 = nI 0 := by rw [g4, q]
      unfold lX9_liar_23
      simp (disch := omega) only [letv, li_0, li_1, li_3, li_6, e_ld, o_b, hM.1, e_nle, ↓reduceIte, e_10, m3, d1, g40, e_le, e_add, e1]
    · have hb : bt (sl (Wq (E_ir E) rn rp) 500) r = 1 := by
        rcases bt_01 (sl (Wq (E_ir E) rn rp) 500) r with p | p
        · exact absurd (key.mpr p) q
        · exact p
      refine ⟨U', nI r, _, ?_, hF', Or.inr ⟨r, hr, rfl, hb, hl⟩⟩
      obtain ⟨f, rfl⟩ : ∃ g, f = g + 1 := ⟨f - 1, by omega⟩
      have stop : lX9_liar_23 n b (nI 1) (f + 1) U' (nI r) (nI (r + 1)) = some (U', nI r) := by
        unfold lX9_liar_23
        by_cases p : rn ≤ r + 1
        · simp (disch := omega) only [li_0, li_6, e_ld, o_b, hM'.1, e_le, ↓reduceIte]
        · simp (disch := omega) only [li_0, li_6, e_ld, o_b, hM'.1, e_nle, e_le, ↓reduceIte, e_10]
      conv => lhs; unfold lX9_liar_23
      simp (disch := omega) only [letv, li_0, li_1, li_3, li_6, e_ld, o_b, hM.1, e_nle, ↓reduceIte, e_10, m3, d1, g4, e_add, stop]
theorem ok_liar' (hn : 1000 ≤ n) (h : RelB z b V R G U) (hI : LI z Gm G) : ∃ o om, pX8_liar n G V z = some o ∧ pX9_liar n U b = some om ∧ o.1 = om.1 ∧ RelB z b o.2 R G om.2 := by
  obtain ⟨hW, ⟨E, L, rn, rp, hN⟩, hO⟩ := id h
  obtain ⟨iE, iL, hw, hE, hL, mE, mC, hs, hz, pC, pM, iR⟩ := nw_parts hN
  obtain ⟨l3, l4, l5, l6, l7, l8, l9, l10, l25, l68⟩ := lg_of hI
  have r6 := iR.1
  obtain ⟨V', c1, c2⟩ := c_all hn iE iR l7 pC hE.2.2.1
  obtain ⟨U', d1, d2⟩ := m_finds (b := b) hn mE iE pM iR (-(nI 1))
  rw [Mq_m iR.1] at d2
  have c1' : pX3_weighAll n G V (z + 11) (z + 7) = some V' := c1
  have d1' : pX9_findsFits n U b (-1) = some U' := d1
  have hc := cn_le (P := Pq (E_ir E) rn rp) 500
  have hW64 : ∀ j, Wq (E_ir E) rn rp j < 64 := fun j => w6_lt _
  have hs64 := sl_lt hW64 500
  have f5 := c2.2.2.1
  have f9 := c2.2.2.2.1
  have g4 := d2.1
  have r1 : U' (b + 1) = U (b + 1) := d2.2.2.1 _ (by omega) (by omega) (by omega)
  have hM' : RpM (U' (b + 1)) rn rp := by rw [r1]; exact pM
  unfold pX8_liar pX9_liar
  by_cases q : cn (Pq (E_ir E) rn rp) 500 = 0
  · have h0 : ∀ j, j < 500 → Wq (E_ir E) rn rp j ≠ 0 := fun j hj => by
      have := (cn_0 500).mp q j hj
      exact of_decide_eq_false this
    obtain ⟨U2, o, Q, e1, e2, e3⟩ := m_liar (b := b) hn iE iR h0 rn 0 n (U0 := U) (U := U') (by omega) (by omega) (by rw [r1]; exact mE) hM' d2 (fun i hi => by omega)
    have hR := h.ask (wi_NF c2) (wi_OV c2) (e2.2.2.1 _ (by omega) (by omega) (by omega)) e2.ou
    have hmod : ((pX9_findsFits n U b (-1)).bind fun q1 => letv ((if (q1 b 24) = 0 then (1) else (0) : Int32)) fun j2 => (lX9_liar_23 n b j2 n q1 (-3) 0).bind fun w11 => some (w11.2, w11.1)) = some (o, U2) := by
      have g40 : U' b 24 = 0 := by rw [g4, q]; rfl
      have e1' : lX9_liar_23 n b 1 n U' (-3) 0 = some (U2, o) := e1
      simp only [d1', o_b, letv, g40, ↓reduceIte, e1']
    have f50 : V' (z + 11) 5 = nI 0 := by rw [f5, q]
    rcases e3 with ⟨rfl, e4⟩ | ⟨k, k1, rfl, k3, k4⟩
    · have s0 : sl (Wq (E_ir E) rn rp) 500 = 0 := b_ext _ hs64 0 (by omega) fun k hk => by
        rw [b_0 k hk]
        by_cases p : k < rn
        · exact e4 k p
        · rcases bt_01 (sl (Wq (E_ir E) rn rp) 500) k with p2 | p2
          · exact p2
          · obtain ⟨j, h1, h2⟩ := (sl_bt hW64 hk 500).mp p2
            have := Wq_bt (ir := E_ir E) (rn := rn) (rp := rp) (j := j) hk
            rw [h2, b_pow k hk k hk, if_pos rfl, decide_eq_false p, Bool.false_and] at this
            exact absurd this (by decide)
      refine pk (x := -(nI 3)) ?_ hmod rfl hR
      simp (disch := omega) only [c1', f50, f9, s0, letv, o_b, ↓reduceIte, e_sub, e_add, e_mul, e_ld, e_st, e_lt, e_nlt, e_le, e_nle, e_eq, e_neq, e_div, e_rem, m_lt, m_le, m_eq, m_eq2, m_ng, o_ld, true_and, and_true, Nat.one_ne_zero, Nat.zero_ne_one, Nat.reduceEqDiff, Bool.false_eq_true, not_true_eq_false, not_false_eq_true, li_0, li_1, li_2, li_3, li_4, li_5, li_6, li_7, li_8, li_9, li_10, li_11, li_12, li_13, li_14, li_15, li_16, li_20, li_23, li_25, li_30, li_31, li_32, li_38, li_40, li_41, li_44, li_48, li_50, li_51, li_52, li_57, li_59, li_60, li_61, li_62, li_63, li_66, li_81, li_94, li_97, li_98, li_99, li_100, li_101, li_103, li_104, li_105, li_107, li_108, li_109, li_110, li_111, li_112, li_114, li_115, li_116, li_117, li_118, li_122, li_200, li_572, li_600, li_9999, li_10000, li_12345, li_1103515245]
    · have k6 : k < 6 := by omega
      have sn : sl (Wq (E_ir E) rn rp) 500 ≠ 0 := fun h => by
        rw [h, b_0 k k6] at k3
        exact absurd k3 (by decide)
      refine pk (x := nI k) ?_ hmod rfl hR
      generalize sl (Wq (E_ir E) rn rp) 500 = s at hs64 f9 k3 k4 sn
      simp (disch := omega) only [c1', f50, f9, b_ntz s hs64 k k6 k3 k4, letv, o_b, ↓reduceIte, e_sub, e_add, e_mul, e_ld, e_st, e_lt, e_nlt, e_le, e_nle, e_eq, e_neq, e_div, e_rem, m_lt, m_le, m_eq, m_eq2, m_ng, o_ld, true_and, and_true, Nat.one_ne_zero, Nat.zero_ne_one, Nat.reduceEqDiff, Bool.false_eq_true, not_true_eq_false, not_false_eq_true, li_0, li_1, li_2, li_3, li_4, li_5, li_6, li_7, li_8, li_9, li_10, li_11, li_12, li_13, li_14, li_15, li_16, li_20, li_23, li_25, li_30, li_31, li_32, li_38, li_40, li_41, li_44, li_48, li_50, li_51, li_52, li_57, li_59, li_60, li_61, li_62, li_63, li_66, li_81, li_94, li_97, li_98, li_99, li_100, li_101, li_103, li_104, li_105, li_107, li_108, li_109, li_110, li_111, li_112, li_114, li_115, li_116, li_117, li_118, li_122, li_200, li_572, li_600, li_9999, li_10000, li_12345, li_1103515245]
  · have hR := h.ask (wi_NF c2) (wi_OV c2) (d2.2.2.1 _ (by omega) (by omega) (by omega)) d2.ou
    refine pk (x := -(nI 3)) ?_ ?_ rfl hR
    · simp (disch := omega) only [c1', f5, letv, o_b, ↓reduceIte, e_sub, e_add, e_mul, e_ld, e_st, e_lt, e_nlt, e_le, e_nle, e_eq, e_neq, e_div, e_rem, m_lt, m_le, m_eq, m_eq2, m_ng, o_ld, true_and, and_true, Nat.one_ne_zero, Nat.zero_ne_one, Nat.reduceEqDiff, Bool.false_eq_true, not_true_eq_false, not_false_eq_true, li_0, li_1, li_2, li_3, li_4, li_5, li_6, li_7, li_8, li_9, li_10, li_11, li_12, li_13, li_14, li_15, li_16, li_20, li_23, li_25, li_30, li_31, li_32, li_38, li_40, li_41, li_44, li_48, li_50, li_51, li_52, li_57, li_59, li_60, li_61, li_62, li_63, li_66, li_81, li_94, li_97, li_98, li_99, li_100, li_101, li_103, li_104, li_105, li_107, li_108, li_109, li_110, li_111, li_112, li_114, li_115, li_116, li_117, li_118, li_122, li_200, li_572, li_600, li_9999, li_10000, li_12345, li_1103515245]
    · have g40 : ¬ U' b 24 = 0 := by rw [g4, li_0, e_neq (by omega) (by omega) q]; exact id
      have st : lX9_liar_23 n b 0 n U' (-3) 0 = some (U', -3) := by
        obtain ⟨n, rfl⟩ : ∃ g, n = g + 1 := ⟨n - 1, by omega⟩
        unfold lX9_liar_23
        by_cases p : rn ≤ 0
        · simp (disch := omega) only [hM'.1, p, letv, o_b, ↓reduceIte, e_sub, e_add, e_mul, e_ld, e_st, e_lt, e_nlt, e_le, e_nle, e_eq, e_neq, e_div, e_rem, m_lt, m_le, m_eq, m_eq2, m_ng, o_ld, true_and, and_true, Nat.one_ne_zero, Nat.zero_ne_one, Nat.reduceEqDiff, Bool.false_eq_true, not_true_eq_false, not_false_eq_true, li_0, li_1, li_2, li_3, li_4, li_5, li_6, li_7, li_8, li_9, li_10, li_11, li_12, li_13, li_14, li_15, li_16, li_20, li_23, li_25, li_30, li_31, li_32, li_38, li_40, li_41, li_44, li_48, li_50, li_51, li_52, li_57, li_59, li_60, li_61, li_62, li_63, li_66, li_81, li_94, li_97, li_98, li_99, li_100, li_101, li_103, li_104, li_105, li_107, li_108, li_109, li_110, li_111, li_112, li_114, li_115, li_116, li_117, li_118, li_122, li_200, li_572, li_600, li_9999, li_10000, li_12345, li_1103515245]
        · simp (disch := omega) only [hM'.1, p, letv, o_b, ↓reduceIte, e_sub, e_add, e_mul, e_ld, e_st, e_lt, e_nlt, e_le, e_nle, e_eq, e_neq, e_div, e_rem, m_lt, m_le, m_eq, m_eq2, m_ng, o_ld, true_and, and_true, Nat.one_ne_zero, Nat.zero_ne_one, Nat.reduceEqDiff, Bool.false_eq_true, not_true_eq_false, not_false_eq_true, li_0, li_1, li_2, li_3, li_4, li_5, li_6, li_7, li_8, li_9, li_10, li_11, li_12, li_13, li_14, li_15, li_16, li_20, li_23, li_25, li_30, li_31, li_32, li_38, li_40, li_41, li_44, li_48, li_50, li_51, li_52, li_57, li_59, li_60, li_61, li_62, li_63, li_66, li_81, li_94, li_97, li_98, li_99, li_100, li_101, li_103, li_104, li_105, li_107, li_108, li_109, li_110, li_111, li_112, li_114, li_115, li_116, li_117, li_118, li_122, li_200, li_572, li_600, li_9999, li_10000, li_12345, li_1103515245]
      simp only [d1', o_b, letv, g40, ↓reduceIte, st]
      rfl
end F2
