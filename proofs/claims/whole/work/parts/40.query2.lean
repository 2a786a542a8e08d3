/-! when, fat, the best number, least -/
section Q2
variable {n z b : Nat} {G Gm : G2} {V : V2} {R : R2} {U : V2} {E : En} {L : Ld} {rn : Nat} {rp : Nat → Nat → Nat}
theorem gr1 {E : En} {L : Ld} (q : ¬ E_en E ≤ L_w L) : grL E 1 L = goL E L (rsA E L) := by
  show (if E_en E ≤ L_w L then L else grL E 0 (goL E L (rsA E L))) = _
  rw [if_neg q]
  rfl
/-- when: the class's loop -/
def whR (k : Nat) (L : Ld) : Int32 := if bt (L_f L) k = 0 then -(nI 3) else nI (L_w L - 1)
theorem c_when_l (hn : 1000 ≤ n) (hi : IE E) {k : Nat} (hk : k < 6) : ∀ m x f {U : V2} {L : Ld}, L_w L + m = E_en E → x + m ≤ 16 → m < f → EC G U R z (z + 1) E → LC U (z + 31) L → IL L → bt (L_f L) k = 0 → ∃ V', lX8_when_40 n G R z (nI k) f U (nI x) (fun w => some (-(nI 3), w)) = some (whR k (itL E (fun L => decide (bt (L_f L) k = 1)) m L), V') ∧ CF (z + 31) U V' := by
  have he := hi.2.1
  intro m
  induction m with
  | zero =>
    intro x f U L h1 h2 h3 hE h hL hb
    obtain ⟨f, rfl⟩ : ∃ g, f = g + 1 := ⟨f - 1, by omega⟩
    refine ⟨U, ?_, CF.rf⟩
    unfold lX8_when_40 itL whR
    have q : E_en E ≤ L_w L := by omega
    by_cases q2 : 16 ≤ x
    · simp (disch := omega) only [hb, q2, letv, o_b, ↓reduceIte, e_sub, e_add, e_mul, e_ld, e_st, e_lt, e_nlt, e_le, e_nle, e_eq, e_neq, e_div, e_rem, m_lt, m_le, m_eq, m_eq2, m_ng, o_ld, true_and, and_true, Nat.one_ne_zero, Nat.zero_ne_one, Nat.reduceEqDiff, Bool.false_eq_true, not_true_eq_false, not_false_eq_true, li_0, li_1, li_2, li_3, li_4, li_5, li_6, li_7, li_8, li_9, li_10, li_11, li_12, li_13, li_14, li_15, li_16, li_20, li_23, li_25, li_30, li_31, li_32, li_38, li_40, li_41, li_44, li_48, li_50, li_51, li_52, li_57, li_59, li_60, li_61, li_62, li_63, li_66, li_81, li_94, li_97, li_98, li_99, li_100, li_101, li_103, li_104, li_105, li_107, li_108, li_109, li_110, li_111, li_112, li_114, li_115, li_116, li_117, li_118, li_122, li_200, li_572, li_600, li_9999, li_10000, li_12345, li_1103515245]
    · simp (disch := omega) only [hb, q2, c_over hE hi h hL, q, letv, o_b, ↓reduceIte, e_sub, e_add, e_mul, e_ld, e_st, e_lt, e_nlt, e_le, e_nle, e_eq, e_neq, e_div, e_rem, m_lt, m_le, m_eq, m_eq2, m_ng, o_ld, true_and, and_true, Nat.one_ne_zero, Nat.zero_ne_one, Nat.reduceEqDiff, Bool.false_eq_true, not_true_eq_false, not_false_eq_true, li_0, li_1, li_2, li_3, li_4, li_5, li_6, li_7, li_8, li_9, li_10, li_11, li_12, li_13, li_14, li_15, li_16, li_20, li_23, li_25, li_30, li_31, li_32, li_38, li_40, li_41, li_44, li_48, li_50, li_51, li_52, li_57, li_59, li_60, li_61, li_62, li_63, li_66, li_81, li_94, li_97, li_98, li_99, li_100, li_101, li_103, li_104, li_105, li_107, li_108, li_109, li_110, li_111, li_112, li_114, li_115, li_116, li_117, li_118, li_122, li_200, li_572, li_600, li_9999, li_10000, li_12345, li_1103515245]
  | succ m ih =>
    intro x f U L h1 h2 h3 hE h hL hb
    obtain ⟨f, rfl⟩ : ∃ g, f = g + 1 := ⟨f - 1, by omega⟩
    have q : ¬ E_en E ≤ L_w L := by omega
    obtain ⟨V1, a1, a2, a3⟩ := c_gr hn hE hi (ad_tr (a := z + 31) (by omega)) h hL (by omega) (N := 1) (by omega)
    rw [gr1 q] at a2
    have hL1 := goL_IL (E := E) (a := rsA E L) hL rsA_le (by omega)
    have hE1 := hE.cf (ad_tr (a := z + 31) (by omega)) a3
    have hb' : ¬ bt (L_f L) k = 1 := by omega
    unfold itL
    rw [if_neg q]
    simp only [hb', decide_false, Bool.false_eq_true, ↓reduceIte]
    rcases bt_01 (L_f (goL E L (rsA E L))) k with c | c
    · obtain ⟨V2', b1, b2⟩ := ih (x + 1) f (L := goL E L (rsA E L)) (by rw [goL_w]; omega) (by omega) (by omega) hE1 a2 hL1 c
      refine ⟨V2', ?_, a3.tr b2⟩
      unfold lX8_when_40
      simp (disch := omega) only [c_over hE hi h hL, q, a1, c_flat a2 hL1 hk, c, b1, letv, o_b, ↓reduceIte, e_sub, e_add, e_mul, e_ld, e_st, e_lt, e_nlt, e_le, e_nle, e_eq, e_neq, e_div, e_rem, m_lt, m_le, m_eq, m_eq2, m_ng, o_ld, true_and, and_true, Nat.one_ne_zero, Nat.zero_ne_one, Nat.reduceEqDiff, Bool.false_eq_true, not_true_eq_false, not_false_eq_true, li_0, li_1, li_2, li_3, li_4, li_5, li_6, li_7, li_8, li_9, li_10, li_11, li_12, li_13, li_14, li_15, li_16, li_20, li_23, li_25, li_30, li_31, li_32, li_38, li_40, li_41, li_44, li_48, li_50, li_51, li_52, li_57, li_59, li_60, li_61, li_62, li_63, li_66, li_81, li_94, li_97, li_98, li_99, li_100, li_101, li_103, li_104, li_105, li_107, li_108, li_109, li_110, li_111, li_112, li_114, li_115, li_116, li_117, li_118, li_122, li_200, li_572, li_600, li_9999, li_10000, li_12345, li_1103515245]
    · refine ⟨V1, ?_, a3⟩
      have e : itL E (fun L => decide (bt (L_f L) k = 1)) m (goL E L (rsA E L)) = goL E L (rsA E L) := by
        cases m with
        | zero => rfl
        | succ m =>
          unfold itL
          split
          · rfl
          · rw [if_pos (decide_eq_true c)]
      rw [e]
      unfold lX8_when_40 whR
      have w0 : V1 (z + 31) 0 = nI (L_w L + 1) := a2.1
      have hw : L_w (goL E L (rsA E L)) = L_w L + 1 := rfl
      simp (disch := omega) only [c_over hE hi h hL, q, a1, c_flat a2 hL1 hk, c, w0, hw, Nat.add_sub_cancel, letv, o_b, ↓reduceIte, e_sub, e_add, e_mul, e_ld, e_st, e_lt, e_nlt, e_le, e_nle, e_eq, e_neq, e_div, e_rem, m_lt, m_le, m_eq, m_eq2, m_ng, o_ld, true_and, and_true, Nat.one_ne_zero, Nat.zero_ne_one, Nat.reduceEqDiff, Bool.false_eq_true, not_true_eq_false, not_false_eq_true, li_0, li_1, li_2, li_3, li_4, li_5, li_6, li_7, li_8, li_9, li_10, li_11, li_12, li_13, li_14, li_15, li_16, li_20, li_23, li_25, li_30, li_31, li_32, li_38, li_40, li_41, li_44, li_48, li_50, li_51, li_52, li_57, li_59, li_60, li_61, li_62, li_63, li_66, li_81, li_94, li_97, li_98, li_99, li_100, li_101, li_103, li_104, li_105, li_107, li_108, li_109, li_110, li_111, li_112, li_114, li_115, li_116, li_117, li_118, li_122, li_200, li_572, li_600, li_9999, li_10000, li_12345, li_1103515245]
theorem m_it_l (hn : 1000 ≤ n) (hi : IE E) {k : Nat} (hk : k < 6) : ∀ m f {U : V2} {L : Ld}, L_w L + m = E_en E → m < f → ME (U (b + 1)) E → MC (U (b + 1)) L → IL L → ∃ U', lX9_when_28 n b (nI k) f U = some U' ∧ MC (U' (b + 1)) (itL E (fun L => decide (bt (L_f L) k = 1)) m L) ∧ IL (itL E (fun L => decide (bt (L_f L) k = 1)) m L) ∧ MF b U U' := by
  have he := hi.2.1
  intro m
  induction m with
  | zero =>
    intro f U L h1 h2 hE h hL
    obtain ⟨f, rfl⟩ : ∃ g, f = g + 1 := ⟨f - 1, by omega⟩
    refine ⟨U, ?_, h, hL, MF.rf⟩
    have q : E_en E ≤ L_w L := by omega
    unfold lX9_when_28
    simp (disch := omega) only [m_over hE hi h hL, q, letv, o_b, ↓reduceIte, e_sub, e_add, e_mul, e_ld, e_st, e_lt, e_nlt, e_le, e_nle, e_eq, e_neq, e_div, e_rem, m_lt, m_le, m_eq, m_eq2, m_ng, o_ld, true_and, and_true, Nat.one_ne_zero, Nat.zero_ne_one, Nat.reduceEqDiff, Bool.false_eq_true, not_true_eq_false, not_false_eq_true, li_0, li_1, li_2, li_3, li_4, li_5, li_6, li_7, li_8, li_9, li_10, li_11, li_12, li_13, li_14, li_15, li_16, li_20, li_23, li_25, li_30, li_31, li_32, li_38, li_40, li_41, li_44, li_48, li_50, li_51, li_52, li_57, li_59, li_60, li_61, li_62, li_63, li_66, li_81, li_94, li_97, li_98, li_99, li_100, li_101, li_103, li_104, li_105, li_107, li_108, li_109, li_110, li_111, li_112, li_114, li_115, li_116, li_117, li_118, li_122, li_200, li_572, li_600, li_9999, li_10000, li_12345, li_1103515245]
  | succ m ih =>
    intro f U L h1 h2 hE h hL
    obtain ⟨f, rfl⟩ : ∃ g, f = g + 1 := ⟨f - 1, by omega⟩
    have q : ¬ E_en E ≤ L_w L := by omega
    unfold itL
    rw [if_neg q]
    rcases bt_01 (L_f L) k with c | c
    · have c' : ¬ bt (L_f L) k = 1 := by omega
      simp only [c', decide_false, Bool.false_eq_true, ↓reduceIte]
      obtain ⟨V1, a1, a2, a3, -⟩ := m_goes hn hE hi h hL (t := rsA E L) rsA_le
      obtain ⟨W2, b1, b2, b3, b4⟩ := ih f (L := goL E L (rsA E L)) (by rw [goL_w]; omega) (by omega) (hE.mf a3) a2 (goL_IL hL rsA_le (by omega))
      refine ⟨W2, ?_, b2, b3, a3.tr b4⟩
      unfold lX9_when_28
      simp (disch := omega) only [m_over hE hi h hL, q, m_its4 h hk, c, m_rest hn hE hi h hL, a1, b1, letv, o_b, ↓reduceIte, e_sub, e_add, e_mul, e_ld, e_st, e_lt, e_nlt, e_le, e_nle, e_eq, e_neq, e_div, e_rem, m_lt, m_le, m_eq, m_eq2, m_ng, o_ld, true_and, and_true, Nat.one_ne_zero, Nat.zero_ne_one, Nat.reduceEqDiff, Bool.false_eq_true, not_true_eq_false, not_false_eq_true, li_0, li_1, li_2, li_3, li_4, li_5, li_6, li_7, li_8, li_9, li_10, li_11, li_12, li_13, li_14, li_15, li_16, li_20, li_23, li_25, li_30, li_31, li_32, li_38, li_40, li_41, li_44, li_48, li_50, li_51, li_52, li_57, li_59, li_60, li_61, li_62, li_63, li_66, li_81, li_94, li_97, li_98, li_99, li_100, li_101, li_103, li_104, li_105, li_107, li_108, li_109, li_110, li_111, li_112, li_114, li_115, li_116, li_117, li_118, li_122, li_200, li_572, li_600, li_9999, li_10000, li_12345, li_1103515245]
    · simp only [c, decide_true, ↓reduceIte]
      refine ⟨U, ?_, h, hL, MF.rf⟩
      unfold lX9_when_28
      simp (disch := omega) only [m_over hE hi h hL, q, m_its4 h hk, c, letv, o_b, ↓reduceIte, e_sub, e_add, e_mul, e_ld, e_st, e_lt, e_nlt, e_le, e_nle, e_eq, e_neq, e_div, e_rem, m_lt, m_le, m_eq, m_eq2, m_ng, o_ld, true_and, and_true, Nat.one_ne_zero, Nat.zero_ne_one, Nat.reduceEqDiff, Bool.false_eq_true, not_true_eq_false, not_false_eq_true, li_0, li_1, li_2, li_3, li_4, li_5, li_6, li_7, li_8, li_9, li_10, li_11, li_12, li_13, li_14, li_15, li_16, li_20, li_23, li_25, li_30, li_31, li_32, li_38, li_40, li_41, li_44, li_48, li_50, li_51, li_52, li_57, li_59, li_60, li_61, li_62, li_63, li_66, li_81, li_94, li_97, li_98, li_99, li_100, li_101, li_103, li_104, li_105, li_107, li_108, li_109, li_110, li_111, li_112, li_114, li_115, li_116, li_117, li_118, li_122, li_200, li_572, li_600, li_9999, li_10000, li_12345, li_1103515245]
theorem itL_w {p : Ld → Bool} : ∀ m {L : Ld}, L_w L ≤ L_w (itL E p m L) := by
  intro m
  induction m with
  | zero => exact fun {L} => Nat.le_refl _
  | succ m ih =>
    intro L
    unfold itL
    split
    · exact Nat.le_refl _
    split
    · exact Nat.le_refl _
    · exact Nat.le_trans (Nat.le_succ _) (ih (L := goL E L (rsA E L)))
theorem itL_w1 {k : Nat} : ∀ m {L : Ld}, bt (L_f L) k = 0 → bt (L_f (itL E (fun L => decide (bt (L_f L) k = 1)) m L)) k = 1 → 1 ≤ L_w (itL E (fun L => decide (bt (L_f L) k = 1)) m L) := by
  intro m
  cases m with
  | zero =>
    intro L h1 h2
    have h2' : bt (L_f L) k = 1 := h2
    omega
  | succ m =>
    intro L h1 h2
    unfold itL at h2 ⊢
    split
    · rename_i q
      rw [if_pos q] at h2
      omega
    · rename_i q
      rw [if_neg q] at h2
      have c' : ¬ bt (L_f L) k = 1 := by omega
      simp only [c', decide_false, Bool.false_eq_true, ↓reduceIte]
      have := itL_w (E := E) (p := fun L => decide (bt (L_f L) k = 1)) m (L := goL E L (rsA E L))
      rw [goL_w] at this
      omega
theorem ok_when' (hn : 1000 ≤ n) (h : RelB z b V R G U) (a1 : Int32) : ∃ o om, pX8_when n G V R z a1 = some o ∧ pX9_when n U b a1 = some om ∧ o.1 = om.1 ∧ RelB z b o.2 R G om.2 := by
  obtain ⟨hW, ⟨E, L, rn, rp, hN⟩, hO⟩ := id h
  obtain ⟨iE, iL, hw, hE, hL, mE, mC, hs, hz, pC, pM, iR⟩ := nw_parts hN
  have he := iE.2.1
  unfold pX8_when pX9_when
  rcases isT hL mC iL a1 with ⟨k, hk, hk6, rfl, t1, t2⟩ | ⟨t1, t2⟩
  · obtain ⟨V1, c1, c2, c3⟩ := c_copy (b := z + 31) (a := z + 2) hL (by omega)
    rcases bt_01 (L_f L) k with q | q
    · obtain ⟨V2', d1, d2⟩ := c_when_l hn iE hk6 (E_en E - L_w L) 0 n (by omega) (by omega) (by omega) (hE.cf (ad_tr (by omega)) c3) c2 iL q
      obtain ⟨U1, g1, g2, g3, g4⟩ := m_think (n := n) (b := b) (U := U) hn
      obtain ⟨U2, e1, e2, e3, e4⟩ := m_it_l (b := b) hn iE hk6 (E_en E - L_w L) n (U := U1) (L := L) (by omega) (by omega) (by rw [g2]; exact mE) (by rw [g2]; exact mC) iL
      obtain ⟨U3, f1, f2⟩ := g4 U2 e4
      have hw1 := itL_w1 (E := E) (k := k) (E_en E - L_w L) (L := L) q
      generalize itL E (fun L => decide (bt (L_f L) k = 1)) (E_en E - L_w L) L = L' at d1 e2 e3 hw1
      have hq := sd_fr (c3.tr d2) (z := z) (by omega)
      have i16 := e3.1
      refine pk (x := whR k L') (V' := V2') (U' := U3) ?_ ?_ rfl (h.ask (tr_NF hq) (tr_OV hq) (f2 _ (by omega)) (OU.asd f2))
      · simp (disch := omega) only [li_3, t1, e_10, c1, c_flat c2 iL hk6, q, d1, letv, o_b, ↓reduceIte, e_sub, e_add, e_mul, e_ld, e_st, e_lt, e_nlt, e_le, e_nle, e_eq, e_neq, e_div, e_rem, m_lt, m_le, m_eq, m_eq2, m_ng, o_ld, true_and, and_true, Nat.one_ne_zero, Nat.zero_ne_one, Nat.reduceEqDiff, Bool.false_eq_true, not_true_eq_false, not_false_eq_true, li_0, li_1, li_2, li_3, li_4, li_5, li_6, li_7, li_8, li_9, li_10, li_11, li_12, li_13, li_14, li_15, li_16, li_20, li_23, li_25, li_30, li_31, li_32, li_38, li_40, li_41, li_44, li_48, li_50, li_51, li_52, li_57, li_59, li_60, li_61, li_62, li_63, li_66, li_81, li_94, li_97, li_98, li_99, li_100, li_101, li_103, li_104, li_105, li_107, li_108, li_109, li_110, li_111, li_112, li_114, li_115, li_116, li_117, li_118, li_122, li_200, li_572, li_600, li_9999, li_10000, li_12345, li_1103515245]
      · unfold whR
        rcases bt_01 (L_f L') k with p | p
        · simp (disch := omega) only [t2, e_10, m_its4 mC hk6, q, g1, e1, m_its4 e2 hk6, p, f1, letv, o_b, ↓reduceIte, e_sub, e_add, e_mul, e_ld, e_st, e_lt, e_nlt, e_le, e_nle, e_eq, e_neq, e_div, e_rem, m_lt, m_le, m_eq, m_eq2, m_ng, o_ld, true_and, and_true, Nat.one_ne_zero, Nat.zero_ne_one, Nat.reduceEqDiff, Bool.false_eq_true, not_true_eq_false, not_false_eq_true, li_0, li_1, li_2, li_3, li_4, li_5, li_6, li_7, li_8, li_9, li_10, li_11, li_12, li_13, li_14, li_15, li_16, li_20, li_23, li_25, li_30, li_31, li_32, li_38, li_40, li_41, li_44, li_48, li_50, li_51, li_52, li_57, li_59, li_60, li_61, li_62, li_63, li_66, li_81, li_94, li_97, li_98, li_99, li_100, li_101, li_103, li_104, li_105, li_107, li_108, li_109, li_110, li_111, li_112, li_114, li_115, li_116, li_117, li_118, li_122, li_200, li_572, li_600, li_9999, li_10000, li_12345, li_1103515245]
        · have hw1 := hw1 p
          simp (disch := omega) only [t2, e_10, m_its4 mC hk6, q, g1, e1, m_its4 e2 hk6, p, e2.1, f1, letv, o_b, ↓reduceIte, e_sub, e_add, e_mul, e_ld, e_st, e_lt, e_nlt, e_le, e_nle, e_eq, e_neq, e_div, e_rem, m_lt, m_le, m_eq, m_eq2, m_ng, o_ld, true_and, and_true, Nat.one_ne_zero, Nat.zero_ne_one, Nat.reduceEqDiff, Bool.false_eq_true, not_true_eq_false, not_false_eq_true, li_0, li_1, li_2, li_3, li_4, li_5, li_6, li_7, li_8, li_9, li_10, li_11, li_12, li_13, li_14, li_15, li_16, li_20, li_23, li_25, li_30, li_31, li_32, li_38, li_40, li_41, li_44, li_48, li_50, li_51, li_52, li_57, li_59, li_60, li_61, li_62, li_63, li_66, li_81, li_94, li_97, li_98, li_99, li_100, li_101, li_103, li_104, li_105, li_107, li_108, li_109, li_110, li_111, li_112, li_114, li_115, li_116, li_117, li_118, li_122, li_200, li_572, li_600, li_9999, li_10000, li_12345, li_1103515245]
    · have hq := sd_fr c3 (z := z) (by omega)
      refine pk (x := -(nI 3)) (V' := V1) (U' := U) ?_ ?_ rfl (h.ask (tr_NF hq) (tr_OV hq) rfl OU.rf)
      · simp (disch := omega) only [t1, e_10, c1, c_flat c2 iL hk6, q, letv, o_b, ↓reduceIte, e_sub, e_add, e_mul, e_ld, e_st, e_lt, e_nlt, e_le, e_nle, e_eq, e_neq, e_div, e_rem, m_lt, m_le, m_eq, m_eq2, m_ng, o_ld, true_and, and_true, Nat.one_ne_zero, Nat.zero_ne_one, Nat.reduceEqDiff, Bool.false_eq_true, not_true_eq_false, not_false_eq_true, li_0, li_1, li_2, li_3, li_4, li_5, li_6, li_7, li_8, li_9, li_10, li_11, li_12, li_13, li_14, li_15, li_16, li_20, li_23, li_25, li_30, li_31, li_32, li_38, li_40, li_41, li_44, li_48, li_50, li_51, li_52, li_57, li_59, li_60, li_61, li_62, li_63, li_66, li_81, li_94, li_97, li_98, li_99, li_100, li_101, li_103, li_104, li_105, li_107, li_108, li_109, li_110, li_111, li_112, li_114, li_115, li_116, li_117, li_118, li_122, li_200, li_572, li_600, li_9999, li_10000, li_12345, li_1103515245]
      · simp (disch := omega) only [t2, e_10, m_its4 mC hk6, q, letv, o_b, ↓reduceIte, e_sub, e_add, e_mul, e_ld, e_st, e_lt, e_nlt, e_le, e_nle, e_eq, e_neq, e_div, e_rem, m_lt, m_le, m_eq, m_eq2, m_ng, o_ld, true_and, and_true, Nat.one_ne_zero, Nat.zero_ne_one, Nat.reduceEqDiff, Bool.false_eq_true, not_true_eq_false, not_false_eq_true, li_0, li_1, li_2, li_3, li_4, li_5, li_6, li_7, li_8, li_9, li_10, li_11, li_12, li_13, li_14, li_15, li_16, li_20, li_23, li_25, li_30, li_31, li_32, li_38, li_40, li_41, li_44, li_48, li_50, li_51, li_52, li_57, li_59, li_60, li_61, li_62, li_63, li_66, li_81, li_94, li_97, li_98, li_99, li_100, li_101, li_103, li_104, li_105, li_107, li_108, li_109, li_110, li_111, li_112, li_114, li_115, li_116, li_117, li_118, li_122, li_200, li_572, li_600, li_9999, li_10000, li_12345, li_1103515245]
  · exact pkx (-(nI 1)) (by simp (disch := omega) only [t1, letv, o_b, ↓reduceIte, e_sub, e_add, e_mul, e_ld, e_st, e_lt, e_nlt, e_le, e_nle, e_eq, e_neq, e_div, e_rem, m_lt, m_le, m_eq, m_eq2, m_ng, o_ld, true_and, and_true, Nat.one_ne_zero, Nat.zero_ne_one, Nat.reduceEqDiff, Bool.false_eq_true, not_true_eq_false, not_false_eq_true, li_0, li_1, li_2, li_3, li_4, li_5, li_6, li_7, li_8, li_9, li_10, li_11, li_12, li_13, li_14, li_15, li_16, li_20, li_23, li_25, li_30, li_31, li_32, li_38, li_40, li_41, li_44, li_48, li_50, li_51, li_52, li_57, li_59, li_60, li_61, li_62, li_63, li_66, li_81, li_94, li_97, li_98, li_99, li_100, li_101, li_103, li_104, li_105, li_107, li_108, li_109, li_110, li_111, li_112, li_114, li_115, li_116, li_117, li_118, li_122, li_200, li_572, li_600, li_9999, li_10000, li_12345, li_1103515245]) (by simp (disch := omega) only [t2, letv, o_b, ↓reduceIte, e_sub, e_add, e_mul, e_ld, e_st, e_lt, e_nlt, e_le, e_nle, e_eq, e_neq, e_div, e_rem, m_lt, m_le, m_eq, m_eq2, m_ng, o_ld, true_and, and_true, Nat.one_ne_zero, Nat.zero_ne_one, Nat.reduceEqDiff, Bool.false_eq_true, not_true_eq_false, not_false_eq_true, li_0, li_1, li_2, li_3, li_4, li_5, li_6, li_7, li_8, li_9, li_10, li_11, li_12, li_13, li_14, li_15, li_16, li_20, li_23, li_25, li_30, li_31, li_32, li_38, li_40, li_41, li_44, li_48, li_50, li_51, li_52, li_57, li_59, li_60, li_61, li_62, li_63, li_66, li_81, li_94, li_97, li_98, li_99, li_100, li_101, li_103, li_104, li_105, li_107, li_108, li_109, li_110, li_111, li_112, li_114, li_115, li_116, li_117, li_118, li_122, li_200, li_572, li_600, li_9999, li_10000, li_12345, li_1103515245]) h
/-- fat -/
def ftP (k : Nat) (L : Ld) : Bool := decide (60 ≤ L_t L k 1)
theorem c_fat_l (hn : 1000 ≤ n) (hi : IE E) {k : Nat} (hk : k < 6) : ∀ m x f {U : V2} {L : Ld}, L_w L + m = E_en E → x + m ≤ 16 → m < f → EC G U R z (z + 1) E → LC U (z + 31) L → IL L → ∃ V', lX8_fat_26 n G R z (nI k) f U (nI x) = some V' ∧ LC V' (z + 31) (itL E (ftP k) m L) ∧ CF (z + 31) U V' := by
  have he := hi.2.1
  intro m
  induction m with
  | zero =>
    intro x f U L h1 h2 h3 hE h hL
    obtain ⟨f, rfl⟩ : ∃ g, f = g + 1 := ⟨f - 1, by omega⟩
    refine ⟨U, ?_, h, CF.rf⟩
    unfold lX8_fat_26
    have q : E_en E ≤ L_w L := by omega
    by_cases q2 : 16 ≤ x
    · simp (disch := omega) only [q2, letv, o_b, ↓reduceIte, e_sub, e_add, e_mul, e_ld, e_st, e_lt, e_nlt, e_le, e_nle, e_eq, e_neq, e_div, e_rem, m_lt, m_le, m_eq, m_eq2, m_ng, o_ld, true_and, and_true, Nat.one_ne_zero, Nat.zero_ne_one, Nat.reduceEqDiff, Bool.false_eq_true, not_true_eq_false, not_false_eq_true, li_0, li_1, li_2, li_3, li_4, li_5, li_6, li_7, li_8, li_9, li_10, li_11, li_12, li_13, li_14, li_15, li_16, li_20, li_23, li_25, li_30, li_31, li_32, li_38, li_40, li_41, li_44, li_48, li_50, li_51, li_52, li_57, li_59, li_60, li_61, li_62, li_63, li_66, li_81, li_94, li_97, li_98, li_99, li_100, li_101, li_103, li_104, li_105, li_107, li_108, li_109, li_110, li_111, li_112, li_114, li_115, li_116, li_117, li_118, li_122, li_200, li_572, li_600, li_9999, li_10000, li_12345, li_1103515245]
    · simp (disch := omega) only [q2, c_over hE hi h hL, q, letv, o_b, ↓reduceIte, e_sub, e_add, e_mul, e_ld, e_st, e_lt, e_nlt, e_le, e_nle, e_eq, e_neq, e_div, e_rem, m_lt, m_le, m_eq, m_eq2, m_ng, o_ld, true_and, and_true, Nat.one_ne_zero, Nat.zero_ne_one, Nat.reduceEqDiff, Bool.false_eq_true, not_true_eq_false, not_false_eq_true, li_0, li_1, li_2, li_3, li_4, li_5, li_6, li_7, li_8, li_9, li_10, li_11, li_12, li_13, li_14, li_15, li_16, li_20, li_23, li_25, li_30, li_31, li_32, li_38, li_40, li_41, li_44, li_48, li_50, li_51, li_52, li_57, li_59, li_60, li_61, li_62, li_63, li_66, li_81, li_94, li_97, li_98, li_99, li_100, li_101, li_103, li_104, li_105, li_107, li_108, li_109, li_110, li_111, li_112, li_114, li_115, li_116, li_117, li_118, li_122, li_200, li_572, li_600, li_9999, li_10000, li_12345, li_1103515245]
  | succ m ih =>
    intro x f U L h1 h2 h3 hE h hL
    obtain ⟨f, rfl⟩ : ∃ g, f = g + 1 := ⟨f - 1, by omega⟩
    have q : ¬ E_en E ≤ L_w L := by omega
    have t1 : U (z + 33) k = nI (L_t L k 1) := (h.2.2.2 k hk).2.1
    have i1 := (hL.2.2.2.2 k hk).2.2.1
    unfold itL ftP
    rw [if_neg q]
    by_cases c : 60 ≤ L_t L k 1
    · refine ⟨U, ?_, by simp only [c, decide_true, ↓reduceIte]; exact h, CF.rf⟩
      unfold lX8_fat_26
      simp (disch := omega) only [c_over hE hi h hL, q, t1, c, letv, o_b, ↓reduceIte, e_sub, e_add, e_mul, e_ld, e_st, e_lt, e_nlt, e_le, e_nle, e_eq, e_neq, e_div, e_rem, m_lt, m_le, m_eq, m_eq2, m_ng, o_ld, true_and, and_true, Nat.one_ne_zero, Nat.zero_ne_one, Nat.reduceEqDiff, Bool.false_eq_true, not_true_eq_false, not_false_eq_true, li_0, li_1, li_2, li_3, li_4, li_5, li_6, li_7, li_8, li_9, li_10, li_11, li_12, li_13, li_14, li_15, li_16, li_20, li_23, li_25, li_30, li_31, li_32, li_38, li_40, li_41, li_44, li_48, li_50, li_51, li_52, li_57, li_59, li_60, li_61, li_62, li_63, li_66, li_81, li_94, li_97, li_98, li_99, li_100, li_101, li_103, li_104, li_105, li_107, li_108, li_109, li_110, li_111, li_112, li_114, li_115, li_116, li_117, li_118, li_122, li_200, li_572, li_600, li_9999, li_10000, li_12345, li_1103515245]
    · obtain ⟨V1, a1, a2, a3⟩ := c_gr hn hE hi (ad_tr (a := z + 31) (by omega)) h hL (by omega) (N := 1) (by omega)
      rw [gr1 q] at a2
      obtain ⟨V2', b1, b2, b3⟩ := ih (x + 1) f (L := goL E L (rsA E L)) (by rw [goL_w]; omega) (by omega) (by omega) (hE.cf (ad_tr (a := z + 31) (by omega)) a3) a2 (goL_IL (E := E) (a := rsA E L) hL rsA_le (by omega))
      refine ⟨V2', ?_, by simp only [c, decide_false, Bool.false_eq_true, ↓reduceIte]; exact b2, a3.tr b3⟩
      unfold lX8_fat_26
      simp (disch := omega) only [c_over hE hi h hL, q, t1, c, a1, b1, letv, o_b, ↓reduceIte, e_sub, e_add, e_mul, e_ld, e_st, e_lt, e_nlt, e_le, e_nle, e_eq, e_neq, e_div, e_rem, m_lt, m_le, m_eq, m_eq2, m_ng, o_ld, true_and, and_true, Nat.one_ne_zero, Nat.zero_ne_one, Nat.reduceEqDiff, Bool.false_eq_true, not_true_eq_false, not_false_eq_true, li_0, li_1, li_2, li_3, li_4, li_5, li_6, li_7, li_8, li_9, li_10, li_11, li_12, li_13, li_14, li_15, li_16, li_20, li_23, li_25, li_30, li_31, li_32, li_38, li_40, li_41, li_44, li_48, li_50, li_51, li_52, li_57, li_59, li_60, li_61, li_62, li_63, li_66, li_81, li_94, li_97, li_98, li_99, li_100, li_101, li_103, li_104, li_105, li_107, li_108, li_109, li_110, li_111, li_112, li_114, li_115, li_116, li_117, li_118, li_122, li_200, li_572, li_600, li_9999, li_10000, li_12345, li_1103515245]
theorem m_fat_l (hn : 1000 ≤ n) (hi : IE E) {k : Nat} (hk : k < 6) : ∀ m f {U : V2} {L : Ld}, L_w L + m = E_en E → m < f → ME (U (b + 1)) E → MC (U (b + 1)) L → IL L → ∃ U', lX9_fat_15 n b (nI k) f U = some U' ∧ MC (U' (b + 1)) (itL E (ftP k) m L) ∧ IL (itL E (ftP k) m L) ∧ MF b U U' := by
  have he := hi.2.1
  intro m
  induction m with
  | zero =>
    intro f U L h1 h2 hE h hL
    obtain ⟨f, rfl⟩ : ∃ g, f = g + 1 := ⟨f - 1, by omega⟩
    refine ⟨U, ?_, h, hL, MF.rf⟩
    have q : E_en E ≤ L_w L := by omega
    unfold lX9_fat_15
    simp (disch := omega) only [m_over hE hi h hL, q, letv, o_b, ↓reduceIte, e_sub, e_add, e_mul, e_ld, e_st, e_lt, e_nlt, e_le, e_nle, e_eq, e_neq, e_div, e_rem, m_lt, m_le, m_eq, m_eq2, m_ng, o_ld, true_and, and_true, Nat.one_ne_zero, Nat.zero_ne_one, Nat.reduceEqDiff, Bool.false_eq_true, not_true_eq_false, not_false_eq_true, li_0, li_1, li_2, li_3, li_4, li_5, li_6, li_7, li_8, li_9, li_10, li_11, li_12, li_13, li_14, li_15, li_16, li_20, li_23, li_25, li_30, li_31, li_32, li_38, li_40, li_41, li_44, li_48, li_50, li_51, li_52, li_57, li_59, li_60, li_61, li_62, li_63, li_66, li_81, li_94, li_97, li_98, li_99, li_100, li_101, li_103, li_104, li_105, li_107, li_108, li_109, li_110, li_111, li_112, li_114, li_115, li_116, li_117, li_118, li_122, li_200, li_572, li_600, li_9999, li_10000, li_12345, li_1103515245]
  | succ m ih =>
    intro f U L h1 h2 hE h hL
    obtain ⟨f, rfl⟩ : ∃ g, f = g + 1 := ⟨f - 1, by omega⟩
    have q : ¬ E_en E ≤ L_w L := by omega
    have i1 := (hL.2.2.2.2 k hk).2.2.1
    unfold itL ftP
    rw [if_neg q]
    by_cases c : 60 ≤ L_t L k 1
    · simp only [c, decide_true, ↓reduceIte]
      refine ⟨U, ?_, h, hL, MF.rf⟩
      unfold lX9_fat_15
      simp (disch := omega) only [m_over hE hi h hL, q, m_its1 h hk, c, letv, o_b, ↓reduceIte, e_sub, e_add, e_mul, e_ld, e_st, e_lt, e_nlt, e_le, e_nle, e_eq, e_neq, e_div, e_rem, m_lt, m_le, m_eq, m_eq2, m_ng, o_ld, true_and, and_true, Nat.one_ne_zero, Nat.zero_ne_one, Nat.reduceEqDiff, Bool.false_eq_true, not_true_eq_false, not_false_eq_true, li_0, li_1, li_2, li_3, li_4, li_5, li_6, li_7, li_8, li_9, li_10, li_11, li_12, li_13, li_14, li_15, li_16, li_20, li_23, li_25, li_30, li_31, li_32, li_38, li_40, li_41, li_44, li_48, li_50, li_51, li_52, li_57, li_59, li_60, li_61, li_62, li_63, li_66, li_81, li_94, li_97, li_98, li_99, li_100, li_101, li_103, li_104, li_105, li_107, li_108, li_109, li_110, li_111, li_112, li_114, li_115, li_116, li_117, li_118, li_122, li_200, li_572, li_600, li_9999, li_10000, li_12345, li_1103515245]
    · simp only [c, decide_false, Bool.false_eq_true, ↓reduceIte]
      obtain ⟨V1, a1, a2, a3, -⟩ := m_goes hn hE hi h hL (t := rsA E L) rsA_le
      obtain ⟨W2, b1, b2, b3, b4⟩ := ih f (L := goL E L (rsA E L)) (by rw [goL_w]; omega) (by omega) (hE.mf a3) a2 (goL_IL hL rsA_le (by omega))
      refine ⟨W2, ?_, b2, b3, a3.tr b4⟩
      unfold lX9_fat_15
      simp (disch := omega) only [m_over hE hi h hL, q, m_its1 h hk, c, m_rest hn hE hi h hL, a1, b1, letv, o_b, ↓reduceIte, e_sub, e_add, e_mul, e_ld, e_st, e_lt, e_nlt, e_le, e_nle, e_eq, e_neq, e_div, e_rem, m_lt, m_le, m_eq, m_eq2, m_ng, o_ld, true_and, and_true, Nat.one_ne_zero, Nat.zero_ne_one, Nat.reduceEqDiff, Bool.false_eq_true, not_true_eq_false, not_false_eq_true, li_0, li_1, li_2, li_3, li_4, li_5, li_6, li_7, li_8, li_9, li_10, li_11, li_12, li_13, li_14, li_15, li_16, li_20, li_23, li_25, li_30, li_31, li_32, li_38, li_40, li_41, li_44, li_48, li_50, li_51, li_52, li_57, li_59, li_60, li_61, li_62, li_63, li_66, li_81, li_94, li_97, li_98, li_99, li_100, li_101, li_103, li_104, li_105, li_107, li_108, li_109, li_110, li_111, li_112, li_114, li_115, li_116, li_117, li_118, li_122, li_200, li_572, li_600, li_9999, li_10000, li_12345, li_1103515245]
theorem ok_fat' (hn : 1000 ≤ n) (h : RelB z b V R G U) (a1 : Int32) : ∃ o om, pX8_fat n G V R z a1 = some o ∧ pX9_fat n U b a1 = some om ∧ o.1 = om.1 ∧ RelB z b o.2 R G om.2 := by
  obtain ⟨hW, ⟨E, L, rn, rp, hN⟩, hO⟩ := id h
  obtain ⟨iE, iL, hw, hE, hL, mE, mC, hs, hz, pC, pM, iR⟩ := nw_parts hN
  have he := iE.2.1
  unfold pX8_fat pX9_fat
  rcases isT hL mC iL a1 with ⟨k, hk, hk6, rfl, t1, t2⟩ | ⟨t1, t2⟩
  · obtain ⟨V1, c1, c2, c3⟩ := c_copy (b := z + 31) (a := z + 2) hL (by omega)
    obtain ⟨V2', d1, d2, d3⟩ := c_fat_l hn iE hk6 (E_en E - L_w L) 0 n (by omega) (by omega) (by omega) (hE.cf (ad_tr (by omega)) c3) c2 iL
    obtain ⟨U1, g1, g2, g3, g4⟩ := m_think (n := n) (b := b) (U := U) hn
    obtain ⟨U2, e1, e2, e3, e4⟩ := m_fat_l (b := b) hn iE hk6 (E_en E - L_w L) n (U := U1) (L := L) (by omega) (by omega) (by rw [g2]; exact mE) (by rw [g2]; exact mC) iL
    obtain ⟨U3, f1, f2⟩ := g4 U2 e4
    generalize itL E (ftP k) (E_en E - L_w L) L = L' at d2 e2 e3
    have hq := sd_fr (c3.tr d3) (z := z) (by omega)
    have i16 := e3.1
    have i99 := (e3.2.2.2.2 k hk6).2.2.1
    have s1 : V2' (z + 33) k = nI (L_t L' k 1) := (d2.2.2.2 k hk6).2.1
    have s0 : V2' (z + 31) 0 = nI (L_w L') := d2.1
    by_cases p : 60 ≤ L_t L' k 1
    · refine pk (x := nI (L_w L')) (V' := V2') (U' := U3) ?_ ?_ rfl (h.ask (tr_NF hq) (tr_OV hq) (f2 _ (by omega)) (OU.asd f2))
      · simp (disch := omega) only [t1, e_10, c1, d1, s1, s0, letv, o_b, ↓reduceIte, e_sub, e_add, e_mul, e_ld, e_st, e_lt, e_nlt, e_le, e_nle, e_eq, e_neq, e_div, e_rem, m_lt, m_le, m_eq, m_eq2, m_ng, o_ld, true_and, and_true, Nat.one_ne_zero, Nat.zero_ne_one, Nat.reduceEqDiff, Bool.false_eq_true, not_true_eq_false, not_false_eq_true, li_0, li_1, li_2, li_3, li_4, li_5, li_6, li_7, li_8, li_9, li_10, li_11, li_12, li_13, li_14, li_15, li_16, li_20, li_23, li_25, li_30, li_31, li_32, li_38, li_40, li_41, li_44, li_48, li_50, li_51, li_52, li_57, li_59, li_60, li_61, li_62, li_63, li_66, li_81, li_94, li_97, li_98, li_99, li_100, li_101, li_103, li_104, li_105, li_107, li_108, li_109, li_110, li_111, li_112, li_114, li_115, li_116, li_117, li_118, li_122, li_200, li_572, li_600, li_9999, li_10000, li_12345, li_1103515245]
      · simp (disch := omega) only [t2, e_10, g1, e1, m_its1 e2 hk6, e2.1, f1, letv, o_b, ↓reduceIte, e_sub, e_add, e_mul, e_ld, e_st, e_lt, e_nlt, e_le, e_nle, e_eq, e_neq, e_div, e_rem, m_lt, m_le, m_eq, m_eq2, m_ng, o_ld, true_and, and_true, Nat.one_ne_zero, Nat.zero_ne_one, Nat.reduceEqDiff, Bool.false_eq_true, not_true_eq_false, not_false_eq_true, li_0, li_1, li_2, li_3, li_4, li_5, li_6, li_7, li_8, li_9, li_10, li_11, li_12, li_13, li_14, li_15, li_16, li_20, li_23, li_25, li_30, li_31, li_32, li_38, li_40, li_41, li_44, li_48, li_50, li_51, li_52, li_57, li_59, li_60, li_61, li_62, li_63, li_66, li_81, li_94, li_97, li_98, li_99, li_100, li_101, li_103, li_104, li_105, li_107, li_108, li_109, li_110, li_111, li_112, li_114, li_115, li_116, li_117, li_118, li_122, li_200, li_572, li_600, li_9999, li_10000, li_12345, li_1103515245]
    · refine pk (x := -(nI 3)) (V' := V2') (U' := U3) ?_ ?_ rfl (h.ask (tr_NF hq) (tr_OV hq) (f2 _ (by omega)) (OU.asd f2))
      · simp (disch := omega) only [t1, e_10, c1, d1, s1, s0, letv, o_b, ↓reduceIte, e_sub, e_add, e_mul, e_ld, e_st, e_lt, e_nlt, e_le, e_nle, e_eq, e_neq, e_div, e_rem, m_lt, m_le, m_eq, m_eq2, m_ng, o_ld, true_and, and_true, Nat.one_ne_zero, Nat.zero_ne_one, Nat.reduceEqDiff, Bool.false_eq_true, not_true_eq_false, not_false_eq_true, li_0, li_1, li_2, li_3, li_4, li_5, li_6, li_7, li_8, li_9, li_10, li_11, li_12, li_13, li_14, li_15, li_16, li_20, li_23, li_25, li_30, li_31, li_32, li_38, li_40, li_41, li_44, li_48, li_50, li_51, li_52, li_57, li_59, li_60, li_61, li_62, li_63, li_66, li_81, li_94, li_97, li_98, li_99, li_100, li_101, li_103, li_104, li_105, li_107, li_108, li_109, li_110, li_111, li_112, li_114, li_115, li_116, li_117, li_118, li_122, li_200, li_572, li_600, li_9999, li_10000, li_12345, li_1103515245]
      · simp (disch := omega) only [t2, e_10, g1, e1, m_its1 e2 hk6, f1, letv, o_b, ↓reduceIte, e_sub, e_add, e_mul, e_ld, e_st, e_lt, e_nlt, e_le, e_nle, e_eq, e_neq, e_div, e_rem, m_lt, m_le, m_eq, m_eq2, m_ng, o_ld, true_and, and_true, Nat.one_ne_zero, Nat.zero_ne_one, Nat.reduceEqDiff, Bool.false_eq_true, not_true_eq_false, not_false_eq_true, li_0, li_1, li_2, li_3, li_4, li_5, li_6, li_7, li_8, li_9, li_10, li_11, li_12, li_13, li_14, li_15, li_16, li_20, li_23, li_25, li_30, li_31, li_32, li_38, li_40, li_41, li_44, li_48, li_50, li_51, li_52, li_57, li_59, li_60, li_61, li_62, li_63, li_66, li_81, li_94, li_97, li_98, li_99, li_100, li_101, li_103, li_104, li_105, li_107, li_108, li_109, li_110, li_111, li_112, li_114, li_115, li_116, li_117, li_118, li_122, li_200, li_572, li_600, li_9999, li_10000, li_12345, li_1103515245]
  · exact pkx (-(nI 1)) (by simp (disch := omega) only [t1, letv, o_b, ↓reduceIte, e_sub, e_add, e_mul, e_ld, e_st, e_lt, e_nlt, e_le, e_nle, e_eq, e_neq, e_div, e_rem, m_lt, m_le, m_eq, m_eq2, m_ng, o_ld, true_and, and_true, Nat.one_ne_zero, Nat.zero_ne_one, Nat.reduceEqDiff, Bool.false_eq_true, not_true_eq_false, not_false_eq_true, li_0, li_1, li_2, li_3, li_4, li_5, li_6, li_7, li_8, li_9, li_10, li_11, li_12, li_13, li_14, li_15, li_16, li_20, li_23, li_25, li_30, li_31, li_32, li_38, li_40, li_41, li_44, li_48, li_50, li_51, li_52, li_57, li_59, li_60, li_61, li_62, li_63, li_66, li_81, li_94, li_97, li_98, li_99, li_100, li_101, li_103, li_104, li_105, li_107, li_108, li_109, li_110, li_111, li_112, li_114, li_115, li_116, li_117, li_118, li_122, li_200, li_572, li_600, li_9999, li_10000, li_12345, li_1103515245]) (by simp (disch := omega) only [t2, letv, o_b, ↓reduceIte, e_sub, e_add, e_mul, e_ld, e_st, e_lt, e_nlt, e_le, e_nle, e_eq, e_neq, e_div, e_rem, m_lt, m_le, m_eq, m_eq2, m_ng, o_ld, true_and, and_true, Nat.one_ne_zero, Nat.zero_ne_one, Nat.reduceEqDiff, Bool.false_eq_true, not_true_eq_false, not_false_eq_true, li_0, li_1, li_2, li_3, li_4, li_5, li_6, li_7, li_8, li_9, li_10, li_11, li_12, li_13, li_14, li_15, li_16, li_20, li_23, li_25, li_30, li_31, li_32, li_38, li_40, li_41, li_44, li_48, li_50, li_51, li_52, li_57, li_59, li_60, li_61, li_62, li_63, li_66, li_81, li_94, li_97, li_98, li_99, li_100, li_101, li_103, li_104, li_105, li_107, li_108, li_109, li_110, li_111, li_112, li_114, li_115, li_116, li_117, li_118, li_122, li_200, li_572, li_600, li_9999, li_10000, li_12345, li_1103515245]) h
/-- the number with which most comes of it; of several the least -/
def bfA (g : Nat → Nat) : Nat → Nat → Nat → Nat → Nat
  | _, 0, be, _ => be
  | x, m + 1, be, mo => if g x + 1 ≤ mo then bfA g (x + 1) m be mo else bfA g (x + 1) m x (g x + 1)
def wtA (E : En) (L : Ld) (k j v : Nat) : Nat := grW E 16 (L_w L, L_c L, L_f L, upT (L_t L) k j v)
theorem c_crease_l (hn : 1000 ≤ n) (hi : IE E) {k : Nat} (hk : k < 6) (hL : IL L) (hw : L_w L ≤ E_en E) : ∀ m x f be mo {U : V2}, x + m = 10 → m < f → mo ≤ 1000 → EC G U R z (z + 1) E → LC U (z + 2) L → ∃ V', lX8_creaseFor_17 n G R z (nI k) f U (nI be) (nI mo - nI 1) (nI x) = some (V', nI (bfA (wtA E L k 2) x m be mo)) ∧ CF (z + 31) U V' := by
  have he := hi.2.1
  intro m
  induction m with
  | zero =>
    intro x f be mo U h1 h2 h3 hE h
    obtain ⟨f, rfl⟩ : ∃ g, f = g + 1 := ⟨f - 1, by omega⟩
    refine ⟨U, ?_, CF.rf⟩
    unfold lX8_creaseFor_17 bfA
    simp (disch := omega) only [letv, o_b, ↓reduceIte, e_sub, e_add, e_mul, e_ld, e_st, e_lt, e_nlt, e_le, e_nle, e_eq, e_neq, e_div, e_rem, m_lt, m_le, m_eq, m_eq2, m_ng, o_ld, true_and, and_true, Nat.one_ne_zero, Nat.zero_ne_one, Nat.reduceEqDiff, Bool.false_eq_true, not_true_eq_false, not_false_eq_true, li_0, li_1, li_2, li_3, li_4, li_5, li_6, li_7, li_8, li_9, li_10, li_11, li_12, li_13, li_14, li_15, li_16, li_20, li_23, li_25, li_30, li_31, li_32, li_38, li_40, li_41, li_44, li_48, li_50, li_51, li_52, li_57, li_59, li_60, li_61, li_62, li_63, li_66, li_81, li_94, li_97, li_98, li_99, li_100, li_101, li_103, li_104, li_105, li_107, li_108, li_109, li_110, li_111, li_112, li_114, li_115, li_116, li_117, li_118, li_122, li_200, li_572, li_600, li_9999, li_10000, li_12345, li_1103515245]
  | succ m ih =>
    intro x f be mo U h1 h2 h3 hE h
    obtain ⟨f, rfl⟩ : ∃ g, f = g + 1 := ⟨f - 1, by omega⟩
    obtain ⟨V1, c1, c2, c3⟩ := c_copy (b := z + 31) (a := z + 2) h (by omega)
    have s2 : LC (up2 V1 (z + 34) k (nI x)) (z + 31) (L_w L, L_c L, L_f L, upT (L_t L) k 2 x) := c2.setT (j := 2) k x (by omega)
    have s3 : CF (z + 31) V1 (up2 V1 (z + 34) k (nI x)) := CF.up (by omega)
    have sI : IL (L_w L, L_c L, L_f L, upT (L_t L) k 2 x) := hL.setT (by omega)
    obtain ⟨V2', d1, d2, d3⟩ := c_gr hn ((hE.cf (ad_tr (by omega)) c3).cf (ad_tr (by omega)) s3) hi (ad_tr (a := z + 31) (by omega)) s2 sI hw (N := 16) (by omega)
    have hf := (c3.tr s3).tr d3
    have hw16 := grW_le hi 16 sI
    have hE' : EC G V2' R z (z + 1) E := hE.cf (ad_tr (by omega)) hf
    have h' : LC V2' (z + 2) L := h.fr fun y h1 h2 => hf y (by omega)
    have eg : grW E 16 (L_w L, L_c L, L_f L, upT (L_t L) k 2 x) = wtA E L k 2 x := rfl
    rw [eg] at d1 hw16
    unfold bfA
    by_cases q : wtA E L k 2 x + 1 ≤ mo
    · obtain ⟨V3, b1, b2⟩ := ih (x + 1) f be mo (by omega) (by omega) h3 hE' h'
      refine ⟨V3, ?_, hf.tr b2⟩
      rw [if_pos q]
      unfold lX8_creaseFor_17
      simp (disch := omega) only [letv, o_b, li_1, li_9, li_16, e_nlt, e_add, ↓reduceIte, c1, e_st, d1, m1_le, q, b1]
    · obtain ⟨V3, b1, b2⟩ := ih (x + 1) f x (wtA E L k 2 x + 1) (by omega) (by omega) (by omega) hE' h'
      refine ⟨V3, ?_, hf.tr b2⟩
      rw [if_neg q]
      rw [e_sub (by omega), Nat.add_sub_cancel] at b1
      unfold lX8_creaseFor_17
      simp (disch := omega) only [letv, o_b, li_1, li_9, li_16, e_nlt, e_add, ↓reduceIte, c1, e_st, d1, m1_le, q, b1]
theorem c_board_l (hn : 1000 ≤ n) (hi : IE E) {k : Nat} (hk : k < 6) (hL : IL L) (hw : L_w L ≤ E_en E) : ∀ m x f be mo {U : V2}, x + m = 6 → m < f → mo ≤ 1000 → EC G U R z (z + 1) E → LC U (z + 2) L → ∃ V', lX8_boardFor_17 n G R z (nI k) f U (nI be) (nI mo - nI 1) (nI x) = some (V', nI (bfA (wtA E L k 3) x m be mo)) ∧ CF (z + 31) U V' := by
  have he := hi.2.1
  intro m
  induction m with
  | zero =>
    intro x f be mo U h1 h2 h3 hE h
    obtain ⟨f, rfl⟩ : ∃ g, f = g + 1 := ⟨f - 1, by omega⟩
    refine ⟨U, ?_, CF.rf⟩
    unfold lX8_boardFor_17 bfA
    simp (disch := omega) only [letv, o_b, ↓reduceIte, e_sub, e_add, e_mul, e_ld, e_st, e_lt, e_nlt, e_le, e_nle, e_eq, e_neq, e_div, e_rem, m_lt, m_le, m_eq, m_eq2, m_ng, o_ld, true_and, and_true, Nat.one_ne_zero, Nat.zero_ne_one, Nat.reduceEqDiff, Bool.false_eq_true, not_true_eq_false, not_false_eq_true, li_0, li_1, li_2, li_3, li_4, li_5, li_6, li_7, li_8, li_9, li_10, li_11, li_12, li_13, li_14, li_15, li_16, li_20, li_23, li_25, li_30, li_31, li_32, li_38, li_40, li_41, li_44, li_48, li_50, li_51, li_52, li_57, li_59, li_60, li_61, li_62, li_63, li_66, li_81, li_94, li_97, li_98, li_99, li_100, li_101, li_103, li_104, li_105, li_107, li_108, li_109, li_110, li_111, li_112, li_114, li_115, li_116, li_117, li_118, li_122, li_200, li_572, li_600, li_9999, li_10000, li_12345, li_1103515245]
  | succ m ih =>
    intro x f be mo U h1 h2 h3 hE h
    obtain ⟨f, rfl⟩ : ∃ g, f = g + 1 := ⟨f - 1, by omega⟩
    obtain ⟨V1, c1, c2, c3⟩ := c_copy (b := z + 31) (a := z + 2) h (by omega)
    have s2 : LC (up2 V1 (z + 35) k (nI x)) (z + 31) (L_w L, L_c L, L_f L, upT (L_t L) k 3 x) := c2.setT (j := 3) k x (by omega)
    have s3 : CF (z + 31) V1 (up2 V1 (z + 35) k (nI x)) := CF.up (by omega)
    have sI : IL (L_w L, L_c L, L_f L, upT (L_t L) k 3 x) := hL.setT (by omega)
    obtain ⟨V2', d1, d2, d3⟩ := c_gr hn ((hE.cf (ad_tr (by omega)) c3).cf (ad_tr (by omega)) s3) hi (ad_tr (a := z + 31) (by omega)) s2 sI hw (N := 16) (by omega)
    have hf := (c3.tr s3).tr d3
    have hw16 := grW_le hi 16 sI
    have hE' : EC G V2' R z (z + 1) E := hE.cf (ad_tr (by omega)) hf
    have h' : LC V2' (z + 2) L := h.fr fun y h1 h2 => hf y (by omega)
    have eg : grW E 16 (L_w L, L_c L, L_f L, upT (L_t L) k 3 x) = wtA E L k 3 x := rfl
    rw [eg] at d1 hw16
    unfold bfA
    by_cases q : wtA E L k 3 x + 1 ≤ mo
    · obtain ⟨V3, b1, b2⟩ := ih (x + 1) f be mo (by omega) (by omega) h3 hE' h'
      refine ⟨V3, ?_, hf.tr b2⟩
      rw [if_pos q]
      unfold lX8_boardFor_17
      simp (disch := omega) only [letv, o_b, li_1, li_6, li_16, e_nle, e_add, ↓reduceIte, c1, e_st, d1, m1_le, q, b1]
    · obtain ⟨V3, b1, b2⟩ := ih (x + 1) f x (wtA E L k 3 x + 1) (by omega) (by omega) (by omega) hE' h'
      refine ⟨V3, ?_, hf.tr b2⟩
      rw [if_neg q]
      rw [e_sub (by omega), Nat.add_sub_cancel] at b1
      unfold lX8_boardFor_17
      simp (disch := omega) only [letv, o_b, li_1, li_6, li_16, e_nle, e_add, ↓reduceIte, c1, e_st, d1, m1_le, q, b1]
theorem m_for_l (hn : 1000 ≤ n) (hi : IE E) {k j N : Nat} (hk : k < 6) (hj : j = 2 ∧ N = 9 ∨ j = 3 ∧ N = 5) (hL : IL L) (hw : L_w L ≤ E_en E) : ∀ m x f be mo v {U : V2}, x + m = N + 1 → m < f → mo ≤ 1000 → ME (U (b + 1)) E → MC (U (b + 1)) (L_w L, L_c L, L_f L, upT (L_t L) k j v) → ∃ U', lX9_valueFor_26 n b (nI j) (nI (8 + 5 * k + j)) f U (nI be) (nI mo - nI 1) (nI x) = some (U', nI (bfA (wtA E L k j) x m be mo)) ∧ (∀ y, y ≠ b + 3 → y ≠ b + 1 → U' y = U y) ∧ ∀ i, i ≠ 8 + 5 * k + j → U' (b + 1) i = U (b + 1) i := by
  have he := hi.2.1
  have eg : pX9_greatestOf (nI j) = some (nI N) := by
    unfold pX9_greatestOf
    rcases hj with ⟨rfl, rfl⟩ | ⟨rfl, rfl⟩ <;> simp (disch := omega) only [letv, o_b, ↓reduceIte, e_sub, e_add, e_mul, e_ld, e_st, e_lt, e_nlt, e_le, e_nle, e_eq, e_neq, e_div, e_rem, m_lt, m_le, m_eq, m_eq2, m_ng, o_ld, true_and, and_true, Nat.one_ne_zero, Nat.zero_ne_one, Nat.reduceEqDiff, Bool.false_eq_true, not_true_eq_false, not_false_eq_true, li_0, li_1, li_2, li_3, li_4, li_5, li_6, li_7, li_8, li_9, li_10, li_11, li_12, li_13, li_14, li_15, li_16, li_20, li_23, li_25, li_30, li_31, li_32, li_38, li_40, li_41, li_44, li_48, li_50, li_51, li_52, li_57, li_59, li_60, li_61, li_62, li_63, li_66, li_81, li_94, li_97, li_98, li_99, li_100, li_101, li_103, li_104, li_105, li_107, li_108, li_109, li_110, li_111, li_112, li_114, li_115, li_116, li_117, li_118, li_122, li_200, li_572, li_600, li_9999, li_10000, li_12345, li_1103515245]
  intro m
  induction m with
  | zero =>
    intro x f be mo v U h1 h2 h3 hE h
    obtain ⟨f, rfl⟩ : ∃ g, f = g + 1 := ⟨f - 1, by omega⟩
    refine ⟨U, ?_, fun _ _ _ => rfl, fun _ _ => rfl⟩
    unfold lX9_valueFor_26 bfA
    simp (disch := omega) only [eg, letv, o_b, ↓reduceIte, e_sub, e_add, e_mul, e_ld, e_st, e_lt, e_nlt, e_le, e_nle, e_eq, e_neq, e_div, e_rem, m_lt, m_le, m_eq, m_eq2, m_ng, o_ld, true_and, and_true, Nat.one_ne_zero, Nat.zero_ne_one, Nat.reduceEqDiff, Bool.false_eq_true, not_true_eq_false, not_false_eq_true, li_0, li_1, li_2, li_3, li_4, li_5, li_6, li_7, li_8, li_9, li_10, li_11, li_12, li_13, li_14, li_15, li_16, li_20, li_23, li_25, li_30, li_31, li_32, li_38, li_40, li_41, li_44, li_48, li_50, li_51, li_52, li_57, li_59, li_60, li_61, li_62, li_63, li_66, li_81, li_94, li_97, li_98, li_99, li_100, li_101, li_103, li_104, li_105, li_107, li_108, li_109, li_110, li_111, li_112, li_114, li_115, li_116, li_117, li_118, li_122, li_200, li_572, li_600, li_9999, li_10000, li_12345, li_1103515245]
  | succ m ih =>
    intro x f be mo v U h1 h2 h3 hE h
    obtain ⟨f, rfl⟩ : ∃ g, f = g + 1 := ⟨f - 1, by omega⟩
    have s2 : MC (up2 U (b + 1) (8 + 5 * k + j) (nI x) (b + 1)) (L_w L, L_c L, L_f L, upT (L_t L) k j x) := by
      refine (h.setT (j := j) k x (by omega) hk).cg fun a _ c _ => ?_
      show upT (upT (L_t L) k j v) k j x a c = upT (L_t L) k j x a c
      rw [upT_at, upT_at, upT_at]
      by_cases q : a = k ∧ c = j
      · rw [if_pos q, if_pos q]
      · rw [if_neg q, if_neg q, if_neg q]
    have sE : ME (up2 U (b + 1) (8 + 5 * k + j) (nI x) (b + 1)) E := hE.low (by omega)
    have sI : IL (L_w L, L_c L, L_f L, upT (L_t L) k j x) := hL.setT (by omega)
    obtain ⟨U2, d1, d2⟩ := m_onBy hn sE hi s2 sI hw (N := 16) (by omega)
    have hw16 := grW_le hi 16 sI
    have eq : grW E 16 (L_w L, L_c L, L_f L, upT (L_t L) k j x) = wtA E L k j x := rfl
    rw [eq] at d1 hw16
    have r1 : U2 (b + 1) = up2 U (b + 1) (8 + 5 * k + j) (nI x) (b + 1) := d2 _ (by omega)
    unfold bfA
    by_cases q : wtA E L k j x + 1 ≤ mo
    · obtain ⟨U3, b1, b2, b3⟩ := ih (x + 1) f be mo x (U := U2) (by omega) (by omega) h3 (by rw [r1]; exact sE) (by rw [r1]; exact s2)
      refine ⟨U3, ?_, fun y hy hy2 => by rw [b2 y hy hy2, d2 y hy, w_row hy2], fun i hi => by rw [b3 i hi, r1, w_idx hi]⟩
      rw [if_pos q]
      unfold lX9_valueFor_26
      simp (disch := omega) only [letv, o_b, li_1, li_16, e_nlt, e_add, ↓reduceIte, eg, e_st, d1, m1_le, q, m1_gr, Nat.max_eq_left, b1]
    · obtain ⟨U3, b1, b2, b3⟩ := ih (x + 1) f x (wtA E L k j x + 1) x (U := U2) (by omega) (by omega) (by omega) (by rw [r1]; exact sE) (by rw [r1]; exact s2)
      refine ⟨U3, ?_, fun y hy hy2 => by rw [b2 y hy hy2, d2 y hy, w_row hy2], fun i hi => by rw [b3 i hi, r1, w_idx hi]⟩
      rw [if_neg q]
      unfold lX9_valueFor_26
      simp (disch := omega) only [letv, o_b, li_1, li_16, e_nlt, e_add, ↓reduceIte, eg, e_st, d1, m1_le, q, m1_gr, Nat.max_eq_right, b1]
theorem m_for (hn : 1000 ≤ n) (hE : ME (U (b + 1)) E) (hi : IE E) (h : MC (U (b + 1)) L) {k j N : Nat} (hk : k < 6) (hj : j = 2 ∧ N = 9 ∨ j = 3 ∧ N = 5) (hL : IL L) (hw : L_w L ≤ E_en E) : ∃ U', pX9_valueFor n U b (nI k) (nI j) = some (nI (bfA (wtA E L k j) 0 (N + 1) 0 0), U') ∧ ∀ y, y ≠ b + 3 → U' y = U y := by
  have h0 : MC (U (b + 1)) (L_w L, L_c L, L_f L, upT (L_t L) k j (L_t L k j)) := (show MC (U (b + 1)) (L_w L, L_c L, L_f L, L_t L) from h).cg fun a _ c _ => by
    rw [upT_at]
    split
    · rename_i q; rw [q.1, q.2]
    · rfl
  obtain ⟨U', e1, e2, e3⟩ := m_for_l (b := b) hn hi hk hj hL hw (N + 1) 0 n 0 0 (L_t L k j) (U := U) (by omega) (by omega) (by omega) hE h0
  rw [show (nI 0 - nI 1 : Int32) = -(nI 1) by decide] at e1
  refine ⟨up2 U' (b + 1) (8 + 5 * k + j) (U (b + 1) (8 + 5 * k + j)), ?_, fun y hy => ?_⟩
  · unfold pX9_valueFor
    simp (disch := omega) only [e1, letv, o_b, ↓reduceIte, e_sub, e_add, e_mul, e_ld, e_st, e_lt, e_nlt, e_le, e_nle, e_eq, e_neq, e_div, e_rem, m_lt, m_le, m_eq, m_eq2, m_ng, o_ld, true_and, and_true, Nat.one_ne_zero, Nat.zero_ne_one, Nat.reduceEqDiff, Bool.false_eq_true, not_true_eq_false, not_false_eq_true, li_0, li_1, li_2, li_3, li_4, li_5, li_6, li_7, li_8, li_9, li_10, li_11, li_12, li_13, li_14, li_15, li_16, li_20, li_23, li_25, li_30, li_31, li_32, li_38, li_40, li_41, li_44, li_48, li_50, li_51, li_52, li_57, li_59, li_60, li_61, li_62, li_63, li_66, li_81, li_94, li_97, li_98, li_99, li_100, li_101, li_103, li_104, li_105, li_107, li_108, li_109, li_110, li_111, li_112, li_114, li_115, li_116, li_117, li_118, li_122, li_200, li_572, li_600, li_9999, li_10000, li_12345, li_1103515245]
  · by_cases q : y = b + 1
    · rw [q]
      funext i
      rw [w_at]
      split
      · rename_i q2; rw [q2]
      · rename_i q2; exact e3 i q2
    · rw [w_row q, e2 y hy q]
theorem ok_creaseFor' (hn : 1000 ≤ n) (h : RelB z b V R G U) (a1 : Int32) : ∃ o om, pX8_creaseFor n G V R z a1 = some o ∧ pX9_creaseFor n U b a1 = some om ∧ o.1 = om.1 ∧ RelB z b o.2 R G om.2 := by
  obtain ⟨hW, ⟨E, L, rn, rp, hN⟩, hO⟩ := id h
  obtain ⟨iE, iL, hw, hE, hL, mE, mC, hs, hz, pC, pM, iR⟩ := nw_parts hN
  unfold pX8_creaseFor pX9_creaseFor
  rcases isT hL mC iL a1 with ⟨k, hk, hk6, rfl, t1, t2⟩ | ⟨t1, t2⟩
  · obtain ⟨V1, c1, c2⟩ := c_crease_l hn iE hk6 iL hw 10 0 n 0 0 (by omega) (by omega) (by omega) hE hL
    obtain ⟨U1, d1, d2⟩ := m_for hn mE iE mC hk6 (Or.inl ⟨rfl, rfl⟩) iL hw
    rw [show (nI 0 - nI 1 : Int32) = -(nI 1) by decide] at c1
    have hq := sd_fr c2 (z := z) (by omega)
    refine pk (x := nI (bfA (wtA E L k 2) 0 10 0 0)) (V' := V1) (U' := U1) ?_ ?_ rfl (h.ask (tr_NF hq) (tr_OV hq) (d2 _ (by omega)) (OU.asd d2))
    · simp (disch := omega) only [t1, e_10, c1, letv, o_b, ↓reduceIte, e_sub, e_add, e_mul, e_ld, e_st, e_lt, e_nlt, e_le, e_nle, e_eq, e_neq, e_div, e_rem, m_lt, m_le, m_eq, m_eq2, m_ng, o_ld, true_and, and_true, Nat.one_ne_zero, Nat.zero_ne_one, Nat.reduceEqDiff, Bool.false_eq_true, not_true_eq_false, not_false_eq_true, li_0, li_1, li_2, li_3, li_4, li_5, li_6, li_7, li_8, li_9, li_10, li_11, li_12, li_13, li_14, li_15, li_16, li_20, li_23, li_25, li_30, li_31, li_32, li_38, li_40, li_41, li_44, li_48, li_50, li_51, li_52, li_57, li_59, li_60, li_61, li_62, li_63, li_66, li_81, li_94, li_97, li_98, li_99, li_100, li_101, li_103, li_104, li_105, li_107, li_108, li_109, li_110, li_111, li_112, li_114, li_115, li_116, li_117, li_118, li_122, li_200, li_572, li_600, li_9999, li_10000, li_12345, li_1103515245]
    · simp (disch := omega) only [t2, e_10, d1, letv, o_b, ↓reduceIte, e_sub, e_add, e_mul, e_ld, e_st, e_lt, e_nlt, e_le, e_nle, e_eq, e_neq, e_div, e_rem, m_lt, m_le, m_eq, m_eq2, m_ng, o_ld, true_and, and_true, Nat.one_ne_zero, Nat.zero_ne_one, Nat.reduceEqDiff, Bool.false_eq_true, not_true_eq_false, not_false_eq_true, li_0, li_1, li_2, li_3, li_4, li_5, li_6, li_7, li_8, li_9, li_10, li_11, li_12, li_13, li_14, li_15, li_16, li_20, li_23, li_25, li_30, li_31, li_32, li_38, li_40, li_41, li_44, li_48, li_50, li_51, li_52, li_57, li_59, li_60, li_61, li_62, li_63, li_66, li_81, li_94, li_97, li_98, li_99, li_100, li_101, li_103, li_104, li_105, li_107, li_108, li_109, li_110, li_111, li_112, li_114, li_115, li_116, li_117, li_118, li_122, li_200, li_572, li_600, li_9999, li_10000, li_12345, li_1103515245]
  · exact pkx (-(nI 1)) (by simp (disch := omega) only [t1, letv, o_b, ↓reduceIte, e_sub, e_add, e_mul, e_ld, e_st, e_lt, e_nlt, e_le, e_nle, e_eq, e_neq, e_div, e_rem, m_lt, m_le, m_eq, m_eq2, m_ng, o_ld, true_and, and_true, Nat.one_ne_zero, Nat.zero_ne_one, Nat.reduceEqDiff, Bool.false_eq_true, not_true_eq_false, not_false_eq_true, li_0, li_1, li_2, li_3, li_4, li_5, li_6, li_7, li_8, li_9, li_10, li_11, li_12, li_13, li_14, li_15, li_16, li_20, li_23, li_25, li_30, li_31, li_32, li_38, li_40, li_41, li_44, li_48, li_50, li_51, li_52, li_57, li_59, li_60, li_61, li_62, li_63, li_66, li_81, li_94, li_97, li_98, li_99, li_100, li_101, li_103, li_104, li_105, li_107, li_108, li_109, li_110, li_111, li_112, li_114, li_115, li_116, li_117, li_118, li_122, li_200, li_572, li_600, li_9999, li_10000, li_12345, li_1103515245]) (by simp (disch := omega) only [t2, letv, o_b, ↓reduceIte, e_sub, e_add, e_mul, e_ld, e_st, e_lt, e_nlt, e_le, e_nle, e_eq, e_neq, e_div, e_rem, m_lt, m_le, m_eq, m_eq2, m_ng, o_ld, true_and, and_true, Nat.one_ne_zero, Nat.zero_ne_one, Nat.reduceEqDiff, Bool.false_eq_true, not_true_eq_false, not_false_eq_true, li_0, li_1, li_2, li_3, li_4, li_5, li_6, li_7, li_8, li_9, li_10, li_11, li_12, li_13, li_14, li_15, li_16, li_20, li_23, li_25, li_30, li_31, li_32, li_38, li_40, li_41, li_44, li_48, li_50, li_51, li_52, li_57, li_59, li_60, li_61, li_62, li_63, li_66, li_81, li_94, li_97, li_98, li_99, li_100, li_101, li_103, li_104, li_105, li_107, li_108, li_109, li_110, li_111, li_112, li_114, li_115, li_116, li_117, li_118, li_122, li_200, li_572, li_600, li_9999, li_10000, li_12345, li_1103515245]) h
theorem ok_boardFor' (hn : 1000 ≤ n) (h : RelB z b V R G U) (a1 : Int32) : ∃ o om, pX8_boardFor n G V R z a1 = some o ∧ pX9_boardFor n U b a1 = some om ∧ o.1 = om.1 ∧ RelB z b o.2 R G om.2 := by
  obtain ⟨hW, ⟨E, L, rn, rp, hN⟩, hO⟩ := id h
  obtain ⟨iE, iL, hw, hE, hL, mE, mC, hs, hz, pC, pM, iR⟩ := nw_parts hN
  unfold pX8_boardFor pX9_boardFor
  rcases isT hL mC iL a1 with ⟨k, hk, hk6, rfl, t1, t2⟩ | ⟨t1, t2⟩
  · obtain ⟨V1, c1, c2⟩ := c_board_l hn iE hk6 iL hw 6 0 n 0 0 (by omega) (by omega) (by omega) hE hL
    obtain ⟨U1, d1, d2⟩ := m_for hn mE iE mC hk6 (Or.inr ⟨rfl, rfl⟩) iL hw
    rw [show (nI 0 - nI 1 : Int32) = -(nI 1) by decide] at c1
    have hq := sd_fr c2 (z := z) (by omega)
    refine pk (x := nI (bfA (wtA E L k 3) 0 6 0 0)) (V' := V1) (U' := U1) ?_ ?_ rfl (h.ask (tr_NF hq) (tr_OV hq) (d2 _ (by omega)) (OU.asd d2))
    · simp (disch := omega) only [t1, e_10, c1, letv, o_b, ↓reduceIte, e_sub, e_add, e_mul, e_ld, e_st, e_lt, e_nlt, e_le, e_nle, e_eq, e_neq, e_div, e_rem, m_lt, m_le, m_eq, m_eq2, m_ng, o_ld, true_and, and_true, Nat.one_ne_zero, Nat.zero_ne_one, Nat.reduceEqDiff, Bool.false_eq_true, not_true_eq_false, not_false_eq_true, li_0, li_1, li_2, li_3, li_4, li_5, li_6, li_7, li_8, li_9, li_10, li_11, li_12, li_13, li_14, li_15, li_16, li_20, li_23, li_25, li_30, li_31, li_32, li_38, li_40, li_41, li_44, li_48, li_50, li_51, li_52, li_57, li_59, li_60, li_61, li_62, li_63, li_66, li_81, li_94, li_97, li_98, li_99, li_100, li_101, li_103, li_104, li_105, li_107, li_108, li_109, li_110, li_111, li_112, li_114, li_115, li_116, li_117, li_118, li_122, li_200, li_572, li_600, li_9999, li_10000, li_12345, li_1103515245]
    · simp (disch := omega) only [t2, e_10, d1, letv, o_b, ↓reduceIte, e_sub, e_add, e_mul, e_ld, e_st, e_lt, e_nlt, e_le, e_nle, e_eq, e_neq, e_div, e_rem, m_lt, m_le, m_eq, m_eq2, m_ng, o_ld, true_and, and_true, Nat.one_ne_zero, Nat.zero_ne_one, Nat.reduceEqDiff, Bool.false_eq_true, not_true_eq_false, not_false_eq_true, li_0, li_1, li_2, li_3, li_4, li_5, li_6, li_7, li_8, li_9, li_10, li_11, li_12, li_13, li_14, li_15, li_16, li_20, li_23, li_25, li_30, li_31, li_32, li_38, li_40, li_41, li_44, li_48, li_50, li_51, li_52, li_57, li_59, li_60, li_61, li_62, li_63, li_66, li_81, li_94, li_97, li_98, li_99, li_100, li_101, li_103, li_104, li_105, li_107, li_108, li_109, li_110, li_111, li_112, li_114, li_115, li_116, li_117, li_118, li_122, li_200, li_572, li_600, li_9999, li_10000, li_12345, li_1103515245]
  · exact pkx (-(nI 1)) (by simp (disch := omega) only [t1, letv, o_b, ↓reduceIte, e_sub, e_add, e_mul, e_ld, e_st, e_lt, e_nlt, e_le, e_nle, e_eq, e_neq, e_div, e_rem, m_lt, m_le, m_eq, m_eq2, m_ng, o_ld, true_and, and_true, Nat.one_ne_zero, Nat.zero_ne_one, Nat.reduceEqDiff, Bool.false_eq_true, not_true_eq_false, not_false_eq_true, li_0, li_1, li_2, li_3, li_4, li_5, li_6, li_7, li_8, li_9, li_10, li_11, li_12, li_13, li_14, li_15, li_16, li_20, li_23, li_25, li_30, li_31, li_32, li_38, li_40, li_41, li_44, li_48, li_50, li_51, li_52, li_57, li_59, li_60, li_61, li_62, li_63, li_66, li_81, li_94, li_97, li_98, li_99, li_100, li_101, li_103, li_104, li_105, li_107, li_108, li_109, li_110, li_111, li_112, li_114, li_115, li_116, li_117, li_118, li_122, li_200, li_572, li_600, li_9999, li_10000, li_12345, li_1103515245]) (by simp (disch := omega) only [t2, letv, o_b, ↓reduceIte, e_sub, e_add, e_mul, e_ld, e_st, e_lt, e_nlt, e_le, e_nle, e_eq, e_neq, e_div, e_rem, m_lt, m_le, m_eq, m_eq2, m_ng, o_ld, true_and, and_true, Nat.one_ne_zero, Nat.zero_ne_one, Nat.reduceEqDiff, Bool.false_eq_true, not_true_eq_false, not_false_eq_true, li_0, li_1, li_2, li_3, li_4, li_5, li_6, li_7, li_8, li_9, li_10, li_11, li_12, li_13, li_14, li_15, li_16, li_20, li_23, li_25, li_30, li_31, li_32, li_38, li_40, li_41, li_44, li_48, li_50, li_51, li_52, li_57, li_59, li_60, li_61, li_62, li_63, li_66, li_81, li_94, li_97, li_98, li_99, li_100, li_101, li_103, li_104, li_105, li_107, li_108, li_109, li_110, li_111, li_112, li_114, li_115, li_116, li_117, li_118, li_122, li_200, li_572, li_600, li_9999, li_10000, li_12345, li_1103515245]) h
theorem c_least_l (hn : 1000 ≤ n) (hE : EC G V R z (z + 1) E) (hi : IE E) (h : LC V (z + 2) L) (hL : IL L) {k : Nat} (hk : k < L_c L) {K : Unit → Option Int32} : ∀ m x f, x + m = 4 → m < f → lX8_least_12 n V z (nI k) f (nI x) K = if fsA (fun st => decide (0 < pyA E L k st)) x m = 0 then K () else some (nI (fsA (fun st => decide (0 < pyA E L k st)) x m - 1)) := by
  have hc := hL.2.1
  intro m
  induction m with
  | zero =>
    intro x f h1 h2
    obtain ⟨f, rfl⟩ : ∃ g, f = g + 1 := ⟨f - 1, by omega⟩
    unfold lX8_least_12
    simp (disch := omega) only [fsA, letv, o_b, ↓reduceIte, e_sub, e_add, e_mul, e_ld, e_st, e_lt, e_nlt, e_le, e_nle, e_eq, e_neq, e_div, e_rem, m_lt, m_le, m_eq, m_eq2, m_ng, o_ld, true_and, and_true, Nat.one_ne_zero, Nat.zero_ne_one, Nat.reduceEqDiff, Bool.false_eq_true, not_true_eq_false, not_false_eq_true, li_0, li_1, li_2, li_3, li_4, li_5, li_6, li_7, li_8, li_9, li_10, li_11, li_12, li_13, li_14, li_15, li_16, li_20, li_23, li_25, li_30, li_31, li_32, li_38, li_40, li_41, li_44, li_48, li_50, li_51, li_52, li_57, li_59, li_60, li_61, li_62, li_63, li_66, li_81, li_94, li_97, li_98, li_99, li_100, li_101, li_103, li_104, li_105, li_107, li_108, li_109, li_110, li_111, li_112, li_114, li_115, li_116, li_117, li_118, li_122, li_200, li_572, li_600, li_9999, li_10000, li_12345, li_1103515245]
  | succ m ih =>
    intro x f h1 h2
    obtain ⟨f, rfl⟩ : ∃ g, f = g + 1 := ⟨f - 1, by omega⟩
    have hp := pyA_le (E := E) (st := x) hL (show k < 6 by omega)
    have ih := ih (x + 1) f (by omega) (by omega)
    unfold lX8_least_12 fsA
    by_cases q : 0 < pyA E L k x
    · simp (disch := omega) only [c_pays hn hE hi h hL hk (show x ≤ 3 by omega), q, decide_true, Nat.add_one_ne_zero, Nat.add_sub_cancel, letv, o_b, ↓reduceIte, e_sub, e_add, e_mul, e_ld, e_st, e_lt, e_nlt, e_le, e_nle, e_eq, e_neq, e_div, e_rem, m_lt, m_le, m_eq, m_eq2, m_ng, o_ld, true_and, and_true, Nat.one_ne_zero, Nat.zero_ne_one, Nat.reduceEqDiff, Bool.false_eq_true, not_true_eq_false, not_false_eq_true, li_0, li_1, li_2, li_3, li_4, li_5, li_6, li_7, li_8, li_9, li_10, li_11, li_12, li_13, li_14, li_15, li_16, li_20, li_23, li_25, li_30, li_31, li_32, li_38, li_40, li_41, li_44, li_48, li_50, li_51, li_52, li_57, li_59, li_60, li_61, li_62, li_63, li_66, li_81, li_94, li_97, li_98, li_99, li_100, li_101, li_103, li_104, li_105, li_107, li_108, li_109, li_110, li_111, li_112, li_114, li_115, li_116, li_117, li_118, li_122, li_200, li_572, li_600, li_9999, li_10000, li_12345, li_1103515245]
    · simp (disch := omega) only [c_pays hn hE hi h hL hk (show x ≤ 3 by omega), q, decide_false, ih, letv, o_b, ↓reduceIte, e_sub, e_add, e_mul, e_ld, e_st, e_lt, e_nlt, e_le, e_nle, e_eq, e_neq, e_div, e_rem, m_lt, m_le, m_eq, m_eq2, m_ng, o_ld, true_and, and_true, Nat.one_ne_zero, Nat.zero_ne_one, Nat.reduceEqDiff, Bool.false_eq_true, not_true_eq_false, not_false_eq_true, li_0, li_1, li_2, li_3, li_4, li_5, li_6, li_7, li_8, li_9, li_10, li_11, li_12, li_13, li_14, li_15, li_16, li_20, li_23, li_25, li_30, li_31, li_32, li_38, li_40, li_41, li_44, li_48, li_50, li_51, li_52, li_57, li_59, li_60, li_61, li_62, li_63, li_66, li_81, li_94, li_97, li_98, li_99, li_100, li_101, li_103, li_104, li_105, li_107, li_108, li_109, li_110, li_111, li_112, li_114, li_115, li_116, li_117, li_118, li_122, li_200, li_572, li_600, li_9999, li_10000, li_12345, li_1103515245]
theorem lst_a (nd ld : Nat) : fsA (fun st => decide (nd ≤ 4 * st + ld)) 0 4 = if 4 ≤ (nd - ld + 3) / 4 then 0 else (nd - ld + 3) / 4 + 1 := by
  simp only [fsA, decide_eq_true_eq]
  repeat' split
  all_goals omega
theorem ok_least' (hn : 1000 ≤ n) (h : RelB z b V R G U) (a1 : Int32) : ∃ o om, pX8_least n V z a1 = some o ∧ pX9_least n U b a1 = some om ∧ o = om ∧ RelB z b V R G U := by
  obtain ⟨hW, ⟨E, L, rn, rp, hN⟩, hO⟩ := id h
  obtain ⟨iE, iL, hw, hE, hL, mE, mC, hs, hz, pC, pM, iR⟩ := nw_parts hN
  have hc := iL.2.1
  unfold pX8_least pX9_least
  rcases isT hL mC iL a1 with ⟨k, hk, hk6, rfl, t1, t2⟩ | ⟨t1, t2⟩
  · obtain ⟨i0, i1, i2, i3, i4⟩ := iL.2.2.2.2 k hk6
    have hnd : ndL L k ≤ 100 := ndA_le i2 i3
    have hfl := flo_le iL (L_t L k 3)
    have hwt := (iE.2.2.2.1 (L_t L k 3) (by omega)).1
    have key := c_least_l hn hE iE hL iL hk (K := fun _ => some (-(nI 3))) 4 0 n (by omega) (by omega)
    have e3 := m_its3 mC hk6
    have e4 := m_its4 mC hk6
    have eld := m_load hn mE iE mC iL (show L_t L k 3 < 6 by omega)
    have end' := m_needs mC iL hk
    generalize hld : E_wt E (L_t L k 3) + 2 * flo L (L_t L k 3) = ld at eld
    generalize hnn : ndL L k = nd at end' hnd
    rcases bt_01 (L_f L) k with q | q
    · have e6 : (fun st => decide (0 < pyA E L k st)) = fun st => decide (nd ≤ 4 * st + ld) := by
        funext st
        unfold pyA prs
        rw [hnn]
        by_cases p : nd ≤ 4 * st + ld
        · rw [if_pos ⟨q, by omega⟩, decide_eq_true p]
          exact decide_eq_true (by omega)
        · rw [if_neg (by omega), decide_eq_false p]
          rfl
      rw [e6, lst_a] at key
      by_cases p : 4 ≤ (nd - ld + 3) / 4
      · rw [if_pos p, if_pos rfl] at key
        refine ⟨-(nI 3), -(nI 3), by simp (disch := omega) only [t1, e_10, key, letv, o_b, ↓reduceIte, e_sub, e_add, e_mul, e_ld, e_st, e_lt, e_nlt, e_le, e_nle, e_eq, e_neq, e_div, e_rem, m_lt, m_le, m_eq, m_eq2, m_ng, o_ld, true_and, and_true, Nat.one_ne_zero, Nat.zero_ne_one, Nat.reduceEqDiff, Bool.false_eq_true, not_true_eq_false, not_false_eq_true, li_0, li_1, li_2, li_3, li_4, li_5, li_6, li_7, li_8, li_9, li_10, li_11, li_12, li_13, li_14, li_15, li_16, li_20, li_23, li_25, li_30, li_31, li_32, li_38, li_40, li_41, li_44, li_48, li_50, li_51, li_52, li_57, li_59, li_60, li_61, li_62, li_63, li_66, li_81, li_94, li_97, li_98, li_99, li_100, li_101, li_103, li_104, li_105, li_107, li_108, li_109, li_110, li_111, li_112, li_114, li_115, li_116, li_117, li_118, li_122, li_200, li_572, li_600, li_9999, li_10000, li_12345, li_1103515245], ?_, rfl, h⟩
        simp (disch := omega) only [t2, e_10, end', e3, eld, e4, q, letv, o_b, ↓reduceIte, e_sub, e_add, e_mul, e_ld, e_st, e_lt, e_nlt, e_le, e_nle, e_eq, e_neq, e_div, e_rem, m_lt, m_le, m_eq, m_eq2, m_ng, o_ld, true_and, and_true, Nat.one_ne_zero, Nat.zero_ne_one, Nat.reduceEqDiff, Bool.false_eq_true, not_true_eq_false, not_false_eq_true, li_0, li_1, li_2, li_3, li_4, li_5, li_6, li_7, li_8, li_9, li_10, li_11, li_12, li_13, li_14, li_15, li_16, li_20, li_23, li_25, li_30, li_31, li_32, li_38, li_40, li_41, li_44, li_48, li_50, li_51, li_52, li_57, li_59, li_60, li_61, li_62, li_63, li_66, li_81, li_94, li_97, li_98, li_99, li_100, li_101, li_103, li_104, li_105, li_107, li_108, li_109, li_110, li_111, li_112, li_114, li_115, li_116, li_117, li_118, li_122, li_200, li_572, li_600, li_9999, li_10000, li_12345, li_1103515245]
      · rw [if_neg p, if_neg (by omega), Nat.add_sub_cancel] at key
        refine ⟨nI ((nd - ld + 3) / 4), nI ((nd - ld + 3) / 4), by simp (disch := omega) only [t1, e_10, key, letv, o_b, ↓reduceIte, e_sub, e_add, e_mul, e_ld, e_st, e_lt, e_nlt, e_le, e_nle, e_eq, e_neq, e_div, e_rem, m_lt, m_le, m_eq, m_eq2, m_ng, o_ld, true_and, and_true, Nat.one_ne_zero, Nat.zero_ne_one, Nat.reduceEqDiff, Bool.false_eq_true, not_true_eq_false, not_false_eq_true, li_0, li_1, li_2, li_3, li_4, li_5, li_6, li_7, li_8, li_9, li_10, li_11, li_12, li_13, li_14, li_15, li_16, li_20, li_23, li_25, li_30, li_31, li_32, li_38, li_40, li_41, li_44, li_48, li_50, li_51, li_52, li_57, li_59, li_60, li_61, li_62, li_63, li_66, li_81, li_94, li_97, li_98, li_99, li_100, li_101, li_103, li_104, li_105, li_107, li_108, li_109, li_110, li_111, li_112, li_114, li_115, li_116, li_117, li_118, li_122, li_200, li_572, li_600, li_9999, li_10000, li_12345, li_1103515245], ?_, rfl, h⟩
        rcases Nat.lt_trichotomy ld nd with g | g | g
        · simp (disch := omega) only [t2, e_10, end', e3, eld, e4, q, letv, o_b, ↓reduceIte, e_sub, e_add, e_mul, e_ld, e_st, e_lt, e_nlt, e_le, e_nle, e_eq, e_neq, e_div, e_rem, m_lt, m_le, m_eq, m_eq2, m_ng, o_ld, true_and, and_true, Nat.one_ne_zero, Nat.zero_ne_one, Nat.reduceEqDiff, Bool.false_eq_true, not_true_eq_false, not_false_eq_true, li_0, li_1, li_2, li_3, li_4, li_5, li_6, li_7, li_8, li_9, li_10, li_11, li_12, li_13, li_14, li_15, li_16, li_20, li_23, li_25, li_30, li_31, li_32, li_38, li_40, li_41, li_44, li_48, li_50, li_51, li_52, li_57, li_59, li_60, li_61, li_62, li_63, li_66, li_81, li_94, li_97, li_98, li_99, li_100, li_101, li_103, li_104, li_105, li_107, li_108, li_109, li_110, li_111, li_112, li_114, li_115, li_116, li_117, li_118, li_122, li_200, li_572, li_600, li_9999, li_10000, li_12345, li_1103515245]
        · subst g
          simp (disch := omega) only [t2, e_10, end', e3, eld, e4, q, Nat.sub_self, Nat.zero_add, Nat.reduceDiv, letv, o_b, ↓reduceIte, e_sub, e_add, e_mul, e_ld, e_st, e_lt, e_nlt, e_le, e_nle, e_eq, e_neq, e_div, e_rem, m_lt, m_le, m_eq, m_eq2, m_ng, o_ld, true_and, and_true, Nat.one_ne_zero, Nat.zero_ne_one, Nat.reduceEqDiff, Bool.false_eq_true, not_true_eq_false, not_false_eq_true, li_0, li_1, li_2, li_3, li_4, li_5, li_6, li_7, li_8, li_9, li_10, li_11, li_12, li_13, li_14, li_15, li_16, li_20, li_23, li_25, li_30, li_31, li_32, li_38, li_40, li_41, li_44, li_48, li_50, li_51, li_52, li_57, li_59, li_60, li_61, li_62, li_63, li_66, li_81, li_94, li_97, li_98, li_99, li_100, li_101, li_103, li_104, li_105, li_107, li_108, li_109, li_110, li_111, li_112, li_114, li_115, li_116, li_117, li_118, li_122, li_200, li_572, li_600, li_9999, li_10000, li_12345, li_1103515245]
        · have e : nI nd - nI ld = -(nI (ld - nd)) := by rw [← e_sub (a := ld) (b := nd) (by omega), Int32.neg_sub]
          simp (disch := omega) only [t2, e_10, end', e3, eld, e4, q, e, m_ngl, show (nd - ld + 3) / 4 = 0 by omega, letv, o_b, ↓reduceIte, e_sub, e_add, e_mul, e_ld, e_st, e_lt, e_nlt, e_le, e_nle, e_eq, e_neq, e_div, e_rem, m_lt, m_le, m_eq, m_eq2, m_ng, o_ld, true_and, and_true, Nat.one_ne_zero, Nat.zero_ne_one, Nat.reduceEqDiff, Bool.false_eq_true, not_true_eq_false, not_false_eq_true, li_0, li_1, li_2, li_3, li_4, li_5, li_6, li_7, li_8, li_9, li_10, li_11, li_12, li_13, li_14, li_15, li_16, li_20, li_23, li_25, li_30, li_31, li_32, li_38, li_40, li_41, li_44, li_48, li_50, li_51, li_52, li_57, li_59, li_60, li_61, li_62, li_63, li_66, li_81, li_94, li_97, li_98, li_99, li_100, li_101, li_103, li_104, li_105, li_107, li_108, li_109, li_110, li_111, li_112, li_114, li_115, li_116, li_117, li_118, li_122, li_200, li_572, li_600, li_9999, li_10000, li_12345, li_1103515245]
    · have e6 : (fun st => decide (0 < pyA E L k st)) = fun _ => false := by
        funext st
        unfold pyA
        rw [if_neg (by omega)]
        rfl
      rw [e6, show fsA (fun _ => false) 0 4 = 0 from rfl, if_pos rfl] at key
      refine ⟨-(nI 3), -(nI 3), by simp (disch := omega) only [t1, e_10, key, letv, o_b, ↓reduceIte, e_sub, e_add, e_mul, e_ld, e_st, e_lt, e_nlt, e_le, e_nle, e_eq, e_neq, e_div, e_rem, m_lt, m_le, m_eq, m_eq2, m_ng, o_ld, true_and, and_true, Nat.one_ne_zero, Nat.zero_ne_one, Nat.reduceEqDiff, Bool.false_eq_true, not_true_eq_false, not_false_eq_true, li_0, li_1, li_2, li_3, li_4, li_5, li_6, li_7, li_8, li_9, li_10, li_11, li_12, li_13, li_14, li_15, li_16, li_20, li_23, li_25, li_30, li_31, li_32, li_38, li_40, li_41, li_44, li_48, li_50, li_51, li_52, li_57, li_59, li_60, li_61, li_62, li_63, li_66, li_81, li_94, li_97, li_98, li_99, li_100, li_101, li_103, li_104, li_105, li_107, li_108, li_109, li_110, li_111, li_112, li_114, li_115, li_116, li_117, li_118, li_122, li_200, li_572, li_600, li_9999, li_10000, li_12345, li_1103515245], ?_, rfl, h⟩
      rcases Nat.lt_trichotomy ld nd with g | g | g
      · simp (disch := omega) only [t2, e_10, end', e3, eld, e4, q, letv, o_b, ↓reduceIte, e_sub, e_add, e_mul, e_ld, e_st, e_lt, e_nlt, e_le, e_nle, e_eq, e_neq, e_div, e_rem, m_lt, m_le, m_eq, m_eq2, m_ng, o_ld, true_and, and_true, Nat.one_ne_zero, Nat.zero_ne_one, Nat.reduceEqDiff, Bool.false_eq_true, not_true_eq_false, not_false_eq_true, li_0, li_1, li_2, li_3, li_4, li_5, li_6, li_7, li_8, li_9, li_10, li_11, li_12, li_13, li_14, li_15, li_16, li_20, li_23, li_25, li_30, li_31, li_32, li_38, li_40, li_41, li_44, li_48, li_50, li_51, li_52, li_57, li_59, li_60, li_61, li_62, li_63, li_66, li_81, li_94, li_97, li_98, li_99, li_100, li_101, li_103, li_104, li_105, li_107, li_108, li_109, li_110, li_111, li_112, li_114, li_115, li_116, li_117, li_118, li_122, li_200, li_572, li_600, li_9999, li_10000, li_12345, li_1103515245]
      · subst g
        simp (disch := omega) only [t2, e_10, end', e3, eld, e4, q, Nat.sub_self, Nat.zero_add, Nat.reduceDiv, letv, o_b, ↓reduceIte, e_sub, e_add, e_mul, e_ld, e_st, e_lt, e_nlt, e_le, e_nle, e_eq, e_neq, e_div, e_rem, m_lt, m_le, m_eq, m_eq2, m_ng, o_ld, true_and, and_true, Nat.one_ne_zero, Nat.zero_ne_one, Nat.reduceEqDiff, Bool.false_eq_true, not_true_eq_false, not_false_eq_true, li_0, li_1, li_2, li_3, li_4, li_5, li_6, li_7, li_8, li_9, li_10, li_11, li_12, li_13, li_14, li_15, li_16, li_20, li_23, li_25, li_30, li_31, li_32, li_38, li_40, li_41, li_44, li_48, li_50, li_51, li_52, li_57, li_59, li_60, li_61, li_62, li_63, li_66, li_81, li_94, li_97, li_98, li_99, li_100, li_101, li_103, li_104, li_105, li_107, li_108, li_109, li_110, li_111, li_112, li_114, li_115, li_116, li_117, li_118, li_122, li_200, li_572, li_600, li_9999, li_10000, li_12345, li_1103515245]
      · have e : nI nd - nI ld = -(nI (ld - nd)) := by rw [← e_sub (a := ld) (b := nd) (by omega), Int32.neg_sub]
        simp (disch := omega) only [t2, e_10, end', e3, eld, e4, q, e, m_ngl, show (nd - ld + 3) / 4 = 0 by omega, letv, o_b, ↓reduceIte, e_sub, e_add, e_mul, e_ld, e_st, e_lt, e_nlt, e_le, e_nle, e_eq, e_neq, e_div, e_rem, m_lt, m_le, m_eq, m_eq2, m_ng, o_ld, true_and, and_true, Nat.one_ne_zero, Nat.zero_ne_one, Nat.reduceEqDiff, Bool.false_eq_true, not_true_eq_false, not_false_eq_true, li_0, li_1, li_2, li_3, li_4, li_5, li_6, li_7, li_8, li_9, li_10, li_11, li_12, li_13, li_14, li_15, li_16, li_20, li_23, li_25, li_30, li_31, li_32, li_38, li_40, li_41, li_44, li_48, li_50, li_51, li_52, li_57, li_59, li_60, li_61, li_62, li_63, li_66, li_81, li_94, li_97, li_98, li_99, li_100, li_101, li_103, li_104, li_105, li_107, li_108, li_109, li_110, li_111, li_112, li_114, li_115, li_116, li_117, li_118, li_122, li_200, li_572, li_600, li_9999, li_10000, li_12345, li_1103515245]
  · exact ⟨-(nI 1), -(nI 1), by simp (disch := omega) only [t1, letv, o_b, ↓reduceIte, e_sub, e_add, e_mul, e_ld, e_st, e_lt, e_nlt, e_le, e_nle, e_eq, e_neq, e_div, e_rem, m_lt, m_le, m_eq, m_eq2, m_ng, o_ld, true_and, and_true, Nat.one_ne_zero, Nat.zero_ne_one, Nat.reduceEqDiff, Bool.false_eq_true, not_true_eq_false, not_false_eq_true, li_0, li_1, li_2, li_3, li_4, li_5, li_6, li_7, li_8, li_9, li_10, li_11, li_12, li_13, li_14, li_15, li_16, li_20, li_23, li_25, li_30, li_31, li_32, li_38, li_40, li_41, li_44, li_48, li_50, li_51, li_52, li_57, li_59, li_60, li_61, li_62, li_63, li_66, li_81, li_94, li_97, li_98, li_99, li_100, li_101, li_103, li_104, li_105, li_107, li_108, li_109, li_110, li_111, li_112, li_114, li_115, li_116, li_117, li_118, li_122, li_200, li_572, li_600, li_9999, li_10000, li_12345, li_1103515245], by simp (disch := omega) only [t2, letv, o_b, ↓reduceIte, e_sub, e_add, e_mul, e_ld, e_st, e_lt, e_nlt, e_le, e_nle, e_eq, e_neq, e_div, e_rem, m_lt, m_le, m_eq, m_eq2, m_ng, o_ld, true_and, and_true, Nat.one_ne_zero, Nat.zero_ne_one, Nat.reduceEqDiff, Bool.false_eq_true, not_true_eq_false, not_false_eq_true, li_0, li_1, li_2, li_3, li_4, li_5, li_6, li_7, li_8, li_9, li_10, li_11, li_12, li_13, li_14, li_15, li_16, li_20, li_23, li_25, li_30, li_31, li_32, li_38, li_40, li_41, li_44, li_48, li_50, li_51, li_52, li_57, li_59, li_60, li_61, li_62, li_63, li_66, li_81, li_94, li_97, li_98, li_99, li_100, li_101, li_103, li_104, li_105, li_107, li_108, li_109, li_110, li_111, li_112, li_114, li_115, li_116, li_117, li_118, li_122, li_200, li_572, li_600, li_9999, li_10000, li_12345, li_1103515245], rfl, h⟩
end Q2
