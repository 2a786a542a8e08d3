/-! rows of a plan -/
section V1
variable {n z b : Nat} {V : V2} {R : R2} {G Gm : G2} {U : V2}
theorem rw_new {V' U' : V2} (h : RelB z b V R G U) (hv : ∀ x, x ≠ z → x ≠ z + 69 → (x < z + 31 ∨ z + 64 < x) → V' x = V x) (hz : V' z 2 = V z 2) (hu1 : U' (b + 1) = U (b + 1)) (hu : ∀ y, (y = b + 2 ∨ y = b + 4 ∨ b + 11 ≤ y ∧ y ≤ b + 17) → U' y = U y) (ub : U' b 2 = U b 2 ∧ U' b 5 = U b 5 ∧ U' b 35 = U b 35) (hR : RW z b V' U') : RelB z b V' R G U' := by
  obtain ⟨hW, hN, ⟨k1, k2⟩, ⟨tz, tp, t1, t2, t3, t4⟩, -, sh, sl, ⟨tn, u1, u2, u3, u4⟩, st⟩ := h
  obtain ⟨ub2, ub5, ub35⟩ := ub
  refine ⟨hW, ?_, ⟨by rw [hz, ub2]; exact k1, ?_⟩, ⟨tz, tp, t1, by rw [hv _ (by omega) (by omega) (by omega)]; exact t2, by rw [ub5]; exact t3, fun i hi => ?_⟩, hR, ⟨fun t ht => ?_, sh.2⟩, fun t ht => ?_, ⟨tn, u1, by rw [hv _ (by omega) (by omega) (by omega)]; exact u2, by rw [ub35]; exact u3, fun i hi => ?_⟩, st⟩
  · rw [hu1]
    exact hN.fr (NF.all fun x hx => hv x (by omega) (by omega) (by omega))
  · rw [ub2, hu (b + 2) (by omega)]
    exact k2.imp id fun q => ⟨q.1, q.2.fr (NF.all fun x hx => hv x (by omega) (by omega) (by omega))⟩
  · rw [hv (z + 66) (by omega) (by omega) (by omega), hu (b + 4) (by omega)]
    exact t4 i hi
  · rw [hu (b + 11) (by omega), hu (b + 12) (by omega), hu (b + 13) (by omega)]
    rcases sh.1 t ht with q | ⟨y, so, sz, q1, q2, q3, q4, q5⟩
    · exact Or.inl q
    · refine Or.inr ⟨y, so, sz, q1, q2.fr fun x hx => hv x (by omega) (by omega) (by omega), q3, q4, fun i hi => ?_⟩
      rw [hv (y + 1) (by have := q2.1; omega) (by have := q2.1; omega) (by have := q2.1; omega)]
      exact q5 i hi
  · rw [hu (b + 14) (by omega), hu (b + 15) (by omega), hu (b + 16) (by omega), hv (z + 71) (by omega) (by omega) (by omega)]
    rcases sl t ht with q | q | ⟨y, so, sz, q1, q2, q3, q4⟩
    · exact Or.inl q
    · exact Or.inr (Or.inl q)
    · exact Or.inr (Or.inr ⟨y, so, sz, q1, q2, q3.fr fun x hx => hv x (by omega) (by omega) (by omega), q4⟩)
  · rw [hv (z + 74) (by omega) (by omega) (by omega), hu (b + 17) (by omega)]
    exact u4 i hi
theorem p_l (hn : 1000 ≤ n) {E : En} (iE : IE E) {len cc : Nat} (hl : len ≤ 4) (hcc : cc ≤ 6) : ∀ m x f f' {V1 U1 : V2} {L : Ld}, x + m = len → m < f → m < f' → V1 z 7 = nI len → U1 b 17 = nI len → (∀ i, i < len → V1 (z + 39) i = U1 (b + 7) i ∧ ∃ a, a ≤ cc ∧ V1 (z + 39) i = nI a) → (∀ i, i < 12 → V1 (z + 69) i = U1 (b + 10) i) → EC G V1 R z (z + 1) E → LC V1 (z + 31) L → ME (U1 (b + 1)) E → MC (U1 (b + 1)) L → IL L → L_c L = cc → L_w L + m ≤ E_en E → ∃ V' U', lX8_prove_51 n G R z f V1 (nI x) = some V' ∧ lX9_prove_22 n b f' U1 (nI x) = some U' ∧ (∀ i, i < 12 → V' (z + 69) i = U' (b + 10) i) ∧ (∀ y, (y < z + 31 ∨ z + 35 < y) → y ≠ z + 69 → V' y = V1 y) ∧ (∀ y, y ≠ b + 1 → y ≠ b + 10 → U' y = U1 y) ∧ ∀ i, 38 ≤ i → U' (b + 1) i = U1 (b + 1) i := by
  have he := iE.2.1
  intro m
  induction m with
  | zero =>
    intro x f f' V1 U1 L h1 h2 h3 v7 u17 hpos hrw hE hL mE mC iL hc hw
    obtain ⟨f, rfl⟩ : ∃ g, f = g + 1 := ⟨f - 1, by omega⟩
    obtain ⟨f', rfl⟩ : ∃ g, f' = g + 1 := ⟨f' - 1, by omega⟩
    refine ⟨V1, U1, ?_, ?_, hrw, fun _ _ _ => rfl, fun _ _ _ => rfl, fun _ _ => rfl⟩
    · unfold lX8_prove_51
      simp (disch := omega) only [v7, letv, o_b, ↓reduceIte, e_sub, e_add, e_mul, e_ld, e_st, e_lt, e_nlt, e_le, e_nle, e_eq, e_neq, e_div, e_rem, m_lt, m_le, m_eq, m_eq2, m_ng, o_ld, true_and, and_true, Nat.one_ne_zero, Nat.zero_ne_one, Nat.reduceEqDiff, Bool.false_eq_true, not_true_eq_false, not_false_eq_true, li_0, li_1, li_2, li_3, li_4, li_5, li_6, li_7, li_8, li_9, li_10, li_11, li_12, li_13, li_14, li_15, li_16, li_20, li_23, li_25, li_30, li_31, li_32, li_38, li_40, li_41, li_44, li_48, li_50, li_51, li_52, li_57, li_59, li_60, li_61, li_62, li_63, li_66, li_81, li_94, li_97, li_98, li_99, li_100, li_101, li_103, li_104, li_105, li_107, li_108, li_109, li_110, li_111, li_112, li_114, li_115, li_116, li_117, li_118, li_122, li_200, li_572, li_600, li_9999, li_10000, li_12345, li_1103515245]
    · unfold lX9_prove_22
      simp (disch := omega) only [u17, letv, o_b, ↓reduceIte, e_sub, e_add, e_mul, e_ld, e_st, e_lt, e_nlt, e_le, e_nle, e_eq, e_neq, e_div, e_rem, m_lt, m_le, m_eq, m_eq2, m_ng, o_ld, true_and, and_true, Nat.one_ne_zero, Nat.zero_ne_one, Nat.reduceEqDiff, Bool.false_eq_true, not_true_eq_false, not_false_eq_true, li_0, li_1, li_2, li_3, li_4, li_5, li_6, li_7, li_8, li_9, li_10, li_11, li_12, li_13, li_14, li_15, li_16, li_20, li_23, li_25, li_30, li_31, li_32, li_38, li_40, li_41, li_44, li_48, li_50, li_51, li_52, li_57, li_59, li_60, li_61, li_62, li_63, li_66, li_81, li_94, li_97, li_98, li_99, li_100, li_101, li_103, li_104, li_105, li_107, li_108, li_109, li_110, li_111, li_112, li_114, li_115, li_116, li_117, li_118, li_122, li_200, li_572, li_600, li_9999, li_10000, li_12345, li_1103515245]
  | succ m ih =>
    intro x f f' V1 U1 L h1 h2 h3 v7 u17 hpos hrw hE hL mE mC iL hc hw
    obtain ⟨f, rfl⟩ : ∃ g, f = g + 1 := ⟨f - 1, by omega⟩
    obtain ⟨f', rfl⟩ : ∃ g, f' = g + 1 := ⟨f' - 1, by omega⟩
    obtain ⟨p1, a, ha, p2⟩ := hpos x (by omega)
    have p3 : U1 (b + 7) x = nI a := by rw [← p1]; exact p2
    have hac : a ≤ L_c L := by omega
    obtain ⟨V9, hV9⟩ : ∃ V9, V9 = up2 V1 (z + 69) (3 * x) (nI a) := ⟨_, rfl⟩
    obtain ⟨U8, hU8⟩ : ∃ U8, U8 = up2 U1 (b + 10) (3 * x) (nI a) := ⟨_, rfl⟩
    have v9 : ∀ y, y ≠ z + 69 → V9 y = V1 y := fun y hy => by rw [hV9, w_row hy]
    have u8 : ∀ y, y ≠ b + 10 → U8 y = U1 y := fun y hy => by rw [hU8, w_row hy]
    have hE9 : EC G V9 R z (z + 1) E := hE.fr (by rw [v9 _ (by omega)]) (by rw [v9 _ (by omega)]) fun y hy => v9 y (by omega)
    have hL9 : LC V9 (z + 31) L := hL.fr fun y h1 h2 => v9 y (by omega)
    have mE8 : ME (U8 (b + 1)) E := by rw [u8 _ (by omega)]; exact mE
    have mC8 : MC (U8 (b + 1)) L := by rw [u8 _ (by omega)]; exact mC
    obtain ⟨V2', a1, a2, a3⟩ := c_goBy hn hE9 iE (ad_tr (a := z + 31) (by omega)) hL9 iL hac
    obtain ⟨U2', b1, b2, b3, -⟩ := m_goes hn mE8 iE mC8 iL hac
    have iL' := goL_IL (E := E) iL hac (by omega)
    obtain ⟨V13, hV13⟩ : ∃ V13, V13 = up2 (up2 V2' (z + 69) (3 * x + 1) (nI (goW E L a))) (z + 69) (3 * x + 2) (nI (L_f (goL E L a))) := ⟨_, rfl⟩
    obtain ⟨U13, hU13⟩ : ∃ U13, U13 = up2 (up2 U2' (b + 10) (3 * x + 1) (nI (goW E L a))) (b + 10) (3 * x + 2) (nI (L_f (goL E L a))) := ⟨_, rfl⟩
    have v13 : ∀ y, y ≠ z + 69 → V13 y = V2' y := fun y hy => by rw [hV13, w_row hy, w_row hy]
    have u13 : ∀ y, y ≠ b + 10 → U13 y = U2' y := fun y hy => by rw [hU13, w_row hy, w_row hy]
    have fl : up2 V2' (z + 69) (3 * x + 1) (nI (goW E L a)) (z + 31) 2 = nI (L_f (goL E L a)) := by rw [w_row (by omega)]; exact a2.2.2.1
    have mf := m_flats (b := b) (U := up2 U2' (b + 10) (3 * x + 1) (nI (goW E L a))) hn (L := goL E L a) (by rw [w_row (by omega)]; exact b2) iL'
    obtain ⟨V', U', c1, c2, c3, c4, c5, c6⟩ := ih (x + 1) f f' (V1 := V13) (U1 := U13) (L := goL E L a) (by omega) (by omega) (by omega) (by rw [v13 _ (by omega), a3 _ (by omega), v9 _ (by omega)]; exact v7) (by rw [u13 _ (by omega), b3.1 _ (by omega), u8 _ (by omega)]; exact u17) (fun i hi => by rw [v13 _ (by omega), a3 _ (by omega), v9 _ (by omega), u13 _ (by omega), b3.1 _ (by omega), u8 _ (by omega)]; exact hpos i hi) (fun i hi => by
      rw [hV13, hU13, w_at, w_at, w_at, w_at, a3 _ (by omega), b3.1 _ (by omega), hV9, hU8, w_at, w_at, hrw i hi]) ((hE9.cf (ad_tr (by omega)) a3).fr (by rw [v13 _ (by omega)]) (by rw [v13 _ (by omega)]) fun y hy => v13 y (by omega)) (a2.fr fun y h1 h2 => v13 y (by omega)) (by rw [u13 _ (by omega)]; exact mE8.mf b3) (by rw [u13 _ (by omega)]; exact b2) iL' (by rw [goL_c]; exact hc) (by rw [goL_w]; omega)
    refine ⟨V', U', ?_, ?_, c3, fun y h1 h2 => by rw [c4 y h1 h2, v13 y h2, a3 y h1, v9 y h2], fun y h1 h2 => by rw [c5 y h1 h2, u13 y h2, b3.1 y h1, u8 y h2], fun i hi => by rw [c6 i hi, u13 _ (by omega), b3.2 i (by omega), u8 _ (by omega)]⟩
    · unfold lX8_prove_51
      have e3 : nI x * nI 3 = nI (3 * x) := by rw [e_mul, Nat.mul_comm]
      have w39 : V9 (z + 39) x = nI a := by rw [v9 _ (by omega)]; exact p2
      have hV9' := hV9.symm
      have hV13' := hV13.symm
      simp (disch := omega) only [letv, v7, e_nle, ↓reduceIte, li_1, li_2, li_3, e3, e_ld, e_st, o_b, p2, hV9', w39, a1, e_add, fl, hV13', c1]
    · unfold lX9_prove_22
      have e3 : nI 3 * nI x = nI (3 * x) := by rw [e_mul]
      have w39 : U8 (b + 7) x = nI a := by rw [u8 _ (by omega)]; exact p3
      have hU8' := hU8.symm
      have hU13' := hU13.symm
      simp (disch := omega) only [letv, u17, e_nle, ↓reduceIte, li_1, li_2, li_3, e3, e_ld, e_st, o_b, p3, hU8', w39, b1, e_add, mf, hU13', c2]
theorem ok_prove' (hn : 1000 ≤ n) (h : RelB z b V R G U) (a1 : Int32) : ∃ o om, pX8_prove n G V R z a1 = some o ∧ pX9_prove n U b a1 = some om ∧ o.1 = om.1 ∧ RelB z b o.2 R G om.2 := by
  unfold pX8_prove pX9_prove
  rw [isLg]
  rcases wi (x := a1) (lo := 0) (hi := 4) (by omega) (by omega) with ⟨nn, -, hnn, rfl, w1, w2⟩ | ⟨w1, w2⟩
  · obtain ⟨V', U', len, cc, c1, c2, c3, c4, c5, ⟨E, L, rn, rp, hN, hcc, hlen⟩, c7, c8, c9, c10⟩ := both hn h hnn (wa := 0) (by omega)
    have h2 : RelB z b V' R G U' := h.ask (tr_NF c8) (tr_OV c8) c9 c10
    obtain ⟨iE, iL, hw, hE, hL, mE, mC, hs, hz, pC, pM, iR⟩ := nw_parts hN
    obtain ⟨p1, p2⟩ := pos_of c3 c4
    have s6 : V' (z + 36) 4 = nI len := c3.2.2.2.2.2.1
    obtain ⟨rn', hr', r1, r2, r3⟩ := h2.2.2.2.2.1
    have hL' : LC V' (z + 2) L := hL.fr fun x h1 h2 => c8 x (by omega)
    have hE' : EC G V' R z (z + 1) E := hE.fr (by rw [c8 _ (by omega)]) (by rw [c8 _ (by omega)]) fun x hx => c8 x (by omega)
    obtain ⟨V3, d1, d2, d3⟩ := c_copy (b := z + 31) (a := z + 2) hL' (by omega)
    obtain ⟨U3, g1, g2, g3, g4⟩ := m_aside (n := n) (b := b) (U := U') hn (lv := 0) (by omega)
    have t6 : V3 (z + 36) 4 = nI len := by rw [d3 _ (by omega)]; exact s6
    have v4 : ∀ y, y ≠ z → up2 V3 z 7 (nI len) y = V3 y := fun y hy => w_row hy
    obtain ⟨V5, U5, e1, e2, e3, e4, e5, e6⟩ := p_l (R := R) (z := z) (b := b) (G := G) (V1 := up2 V3 z 7 (nI len)) (U1 := U3) (L := L) hn iE c5 iL.2.1 len 0 n n (by omega) (by omega) (by omega) w_same (by rw [g2 _ (by omega)]; exact p1) (fun i hi => by rw [v4 _ (by omega), d3 _ (by omega), g2 _ (by omega), ← hcc]; exact p2 i hi) (fun i hi => by rw [v4 _ (by omega), d3 _ (by omega), g2 _ (by omega)]; exact r3 i hi) ((hE'.cf (ad_tr (by omega)) d3).fr (by rw [v4 _ (by omega)]) (by rw [v4 _ (by omega)]) fun y hy => v4 y (by omega)) (d2.fr fun y h1 h2 => v4 y (by omega)) (by rw [g2 _ (by omega), c9]; exact mE) (by rw [g2 _ (by omega), c9]; exact mC) iL rfl (by omega)
    obtain ⟨U6, f1, f2, f3⟩ := m_restore (n := n) (b := b) (U := U5) hn (lv := 0) (by omega) (s := U' (b + 1)) (fun i hi => by rw [e5 _ (by omega) (by omega)]; exact g4 i hi) (fun i hi => by rw [e6 i hi, g2 _ (by omega)])
    have u17 : U6 b 17 = nI len := by rw [f2 _ (by omega), e5 _ (by omega) (by omega), g2 _ (by omega)]; exact p1
    have v7 : V5 z 7 = nI len := by rw [e4 _ (by omega) (by omega), w_same]
    have fu : ∀ y, y ≠ b + 1 → y ≠ b + 3 → y ≠ b + 10 → U6 y = U' y := fun y h1 h2 h3 => by rw [f2 y h1, e5 y h1 h3, g2 y h2]
    refine pk (x := nI len) (y := nI len) (V' := V5) (U' := up2 U6 b 27 (nI len)) ?_ ?_ rfl (rw_new h2 (fun x h1 h2 h3 => ?_) ?_ ?_ (fun y hy => ?_) ⟨?_, ?_, ?_⟩ ⟨len, c5, v7, w_same, fun i hi => ?_⟩)
    · have e1' : lX8_prove_51 n G R z n (up2 V3 z 7 (nI len)) 0 = some V5 := e1
      simp (disch := omega) only [li_4, w1, o_b, e_10, ↓reduceIte, show (0 : Int32) = nI 0 from rfl]
      have c1' : pX6_tryAll n G V R (z + 36) (z + 1) (nI nn) (nI 0) = some V' := c1
      have e1'' : lX8_prove_51 n G R z n (up2 V3 z 7 (nI len)) (nI 0) = some V5 := e1
      simp only [c1', o_b, d1, letv, t6, e1'', v7]
    · have c2' : pX9_findsPlans n U b (nI nn) (nI 0) = some U' := c2
      have g1' : pX9_laysAside n U' b (nI 0) = some U3 := g1
      have e2' : lX9_prove_22 n b n U3 (nI 0) = some U5 := e2
      have f1' : pX9_laysBack n U5 b (nI 0) = some U6 := f1
      simp (disch := omega) only [w2, o_b, isb1, e_10, ↓reduceIte, li_0, c2', g1', e2', f1', letv, u17, w_same]
    · rw [e4 x (by omega) h2, v4 x h1, d3 x (by omega)]
    · rw [e4 z (by omega) (by omega), w_idx (by omega), d3 _ (by omega)]
    · rw [w_row (by omega), f3]
    · rw [w_row (by omega), fu y (by omega) (by omega) (by omega)]
    · rw [w_idx (by omega), fu _ (by omega) (by omega) (by omega)]
    · rw [w_idx (by omega), fu _ (by omega) (by omega) (by omega)]
    · rw [w_idx (by omega), fu _ (by omega) (by omega) (by omega)]
    · rw [w_row (by omega), f2 _ (by omega)]
      exact e3 i hi
  · exact pkx (-(nI 1)) (by simp (disch := omega) only [w1, letv, o_b, ↓reduceIte, e_sub, e_add, e_mul, e_ld, e_st, e_lt, e_nlt, e_le, e_nle, e_eq, e_neq, e_div, e_rem, m_lt, m_le, m_eq, m_eq2, m_ng, o_ld, true_and, and_true, Nat.one_ne_zero, Nat.zero_ne_one, Nat.reduceEqDiff, Bool.false_eq_true, not_true_eq_false, not_false_eq_true, li_0, li_1, li_2, li_3, li_4, li_5, li_6, li_7, li_8, li_9, li_10, li_11, li_12, li_13, li_14, li_15, li_16, li_20, li_23, li_25, li_30, li_31, li_32, li_38, li_40, li_41, li_44, li_48, li_50, li_51, li_52, li_57, li_59, li_60, li_61, li_62, li_63, li_66, li_81, li_94, li_97, li_98, li_99, li_100, li_101, li_103, li_104, li_105, li_107, li_108, li_109, li_110, li_111, li_112, li_114, li_115, li_116, li_117, li_118, li_122, li_200, li_572, li_600, li_9999, li_10000, li_12345, li_1103515245]) (by simp (disch := omega) only [w2, isb0, letv, o_b, ↓reduceIte, e_sub, e_add, e_mul, e_ld, e_st, e_lt, e_nlt, e_le, e_nle, e_eq, e_neq, e_div, e_rem, m_lt, m_le, m_eq, m_eq2, m_ng, o_ld, true_and, and_true, Nat.one_ne_zero, Nat.zero_ne_one, Nat.reduceEqDiff, Bool.false_eq_true, not_true_eq_false, not_false_eq_true, li_0, li_1, li_2, li_3, li_4, li_5, li_6, li_7, li_8, li_9, li_10, li_11, li_12, li_13, li_14, li_15, li_16, li_20, li_23, li_25, li_30, li_31, li_32, li_38, li_40, li_41, li_44, li_48, li_50, li_51, li_52, li_57, li_59, li_60, li_61, li_62, li_63, li_66, li_81, li_94, li_97, li_98, li_99, li_100, li_101, li_103, li_104, li_105, li_107, li_108, li_109, li_110, li_111, li_112, li_114, li_115, li_116, li_117, li_118, li_122, li_200, li_572, li_600, li_9999, li_10000, li_12345, li_1103515245]) h
end V1
