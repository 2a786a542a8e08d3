/-! washes by lot, rows of plans, who reads them -/
section T1
variable {n z b : Nat} {V : V2} {R : R2} {G Gm : G2} {U : V2} {E : En}
theorem t_in (hn : 1000 ≤ n) (iE : IE E) : ∀ m j f f' {V1 U1 : V2} {L : Ld} {zz acc : Int32}, L_w L + m = E_en E → j + m ≤ 16 → m < f → m < f' → EC G V1 R z (z + 1) E → LC V1 (z + 31) L → ME (U1 (b + 1)) E → MC (U1 (b + 1)) L → IL L → U1 (b + 1) 4 = zz → ∃ V' U' zz' acc', lX8_times_63 n G R z f V1 zz acc (nI j) = some (V', zz', acc') ∧ lX9_times_80 n b f' U1 acc = some (U', acc') ∧ U' (b + 1) 4 = zz' ∧ CF (z + 31) V1 V' ∧ (∀ y, y ≠ b + 1 → U' y = U1 y) ∧ ∀ i, 38 ≤ i → U' (b + 1) i = U1 (b + 1) i := by
  have he := iE.2.1
  intro m
  induction m with
  | zero =>
    intro j f f' V1 U1 L zz acc h1 h2 h3 h4 hE hL mE mC iL hz
    obtain ⟨f, rfl⟩ : ∃ g, f = g + 1 := ⟨f - 1, by omega⟩
    obtain ⟨f', rfl⟩ : ∃ g, f' = g + 1 := ⟨f' - 1, by omega⟩
    have q : E_en E ≤ L_w L := by omega
    refine ⟨V1, U1, zz, acc, ?_, ?_, hz, CF.rf, fun _ _ => rfl, fun _ _ => rfl⟩
    · unfold lX8_times_63
      by_cases q2 : 16 ≤ j
      · simp (disch := omega) only [q2, letv, o_b, ↓reduceIte, e_sub, e_add, e_mul, e_ld, e_st, e_lt, e_nlt, e_le, e_nle, e_eq, e_neq, e_div, e_rem, m_lt, m_le, m_eq, m_eq2, m_ng, o_ld, true_and, and_true, Nat.one_ne_zero, Nat.zero_ne_one, Nat.reduceEqDiff, Bool.false_eq_true, not_true_eq_false, not_false_eq_true, li_0, li_1, li_2, li_3, li_4, li_5, li_6, li_7, li_8, li_9, li_10, li_11, li_12, li_13, li_14, li_15, li_16, li_20, li_23, li_25, li_30, li_31, li_32, li_38, li_40, li_41, li_44, li_48, li_50, li_51, li_52, li_57, li_59, li_60, li_61, li_62, li_63, li_66, li_81, li_94, li_97, li_98, li_99, li_100, li_101, li_103, li_104, li_105, li_107, li_108, li_109, li_110, li_111, li_112, li_114, li_115, li_116, li_117, li_118, li_122, li_200, li_572, li_600, li_9999, li_10000, li_12345, li_1103515245]
      · simp (disch := omega) only [q2, c_over hE iE hL iL, q, letv, o_b, ↓reduceIte, e_sub, e_add, e_mul, e_ld, e_st, e_lt, e_nlt, e_le, e_nle, e_eq, e_neq, e_div, e_rem, m_lt, m_le, m_eq, m_eq2, m_ng, o_ld, true_and, and_true, Nat.one_ne_zero, Nat.zero_ne_one, Nat.reduceEqDiff, Bool.false_eq_true, not_true_eq_false, not_false_eq_true, li_0, li_1, li_2, li_3, li_4, li_5, li_6, li_7, li_8, li_9, li_10, li_11, li_12, li_13, li_14, li_15, li_16, li_20, li_23, li_25, li_30, li_31, li_32, li_38, li_40, li_41, li_44, li_48, li_50, li_51, li_52, li_57, li_59, li_60, li_61, li_62, li_63, li_66, li_81, li_94, li_97, li_98, li_99, li_100, li_101, li_103, li_104, li_105, li_107, li_108, li_109, li_110, li_111, li_112, li_114, li_115, li_116, li_117, li_118, li_122, li_200, li_572, li_600, li_9999, li_10000, li_12345, li_1103515245]
    · unfold lX9_times_80
      simp (disch := omega) only [m_over mE iE mC iL, q, letv, o_b, ↓reduceIte, e_sub, e_add, e_mul, e_ld, e_st, e_lt, e_nlt, e_le, e_nle, e_eq, e_neq, e_div, e_rem, m_lt, m_le, m_eq, m_eq2, m_ng, o_ld, true_and, and_true, Nat.one_ne_zero, Nat.zero_ne_one, Nat.reduceEqDiff, Bool.false_eq_true, not_true_eq_false, not_false_eq_true, li_0, li_1, li_2, li_3, li_4, li_5, li_6, li_7, li_8, li_9, li_10, li_11, li_12, li_13, li_14, li_15, li_16, li_20, li_23, li_25, li_30, li_31, li_32, li_38, li_40, li_41, li_44, li_48, li_50, li_51, li_52, li_57, li_59, li_60, li_61, li_62, li_63, li_66, li_81, li_94, li_97, li_98, li_99, li_100, li_101, li_103, li_104, li_105, li_107, li_108, li_109, li_110, li_111, li_112, li_114, li_115, li_116, li_117, li_118, li_122, li_200, li_572, li_600, li_9999, li_10000, li_12345, li_1103515245]
  | succ m ih =>
    intro j f f' V1 U1 L zz acc h1 h2 h3 h4 hE hL mE mC iL hz
    obtain ⟨f, rfl⟩ : ∃ g, f = g + 1 := ⟨f - 1, by omega⟩
    obtain ⟨f', rfl⟩ : ∃ g, f' = g + 1 := ⟨f' - 1, by omega⟩
    have q : ¬ E_en E ≤ L_w L := by omega
    have hc := iL.2.1
    obtain ⟨zn, hzn⟩ : ∃ zn, zn = nxL zz := ⟨_, rfl⟩
    have e1 : pX8_nextLot zz = some zn := by rw [hzn]; exact nx_c _
    have e2 : U1 (b + 1) 4 * 1103515245 + 12345 = zn := by rw [hzn, hz]; exact nx_m _
    clear hzn
    obtain ⟨l1, l2⟩ := loA_ok zn hc
    have mE1 : ME (up2 U1 (b + 1) 4 zn (b + 1)) E := mE.low (by omega)
    have mC1 : MC (up2 U1 (b + 1) 4 zn (b + 1)) L := mC.up (by omega)
    obtain ⟨V2', a1, a2, a3⟩ := c_goBy hn hE iE (ad_tr (a := z + 31) (by omega)) hL iL l1
    obtain ⟨U2', b1, b2, b3, -⟩ := m_goes hn mE1 iE mC1 iL l1
    obtain ⟨V', U', zz', acc', c1, c2, c3, c4, c5, c6⟩ := ih (j + 1) f f' (zz := zn) (acc := acc + nI (goW E L (loA zn (L_c L)))) (V1 := V2') (U1 := U2') (by rw [goL_w]; omega) (by omega) (by omega) (by omega) (hE.cf (ad_tr (by omega)) a3) a2 (mE1.mf b3) b2 (goL_IL iL l1 (by omega)) (by rw [b3.2 4 (by omega), w_same])
    have f1 : V1 (z + 31) 1 = nI (L_c L) := hL.2.1
    have f2 := mC.2.1
    refine ⟨V', U', zz', acc', ?_, ?_, c3, a3.tr c4, fun y hy => by rw [c5 y hy, b3.1 y hy, w_row hy], fun i hi => by rw [c6 i hi, b3.2 i (by omega), w_idx (by omega)]⟩
    · unfold lX8_times_63
      rw [c_over hE iE hL iL, if_neg q]
      simp (disch := omega) only [letv, li_0, li_1, li_16, e_nle, ↓reduceIte, o_b, e1, f1, c_drawn zn hc, a1, e_add, c1]
    · unfold lX9_times_80 pX9_goesByLot
      have e6 : up2 U1 (b + 1) 4 zn (b + 1) 0 = nI (L_c L) := by rw [w_idx (by omega)]; exact f2
      rw [li_1] at l2
      rw [m_over mE iE mC iL, if_neg q]
      simp (disch := omega) only [letv, o_b, li_0, li_1, li_4, e_ld, e_st, e2, w_same, e6, ↓reduceIte, l2, b1, c2]
theorem t_out (hn : 1000 ≤ n) (iE : IE E) {L : Ld} (iL : IL L) (hw : L_w L ≤ E_en E) {N v : Nat} (hN : N ≤ 40) (hv : v ≤ 999) {s0 : Nat → Int32} (mE : ME s0 E) (mC : MC s0 L) : ∀ m x f f' {V1 U1 : V2} {zz acc : Int32}, x + m = N → m < f → m < f' → EC G V1 R z (z + 1) E → LC V1 (z + 2) L → AS b 0 U1 s0 → (∀ i, 38 ≤ i → U1 (b + 1) i = s0 i) → U1 (b + 1) 4 = zz → (x = 0 → zz = s0 4) → ∃ V' U' zz' acc', lX8_times_37 n G R z (nI N) (nI v) f V1 zz acc (nI x) = some (V', acc') ∧ lX9_times_36 n b (nI N) (nI v) f' U1 acc (nI x) = some (U', acc') ∧ U' (b + 1) 4 = zz' ∧ CF (z + 31) V1 V' ∧ (∀ y, y ≠ b + 1 → U' y = U1 y) ∧ ∀ i, 38 ≤ i → U' (b + 1) i = s0 i := by
  have he := iE.2.1
  intro m
  induction m with
  | zero =>
    intro x f f' V1 U1 zz acc h1 h2 h3 hE hL hA hS hz hx
    obtain ⟨f, rfl⟩ : ∃ g, f = g + 1 := ⟨f - 1, by omega⟩
    obtain ⟨f', rfl⟩ : ∃ g, f' = g + 1 := ⟨f' - 1, by omega⟩
    refine ⟨V1, U1, zz, acc, ?_, ?_, hz, CF.rf, fun _ _ => rfl, hS⟩
    · unfold lX8_times_37
      simp (disch := omega) only [letv, o_b, ↓reduceIte, e_sub, e_add, e_mul, e_ld, e_st, e_lt, e_nlt, e_le, e_nle, e_eq, e_neq, e_div, e_rem, m_lt, m_le, m_eq, m_eq2, m_ng, o_ld, true_and, and_true, Nat.one_ne_zero, Nat.zero_ne_one, Nat.reduceEqDiff, Bool.false_eq_true, not_true_eq_false, not_false_eq_true, li_0, li_1, li_2, li_3, li_4, li_5, li_6, li_7, li_8, li_9, li_10, li_11, li_12, li_13, li_14, li_15, li_16, li_20, li_23, li_25, li_30, li_31, li_32, li_38, li_40, li_41, li_44, li_48, li_50, li_51, li_52, li_57, li_59, li_60, li_61, li_62, li_63, li_66, li_81, li_94, li_97, li_98, li_99, li_100, li_101, li_103, li_104, li_105, li_107, li_108, li_109, li_110, li_111, li_112, li_114, li_115, li_116, li_117, li_118, li_122, li_200, li_572, li_600, li_9999, li_10000, li_12345, li_1103515245]
    · unfold lX9_times_36
      simp (disch := omega) only [letv, o_b, ↓reduceIte, e_sub, e_add, e_mul, e_ld, e_st, e_lt, e_nlt, e_le, e_nle, e_eq, e_neq, e_div, e_rem, m_lt, m_le, m_eq, m_eq2, m_ng, o_ld, true_and, and_true, Nat.one_ne_zero, Nat.zero_ne_one, Nat.reduceEqDiff, Bool.false_eq_true, not_true_eq_false, not_false_eq_true, li_0, li_1, li_2, li_3, li_4, li_5, li_6, li_7, li_8, li_9, li_10, li_11, li_12, li_13, li_14, li_15, li_16, li_20, li_23, li_25, li_30, li_31, li_32, li_38, li_40, li_41, li_44, li_48, li_50, li_51, li_52, li_57, li_59, li_60, li_61, li_62, li_63, li_66, li_81, li_94, li_97, li_98, li_99, li_100, li_101, li_103, li_104, li_105, li_107, li_108, li_109, li_110, li_111, li_112, li_114, li_115, li_116, li_117, li_118, li_122, li_200, li_572, li_600, li_9999, li_10000, li_12345, li_1103515245]
  | succ m ih =>
    intro x f f' V1 U1 zz acc h1 h2 h3 hE hL hA hS hz hx
    obtain ⟨f, rfl⟩ : ∃ g, f = g + 1 := ⟨f - 1, by omega⟩
    obtain ⟨f', rfl⟩ : ∃ g, f' = g + 1 := ⟨f' - 1, by omega⟩
    obtain ⟨W1, c1, c2, c3⟩ := c_copy (b := z + 31) (a := z + 2) hL (by omega)
    obtain ⟨Y1, d1, d2, d3⟩ := m_restore (n := n) (b := b) (U := U1) hn (lv := 0) (by omega) hA hS
    have mE1 : ME (up2 Y1 (b + 1) 4 zz (b + 1)) E := ME.low (U := Y1) (by rw [d3]; exact mE) (by omega)
    have mC1 : MC (up2 Y1 (b + 1) 4 zz (b + 1)) L := MC.up (U := Y1) (by rw [d3]; exact mC) (by omega)
    obtain ⟨V', U', zz', ac, e1, e2, e3, e4, e5, e6⟩ := t_in hn iE (E_en E - L_w L) 0 n n (zz := zz) (acc := nI 0) (by omega) (by omega) (by omega) (by omega) (hE.cf (ad_tr (by omega)) c3) c2 mE1 mC1 iL w_same
    have hcf := c3.tr e4
    have ezz : (if nI x = (0 : Int32) then (some (Y1 (b + 1) 4)) else some zz) = some zz := by
      by_cases q : x = 0
      · rw [if_pos (by rw [q]; rfl), d3, hx q]
      · rw [if_neg (by rw [li_0, e_neq (by omega) (by omega) q]; exact id)]
    have ih' := fun (acc2 : Int32) => ih (x + 1) f f' (V1 := V') (U1 := U') (zz := zz') (acc := acc2) (by omega) (by omega) (by omega) (hE.cf (ad_tr (by omega)) hcf) (hL.fr fun y h1 h2 => hcf y (by omega)) (fun i hi => by rw [e5 _ (by omega), w_row (by omega), d2 _ (by omega)]; exact hA i hi) (fun i hi => by rw [e6 i hi, w_idx (by omega), d3]) e3 (fun q => absurd q (by omega))
    have mdl : ∀ (acc2 : Int32) (U5 : V2) (ac5 : Int32), lX9_times_36 n b (nI N) (nI v) f' U' (if ac < nI v then acc + 0 else acc + 1) (nI (x + 1)) = some (U5, ac5) → lX9_times_36 n b (nI N) (nI v) (f' + 1) U1 acc (nI x) = some (U5, ac5) := fun acc2 U5 ac5 h5 => by
      rw [← h5]
      conv => lhs; unfold lX9_times_36
      have t3 : (nI N ≤ nI x) = False := e_nle (by omega) (by omega)
      have ld4 : ldI 572 (U1 (b + 1)) 4 = some zz := by rw [li_4, e_ld (by omega) (by omega), hz]
      have ld4' : ldI 572 (Y1 (b + 1)) 4 = some (Y1 (b + 1) 4) := by rw [li_4, e_ld (by omega) (by omega)]
      have st4 : stI 572 Y1 (b + 1) 4 zz = some (up2 Y1 (b + 1) 4 zz) := by rw [li_4, e_st (by omega) (by omega)]
      have d1' : pX9_laysBack n U1 b 0 = some Y1 := d1
      have e2' : lX9_times_80 n b n (up2 Y1 (b + 1) 4 zz) 0 = some (U', ac) := e2
      have x1 : nI x + 1 = nI (x + 1) := by rw [li_1, e_add]
      simp only [t3, ↓reduceIte, ld4, o_b, d1', ld4', ezz, st4, e2', letv, x1]
      by_cases q : ac < nI v
      · simp only [q, ↓reduceIte]
      · simp only [q, ↓reduceIte]
    have z0 : acc + 0 = acc := Int32.add_zero acc
    by_cases q : ac < nI v
    · obtain ⟨V5, U5, zz5, ac5, k1, k2, k3, k4, k5, k6⟩ := ih' acc
      refine ⟨V5, U5, zz5, ac5, ?_, mdl acc U5 ac5 (by simp only [q, ↓reduceIte, z0]; exact k2), k3, hcf.tr k4, fun y hy => by rw [k5 y hy, e5 y hy, w_row hy, d2 y hy], k6⟩
      unfold lX8_times_37
      simp (disch := omega) only [letv, li_0, li_1, e_nle, ↓reduceIte, c1, o_b, e1, q, e_add, k1]
    · obtain ⟨V5, U5, zz5, ac5, k1, k2, k3, k4, k5, k6⟩ := ih' (acc + nI 1)
      refine ⟨V5, U5, zz5, ac5, ?_, mdl acc U5 ac5 (by simp only [q, ↓reduceIte]; exact k2), k3, hcf.tr k4, fun y hy => by rw [k5 y hy, e5 y hy, w_row hy, d2 y hy], k6⟩
      unfold lX8_times_37
      simp (disch := omega) only [letv, li_0, li_1, e_nle, ↓reduceIte, c1, o_b, e1, q, e_add, k1]
theorem ok_times' (hn : 1000 ≤ n) (h : RelB z b V R G U) (a1 a2 : Int32) : ∃ o om, pX8_times n G V R z a1 a2 = some o ∧ pX9_times n U b a1 a2 = some om ∧ o.1 = om.1 ∧ RelB z b o.2 R G om.2 := by
  obtain ⟨hW, ⟨E, L, rn, rp, hN⟩, hO⟩ := id h
  obtain ⟨iE, iL, hw, hE, hL, mE, mC, hs, hz, pC, pM, iR⟩ := nw_parts hN
  unfold pX8_times pX9_times
  rcases wi (x := a1) (lo := 1) (hi := 40) (by omega) (by omega) with ⟨N, hN1, hN, rfl, w1, w2⟩ | ⟨w1, w2⟩
  · rcases wi (x := a2) (lo := 0) (hi := 999) (by omega) (by omega) with ⟨v, -, hv, rfl, w3, w4⟩ | ⟨w3, w4⟩
    · obtain ⟨U1, g1, g2, g3, g4⟩ := m_aside (n := n) (b := b) (U := U) hn (lv := 0) (by omega)
      have r1 : U1 (b + 1) = U (b + 1) := g2 _ (by omega)
      obtain ⟨V', U', zz', ac, c1, c2, c3, c4, c5, c6⟩ := t_out (R := R) (V1 := V) (U1 := U1) (zz := V (z + 1) 3) (acc := nI 0) hn iE iL hw hN hv mE mC N 0 n n (by omega) (by omega) (by omega) hE hL g4 (fun i hi => by rw [r1]) (by rw [r1]; exact hz.symm) (fun _ => hz)
      obtain ⟨U3, d1, d2, d3⟩ := m_restore (n := n) (b := b) (U := U') hn (lv := 0) (by omega) (s := U (b + 1)) (fun i hi => by rw [c5 _ (by omega)]; exact g4 i hi) c6
      have hq := sd_fr c4 (z := z) (by omega)
      have f2 : ∀ y, y ≠ b + 3 → U3 y = U y := fun y hy => by
        by_cases q : y = b + 1
        · rw [q, d3]
        · rw [d2 y q, c5 y q, g2 y hy]
      refine pk (x := ac) (V' := V') (U' := U3) ?_ ?_ rfl (h.ask (tr_NF hq) (tr_OV hq) (f2 _ (by omega)) (OU.asd f2))
      · simp (disch := omega) only [li_0, li_1, li_40, show (999 : Int32) = nI 999 from rfl, w1, o_b, e_10, ↓reduceIte, w3, letv, c1]
      · simp (disch := omega) only [li_0, lj_0, lj_1, lj_40, show (999 : Int64) = lN 999 from rfl, w2, o_b, e_10, ↓reduceIte, w4, g1, c2, d1]
    · refine pkx (-(nI 1)) ?_ ?_ h
      · simp (disch := omega) only [li_0, li_1, li_40, show (999 : Int32) = nI 999 from rfl, w1, o_b, e_10, ↓reduceIte, w3]
      · simp (disch := omega) only [li_0, li_1, lj_0, lj_1, lj_40, show (999 : Int64) = lN 999 from rfl, w2, o_b, e_10, ↓reduceIte, w4]
  · refine pkx (-(nI 1)) ?_ ?_ h
    · simp (disch := omega) only [li_0, li_1, li_40, w1, o_b, ↓reduceIte]
    · simp (disch := omega) only [li_0, li_1, lj_0, lj_1, lj_40, w2, o_b, ↓reduceIte]
/-- who reads -/
theorem j_l (hn : 1000 ≤ n) (iE : IE E) {rn : Nat} (hr : rn ≤ 4) : ∀ m x f f' {V1 U1 : V2} {L : Ld}, x + m = rn → m < f → m < f' → V1 z 7 = nI rn → U1 b 27 = nI rn → (∀ i, i < 12 → V1 (z + 69) i = U1 (b + 10) i) → EC G V1 R z (z + 1) E → LC V1 (z + 31) L → ME (U1 (b + 1)) E → MC (U1 (b + 1)) L → IL L → L_w L ≤ E_en E → ∃ o V' U' k r, lX8_judge_16 n G R z f V1 (nI x) (fun w7 => some (0, w7)) = some (o, V') ∧ lX9_judge_9 n b f' U1 (nI x) 1 = some (U', k, r) ∧ (if r = nI 0 then k else nI 0) = o ∧ CF (z + 31) V1 V' ∧ MF b U1 U' := by
  have he := iE.2.1
  intro m
  induction m with
  | zero =>
    intro x f f' V1 U1 L h1 h2 h3 v7 u27 hrw hE hL mE mC iL hw
    obtain ⟨f, rfl⟩ : ∃ g, f = g + 1 := ⟨f - 1, by omega⟩
    obtain ⟨f', rfl⟩ : ∃ g, f' = g + 1 := ⟨f' - 1, by omega⟩
    refine ⟨nI 0, V1, U1, nI x, nI 1, ?_, ?_, by simp (disch := omega) only [letv, o_b, ↓reduceIte, e_sub, e_add, e_mul, e_ld, e_st, e_lt, e_nlt, e_le, e_nle, e_eq, e_neq, e_div, e_rem, m_lt, m_le, m_eq, m_eq2, m_ng, o_ld, true_and, and_true, Nat.one_ne_zero, Nat.zero_ne_one, Nat.reduceEqDiff, Bool.false_eq_true, not_true_eq_false, not_false_eq_true, li_0, li_1, li_2, li_3, li_4, li_5, li_6, li_7, li_8, li_9, li_10, li_11, li_12, li_13, li_14, li_15, li_16, li_20, li_23, li_25, li_30, li_31, li_32, li_38, li_40, li_41, li_44, li_48, li_50, li_51, li_52, li_57, li_59, li_60, li_61, li_62, li_63, li_66, li_81, li_94, li_97, li_98, li_99, li_100, li_101, li_103, li_104, li_105, li_107, li_108, li_109, li_110, li_111, li_112, li_114, li_115, li_116, li_117, li_118, li_122, li_200, li_572, li_600, li_9999, li_10000, li_12345, li_1103515245], CF.rf, MF.rf⟩
    · unfold lX8_judge_16
      simp (disch := omega) only [v7, letv, o_b, ↓reduceIte, e_sub, e_add, e_mul, e_ld, e_st, e_lt, e_nlt, e_le, e_nle, e_eq, e_neq, e_div, e_rem, m_lt, m_le, m_eq, m_eq2, m_ng, o_ld, true_and, and_true, Nat.one_ne_zero, Nat.zero_ne_one, Nat.reduceEqDiff, Bool.false_eq_true, not_true_eq_false, not_false_eq_true, li_0, li_1, li_2, li_3, li_4, li_5, li_6, li_7, li_8, li_9, li_10, li_11, li_12, li_13, li_14, li_15, li_16, li_20, li_23, li_25, li_30, li_31, li_32, li_38, li_40, li_41, li_44, li_48, li_50, li_51, li_52, li_57, li_59, li_60, li_61, li_62, li_63, li_66, li_81, li_94, li_97, li_98, li_99, li_100, li_101, li_103, li_104, li_105, li_107, li_108, li_109, li_110, li_111, li_112, li_114, li_115, li_116, li_117, li_118, li_122, li_200, li_572, li_600, li_9999, li_10000, li_12345, li_1103515245]
    · unfold lX9_judge_9
      simp (disch := omega) only [u27, letv, o_b, ↓reduceIte, e_sub, e_add, e_mul, e_ld, e_st, e_lt, e_nlt, e_le, e_nle, e_eq, e_neq, e_div, e_rem, m_lt, m_le, m_eq, m_eq2, m_ng, o_ld, true_and, and_true, Nat.one_ne_zero, Nat.zero_ne_one, Nat.reduceEqDiff, Bool.false_eq_true, not_true_eq_false, not_false_eq_true, li_0, li_1, li_2, li_3, li_4, li_5, li_6, li_7, li_8, li_9, li_10, li_11, li_12, li_13, li_14, li_15, li_16, li_20, li_23, li_25, li_30, li_31, li_32, li_38, li_40, li_41, li_44, li_48, li_50, li_51, li_52, li_57, li_59, li_60, li_61, li_62, li_63, li_66, li_81, li_94, li_97, li_98, li_99, li_100, li_101, li_103, li_104, li_105, li_107, li_108, li_109, li_110, li_111, li_112, li_114, li_115, li_116, li_117, li_118, li_122, li_200, li_572, li_600, li_9999, li_10000, li_12345, li_1103515245]
  | succ m ih =>
    intro x f f' V1 U1 L h1 h2 h3 v7 u27 hrw hE hL mE mC iL hw
    obtain ⟨f, rfl⟩ : ∃ g, f = g + 1 := ⟨f - 1, by omega⟩
    obtain ⟨f', rfl⟩ : ∃ g, f' = g + 1 := ⟨f' - 1, by omega⟩
    have hc := iL.2.1
    have h0 := hrw (3 * x) (by omega)
    have f1 : V1 (z + 31) 1 = nI (L_c L) := hL.2.1
    have stop : ∀ {V' U' : V2}, CF (z + 31) V1 V' → MF b U1 U' → pX8_isRowRight n G V1 R z (nI x) = some (nI 0, V') → lX9_judge_9 n b (f' + 1) U1 (nI x) 1 = lX9_judge_9 n b f' U' (nI (x + 1)) 0 → U' b 27 = nI rn → ∃ o V' U' k r, lX8_judge_16 n G R z (f + 1) V1 (nI x) (fun w7 => some (0, w7)) = some (o, V') ∧ lX9_judge_9 n b (f' + 1) U1 (nI x) 1 = some (U', k, r) ∧ (if r = nI 0 then k else nI 0) = o ∧ CF (z + 31) V1 V' ∧ MF b U1 U' := by
      intro V' U' g1 g2 g3 g4 g5
      obtain ⟨f', rfl⟩ : ∃ g, f' = g + 1 := ⟨f' - 1, by omega⟩
      refine ⟨nI (x + 1), V', U', nI (x + 1), nI 0, ?_, ?_, by simp (disch := omega) only [letv, o_b, ↓reduceIte, e_sub, e_add, e_mul, e_ld, e_st, e_lt, e_nlt, e_le, e_nle, e_eq, e_neq, e_div, e_rem, m_lt, m_le, m_eq, m_eq2, m_ng, o_ld, true_and, and_true, Nat.one_ne_zero, Nat.zero_ne_one, Nat.reduceEqDiff, Bool.false_eq_true, not_true_eq_false, not_false_eq_true, li_0, li_1, li_2, li_3, li_4, li_5, li_6, li_7, li_8, li_9, li_10, li_11, li_12, li_13, li_14, li_15, li_16, li_20, li_23, li_25, li_30, li_31, li_32, li_38, li_40, li_41, li_44, li_48, li_50, li_51, li_52, li_57, li_59, li_60, li_61, li_62, li_63, li_66, li_81, li_94, li_97, li_98, li_99, li_100, li_101, li_103, li_104, li_105, li_107, li_108, li_109, li_110, li_111, li_112, li_114, li_115, li_116, li_117, li_118, li_122, li_200, li_572, li_600, li_9999, li_10000, li_12345, li_1103515245], g1, g2⟩
      · unfold lX8_judge_16
        simp (disch := omega) only [v7, g3, letv, o_b, ↓reduceIte, e_sub, e_add, e_mul, e_ld, e_st, e_lt, e_nlt, e_le, e_nle, e_eq, e_neq, e_div, e_rem, m_lt, m_le, m_eq, m_eq2, m_ng, o_ld, true_and, and_true, Nat.one_ne_zero, Nat.zero_ne_one, Nat.reduceEqDiff, Bool.false_eq_true, not_true_eq_false, not_false_eq_true, li_0, li_1, li_2, li_3, li_4, li_5, li_6, li_7, li_8, li_9, li_10, li_11, li_12, li_13, li_14, li_15, li_16, li_20, li_23, li_25, li_30, li_31, li_32, li_38, li_40, li_41, li_44, li_48, li_50, li_51, li_52, li_57, li_59, li_60, li_61, li_62, li_63, li_66, li_81, li_94, li_97, li_98, li_99, li_100, li_101, li_103, li_104, li_105, li_107, li_108, li_109, li_110, li_111, li_112, li_114, li_115, li_116, li_117, li_118, li_122, li_200, li_572, li_600, li_9999, li_10000, li_12345, li_1103515245]
      · rw [g4]
        unfold lX9_judge_9
        by_cases q : rn ≤ x + 1
        · simp (disch := omega) only [g5, q, letv, o_b, ↓reduceIte, e_sub, e_add, e_mul, e_ld, e_st, e_lt, e_nlt, e_le, e_nle, e_eq, e_neq, e_div, e_rem, m_lt, m_le, m_eq, m_eq2, m_ng, o_ld, true_and, and_true, Nat.one_ne_zero, Nat.zero_ne_one, Nat.reduceEqDiff, Bool.false_eq_true, not_true_eq_false, not_false_eq_true, li_0, li_1, li_2, li_3, li_4, li_5, li_6, li_7, li_8, li_9, li_10, li_11, li_12, li_13, li_14, li_15, li_16, li_20, li_23, li_25, li_30, li_31, li_32, li_38, li_40, li_41, li_44, li_48, li_50, li_51, li_52, li_57, li_59, li_60, li_61, li_62, li_63, li_66, li_81, li_94, li_97, li_98, li_99, li_100, li_101, li_103, li_104, li_105, li_107, li_108, li_109, li_110, li_111, li_112, li_114, li_115, li_116, li_117, li_118, li_122, li_200, li_572, li_600, li_9999, li_10000, li_12345, li_1103515245]
        · simp (disch := omega) only [g5, q, letv, o_b, ↓reduceIte, e_sub, e_add, e_mul, e_ld, e_st, e_lt, e_nlt, e_le, e_nle, e_eq, e_neq, e_div, e_rem, m_lt, m_le, m_eq, m_eq2, m_ng, o_ld, true_and, and_true, Nat.one_ne_zero, Nat.zero_ne_one, Nat.reduceEqDiff, Bool.false_eq_true, not_true_eq_false, not_false_eq_true, li_0, li_1, li_2, li_3, li_4, li_5, li_6, li_7, li_8, li_9, li_10, li_11, li_12, li_13, li_14, li_15, li_16, li_20, li_23, li_25, li_30, li_31, li_32, li_38, li_40, li_41, li_44, li_48, li_50, li_51, li_52, li_57, li_59, li_60, li_61, li_62, li_63, li_66, li_81, li_94, li_97, li_98, li_99, li_100, li_101, li_103, li_104, li_105, li_107, li_108, li_109, li_110, li_111, li_112, li_114, li_115, li_116, li_117, li_118, li_122, li_200, li_572, li_600, li_9999, li_10000, li_12345, li_1103515245]
    have e3 : nI x * nI 3 = nI (3 * x) := by rw [e_mul, Nat.mul_comm]
    rcases isA mC iL (U1 (b + 10) (3 * x)) with ⟨k, hk, hk', w1, w2⟩ | ⟨w1, w2⟩
    · by_cases q : E_en E ≤ L_w L
      · refine stop (V' := V1) (U' := U1) CF.rf MF.rf ?_ ?_ u27
        · unfold pX8_isRowRight
          simp (disch := omega) only [li_0, li_1, li_3, e3, e_ld, o_b, c_over hE iE hL iL, q, e_10, ↓reduceIte]
        · conv => lhs; unfold lX9_judge_9
          simp (disch := omega) only [letv, li_0, li_1, li_3, e_mul, u27, e_nle, ↓reduceIte, e_10, e_ld, o_b, w2, m_over mE iE mC iL, q, e_add]
      · obtain ⟨V2', a1, a2, a3⟩ := c_goBy hn hE iE (ad_tr (a := z + 31) (by omega)) hL iL hk
        obtain ⟨U2', b1, b2, b3, -⟩ := m_goes hn mE iE mC iL hk
        have iL' := goL_IL (E := E) iL hk (by omega)
        have r69 : V2' (z + 69) = V1 (z + 69) := a3 _ (by omega)
        have r10 : U2' (b + 10) = U1 (b + 10) := b3.1 _ (by omega)
        have u27' : U2' b 27 = nI rn := by rw [b3.1 _ (by omega)]; exact u27
        have v7' : V2' z 7 = nI rn := by rw [a3 _ (by omega)]; exact v7
        have h1' := hrw (3 * x + 1) (by omega)
        have h2' := hrw (3 * x + 2) (by omega)
        have fl : V2' (z + 31) 2 = nI (L_f (goL E L k)) := a2.2.2.1
        have mf := m_flats hn b2 iL'
        rw [hk'] at w1 w2 h0
        by_cases p : nI (goW E L k) = U1 (b + 10) (3 * x + 1)
        · by_cases p2 : nI (L_f (goL E L k)) = U1 (b + 10) (3 * x + 2)
          · obtain ⟨o, V', U', k', r', c1, c2, c3, c4, c5⟩ := ih (x + 1) f f' (by omega) (by omega) (by omega) v7' u27' (by rw [r69, r10]; exact hrw) (hE.cf (ad_tr (by omega)) a3) a2 (mE.mf b3) b2 iL' (by rw [goL_w]; omega)
            refine ⟨o, V', U', k', r', ?_, ?_, c3, a3.tr c4, b3.tr c5⟩
            · unfold lX8_judge_16 pX8_isRowRight
              simp (disch := omega) only [letv, v7, e_nle, ↓reduceIte, li_0, li_1, li_2, li_3, e3, e_ld, o_b, h0, c_over hE iE hL iL, q, f1, w1, e_10, a1, e_add, r69, h1', ← p, h2', ← p2, fl]
              exact c1
            · unfold lX9_judge_9
              simp (disch := omega) only [letv, li_0, li_1, li_2, li_3, e_mul, u27, e_nle, ↓reduceIte, e_10, e_ld, o_b, hk', w2, m_over mE iE mC iL, q, b1, r10, e_add, ← p, mf, ← p2]
              exact c2
          · refine stop (V' := V2') (U' := U2') a3 b3 ?_ ?_ u27'
            · unfold pX8_isRowRight
              simp (disch := omega) only [li_0, li_1, li_2, li_3, e3, e_ld, o_b, h0, c_over hE iE hL iL, q, f1, w1, e_10, ↓reduceIte, a1, e_add, r69, h1', ← p, h2', fl, p2]
            · conv => lhs; unfold lX9_judge_9
              simp (disch := omega) only [letv, li_0, li_1, li_2, li_3, e_mul, u27, e_nle, ↓reduceIte, e_10, e_ld, o_b, hk', w2, m_over mE iE mC iL, q, b1, r10, e_add, ← p, mf, p2]
        · refine stop (V' := V2') (U' := U2') a3 b3 ?_ ?_ u27'
          · unfold pX8_isRowRight
            simp (disch := omega) only [li_0, li_1, li_2, li_3, e3, e_ld, o_b, h0, c_over hE iE hL iL, q, f1, w1, e_10, ↓reduceIte, a1, e_add, r69, h1', p]
          · conv => lhs; unfold lX9_judge_9
            simp (disch := omega) only [letv, li_0, li_1, li_2, li_3, e_mul, u27, e_nle, ↓reduceIte, e_10, e_ld, o_b, hk', w2, m_over mE iE mC iL, q, b1, r10, e_add, p]
    · refine stop (V' := V1) (U' := U1) CF.rf MF.rf ?_ ?_ u27
      · unfold pX8_isRowRight
        by_cases q : E_en E ≤ L_w L
        · simp (disch := omega) only [li_0, li_1, li_3, e3, e_ld, o_b, c_over hE iE hL iL, q, e_10, ↓reduceIte]
        · simp (disch := omega) only [li_0, li_1, li_3, e3, e_ld, o_b, h0, c_over hE iE hL iL, q, f1, w1, ↓reduceIte]
      · conv => lhs; unfold lX9_judge_9
        simp (disch := omega) only [letv, li_0, li_1, li_3, e_mul, u27, e_nle, ↓reduceIte, e_10, e_ld, o_b, w2, e_add]
theorem ok_judge' (hn : 1000 ≤ n) (h : RelB z b V R G U) : ∃ o om, pX8_judge n G V R z = some o ∧ pX9_judge n U b = some om ∧ o.1 = om.1 ∧ RelB z b o.2 R G om.2 := by
  obtain ⟨hW, ⟨E, L, rn, rp, hN⟩, hO⟩ := id h
  obtain ⟨iE, iL, hw, hE, hL, mE, mC, hs, hz, pC, pM, iR⟩ := nw_parts hN
  obtain ⟨rw', hr, q1, q2, q3⟩ := hO.2.2.1
  obtain ⟨V1, c1, c2, c3⟩ := c_copy (b := z + 31) (a := z + 2) hL (by omega)
  obtain ⟨U1, g1, g2, g3, g4⟩ := m_think (n := n) (b := b) (U := U) hn
  obtain ⟨o, V', U', k, r, d1, d2, d3, d4, d5⟩ := j_l (R := R) (z := z) (b := b) hn iE hr rw' 0 n n (V1 := V1) (U1 := U1) (by omega) (by omega) (by omega) (by rw [c3 _ (by omega)]; exact q1) (by rw [g3 _ (by omega)]; exact q2) (fun i hi => by rw [c3 _ (by omega), g3 _ (by omega)]; exact q3 i hi) (hE.cf (ad_tr (by omega)) c3) c2 (by rw [g2]; exact mE) (by rw [g2]; exact mC) iL hw
  obtain ⟨U3, f1, f2⟩ := g4 U' d5
  have hq := sd_fr (c3.tr d4) (z := z) (by omega)
  unfold pX8_judge pX9_judge
  refine pk (x := o) (V' := V') (U' := U3) ?_ ?_ rfl (h.ask (tr_NF hq) (tr_OV hq) (f2 _ (by omega)) (OU.asd f2))
  · rw [c1]
    exact d1
  · have g1' : pX9_laysAside n U b 0 = some U1 := g1
    have d2' : lX9_judge_9 n b n U1 0 1 = some (U', k, r) := d2
    have f1' : pX9_laysBack n U' b 0 = some U3 := f1
    simp only [g1', o_b, d2', f1']
    rw [← d3]
    by_cases p : r = nI 0
    · have p' : r = 0 := p
      rw [if_pos p, if_pos p']
    · have p' : ¬ r = 0 := p
      rw [if_neg p, if_neg p']
      rfl
end T1
