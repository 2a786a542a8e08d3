/-! kept, and again -/
section K1
variable {n z b : Nat} {V : V2} {R : R2} {G Gm : G2} {U : V2}
theorem cpy16 {V : V2} {x y : Nat} : cpyV 16 16 V x 0 y 0 16 = some (va_up V y (va_cpy (V x) (V y) 0 0 16)) := by
  unfold cpyV
  rw [if_pos (by decide +kernel)]
  rfl
theorem c_rep {a c rn : Nat} {rp : Nat → Nat → Nat} (h : RpC V a rn rp) (hr : rn ≤ 6) (hac : a + 4 < c ∨ c + 4 < a) : ∃ V', pX3_copy V c a = some V' ∧ RpC V' c rn rp ∧ CF c V V' := by
  obtain ⟨h1, h2⟩ := h
  unfold pX3_copy
  simp only [letv, cpy6, o_b]
  refine ⟨_, rfl, ⟨?_, fun i hi => ?_⟩, ?_⟩
  · simp (disch := omega) only [va_up_ne, w_same, h1]
  · obtain ⟨g0, g1, g2, g3⟩ := h2 i hi
    have i6 : i < 6 := by omega
    simp (disch := omega) only [va_up_ne, va_up_self, cpy_at i6, w_row, g0, g1, g2, g3, and_self]
  · exact ((((CF.up (by omega)).tr (CF.va (by omega))).tr (CF.va (by omega))).tr (CF.va (by omega))).tr (CF.va (by omega))
theorem tk_l {c a rc : Nat} (hl : G.2.2.1 a = 8) (hrc : rc ≤ 8) (hac : a ≠ c + 9) (hok : ∀ i, i < rc → okQ G (R a i) 14 = true) : ∀ m x f {S : R2}, x + m = rc → m < f → (∀ y, y ≠ c + 9 → S y = R y) → (∀ i, i < x → S (c + 9) i = R a i) → ∃ S', lX1_takeRules_7 G c a (nI rc) f S (nI x) = some S' ∧ (∀ y, y ≠ c + 9 → S' y = R y) ∧ ∀ i, i < rc → S' (c + 9) i = R a i := by
  intro m
  induction m with
  | zero =>
    intro x f S h1 h2 h3 h4
    obtain ⟨f, rfl⟩ : ∃ g, f = g + 1 := ⟨f - 1, by omega⟩
    refine ⟨S, ?_, h3, fun i hi => h4 i (by omega)⟩
    unfold lX1_takeRules_7
    simp (disch := omega) only [letv, o_b, ↓reduceIte, e_sub, e_add, e_mul, e_ld, e_st, e_lt, e_nlt, e_le, e_nle, e_eq, e_neq, e_div, e_rem, m_lt, m_le, m_eq, m_eq2, m_ng, o_ld, true_and, and_true, Nat.one_ne_zero, Nat.zero_ne_one, Nat.reduceEqDiff, Bool.false_eq_true, not_true_eq_false, not_false_eq_true, li_0, li_1, li_2, li_3, li_4, li_5, li_6, li_7, li_8, li_9, li_10, li_11, li_12, li_13, li_14, li_15, li_16, li_20, li_23, li_25, li_30, li_31, li_32, li_38, li_40, li_41, li_44, li_48, li_50, li_51, li_52, li_57, li_59, li_60, li_61, li_62, li_63, li_66, li_81, li_94, li_97, li_98, li_99, li_100, li_101, li_103, li_104, li_105, li_107, li_108, li_109, li_110, li_111, li_112, li_114, li_115, li_116, li_117, li_118, li_122, li_200, li_572, li_600, li_9999, li_10000, li_12345, li_1103515245]
  | succ m ih =>
    intro x f S h1 h2 h3 h4
    obtain ⟨f, rfl⟩ : ∃ g, f = g + 1 := ⟨f - 1, by omega⟩
    have hx := hok x (by omega)
    obtain ⟨S', e1, e2, e3⟩ := ih (x + 1) f (S := up2 S (c + 9) x (R a x)) (by omega) (by omega) (fun y hy => by rw [w_row hy]; exact h3 y hy) (fun i hi => by
      rw [w_at]
      split
      · rename_i q; rw [q]
      · exact h4 i (by omega))
    refine ⟨S', ?_, e2, e3⟩
    unfold lX1_takeRules_7
    rw [hl, h3 a hac]
    simp (disch := omega) only [letv, e_nle, ↓reduceIte, o_ld, o_b, hx, o_st, li_1, e_add, e1]
theorem c_lay (hn : 1000 ≤ n) {Y Y' : Nat} {s : Nat → Int32} {E : En} {L : Ld} {rn : Nat} {rp : Nat → Nat → Nat} (h : NQ G V R z Y' s E L rn rp) (hY : Y + 14 < Y' ∨ Y' + 14 < Y) (hz : Y + 14 < z + 93 ∧ Y' + 14 < z + 93) (hl : G.2.2.1 (Y' + 9) = 8) : ∃ V' R', pX1_copy n G V R Y Y' = some (V', R') ∧ NQ G V' R' z Y s E L rn rp ∧ (∀ x, (x < Y ∨ Y + 14 < x) → V' x = V x) ∧ (∀ x, x ≠ Y + 9 → R' x = R x) := by
  obtain ⟨iE, iL, hw, ⟨g1, g2, g3, g4, g5⟩, hL, mE, mC, hs, hz', pC, pM, iR⟩ := nw_parts h
  have hrc := iE.2.2.2.2.1
  obtain ⟨V1, c1, c2, c3⟩ := c_copy (b := Y + 1) (a := Y' + 1) hL (by omega)
  obtain ⟨V7, hV7⟩ : ∃ V7, V7 = va_up (va_up (va_up (up2 (up2 (up2 V1 Y 1 (V Y' 1)) Y 2 (V Y' 2)) Y 3 (V Y' 3)) (Y + 6) (va_cpy (V (Y' + 6)) (V1 (Y + 6)) 0 0 16)) (Y + 7) (va_cpy (V (Y' + 7)) (V1 (Y + 7)) 0 0 6)) (Y + 8) (va_cpy (V (Y' + 8)) (V1 (Y + 8)) 0 0 6) := ⟨_, rfl⟩
  have r7 : ∀ x, x ≠ Y → x ≠ Y + 6 → x ≠ Y + 7 → x ≠ Y + 8 → V7 x = V1 x := fun x a1 a2 a3 a4 => by
    rw [hV7, va_up_ne _ _ a4, va_up_ne _ _ a3, va_up_ne _ _ a2, w_row a1, w_row a1, w_row a1]
  have s7 : V7 Y' = V Y' := by rw [r7 _ (by omega) (by omega) (by omega) (by omega), c3 _ (by omega)]
  have okr : ∀ i, i < E_rc E → okQ G (R (Y' + 9) i) 14 = true := fun i hi => by
    obtain ⟨y, hy, hr⟩ := g5 i hi
    rw [hy]
    exact hr.2.1
  obtain ⟨S', t1, t2, t3⟩ := tk_l (c := Y) (R := R) hl hrc (by omega) okr (E_rc E) 0 n (S := R) (by omega) (by omega) (fun _ _ => rfl) (fun i hi => by omega)
  have V8rows : ∀ x, x ≠ Y → up2 V7 Y 8 (nI (E_rc E)) x = V7 x := fun x hx => w_row hx
  have pC8 : RpC (up2 V7 Y 8 (nI (E_rc E))) (Y' + 10) rn rp := pC.fr (by rw [V8rows _ (by omega), r7 _ (by omega) (by omega) (by omega) (by omega), c3 _ (by omega)]) fun x h1 h2 => by rw [V8rows _ (by omega), r7 _ (by omega) (by omega) (by omega) (by omega), c3 _ (by omega)]
  obtain ⟨V9, d1, d2, d3⟩ := c_rep (a := Y' + 10) (c := Y + 10) pC8 iR.1 (by omega)
  have fin : ∀ x, (x < Y + 10 ∨ Y + 10 + 4 < x) → V9 x = up2 V7 Y 8 (nI (E_rc E)) x := fun x hx => d3 x hx
  refine ⟨V9, S', ?_, ⟨iE, iL, hw, ⟨?_, ?_, fun i hi => ?_, fun i hi => ⟨?_, ?_⟩, fun i hi => ?_⟩, ?_, mE, mC, ?_, ?_, d2, pM, iR⟩, fun x hx => ?_, t2⟩
  · unfold pX1_copy pX1_takeRules
    have x1 : V1 Y' = V Y' := c3 _ (by omega)
    have a1 : up2 V1 Y 1 (V Y' 1) Y' = V Y' := by rw [w_row (by omega)]; exact x1
    have a2 : up2 (up2 V1 Y 1 (V Y' 1)) Y 2 (V Y' 2) Y' = V Y' := by rw [w_row (by omega)]; exact a1
    have b6 : up2 (up2 (up2 V1 Y 1 (V Y' 1)) Y 2 (V Y' 2)) Y 3 (V Y' 3) (Y' + 6) = V (Y' + 6) := by rw [w_row (by omega), w_row (by omega), w_row (by omega)]; exact c3 _ (by omega)
    have b6' : up2 (up2 (up2 V1 Y 1 (V Y' 1)) Y 2 (V Y' 2)) Y 3 (V Y' 3) (Y + 6) = V1 (Y + 6) := by rw [w_row (by omega), w_row (by omega), w_row (by omega)]
    simp only [c1, o_b, letv, x1, a1, a2, cpy16, cpy6, b6, b6']
    have b7 : ∀ q, va_up (up2 (up2 (up2 V1 Y 1 (V Y' 1)) Y 2 (V Y' 2)) Y 3 (V Y' 3)) (Y + 6) q (Y' + 7) = V (Y' + 7) := fun q => by rw [va_up_ne _ _ (by omega), w_row (by omega), w_row (by omega), w_row (by omega)]; exact c3 _ (by omega)
    have b7' : ∀ q, va_up (up2 (up2 (up2 V1 Y 1 (V Y' 1)) Y 2 (V Y' 2)) Y 3 (V Y' 3)) (Y + 6) q (Y + 7) = V1 (Y + 7) := fun q => by rw [va_up_ne _ _ (by omega), w_row (by omega), w_row (by omega), w_row (by omega)]
    have b8 : ∀ q q', va_up (va_up (up2 (up2 (up2 V1 Y 1 (V Y' 1)) Y 2 (V Y' 2)) Y 3 (V Y' 3)) (Y + 6) q) (Y + 7) q' (Y' + 8) = V (Y' + 8) := fun q q' => by rw [va_up_ne _ _ (by omega), va_up_ne _ _ (by omega), w_row (by omega), w_row (by omega), w_row (by omega)]; exact c3 _ (by omega)
    have b8' : ∀ q q', va_up (va_up (up2 (up2 (up2 V1 Y 1 (V Y' 1)) Y 2 (V Y' 2)) Y 3 (V Y' 3)) (Y + 6) q) (Y + 7) q' (Y + 8) = V1 (Y + 8) := fun q q' => by rw [va_up_ne _ _ (by omega), va_up_ne _ _ (by omega), w_row (by omega), w_row (by omega), w_row (by omega)]
    simp only [b7, b7', b8, b8', ← hV7, s7, g2]
    have t1' : lX1_takeRules_7 G Y (Y' + 9) (nI (E_rc E)) n R 0 = some S' := t1
    simp only [t1', o_b, d1]
  · rw [fin _ (by omega), w_idx (by omega), hV7, va_up_ne _ _ (by omega), va_up_ne _ _ (by omega), va_up_ne _ _ (by omega), w_idx (by omega), w_idx (by omega), w_same]
    exact g1
  · rw [fin _ (by omega), w_same]
  · rw [fin _ (by omega), w_row (by omega), hV7, va_up_ne _ _ (by omega), va_up_ne _ _ (by omega), va_up_self, cpy_at hi]
    exact g3 i hi
  · rw [fin _ (by omega), w_row (by omega), hV7, va_up_ne _ _ (by omega), va_up_self, cpy_at hi]
    exact (g4 i hi).1
  · rw [fin _ (by omega), w_row (by omega), hV7, va_up_self, cpy_at hi]
    exact (g4 i hi).2
  · obtain ⟨y, hy, hr⟩ := g5 i hi
    refine ⟨y, by rw [t3 i hi]; exact hy, hr.fr fun x hx => ?_⟩
    rw [fin _ (by omega), w_row (by omega), r7 _ (by omega) (by omega) (by omega) (by omega), c3 _ (by omega)]
  · exact c2.fr fun x h1 h2 => by rw [fin _ (by omega), w_row (by omega), r7 _ (by omega) (by omega) (by omega) (by omega)]
  · rw [fin _ (by omega), w_idx (by omega), hV7, va_up_ne _ _ (by omega), va_up_ne _ _ (by omega), va_up_ne _ _ (by omega), w_idx (by omega), w_same]
    exact hs
  · rw [fin _ (by omega), w_idx (by omega), hV7, va_up_ne _ _ (by omega), va_up_ne _ _ (by omega), va_up_ne _ _ (by omega), w_same]
    exact hz'
  · rw [fin _ (by omega), w_row (by omega), r7 _ (by omega) (by omega) (by omega) (by omega), c3 _ (by omega)]
theorem ME.al {s s' : Nat → Int32} {E : En} (h : ME s E) (hs : ∀ i, i < 572 → s' i = s i) (hr : E_rc E ≤ 8) : ME s' E := by
  obtain ⟨h1, h2, h3, h4, h5⟩ := h
  refine ⟨by rw [hs 2 (by omega)]; exact h1, by rw [hs 5 (by omega)]; exact h2, fun i hi => by rw [hs _ (by omega)]; exact h3 i hi, fun i hi => by rw [hs _ (by omega), hs _ (by omega)]; exact h4 i hi, fun i hi => ?_⟩
  obtain ⟨bg, g1, g2, g3, g4, g5, g6⟩ := h5 i hi
  refine ⟨bg, by rw [hs _ (by omega)]; exact g1, by rw [hs _ (by omega)]; exact g2, by rw [hs _ (by omega)]; exact g3, by rw [hs _ (by omega)]; exact g4, g5, fun j hj => ?_⟩
  rw [hs _ (by omega), hs _ (by omega), hs _ (by omega)]
  exact g6 j hj
theorem NQ.al {Y : Nat} {s s' : Nat → Int32} {E : En} {L : Ld} {rn : Nat} {rp : Nat → Nat → Nat} (h : NQ G V R z Y s E L rn rp) (hs : ∀ i, i < 572 → s' i = s i) : NQ G V R z Y s' E L rn rp := by
  obtain ⟨h1, h2, h3, h4, h5, h6, h7, h8, h9, h10, h11, h12⟩ := h
  exact ⟨h1, h2, h3, h4, h5, h6.al hs h1.2.2.2.2.1, h7.fr fun i hi => hs i (by omega), by rw [hs 3 (by omega)]; exact h8, by rw [hs 4 (by omega)]; exact h9, h10, h11.fr h12.1 fun i hi => hs i (by omega), h12⟩
theorem ok_keep' (hn : 1000 ≤ n) (h : RelB z b V R G U) (hI : LI z Gm G) : ∃ o om, pX8_keep n G V R z = some o ∧ pX9_keep n U b = some om ∧ o.1 = om.1 ∧ RelB z b o.2.1 o.2.2 G om.2 := by
  obtain ⟨hW, ⟨E, L, rn, rp, hN⟩, hO⟩ := id h
  obtain ⟨l3, l4, l5, l6, l7, l8, l9, l10, l25, l68⟩ := lg_of hI
  obtain ⟨V', R', a1, a2, a3, a4⟩ := c_lay (Y := z + 16) (Y' := z + 1) hn hN (by omega) (by omega) l10
  obtain ⟨U', b1, b2, b3⟩ := cp_keep (b := b) 572 0 n (U := U) (by omega) (by omega)
  have hk : ∀ i, i < 572 → U' (b + 2) i = U (b + 1) i := fun i hi => by rw [b3 i, if_pos (by omega)]
  obtain ⟨-, tp, rw', sh, sl, tr, st⟩ := hO
  refine pkt (x := nI 1) (V' := up2 V' z 2 (nI 1)) (R' := R') (U' := up2 U' b 2 (nI 1)) ?_ ?_ rfl ⟨hW, ?_, ⟨?_, Or.inr ⟨?_, ?_⟩⟩, ?_⟩
  · unfold pX8_keep
    simp only [a1, o_b, letv, li_1]
  · unfold pX9_keep
    simp only [li_0, b1, o_b, letv, li_1]
  · rw [w_row (by omega), b2 _ (by omega)]
    refine NR.rfr (NR.fr ⟨E, L, rn, rp, hN⟩ (NF.all fun x hx => ?_)) (a4 _ (by omega))
    rw [w_row (by omega), a3 _ (by omega)]
  · rw [w_same, w_same]
  · rw [w_same]
  · rw [w_row (by omega)]
    exact NR.fr ⟨E, L, rn, rp, a2.al hk⟩ (NF.all fun x hx => w_row (by omega))
  · have hv : ∀ x, x ≠ z → (x < z + 16 ∨ z + 30 < x) → up2 V' z 2 (nI 1) x = V x := fun x h1 h2 => by rw [w_row h1, a3 x (by omega)]
    have hv7 : up2 V' z 2 (nI 1) z 7 = V z 7 := by rw [w_idx (by omega), a3 z (by omega)]
    have hu : ∀ y, y ≠ b → y ≠ b + 2 → up2 U' b 2 (nI 1) y = U y := fun y h1 h2 => by rw [w_row h1, b2 y h2]
    have hub : ∀ k, k ≠ 2 → up2 U' b 2 (nI 1) b k = U b k := fun k hk => by rw [w_idx hk, b2 b (by omega)]
    obtain ⟨tz, tpp, t1, t2, t3, t4⟩ := tp
    obtain ⟨rr, r1, r2, r3, r4⟩ := rw'
    obtain ⟨tn, u1, u2, u3, u4⟩ := tr
    refine ⟨⟨tz, tpp, t1, by rw [hv _ (by omega) (by omega)]; exact t2, by rw [hub _ (by omega)]; exact t3, fun i hi => by rw [hv _ (by omega) (by omega), hu _ (by omega) (by omega)]; exact t4 i hi⟩, ⟨rr, r1, by rw [hv7]; exact r2, by rw [hub _ (by omega)]; exact r3, fun i hi => by rw [hv _ (by omega) (by omega), hu _ (by omega) (by omega)]; exact r4 i hi⟩, ⟨fun t ht => ?_, fun t t' y ht ht' e e' => ?_⟩, fun t ht => ?_, ⟨tn, u1, by rw [hv _ (by omega) (by omega)]; exact u2, by rw [hub _ (by omega)]; exact u3, fun i hi => by rw [hv _ (by omega) (by omega), hu _ (by omega) (by omega)]; exact u4 i hi⟩, st.rfr (a4 _ (by omega))⟩
    · rw [a4 _ (by omega), hu _ (by omega) (by omega), hu (b + 12) (by omega) (by omega), hu (b + 13) (by omega) (by omega)]
      rcases sh.1 t ht with p | ⟨y, so, sz, q1, q2, q3, q4, q5⟩
      · exact Or.inl p
      · refine Or.inr ⟨y, so, sz, q1, q2.fr fun x hx => hv x (by omega) (by omega), q3, q4, fun i hi => ?_⟩
        rw [hv _ (by have := q2.1; omega) (by have := q2.1; omega)]
        exact q5 i hi
    · rw [a4 _ (by omega)] at e e'
      exact sh.2 t t' y ht ht' e e'
    · rw [a4 _ (by omega), hv (z + 71) (by omega) (by omega), hu (b + 14) (by omega) (by omega), hu (b + 15) (by omega) (by omega), hu (b + 16) (by omega) (by omega)]
      rcases sl t ht with p | p | ⟨y, so, sz, q1, q2, q3, q4⟩
      · exact Or.inl p
      · exact Or.inr (Or.inl p)
      · exact Or.inr (Or.inr ⟨y, so, sz, q1, q2, q3.fr fun x hx => hv x (by omega) (by omega), q4⟩)
theorem ok_again' (hn : 1000 ≤ n) (h : RelB z b V R G U) (hI : LI z Gm G) : ∃ o om, pX8_again n G V R z = some o ∧ pX9_again n U b = some om ∧ o.1 = om.1 ∧ RelB z b o.2.1 o.2.2 G om.2 := by
  obtain ⟨hW, hN0, hO⟩ := id h
  obtain ⟨l3, l4, l5, l6, l7, l8, l9, l10, l25, l68⟩ := lg_of hI
  obtain ⟨⟨k1, k2⟩, tp, rw', sh, sl, tr, st⟩ := id hO
  unfold pX8_again pX9_again
  rcases k2 with k2 | ⟨k2, E, L, rn, rp, hN⟩
  · refine ⟨(-(nI 3), V, R), (-(nI 3), U), ?_, ?_, rfl, h⟩
    · simp (disch := omega) only [k1, k2, letv, o_b, ↓reduceIte, e_sub, e_add, e_mul, e_ld, e_st, e_lt, e_nlt, e_le, e_nle, e_eq, e_neq, e_div, e_rem, m_lt, m_le, m_eq, m_eq2, m_ng, o_ld, true_and, and_true, Nat.one_ne_zero, Nat.zero_ne_one, Nat.reduceEqDiff, Bool.false_eq_true, not_true_eq_false, not_false_eq_true, li_0, li_1, li_2, li_3, li_4, li_5, li_6, li_7, li_8, li_9, li_10, li_11, li_12, li_13, li_14, li_15, li_16, li_20, li_23, li_25, li_30, li_31, li_32, li_38, li_40, li_41, li_44, li_48, li_50, li_51, li_52, li_57, li_59, li_60, li_61, li_62, li_63, li_66, li_81, li_94, li_97, li_98, li_99, li_100, li_101, li_103, li_104, li_105, li_107, li_108, li_109, li_110, li_111, li_112, li_114, li_115, li_116, li_117, li_118, li_122, li_200, li_572, li_600, li_9999, li_10000, li_12345, li_1103515245]
    · simp (disch := omega) only [k2, letv, o_b, ↓reduceIte, e_sub, e_add, e_mul, e_ld, e_st, e_lt, e_nlt, e_le, e_nle, e_eq, e_neq, e_div, e_rem, m_lt, m_le, m_eq, m_eq2, m_ng, o_ld, true_and, and_true, Nat.one_ne_zero, Nat.zero_ne_one, Nat.reduceEqDiff, Bool.false_eq_true, not_true_eq_false, not_false_eq_true, li_0, li_1, li_2, li_3, li_4, li_5, li_6, li_7, li_8, li_9, li_10, li_11, li_12, li_13, li_14, li_15, li_16, li_20, li_23, li_25, li_30, li_31, li_32, li_38, li_40, li_41, li_44, li_48, li_50, li_51, li_52, li_57, li_59, li_60, li_61, li_62, li_63, li_66, li_81, li_94, li_97, li_98, li_99, li_100, li_101, li_103, li_104, li_105, li_107, li_108, li_109, li_110, li_111, li_112, li_114, li_115, li_116, li_117, li_118, li_122, li_200, li_572, li_600, li_9999, li_10000, li_12345, li_1103515245]
  · obtain ⟨V', R', a1, a2, a3, a4⟩ := c_lay (Y := z + 1) (Y' := z + 16) hn hN (by omega) (by omega) l25
    obtain ⟨U', b1, b2, b3⟩ := cp_again (b := b) 572 0 n (U := U) (by omega) (by omega)
    have hk : ∀ i, i < 572 → U' (b + 1) i = U (b + 2) i := fun i hi => by rw [b3 i, if_pos (by omega)]
    have hN' := a2.al hk
    have f1 : V' (z + 2) 1 = nI (L_c L) := hN'.2.2.2.2.1.2.1
    have f2 := hN'.2.2.2.2.2.2.1.2.1
    have hv : ∀ x, (x < z + 1 ∨ z + 15 < x) → V' x = V x := fun x hx => a3 x (by omega)
    refine pkt (x := nI (L_c L)) (V' := V') (R' := R') (U' := U') ?_ ?_ rfl ⟨hW, ⟨E, L, rn, rp, hN'⟩, ?_⟩
    · simp (disch := omega) only [k1, k2, a1, f1, letv, o_b, ↓reduceIte, e_sub, e_add, e_mul, e_ld, e_st, e_lt, e_nlt, e_le, e_nle, e_eq, e_neq, e_div, e_rem, m_lt, m_le, m_eq, m_eq2, m_ng, o_ld, true_and, and_true, Nat.one_ne_zero, Nat.zero_ne_one, Nat.reduceEqDiff, Bool.false_eq_true, not_true_eq_false, not_false_eq_true, li_0, li_1, li_2, li_3, li_4, li_5, li_6, li_7, li_8, li_9, li_10, li_11, li_12, li_13, li_14, li_15, li_16, li_20, li_23, li_25, li_30, li_31, li_32, li_38, li_40, li_41, li_44, li_48, li_50, li_51, li_52, li_57, li_59, li_60, li_61, li_62, li_63, li_66, li_81, li_94, li_97, li_98, li_99, li_100, li_101, li_103, li_104, li_105, li_107, li_108, li_109, li_110, li_111, li_112, li_114, li_115, li_116, li_117, li_118, li_122, li_200, li_572, li_600, li_9999, li_10000, li_12345, li_1103515245]
    · simp (disch := omega) only [k2, b1, f2, letv, o_b, ↓reduceIte, e_sub, e_add, e_mul, e_ld, e_st, e_lt, e_nlt, e_le, e_nle, e_eq, e_neq, e_div, e_rem, m_lt, m_le, m_eq, m_eq2, m_ng, o_ld, true_and, and_true, Nat.one_ne_zero, Nat.zero_ne_one, Nat.reduceEqDiff, Bool.false_eq_true, not_true_eq_false, not_false_eq_true, li_0, li_1, li_2, li_3, li_4, li_5, li_6, li_7, li_8, li_9, li_10, li_11, li_12, li_13, li_14, li_15, li_16, li_20, li_23, li_25, li_30, li_31, li_32, li_38, li_40, li_41, li_44, li_48, li_50, li_51, li_52, li_57, li_59, li_60, li_61, li_62, li_63, li_66, li_81, li_94, li_97, li_98, li_99, li_100, li_101, li_103, li_104, li_105, li_107, li_108, li_109, li_110, li_111, li_112, li_114, li_115, li_116, li_117, li_118, li_122, li_200, li_572, li_600, li_9999, li_10000, li_12345, li_1103515245]
    · have ho : OT z b G V' R U' := hO.fr (OV.all fun x hx => hv x (by omega)) (OU.all fun y h1 _ => b2 y h1)
      obtain ⟨o1, o2, o3, o4, o5, o6, o7⟩ := ho
      refine ⟨o1.rfr (a4 _ (by omega)), o2, o3, ⟨fun t ht => by rw [a4 _ (by omega)]; exact o4.1 t ht, fun t t' y ht ht' e e' => by rw [a4 _ (by omega)] at e e'; exact o4.2 t t' y ht ht' e e'⟩, o5.rfr (a4 _ (by omega)), o6, o7.rfr (a4 _ (by omega))⟩
end K1
