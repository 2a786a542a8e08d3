/-! rules are answered alike -/
section Y2
variable {n z b : Nat} {V : V2} {R : R2} {G Gm : G2} {U : V2}
theorem cp_save : ∀ m x f {U : V2}, x + m = 572 → m < f → ∃ U', lX9_rules_2 b f U (nI x) = some U' ∧ (∀ y, y ≠ b + 5 → U' y = U y) ∧ ∀ i, U' (b + 5) i = if x ≤ i ∧ i < 572 then U (b + 1) (i) else U (b + 5) i := by
  intro m
  induction m with
  | zero =>
    intro x f U h1 h2
    obtain ⟨f, rfl⟩ : ∃ g, f = g + 1 := ⟨f - 1, by omega⟩
    refine ⟨U, ?_, fun _ _ => rfl, fun i => by rw [if_neg (by omega)]⟩
    unfold lX9_rules_2
    simp (disch := omega) only [letv, o_b, ↓reduceIte, e_sub, e_add, e_mul, e_ld, e_st, e_lt, e_nlt, e_le, e_nle, e_eq, e_neq, e_div, e_rem, m_lt, m_le, m_eq, m_eq2, m_ng, o_ld, true_and, and_true, Nat.one_ne_zero, Nat.zero_ne_one, Nat.reduceEqDiff, Bool.false_eq_true, not_true_eq_false, not_false_eq_true, li_0, li_1, li_2, li_3, li_4, li_5, li_6, li_7, li_8, li_9, li_10, li_11, li_12, li_13, li_14, li_15, li_16, li_20, li_23, li_25, li_30, li_31, li_32, li_38, li_40, li_41, li_44, li_48, li_50, li_51, li_52, li_57, li_59, li_60, li_61, li_62, li_63, li_66, li_81, li_94, li_97, li_98, li_99, li_100, li_101, li_103, li_104, li_105, li_107, li_108, li_109, li_110, li_111, li_112, li_114, li_115, li_116, li_117, li_118, li_122, li_200, li_572, li_600, li_9999, li_10000, li_12345, li_1103515245]
  | succ m ih =>
    intro x f U h1 h2
    obtain ⟨f, rfl⟩ : ∃ g, f = g + 1 := ⟨f - 1, by omega⟩
    obtain ⟨U', e1, e2, e3⟩ := ih (x + 1) f (U := up2 U (b + 5) (x) (U (b + 1) (x))) (by omega) (by omega)
    refine ⟨U', ?_, fun y hy => by rw [e2 y hy, w_row hy], fun i => ?_⟩
    · unfold lX9_rules_2
      simp (disch := omega) only [e1, letv, o_b, ↓reduceIte, e_sub, e_add, e_mul, e_ld, e_st, e_lt, e_nlt, e_le, e_nle, e_eq, e_neq, e_div, e_rem, m_lt, m_le, m_eq, m_eq2, m_ng, o_ld, true_and, and_true, Nat.one_ne_zero, Nat.zero_ne_one, Nat.reduceEqDiff, Bool.false_eq_true, not_true_eq_false, not_false_eq_true, li_0, li_1, li_2, li_3, li_4, li_5, li_6, li_7, li_8, li_9, li_10, li_11, li_12, li_13, li_14, li_15, li_16, li_20, li_23, li_25, li_30, li_31, li_32, li_38, li_40, li_41, li_44, li_48, li_50, li_51, li_52, li_57, li_59, li_60, li_61, li_62, li_63, li_66, li_81, li_94, li_97, li_98, li_99, li_100, li_101, li_103, li_104, li_105, li_107, li_108, li_109, li_110, li_111, li_112, li_114, li_115, li_116, li_117, li_118, li_122, li_200, li_572, li_600, li_9999, li_10000, li_12345, li_1103515245]
    · rw [e3 i]
      by_cases q : x ≤ i ∧ i < 572
      · rw [if_pos q]
        by_cases q2 : i = x
        · subst q2
          rw [if_neg (by omega)]
          exact w_same.trans (by first | rfl | (congr 1; omega))
        · rw [if_pos (by omega), w_row (by omega)]
      · rw [if_neg q, if_neg (by omega), w_idx (by omega)]
theorem cp_undo : ∀ m x f {U : V2}, x + m = 572 → m < f → U b 10 = nI 1 → ∃ U', lX9_rules_84 b f U (nI x) = some U' ∧ (∀ y, y ≠ b + 1 → U' y = U y) ∧ ∀ i, U' (b + 1) i = if x ≤ i ∧ i < 572 then U (b + 5) (i) else U (b + 1) i := by
  intro m
  induction m with
  | zero =>
    intro x f U h1 h2 h3
    obtain ⟨f, rfl⟩ : ∃ g, f = g + 1 := ⟨f - 1, by omega⟩
    refine ⟨U, ?_, fun _ _ => rfl, fun i => by rw [if_neg (by omega)]⟩
    unfold lX9_rules_84
    simp (disch := omega) only [letv, o_b, ↓reduceIte, e_sub, e_add, e_mul, e_ld, e_st, e_lt, e_nlt, e_le, e_nle, e_eq, e_neq, e_div, e_rem, m_lt, m_le, m_eq, m_eq2, m_ng, o_ld, true_and, and_true, Nat.one_ne_zero, Nat.zero_ne_one, Nat.reduceEqDiff, Bool.false_eq_true, not_true_eq_false, not_false_eq_true, li_0, li_1, li_2, li_3, li_4, li_5, li_6, li_7, li_8, li_9, li_10, li_11, li_12, li_13, li_14, li_15, li_16, li_20, li_23, li_25, li_30, li_31, li_32, li_38, li_40, li_41, li_44, li_48, li_50, li_51, li_52, li_57, li_59, li_60, li_61, li_62, li_63, li_66, li_81, li_94, li_97, li_98, li_99, li_100, li_101, li_103, li_104, li_105, li_107, li_108, li_109, li_110, li_111, li_112, li_114, li_115, li_116, li_117, li_118, li_122, li_200, li_572, li_600, li_9999, li_10000, li_12345, li_1103515245]
  | succ m ih =>
    intro x f U h1 h2 h3
    obtain ⟨f, rfl⟩ : ∃ g, f = g + 1 := ⟨f - 1, by omega⟩
    obtain ⟨U', e1, e2, e3⟩ := ih (x + 1) f (U := up2 U (b + 1) (x) (U (b + 5) (x))) (by omega) (by omega) (by rw [w_row (by omega)]; exact h3)
    refine ⟨U', ?_, fun y hy => by rw [e2 y hy, w_row hy], fun i => ?_⟩
    · unfold lX9_rules_84
      simp (disch := omega) only [h3, e1, letv, o_b, ↓reduceIte, e_sub, e_add, e_mul, e_ld, e_st, e_lt, e_nlt, e_le, e_nle, e_eq, e_neq, e_div, e_rem, m_lt, m_le, m_eq, m_eq2, m_ng, o_ld, true_and, and_true, Nat.one_ne_zero, Nat.zero_ne_one, Nat.reduceEqDiff, Bool.false_eq_true, not_true_eq_false, not_false_eq_true, li_0, li_1, li_2, li_3, li_4, li_5, li_6, li_7, li_8, li_9, li_10, li_11, li_12, li_13, li_14, li_15, li_16, li_20, li_23, li_25, li_30, li_31, li_32, li_38, li_40, li_41, li_44, li_48, li_50, li_51, li_52, li_57, li_59, li_60, li_61, li_62, li_63, li_66, li_81, li_94, li_97, li_98, li_99, li_100, li_101, li_103, li_104, li_105, li_107, li_108, li_109, li_110, li_111, li_112, li_114, li_115, li_116, li_117, li_118, li_122, li_200, li_572, li_600, li_9999, li_10000, li_12345, li_1103515245]
    · rw [e3 i]
      by_cases q : x ≤ i ∧ i < 572
      · rw [if_pos q]
        by_cases q2 : i = x
        · subst q2
          rw [if_neg (by omega)]
          exact w_same.trans (by first | rfl | (congr 1; omega))
        · rw [if_pos (by omega), w_row (by omega)]
      · rw [if_neg q, if_neg (by omega), w_idx (by omega)]
theorem cp_none {f : Nat} (h3 : U b 10 = nI 0) : lX9_rules_84 b (f + 1) U 0 = some U := by
  unfold lX9_rules_84
  rw [if_neg (show ¬ (572 : Int32) ≤ 0 by decide), if_pos (show U b 10 = 0 from h3)]
theorem rules_ot {Vf : V2} {Rf : R2} {Uf : V2} (h : OT z b G V R U) (v : ∀ x, x ≠ z + 65 → x ≠ z + 67 → x ≠ z + 1 → Vf x = V x) (v1 : Vf (z + 65) 1 = nI 0) (rr : ∀ x, x ≠ z + 68 → x ≠ z + 10 → Rf x = R x) (u : ∀ y, y ≠ b → y ≠ b + 1 → y ≠ b + 5 → Uf y = U y) (ub : ∀ k, (k = 2 ∨ k = 27 ∨ k = 35) → Uf b k = U b k) (u5 : Uf b 5 = nI 0) : OT z b G Vf Rf Uf := by
  obtain ⟨⟨kp1, kp2⟩, -, ⟨rn, r1, r2, r3, r4⟩, sh, sls, ⟨tn, u1, u2, u3, u4⟩, st⟩ := h
  refine ⟨⟨?_, ?_⟩, ⟨0, fun _ => 0, by omega, v1, u5, fun i hi => by omega⟩, ⟨rn, r1, by rw [v _ (by omega) (by omega) (by omega)]; exact r2, by rw [ub _ (by omega)]; exact r3, fun i hi => by rw [v _ (by omega) (by omega) (by omega), u _ (by omega) (by omega) (by omega)]; exact r4 i hi⟩, ⟨fun t ht => ?_, fun t t' y ht ht' e e' => ?_⟩, fun t ht => ?_, ⟨tn, u1, by rw [v _ (by omega) (by omega) (by omega)]; exact u2, by rw [ub _ (by omega)]; exact u3, fun i hi => by rw [v _ (by omega) (by omega) (by omega), u _ (by omega) (by omega) (by omega)]; exact u4 i hi⟩, st.rfr (rr _ (by omega) (by omega))⟩
  · rw [v _ (by omega) (by omega) (by omega), ub _ (by omega)]; exact kp1
  · rw [ub _ (by omega), u (b + 2) (by omega) (by omega) (by omega)]
    exact kp2.imp id fun q => ⟨q.1, (q.2.fr (NF.all fun x hx => v x (by omega) (by omega) (by omega))).rfr (rr _ (by omega) (by omega))⟩
  · rw [rr _ (by omega) (by omega), u (b + 11) (by omega) (by omega) (by omega), u (b + 12) (by omega) (by omega) (by omega), u (b + 13) (by omega) (by omega) (by omega)]
    rcases sh.1 t ht with p | ⟨y, so, sz, q1, q2, q3, q4, q5⟩
    · exact Or.inl p
    · refine Or.inr ⟨y, so, sz, q1, q2.fr fun x hx => v x (by omega) (by omega) (by omega), q3, q4, fun i hi => ?_⟩
      rw [v _ (by have := q2.1; omega) (by have := q2.1; omega) (by have := q2.1; omega)]
      exact q5 i hi
  · rw [rr _ (by omega) (by omega)] at e e'
    exact sh.2 t t' y ht ht' e e'
  · rw [rr _ (by omega) (by omega), v (z + 71) (by omega) (by omega) (by omega), u (b + 14) (by omega) (by omega) (by omega), u (b + 15) (by omega) (by omega) (by omega), u (b + 16) (by omega) (by omega) (by omega)]
    rcases sls t ht with p | p | ⟨y, so, sz, q1, q2, q3, q4⟩
    · exact Or.inl p
    · exact Or.inr (Or.inl p)
    · exact Or.inr (Or.inr ⟨y, so, sz, q1, q2, q3.fr fun x hx => v x (by omega) (by omega) (by omega), q4⟩)
theorem ok_rules' (hn : 1000 ≤ n) (h : RelB z b V R G U) (hI : LI z Gm G) : ∃ o om, pX8_rules n G V R z = some o ∧ pX9_rules n U b = some om ∧ o.1 = om.1 ∧ RelB z b o.2.1 o.2.2.1 o.2.2.2 om.2 := by
  obtain ⟨hW, hN, hO⟩ := id h
  obtain ⟨-, ⟨tz, tp, t1, t2, t3, t4⟩, -⟩ := id hO
  have hX := hI.1
  have hB : TB tz tp := ⟨t1, fun i hi => (t4 i hi).1⟩
  -- the class begins
  have aC : TaC (z + 65) tz tp (up2 (up2 V (z + 65) 9 (nI 0)) (z + 65) 3 (nI 0)) := ((show TaC (z + 65) tz tp V from ⟨t2, fun i hi => (t4 i hi).2.1⟩).up (by omega)).up (by omega)
  obtain ⟨Vg, g1, g2, g3, g4⟩ := c_goOn hn hB aC (Nat.zero_le tz) w_same
  have eb : pX5_begin n V (z + 65) = some Vg := by
    unfold pX5_begin
    have g1' : pX5_goOn n (up2 (up2 V (z + 65) 9 0) (z + 65) 3 0) (z + 65) = some Vg := g1
    simp only [letv, g1', o_b]
  have Vg9 : Vg (z + 65) 9 = nI 0 := by rw [g4 9 (by omega), w_idx (by omega), w_same]
  have Vgo : ∀ x, x ≠ z + 65 → Vg x = V x := fun x hx => by rw [g3 x hx, w_row hx, w_row hx]
  have Vg1 : Vg (z + 65) 1 = V (z + 65) 1 := by rw [g4 1 (by omega), w_idx (by omega), w_idx (by omega)]
  have Vg0 : ∀ k, k < 2 → Vg (z + 65) k = V (z + 65) k := fun k hk => by rw [g4 k (by omega), w_idx (by omega), w_idx (by omega)]
  -- the reference begins
  obtain ⟨Ua, s1, s2, s3⟩ := cp_save (b := b) 572 0 n (U := U) (by omega) (by omega)
  have tU : TaM b tz tp U := ⟨t3, fun i hi => (t4 i hi).2.2⟩
  obtain ⟨Ub, hUb⟩ : ∃ Ub, Ub = up2 (up2 (up2 (up2 Ua (b + 1) 5 (nI 0)) (b + 1) 7 (nI 0)) b 8 (nI 0)) b 10 (nI 0) := ⟨_, rfl⟩
  have Ubo : ∀ y, y ≠ b → y ≠ b + 1 → y ≠ b + 5 → Ub y = U y := fun y a c e => by rw [hUb, w_row a, w_row a, w_row c, w_row c, s2 y e]
  have Ubk : ∀ k, k ≠ 8 → k ≠ 10 → Ub b k = U b k := fun k a c => by rw [hUb, w_idx c, w_idx a, w_row (by omega), w_row (by omega), s2 b (by omega)]
  have Ub1 : ∀ i, i ≠ 5 → i ≠ 7 → Ub (b + 1) i = U (b + 1) i := fun i a c => by rw [hUb, w_row (by omega), w_row (by omega), w_idx c, w_idx a, s2 _ (by omega)]
  have Ub5 : Ub (b + 1) 5 = nI 0 := by rw [hUb, w_row (by omega), w_row (by omega), w_idx (by omega), w_same]
  have Ub7 : Ub (b + 1) 7 = nI 0 := by rw [hUb, w_row (by omega), w_row (by omega), w_same]
  have Ubs : ∀ i, i < 572 → Ub (b + 5) i = U (b + 1) i := fun i hi => by rw [hUb, w_row (by omega), w_row (by omega), w_row (by omega), w_row (by omega), s3 i, if_pos ⟨Nat.zero_le _, hi⟩]
  have Ub8 : Ub b 8 = nI 0 := by rw [hUb, w_idx (by omega), w_same]
  have Ub10 : Ub b 10 = nI 0 := by rw [hUb, w_same]
  have aM : TaM b tz tp Ub := ⟨by rw [Ubk 5 (by omega) (by omega)]; exact t3, fun i hi => by rw [Ubo _ (by omega) (by omega) (by omega)]; exact tU.2 i hi⟩
  obtain ⟨Ug, m1, m2, m3, m4⟩ := m_next hn hB aM (Nat.zero_le tz) Ub8
  have hHd : Hd (z + 65) b tz tp Vg Ug 0 0 := by
    refine ⟨⟨by rw [Vg1]; exact t2, fun i hi => by rw [Vgo _ (by omega)]; exact (t4 i hi).2.1⟩, ⟨by rw [m4 5 (by omega)]; exact aM.1, fun i hi => by rw [m3 _ (by omega)]; exact aM.2 i hi⟩, g2, m2, by rw [m4 10 (by omega)]; exact Ub10, Nat.zero_le _, Nat.le_refl _, by rw [m3 _ (by omega)]; exact Ub7⟩
  have hMk : Mk (z + 65) b z G Vg R Ug 0 0 (fun _ => 0) (fun _ => 0) (fun _ => 0) (fun _ _ => (0, 0, 0)) := ⟨Vg9, by rw [m3 _ (by omega)]; exact Ub5, fun j hj => by omega⟩
  obtain ⟨V', R', G', U', s, y1, y2, y3, y4, y5, y6⟩ := rules_l (z := z) hn hB tz 0 Vg Ug R G 0 0 _ _ _ _ 10 n (by omega) (by omega) (by omega) (by omega) hW.1 hX hW.2 hMk hHd
  have hW2 := hW.2
  have hv : ∀ x, x < G.2.2.2 → x ≠ z + 65 → x ≠ z + 67 → V' x = V x := fun x a c e => (y3.1 x a c e).trans (Vgo x c)
  have hv1 : ∀ k, k < 2 → V' (z + 65) k = V (z + 65) k := fun k hk => (y3.2.1 k hk).trans (Vg0 k hk)
  have hr : ∀ x, x < G.2.2.2 → x ≠ z + 68 → R' x = R x := fun x a c => y3.2.2 x a c
  have hu : ∀ y, y ≠ b → y ≠ b + 1 → y ≠ b + 5 → U' y = U y := fun y a c e => by rw [y4.1 y a c, m3 y a, Ubo y a c e]
  have hub : ∀ k, (k < 6 ∨ 11 < k) → U' b k = U b k := fun k hk => by rw [y4.2.1 k hk, m4 k (by omega), Ubk k (by omega) (by omega)]
  have hu1 : ∀ i, i ≠ 5 → i ≠ 7 → (i < 66 ∨ 98 ≤ i ∧ i < 122) → U' (b + 1) i = U (b + 1) i := fun i a c e => by rw [y4.2.2 i a c e, m3 _ (by omega), Ub1 i a c]
  have hu5 : ∀ i, i < 572 → U' (b + 5) i = U (b + 1) i := fun i hi => by rw [y4.1 (b + 5) (by omega) (by omega), m3 _ (by omega), Ubs i hi]
  -- all that stood, where more is made
  obtain ⟨Vx, hVx⟩ : ∃ Vx : V2, Vx = va_up (va_up V' (z + 65) (V (z + 65))) (z + 67) (V (z + 67)) := ⟨_, rfl⟩
  obtain ⟨Rx, hRx⟩ : ∃ Rx : R2, Rx = va_up R' (z + 68) (R (z + 68)) := ⟨_, rfl⟩
  have vx : ∀ x, x < G.2.2.2 → Vx x = V x := fun x hx => by
    rw [hVx]
    by_cases q : x = z + 67
    · rw [q, va_up_self]
    · rw [va_up_ne _ _ q]
      by_cases q2 : x = z + 65
      · rw [q2, va_up_self]
      · rw [va_up_ne _ _ q2]; exact hv x hx q2 q
  have rx : ∀ x, x < G.2.2.2 → Rx x = R x := fun x hx => by
    rw [hRx]
    by_cases q : x = z + 68
    · rw [q, va_up_self]
    · rw [va_up_ne _ _ q]; exact hr x hx q
  have vx' : ∀ x, x ≠ z + 65 → x ≠ z + 67 → V' x = Vx x := fun x a c => by rw [hVx, va_up_ne _ _ c, va_up_ne _ _ a]
  have rx' : ∀ x, x ≠ z + 68 → R' x = Rx x := fun x a => by rw [hRx, va_up_ne _ _ a]
  have hOx : OT z b G' Vx Rx U := hO.ext hX hW y5.2.2.2.2.1 y5.2.2.2.2.2 vx rx
  have hNx : NR G' Vx Rx z (z + 1) (U (b + 1)) := hN.ext hX hW.1 y5.2.2.2.2.1 y5.2.2.2.2.2 vx rx (by omega)
  have y1' : lX8_rules_11 n z 10 Vg R G 1 0 = some (V', R', G', nI s) := y1
  have cls : pX8_rules n G V R z = (if nI s = 0 then some ((-100) - V' (z + 65) 2, up2 V' (z + 65) 1 0, R', G') else ((pX1_takeRules n G' (up2 V' (z + 65) 1 0) R' (z + 1) (z + 65 + 3) (V' (z + 65) 9)).bind fun q4 => some (q4.1 (z + 1) 8, q4.1, q4.2, G'))) := by
    unfold pX8_rules pX5_useUp pX5_place
    have w2 : up2 V' (z + 65) 1 (0 : Int32) (z + 65) 2 = V' (z + 65) 2 := w_idx (by omega)
    have w9 : up2 V' (z + 65) 1 (0 : Int32) (z + 65) 9 = V' (z + 65) 9 := w_idx (by omega)
    rw [eb, o_b, y1', o_b]
    simp only [letv, o_b, w2, w9]
  have ref : pX9_rules n U b = ((lX9_rules_84 b n (up2 U' b 5 0) 0).bind fun w24 => if (w24 b 10) = 0 then ((ldI 572 (w24 (b + 1)) 5).bind fun t25 => some (t25, w24)) else (some ((-100) - (w24 b 7), w24))) := by
    unfold pX9_rules
    have s1' : lX9_rules_2 b n U 0 = some Ua := s1
    have p5 : stI 572 Ua (b + 1) 5 0 = some (up2 Ua (b + 1) 5 (nI 0)) := e_st (k := 5) (by omega) (by omega)
    have p7 : stI 572 (up2 Ua (b + 1) 5 (nI 0)) (b + 1) 7 0 = some (up2 (up2 Ua (b + 1) 5 (nI 0)) (b + 1) 7 (nI 0)) := e_st (k := 7) (by omega) (by omega)
    have pb : up2 (up2 (up2 (up2 Ua (b + 1) 5 (nI 0)) (b + 1) 7 (nI 0)) b 8 0) b 10 0 = Ub := hUb.symm
    simp only [letv, s1', o_b, p5, p7, pb, m1, y2]
  rw [cls, ref]
  rcases y6 with ⟨e, h10, i', bg', rk', rw', rm', rs', k1, k2, k3, k4, k5⟩ | ⟨e, hf⟩
  · subst e
    rw [if_neg (show ¬ nI 1 = (0 : Int32) by decide), k3]
    obtain ⟨f, hfn⟩ : ∃ g, n = g + 1 := ⟨n - 1, by omega⟩
    have c10 : up2 U' b 5 (0 : Int32) b 10 = nI 0 := by rw [w_idx (by omega)]; exact h10
    have cn : lX9_rules_84 b n (up2 U' b 5 0) 0 = some (up2 U' b 5 0) := by rw [hfn]; exact cp_none c10
    have c5 : ldI 572 (up2 U' b 5 (0 : Int32) (b + 1)) 5 = some (nI i') := by
      have : ldI 572 (up2 U' b 5 (0 : Int32) (b + 1)) 5 = some (up2 U' b 5 (0 : Int32) (b + 1) 5) := e_ld (k := 5) (by omega) (by omega)
      rw [this, w_row (by omega), k4]
    rw [cn, o_b, if_pos (show up2 U' b 5 (0 : Int32) b 10 = 0 from c10), c5, o_b]
    have hI' : LI z ([], (fun _ => 0), (fun _ => 0), 0) G' := ⟨y5.2.1, y5.2.2.2.2.1 _ _ hI.2.1, fun x hx => absurd hx (List.not_mem_nil)⟩
    obtain ⟨l3, l4, l5, l6, l7, l8, l9, l10, l25, l68⟩ := lg_of hI'
    have okr : ∀ i, i < i' → okQ G' (R' (z + 68) i) 14 = true := fun i hi => by
      obtain ⟨-, ⟨y, hy, hrr⟩, -⟩ := k5 i hi
      have hy : R' (z + 68) i = some y := hy
      rw [hy]
      exact hrr.2.1
    obtain ⟨S', q1, q2, q3⟩ := tk_l (c := z + 1) (R := R') l68 k1 (by omega) okr i' 0 n (S := R') (by omega) (by omega) (fun _ _ => rfl) (fun i hi => by omega)
    have etk : pX1_takeRules n G' (up2 V' (z + 65) 1 0) R' (z + 1) (z + 65 + 3) (nI i') = some (up2 (up2 V' (z + 65) 1 0) (z + 1) 8 (nI i'), S') := by
      unfold pX1_takeRules
      have q1' : lX1_takeRules_7 G' (z + 1) (z + 65 + 3) (nI i') n R' 0 = some S' := q1
      simp only [letv, q1', o_b]
    rw [etk, o_b]
    have vf : ∀ x, x ≠ z + 65 → x ≠ z + 67 → x ≠ z + 1 → up2 (up2 V' (z + 65) 1 0) (z + 1) 8 (nI i') x = Vx x := fun x a c e => by rw [w_row e, w_row a]; exact vx' x a c
    have vfz : ∀ k, k ≠ 8 → up2 (up2 V' (z + 65) 1 0) (z + 1) 8 (nI i') (z + 1) k = Vx (z + 1) k := fun k hk => by rw [w_idx hk, w_row (by omega), vx' _ (by omega) (by omega)]
    have rf : ∀ x, x ≠ z + 68 → x ≠ z + 10 → S' x = Rx x := fun x a c => by rw [q2 x (by omega)]; exact rx' x a
    have uf : ∀ y, y ≠ b → y ≠ b + 1 → y ≠ b + 5 → up2 U' b 5 (0 : Int32) y = U y := fun y a c e => by rw [w_row a]; exact hu y a c e
    obtain ⟨E, L, rn, rp, iE, iL, hw, ⟨e1, e2, e3, e4, e5⟩, hL, mE, mC, hs, hzz, pC, pM, iR⟩ := hNx
    refine ⟨_, _, rfl, rfl, ?_, ⟨y5.1, y5.2.2.1⟩, ⟨(E_en E, E_ir E, E_wt E, E_rp E, i', rk', rw', rm', rs'), L, rn, rp, ⟨iE.1, iE.2.1, iE.2.2.1, iE.2.2.2.1, k1, fun i hi => (k5 i hi).1⟩, iL, hw, ⟨?_, w_same, fun i hi => ?_, fun i hi => ?_, fun i hi => ?_⟩, hL.fr (fun x a c => vf x (by omega) (by omega) (by omega)), ⟨?_, ?_, fun i hi => ?_, fun i hi => ?_, fun i hi => ?_⟩, mC.fr fun i hi => ?_, ?_, ?_, pC.fr (congrFun (vf (z + 1 + 10) (by omega) (by omega) (by omega)) 0) (fun x a c => vf x (by omega) (by omega) (by omega)), pM.fr iR.1 fun i hi => ?_, iR⟩, rules_ot hOx vf ?_ rf uf (fun k hk => ?_) w_same⟩
    · dsimp only; rw [w_same]
    · show up2 (up2 V' (z + 65) 1 0) (z + 1) 8 (nI i') (z + 1) 1 = _
      rw [vfz 1 (by omega)]; exact e1
    · show up2 (up2 V' (z + 65) 1 0) (z + 1) 8 (nI i') (z + 1 + 6) i = _
      rw [vf _ (by omega) (by omega) (by omega)]; exact e3 i hi
    · show up2 (up2 V' (z + 65) 1 0) (z + 1) 8 (nI i') (z + 1 + 7) i = _ ∧ up2 (up2 V' (z + 65) 1 0) (z + 1) 8 (nI i') (z + 1 + 8) i = _
      rw [vf _ (by omega) (by omega) (by omega), vf _ (by omega) (by omega) (by omega)]; exact e4 i hi
    · obtain ⟨-, ⟨y, hy, hrr⟩, -⟩ := k5 i hi
      refine ⟨y, (q3 i hi).trans hy, hrr.fr fun x hx => ?_⟩
      show up2 (up2 V' (z + 65) 1 0) (z + 1) 8 (nI i') x = _
      rw [w_row (by omega), w_row (by omega)]
    · show up2 U' b 5 (0 : Int32) (b + 1) 2 = _
      rw [w_row (by omega), hu1 2 (by omega) (by omega) (by omega)]; exact mE.1
    · show up2 U' b 5 (0 : Int32) (b + 1) 5 = _
      rw [w_row (by omega)]; exact k4
    · show up2 U' b 5 (0 : Int32) (b + 1) (50 + i) = _
      rw [w_row (by omega), hu1 _ (by omega) (by omega) (by omega)]; exact mE.2.2.1 i hi
    · show up2 U' b 5 (0 : Int32) (b + 1) (38 + i) = _ ∧ up2 U' b 5 (0 : Int32) (b + 1) (44 + i) = _
      rw [w_row (by omega), hu1 _ (by omega) (by omega) (by omega), hu1 _ (by omega) (by omega) (by omega)]; exact mE.2.2.2.1 i hi
    · obtain ⟨-, -, b0, j1, j2, j3, j4, j5, j6⟩ := k5 i hi
      show RuM (up2 U' b 5 (0 : Int32) (b + 1)) i (rk' i) (rw' i) (rm' i) (rs' i)
      rw [w_row (by omega)]
      exact ⟨b0, j2, j3, j4, j5, by omega, j6⟩
    · show up2 U' b 5 (0 : Int32) (b + 1) i = _
      rw [w_row (by omega), hu1 _ (by omega) (by omega) (by omega)]
    · show up2 (up2 V' (z + 65) 1 0) (z + 1) 8 (nI i') (z + 1) 2 = up2 U' b 5 (0 : Int32) (b + 1) 3
      rw [vfz 2 (by omega), w_row (by omega), hu1 3 (by omega) (by omega) (by omega)]; exact hs
    · show up2 (up2 V' (z + 65) 1 0) (z + 1) 8 (nI i') (z + 1) 3 = up2 U' b 5 (0 : Int32) (b + 1) 4
      rw [vfz 3 (by omega), w_row (by omega), hu1 4 (by omega) (by omega) (by omega)]; exact hzz
    · show up2 U' b 5 (0 : Int32) (b + 1) i = _
      rw [w_row (by omega), hu1 _ (by omega) (by omega) (by omega)]
    · show up2 (up2 V' (z + 65) 1 0) (z + 1) 8 (nI i') (z + 65) 1 = _
      rw [w_row (by omega), w_same]; rfl
    · show up2 U' b 5 (0 : Int32) b k = _
      rw [w_idx (by omega)]; exact hub k (by omega)
  · subst e
    obtain ⟨f10, q, hq, f2, fT⟩ := hf
    have c10 : up2 U' b 5 (0 : Int32) b 10 = nI 1 := by rw [w_idx (by omega)]; exact f10
    obtain ⟨Uf, b1, b2, b3⟩ := cp_undo (b := b) 572 0 n (U := up2 U' b 5 0) (by omega) (by omega) c10
    have b1' : lX9_rules_84 b n (up2 U' b 5 0) 0 = some Uf := b1
    have d10 : Uf b 10 = nI 1 := by rw [b2 b (by omega)]; exact c10
    have d7 : Uf b 7 = nI (tfA tz tp q) := by rw [b2 b (by omega), w_idx (by omega)]; exact fT.1
    have ds : ∀ i, i < 572 → Uf (b + 1) i = U (b + 1) i := fun i hi => by rw [b3 i, if_pos ⟨Nat.zero_le _, hi⟩, w_row (by omega)]; exact hu5 i hi
    rw [if_pos (show nI 0 = (0 : Int32) from rfl), b1', o_b, if_neg (show ¬ Uf b 10 = (0 : Int32) by rw [d10]; decide), f2, d7]
    have vf : ∀ x, x ≠ z + 65 → x ≠ z + 67 → x ≠ z + 1 → up2 V' (z + 65) 1 0 x = Vx x := fun x a c e => by rw [w_row a]; exact vx' x a c
    have vf1 : up2 V' (z + 65) 1 0 (z + 1) = Vx (z + 1) := by rw [w_row (by omega)]; exact vx' _ (by omega) (by omega)
    refine ⟨_, _, rfl, rfl, rfl, ⟨y5.1, y5.2.2.1⟩, ?_, rules_ot hOx vf w_same (fun x a c => rx' x a) (fun y a c e => ?_) (fun k hk => ?_) ?_⟩
    · have := (hNx.fr (V' := up2 V' (z + 65) 1 0) (NF.all fun x hx => by
        by_cases q : x = z + 1
        · rw [q]; exact vf1
        · exact vf x (by omega) (by omega) q)).rfr (R' := R') (rx' _ (by omega))
      obtain ⟨E, L, rn, rp, hq⟩ := this
      exact ⟨E, L, rn, rp, hq.al ds⟩
    · show Uf y = U y
      rw [b2 y c, w_row a]; exact hu y a c e
    · show Uf b k = U b k
      rw [b2 b (by omega), w_idx (by omega)]; exact hub k (by omega)
    · show Uf b 5 = nI 0
      rw [b2 b (by omega), w_same]; rfl
end Y2
