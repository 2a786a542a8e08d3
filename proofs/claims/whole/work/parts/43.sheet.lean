/-! sheets and shelves -/
theorem ownB_k {G : G2} {y t : Nat} (h : ownB G y t = true) : own G y t := by
  unfold ownB at h
  rw [Bool.and_eq_true, decide_eq_true_eq, beq_iff_eq] at h
  exact h
theorem ownB_of {G : G2} {y t : Nat} (h : own G y t) : ownB G y t = true := by
  unfold ownB
  rw [Bool.and_eq_true, decide_eq_true_eq, beq_iff_eq]
  exact h
theorem own_ne {G : G2} {y y' t t' : Nat} (h : own G y t) (h' : own G y' t') (hn : t ≠ t') : y ≠ y' := fun q => by
  subst q
  exact hn (h.2.symm.trans h'.2)
theorem rule_row {G : G2} {y : Nat} (hX : GX G) (h : own G y 14) : own G (y + 1) 1 := (hX y 4 h (by omega) 2 (by decide) (by decide)).1
theorem sheet_row {G : G2} {y : Nat} (hX : GX G) (h : own G y 17) : own G (y + 1) 1 := (hX y 7 h (by omega) 1 (by decide) (by decide)).1
section S5
variable {n z b : Nat} {V : V2} {R : R2} {G Gm : G2} {U : V2}
theorem KP.u {U' : V2} (h : KP z b G V R U) (h1 : U' b 2 = U b 2) (h2 : U' (b + 2) = U (b + 2)) : KP z b G V R U' := by
  obtain ⟨g1, g2⟩ := h
  refine ⟨by rw [h1]; exact g1, ?_⟩
  rw [h1, h2]
  exact g2
theorem TP.u {U' : V2} (h : TP z b V U) (h1 : U' b 5 = U b 5) (h2 : U' (b + 4) = U (b + 4)) : TP z b V U' := by
  obtain ⟨tz, tp, g1, g2, g3, g4⟩ := h
  exact ⟨tz, tp, g1, g2, by rw [h1]; exact g3, fun i hi => by rw [h2]; exact g4 i hi⟩
theorem RW.u {U' : V2} (h : RW z b V U) (h1 : U' b 27 = U b 27) (h2 : U' (b + 10) = U (b + 10)) : RW z b V U' := by
  obtain ⟨rn, g1, g2, g3, g4⟩ := h
  exact ⟨rn, g1, g2, by rw [h1]; exact g3, fun i hi => by rw [h2]; exact g4 i hi⟩
theorem SHs.u {U' : V2} (h : SHs z b G V R U) (h1 : ∀ y, b + 11 ≤ y → y ≤ b + 13 → U' y = U y) : SHs z b G V R U' := by
  refine ⟨fun t ht => ?_, h.2⟩
  rw [h1 (b + 11) (by omega) (by omega), h1 (b + 12) (by omega) (by omega), h1 (b + 13) (by omega) (by omega)]
  exact h.1 t ht
theorem SLs.u {U' : V2} (h : SLs z b G V R U) (h1 : ∀ y, b + 14 ≤ y → y ≤ b + 16 → U' y = U y) : SLs z b G V R U' := by
  intro t ht
  rw [h1 (b + 14) (by omega) (by omega), h1 (b + 15) (by omega) (by omega), h1 (b + 16) (by omega) (by omega)]
  exact h t ht
theorem TR.u {U' : V2} (h : TR z b V U) (h1 : U' b 35 = U b 35) (h2 : U' (b + 17) = U (b + 17)) : TR z b V U' := by
  obtain ⟨rn, g1, g2, g3, g4⟩ := h
  exact ⟨rn, g1, g2, by rw [h1]; exact g3, fun i hi => by rw [h2]; exact g4 i hi⟩
theorem NR.rfr {R' : R2} {Y : Nat} {s : Nat → Int32} (h : NR G V R z Y s) (hR : R' (Y + 9) = R (Y + 9)) : NR G V R' z Y s := by
  obtain ⟨E, L, rn, rp, h1, h2, h3, h4, h5⟩ := h
  refine ⟨E, L, rn, rp, h1, h2, h3, ?_, h5⟩
  obtain ⟨g1, g2, g3, g4, g5⟩ := h4
  exact ⟨g1, g2, g3, g4, fun i hi => by rw [hR]; exact g5 i hi⟩
theorem KP.rfr {R' : R2} (h : KP z b G V R U) (hR : R' (z + 25) = R (z + 25)) : KP z b G V R' U := ⟨h.1, h.2.imp id fun q => ⟨q.1, q.2.rfr hR⟩⟩
theorem ST.rfr {R' : R2} (h : ST z G R) (hR : R' (z + 37) = R (z + 37)) : ST z G R' := fun k hk => by rw [hR]; exact h k hk
theorem SLs.rfr {R' : R2} (h : SLs z b G V R U) (hR : R' (z + 72) = R (z + 72)) : SLs z b G V R' U := fun t ht => by rw [hR]; exact h t ht
/-! more is made: what stood stays -/
theorem RuC.ext {V' : V2} {G' : G2} {y kd wl m : Nat} {g : Nat → Nat × Nat × Nat} (hX : GX G) (hW : WfG G) (hG : ∀ y t, own G y t → own G' y t) (hl : ∀ y t, own G y t → G'.2.2.1 y = G.2.2.1 y) (hV : ∀ x, x < G.2.2.2 → V' x = V x) (h : RuC G V y z kd wl m g) : RuC G' V' y z kd wl m g := by
  obtain ⟨h1, h2, h3, h4, h5, h6⟩ := h
  have o1 := ownB_k h2
  have o2 := rule_row hX o1
  refine ⟨h1, ownB_of (hG _ _ o1), ?_, ?_, ?_, fun j hj => ?_⟩
  · rw [hV y (hW y o1.1)]; exact h3
  · rw [hV y (hW y o1.1)]; exact h4
  · rw [hl _ _ o2]; exact h5
  · rw [hV (y + 1) (hW _ o2.1)]; exact h6 j hj
theorem NR.ext {V' : V2} {R' : R2} {G' : G2} {Y : Nat} {s : Nat → Int32} (hX : GX G) (hW : WfG G) (hG : ∀ y t, own G y t → own G' y t) (hl : ∀ y t, own G y t → G'.2.2.1 y = G.2.2.1 y) (hV : ∀ x, x < G.2.2.2 → V' x = V x) (hR : ∀ x, x < G.2.2.2 → R' x = R x) (hY : Y + 14 < G.2.2.2) (h : NR G V R z Y s) : NR G' V' R' z Y s := by
  obtain ⟨E, L, rn, rp, h1, h2, h3, ⟨g1, g2, g3, g4, g5⟩, h5, h6, h7, h8, h9, h10, h11⟩ := h
  refine ⟨E, L, rn, rp, h1, h2, h3, ⟨?_, ?_, fun i hi => ?_, fun i hi => ?_, fun i hi => ?_⟩, h5.fr fun x _ _ => hV x (by omega), h6, h7, ?_, ?_, h10.fr (by rw [hV _ (by omega)]) fun x _ _ => hV x (by omega), h11⟩
  · rw [hV _ (by omega)]; exact g1
  · rw [hV _ (by omega)]; exact g2
  · rw [hV _ (by omega)]; exact g3 i hi
  · rw [hV _ (by omega), hV _ (by omega)]; exact g4 i hi
  · obtain ⟨y, hy, hr⟩ := g5 i hi
    exact ⟨y, by rw [hR _ (by omega)]; exact hy, hr.ext hX hW hG hl hV⟩
  · rw [hV _ (by omega)]; exact h8
  · rw [hV _ (by omega)]; exact h9
theorem ShR.ext {V' : V2} {G' : G2} {y so sz : Nat} (hX : GX G) (hW : WfG G) (hG : ∀ y t, own G y t → own G' y t) (hl : ∀ y t, own G y t → G'.2.2.1 y = G.2.2.1 y) (hV : ∀ x, x < G.2.2.2 → V' x = V x) (h : ShR G V z y so sz) : ShR G' V' z y so sz := by
  obtain ⟨h1, h2, h3, h4, h5, h6⟩ := h
  have o1 := ownB_k h2
  have o2 := sheet_row hX o1
  exact ⟨h1, ownB_of (hG _ _ o1), by rw [hV y (hW y o1.1)]; exact h3, h4, by rw [hl _ _ o2]; exact h5, h6⟩
theorem OT.ext {V' : V2} {R' : R2} {G' : G2} (hX : GX G) (hW : WfG G ∧ z + 93 ≤ G.2.2.2) (hG : ∀ y t, own G y t → own G' y t) (hl : ∀ y t, own G y t → G'.2.2.1 y = G.2.2.1 y) (hV : ∀ x, x < G.2.2.2 → V' x = V x) (hR : ∀ x, x < G.2.2.2 → R' x = R x) (h : OT z b G V R U) : OT z b G' V' R' U := by
  obtain ⟨⟨k1, k2⟩, ⟨tz, tp, t1, t2, t3, t4⟩, ⟨rn, r1, r2, r3, r4⟩, h4, h5, ⟨tn, u1, u2, u3, u4⟩, h7⟩ := h
  obtain ⟨hW, hz⟩ := hW
  refine ⟨⟨by rw [hV _ (by omega)]; exact k1, k2.imp id fun q => ⟨q.1, q.2.ext hX hW hG hl hV hR (by omega)⟩⟩, ⟨tz, tp, t1, by rw [hV _ (by omega)]; exact t2, t3, fun i hi => by rw [hV _ (by omega)]; exact t4 i hi⟩, ⟨rn, r1, by rw [hV _ (by omega)]; exact r2, r3, fun i hi => by rw [hV _ (by omega)]; exact r4 i hi⟩, ⟨fun t ht => ?_, fun t t' y ht ht' e e' => ?_⟩, fun t ht => ?_, ⟨tn, u1, by rw [hV _ (by omega)]; exact u2, u3, fun i hi => by rw [hV _ (by omega)]; exact u4 i hi⟩, fun k hk => ?_⟩
  · rw [hR _ (by omega)]
    rcases h4.1 t ht with q | ⟨y, so, sz, q1, q2, q3, q4, q5⟩
    · exact Or.inl q
    · refine Or.inr ⟨y, so, sz, q1, q2.ext hX hW hG hl hV, q3, q4, fun i hi => ?_⟩
      rw [hV _ (hW _ (sheet_row hX (ownB_k q2.2.1)).1)]
      exact q5 i hi
  · rw [hR _ (by omega)] at e e'
    exact h4.2 t t' y ht ht' e e'
  · rw [hR _ (by omega), hV _ (by omega)]
    rcases h5 t ht with q | q | ⟨y, so, sz, q1, q2, q3, q4⟩
    · exact Or.inl q
    · exact Or.inr (Or.inl q)
    · exact Or.inr (Or.inr ⟨y, so, sz, q1, q2, q3.ext hX hW hG hl hV, q4⟩)
  · rw [hR _ (by omega)]
    exact ⟨(h7 k hk).1, ownB_of (hG _ _ (ownB_k (h7 k hk).2))⟩
theorem pks {A : Option (Int32 × V2 × R2 × G2)} {B : Option (Int32 × V2)} {x y : Int32} {V' U' : V2} {R' : R2} {G' : G2} (h1 : A = some (x, V', R', G')) (h2 : B = some (y, U')) (h3 : x = y) (h4 : RelB z b V' R' G' U') : ∃ o om, A = some o ∧ B = some om ∧ o.1 = om.1 ∧ RelB z b o.2.1 o.2.2.1 o.2.2.2 om.2 := ⟨_, _, h1, h2, h3, h4⟩
theorem pkt {A : Option (Int32 × V2 × R2)} {B : Option (Int32 × V2)} {x y : Int32} {V' U' : V2} {R' : R2} (h1 : A = some (x, V', R')) (h2 : B = some (y, U')) (h3 : x = y) (h4 : RelB z b V' R' G U') : ∃ o om, A = some o ∧ B = some om ∧ o.1 = om.1 ∧ RelB z b o.2.1 o.2.2 G om.2 := ⟨_, _, h1, h2, h3, h4⟩
theorem wm {x : Int32} {hi : Nat} (hh : hi < 2147483648) : (x = -(nI 1) ∧ pX8_within x (-(nI 1)) (nI hi) = some (nI 1) ∧ pX9_isIn x.toInt64 (-(lN 1)) (lN hi) = some (nI 1)) ∨ (∃ k, k ≤ hi ∧ x = nI k ∧ pX8_within x (-(nI 1)) (nI hi) = some (nI 1) ∧ pX9_isIn x.toInt64 (-(lN 1)) (lN hi) = some (nI 1)) ∨ (pX8_within x (-(nI 1)) (nI hi) = some (nI 0) ∧ pX9_isIn x.toInt64 (-(lN 1)) (lN hi) = some (nI 0)) := by
  have em : (-(lN 1)).toInt = -1 := by decide
  have em' : (-(nI 1)).toInt = -1 := by decide
  have e1 : (lg_cmp x.toInt64 (-(lN 1)) < 0) ↔ x.toInt < -1 := by rw [lg_cmp_lt, Int64.lt_iff_toInt_lt, Int32.toInt_toInt64, em]
  have e2 : (0 < lg_cmp x.toInt64 (lN hi)) ↔ (hi : Int) < x.toInt := by rw [lg_cmp_gt, Int64.lt_iff_toInt_lt, Int32.toInt_toInt64, lN_toInt hh]
  have e3 : (x < -(nI 1)) ↔ x.toInt < -1 := by rw [Int32.lt_iff_toInt_lt, em']
  have e4 : (nI hi < x) ↔ (hi : Int) < x.toInt := by rw [Int32.lt_iff_toInt_lt, nI_toInt hh]
  unfold pX8_within pX9_isIn
  by_cases h1 : x.toInt < -1
  · right; right
    rw [if_pos (e3.mpr h1), if_pos (e1.mpr h1)]
    exact ⟨rfl, rfl⟩
  · rw [if_neg (fun q => h1 (e3.mp q)), if_neg (fun q => h1 (e1.mp q))]
    by_cases h2 : (hi : Int) < x.toInt
    · right; right
      rw [if_pos (e4.mpr h2), if_pos (e2.mpr h2)]
      exact ⟨rfl, rfl⟩
    · rw [if_neg (fun q => h2 (e4.mp q)), if_neg (fun q => h2 (e2.mp q))]
      by_cases h3 : x.toInt = -1
      · left
        exact ⟨Int32.toInt_inj.mp (by rw [h3, em']), rfl, rfl⟩
      · right; left
        refine ⟨x.toInt.toNat, by omega, Int32.toInt_inj.mp ?_, rfl, rfl⟩
        rw [nI_toInt (by omega)]
        omega
theorem sh_clear {t : Nat} (ht : t < 4) : ∀ m x f {U : V2}, x + m = 40 → m < f → ∃ U', lX9_sheet_69 b (nI t) f U (nI x) = some U' ∧ (∀ y, y ≠ b + 13 → U' y = U y) ∧ ∀ i, U' (b + 13) i = if 40 * t + x ≤ i ∧ i < 40 * t + 40 then nI 0 else U (b + 13) i := by
  intro m
  induction m with
  | zero =>
    intro x f U h1 h2
    obtain ⟨f, rfl⟩ : ∃ g, f = g + 1 := ⟨f - 1, by omega⟩
    refine ⟨U, ?_, fun _ _ => rfl, fun i => by rw [if_neg (by omega)]⟩
    unfold lX9_sheet_69
    simp (disch := omega) only [letv, o_b, ↓reduceIte, e_sub, e_add, e_mul, e_ld, e_st, e_lt, e_nlt, e_le, e_nle, e_eq, e_neq, e_div, e_rem, m_lt, m_le, m_eq, m_eq2, m_ng, o_ld, true_and, and_true, Nat.one_ne_zero, Nat.zero_ne_one, Nat.reduceEqDiff, Bool.false_eq_true, not_true_eq_false, not_false_eq_true, li_0, li_1, li_2, li_3, li_4, li_5, li_6, li_7, li_8, li_9, li_10, li_11, li_12, li_13, li_14, li_15, li_16, li_20, li_23, li_25, li_30, li_31, li_32, li_38, li_40, li_41, li_44, li_48, li_50, li_51, li_52, li_57, li_59, li_60, li_61, li_62, li_63, li_66, li_81, li_94, li_97, li_98, li_99, li_100, li_101, li_103, li_104, li_105, li_107, li_108, li_109, li_110, li_111, li_112, li_114, li_115, li_116, li_117, li_118, li_122, li_200, li_572, li_600, li_9999, li_10000, li_12345, li_1103515245]
  | succ m ih =>
    intro x f U h1 h2
    obtain ⟨f, rfl⟩ : ∃ g, f = g + 1 := ⟨f - 1, by omega⟩
    obtain ⟨U', e1, e2, e3⟩ := ih (x + 1) f (U := up2 U (b + 13) (40 * t + x) (nI 0)) (by omega) (by omega)
    refine ⟨U', ?_, fun y hy => by rw [e2 y hy, w_row hy], fun i => ?_⟩
    · unfold lX9_sheet_69
      rw [show (160 : Nat) = 160 from rfl]
      simp (disch := omega) only [e1, letv, o_b, ↓reduceIte, e_sub, e_add, e_mul, e_ld, e_st, e_lt, e_nlt, e_le, e_nle, e_eq, e_neq, e_div, e_rem, m_lt, m_le, m_eq, m_eq2, m_ng, o_ld, true_and, and_true, Nat.one_ne_zero, Nat.zero_ne_one, Nat.reduceEqDiff, Bool.false_eq_true, not_true_eq_false, not_false_eq_true, li_0, li_1, li_2, li_3, li_4, li_5, li_6, li_7, li_8, li_9, li_10, li_11, li_12, li_13, li_14, li_15, li_16, li_20, li_23, li_25, li_30, li_31, li_32, li_38, li_40, li_41, li_44, li_48, li_50, li_51, li_52, li_57, li_59, li_60, li_61, li_62, li_63, li_66, li_81, li_94, li_97, li_98, li_99, li_100, li_101, li_103, li_104, li_105, li_107, li_108, li_109, li_110, li_111, li_112, li_114, li_115, li_116, li_117, li_118, li_122, li_200, li_572, li_600, li_9999, li_10000, li_12345, li_1103515245]
    · rw [e3 i]
      by_cases q : 40 * t + x ≤ i ∧ i < 40 * t + 40
      · rw [if_pos q]
        by_cases q2 : i = 40 * t + x
        · subst q2
          rw [if_neg (by omega)]
          exact w_same
        · rw [if_pos (by omega)]
      · rw [if_neg q, if_neg (by omega), w_idx (by omega)]
/-- a sheet becomes another -/
theorem rl_sheet {U' : V2} {t : Nat} {q : Option Nat} (h : RelB z b V R G U) (ht : t < 4) (hq : (q = none ∧ U' (b + 11) t = -(nI 1)) ∨ ∃ y so sz, q = some y ∧ ShR G V z y so sz ∧ U' (b + 11) t = nI so ∧ U' (b + 12) t = nI sz ∧ (∀ i, i < sz → V (y + 1) i = U' (b + 13) (40 * t + i)) ∧ ∀ t', t' < 4 → t' ≠ t → R (z + 70) t' ≠ some y) (h1 : ∀ y, y ≠ b + 11 → y ≠ b + 12 → y ≠ b + 13 → U' y = U y) (h2 : ∀ t', t' ≠ t → U' (b + 11) t' = U (b + 11) t' ∧ U' (b + 12) t' = U (b + 12) t') (h3 : ∀ i, ¬ (40 * t ≤ i ∧ i < 40 * t + 40) → U' (b + 13) i = U (b + 13) i) : RelB z b V (up2 R (z + 70) t q) G U' := by
  obtain ⟨hW, hN, k, tp, rw', hs, sl, tr, st⟩ := h
  refine ⟨hW, ?_, (k.rfr (w_row (by omega))).u (by rw [h1 b (by omega) (by omega) (by omega)]) (h1 _ (by omega) (by omega) (by omega)), tp.u (by rw [h1 b (by omega) (by omega) (by omega)]) (h1 _ (by omega) (by omega) (by omega)), rw'.u (by rw [h1 b (by omega) (by omega) (by omega)]) (h1 _ (by omega) (by omega) (by omega)), ⟨fun t' ht' => ?_, fun t' t'' y ht' ht'' e e' => ?_⟩, (sl.rfr (w_row (by omega))).u fun y _ _ => h1 y (by omega) (by omega) (by omega), tr.u (by rw [h1 b (by omega) (by omega) (by omega)]) (h1 _ (by omega) (by omega) (by omega)), st.rfr (w_row (by omega))⟩
  · rw [h1 (b + 1) (by omega) (by omega) (by omega)]
    exact hN.rfr (w_row (by omega))
  · by_cases g : t' = t
    · subst g
      rw [w_same]
      rcases hq with hq | ⟨y, so, sz, a1, a2, a3, a4, a5, a6⟩
      · exact Or.inl hq
      · exact Or.inr ⟨y, so, sz, a1, a2, a3, a4, a5⟩
    · rw [w_idx g, (h2 t' g).1, (h2 t' g).2]
      rcases hs.1 t' ht' with p | ⟨y, so, sz, a1, a2, a3, a4, a5⟩
      · exact Or.inl p
      · have s40 := a2.2.2.2.2.2
        refine Or.inr ⟨y, so, sz, a1, a2, a3, a4, fun i hi => ?_⟩
        rw [h3 _ (by omega)]
        exact a5 i hi
  · rw [w_at] at e e'
    by_cases g : t' = t
    · by_cases g' : t'' = t
      · omega
      · rw [if_pos g] at e
        rw [if_neg g'] at e'
        rcases hq with hq | ⟨y', so, sz, a1, a2, a3, a4, a5, a6⟩
        · rw [hq.1] at e; cases e
        · rw [a1] at e; cases e
          exact absurd e' (a6 t'' ht'' g')
    · by_cases g' : t'' = t
      · rw [if_neg g] at e
        rw [if_pos g'] at e'
        rcases hq with hq | ⟨y', so, sz, a1, a2, a3, a4, a5, a6⟩
        · rw [hq.1] at e'; cases e'
        · rw [a1] at e'; cases e'
          exact absurd e (a6 t' ht' g)
      · rw [if_neg g] at e
        rw [if_neg g'] at e'
        exact hs.2 t' t'' y ht' ht'' e e'
theorem ok_sheet' (hn : 1000 ≤ n) (h : RelB z b V R G U) (hI : LI z Gm G) (a1 a2 a3 : Int32) : ∃ o om, pX8_sheet G V R z a1 a2 a3 = some o ∧ pX9_sheet n U b a1 a2 a3 = some om ∧ o.1 = om.1 ∧ RelB z b o.2.1 o.2.2.1 o.2.2.2 om.2 := by
  have hX := hI.1
  obtain ⟨hW, hN, hO⟩ := id h
  have pb : ∀ x, pX8_sheet G V R z a1 a2 a3 = some (x, V, R, G) → pX9_sheet n U b a1 a2 a3 = some (x, U) → ∃ o om, pX8_sheet G V R z a1 a2 a3 = some o ∧ pX9_sheet n U b a1 a2 a3 = some om ∧ o.1 = om.1 ∧ RelB z b o.2.1 o.2.2.1 o.2.2.2 om.2 := fun x e1 e2 => ⟨_, _, e1, e2, rfl, h⟩
  have l1 : (-1 : Int32) = -(nI 1) := rfl
  have l2 : (-1 : Int64) = -(lN 1) := rfl
  rcases wi (x := a1) (lo := 0) (hi := 3) (by omega) (by omega) with ⟨t, -, ht, rfl, w1, w2⟩ | ⟨w1, w2⟩
  · have sh1 : pX9_isSheet (nI t) = some (nI 1) := by
      unfold pX9_isSheet
      simp only [lj_0, lj_3, w2, o_b]
      rfl
    rcases wm (x := a2) (hi := 4) (by omega) with ⟨rfl, w3, w4⟩ | ⟨so, hso, rfl, w3, w4⟩ | ⟨w3, w4⟩
    · -- missing
      obtain ⟨U1, c1, c2, c3⟩ := sh_clear (b := b) (t := t) (by omega) 40 0 n (U := up2 (up2 U (b + 11) t (-(nI 1))) (b + 12) t (nI 0)) (by omega) (by omega)
      refine pks (x := nI 1) (V' := V) (R' := up2 R (z + 70) t none) (G' := G) (U' := U1) ?_ ?_ rfl (rl_sheet h (by omega) (Or.inl ⟨rfl, ?_⟩) (fun y g1 g2 g3 => ?_) (fun t' g => ?_) fun i g => ?_)
      · unfold pX8_sheet
        simp (disch := omega) only [li_0, li_1, li_3, li_4, w1, o_b, e_10, ↓reduceIte, w3, o_st]
      · unfold pX9_sheet
        simp (disch := omega) only [letv, li_0, li_1, lj_4, sh1, o_b, e_10, ↓reduceIte, l2, w4, m_ng, e_st, m_le0, c1, e_nlt, show (nI 0 ≤ -(nI 1)) = False from eq_false (by decide)]
      · rw [c2 _ (by omega), w_row (by omega), w_same]
      · rw [c2 _ g3, w_row g2, w_row g1]
      · rw [c2 _ (by omega), c2 _ (by omega), w_row (by omega), w_idx g, w_idx g, w_row (by omega)]
        exact ⟨rfl, rfl⟩
      · rw [c3 i, if_neg (by omega), w_row (by omega), w_row (by omega)]
    · by_cases p1 : a3 ≤ nI 40
      · by_cases p2 : nI 0 ≤ a3
        · obtain ⟨sz, hsz, rfl⟩ : ∃ sz, sz ≤ 40 ∧ a3 = nI sz := by
            rw [Int32.le_iff_toInt_le, nI_toInt (by omega)] at p1 p2
            refine ⟨a3.toInt.toNat, by omega, Int32.toInt_inj.mp ?_⟩
            rw [nI_toInt (by omega)]
            omega
          obtain ⟨U1, c1, c2, c3⟩ := sh_clear (b := b) (t := t) (by omega) 40 0 n (U := up2 (up2 U (b + 11) t (nI so)) (b + 12) t (nI sz)) (by omega) (by omega)
          have ej : jmax (nI 0) (nI sz) = nI sz := e_jmax2 (by omega)
          have ec : (nI sz).toNatClampNeg = sz := nI_clamp (by omega)
          have hx1 : ∀ x, x < G.2.2.2 → shV V G.2.2.2 (nI so) x = V x := fun x hx => by
            unfold shV zV up2
            rw [va_up_ne _ _ (by omega), va_up_ne _ _ (by omega), va_up_ne _ _ (by omega)]
          have hx2 : ∀ x, x < G.2.2.2 → shR R G.2.2.2 x = R x := fun x hx => by
            unfold shR zR up2
            rw [va_up_ne _ _ (by omega), va_up_ne _ _ (by omega)]
          have h' : RelB z b (shV V G.2.2.2 (nI so)) (shR R G.2.2.2) (shG G sz) U := by
            refine ⟨⟨nw2_wf hW.1, ?_⟩, hN.ext hX hW.1 (fun _ _ q => sh_old hW.1 q) (fun _ _ q => sh_len hW.1 q) hx1 hx2 (by have := hW.2; omega), hO.ext hX hW (fun _ _ q => sh_old hW.1 q) (fun _ _ q => sh_len hW.1 q) hx1 hx2⟩
            show z + 93 ≤ G.2.2.2 + 1 + 1
            have := hW.2
            omega
          have hy : ShR (shG G sz) (shV V G.2.2.2 (nI so)) z G.2.2.2 so sz := by
            refine ⟨hW.2, ownB_of (sh_new G sz), ?_, hso, ?_, hsz⟩
            · unfold shV zV
              rw [va_up_ne _ _ (by omega), w_same]
            · show va_up (va_up G.2.2.1 G.2.2.2 0) (G.2.2.2 + 1) sz (G.2.2.2 + 1) = sz
              rw [va_up_self]
          refine pks (x := nI 1) (V' := shV V G.2.2.2 (nI so)) (R' := up2 (shR R G.2.2.2) (z + 70) t (some G.2.2.2)) (G' := shG G sz) (U' := U1) ?_ ?_ rfl (rl_sheet h' (by omega) (Or.inr ⟨G.2.2.2, so, sz, rfl, hy, ?_, ?_, fun i hi => ?_, fun t' ht' g => ?_⟩) (fun y g1 g2 g3 => ?_) (fun t' g => ?_) fun i g => ?_)
          · unfold pX8_sheet
            simp (disch := omega) only [li_0, li_1, li_3, li_4, li_40, w1, o_b, e_10, ↓reduceIte, w3, o_st, m_eq, e_le, ej, ec, hsz, decide_true]
          · unfold pX9_sheet
            simp (disch := omega) only [letv, li_0, li_1, li_40, lj_4, sh1, o_b, e_10, ↓reduceIte, l2, w4, e_nlt, e_le, e_st, c1]
          · rw [c2 _ (by omega), w_row (by omega), w_same]
          · rw [c2 _ (by omega), w_same]
          · rw [c3, if_pos (by omega)]
            unfold shV zV
            rw [va_up_self]
            rfl
          · rw [hx2 _ (by have := hW.2; omega)]
            intro e
            rcases hO.2.2.2.1.1 t' ht' with q | ⟨y, so', sz', q1, q2, -⟩
            · rw [q.1] at e; cases e
            · rw [q1] at e; cases e
              have := hW.1 _ (ownB_k q2.2.1).1
              omega
          · rw [c2 _ g3, w_row g2, w_row g1]
          · rw [c2 _ (by omega), c2 _ (by omega), w_row (by omega), w_idx g, w_idx g, w_row (by omega)]
            exact ⟨rfl, rfl⟩
          · rw [c3 i, if_neg (by omega), w_row (by omega), w_row (by omega)]
        · refine pb (-(nI 14)) ?_ ?_
          · unfold pX8_sheet
            simp (disch := omega) only [li_0, li_1, li_3, li_4, li_14, li_40, w1, o_b, e_10, ↓reduceIte, w3, m_eq, p1, p2]
          · unfold pX9_sheet
            simp (disch := omega) only [letv, li_0, li_1, li_14, li_40, lj_4, sh1, o_b, e_10, ↓reduceIte, l2, w4, e_nlt, p1, p2]
      · refine pb (-(nI 1)) ?_ ?_
        · unfold pX8_sheet
          simp (disch := omega) only [li_0, li_1, li_3, li_4, li_14, li_40, w1, o_b, e_10, ↓reduceIte, w3, m_eq, p1]
        · unfold pX9_sheet
          simp (disch := omega) only [letv, li_0, li_1, li_14, li_40, lj_4, sh1, o_b, e_10, ↓reduceIte, l2, w4, e_nlt, p1]
    · refine pb (-(nI 1)) ?_ ?_
      · unfold pX8_sheet
        simp (disch := omega) only [li_0, li_1, li_3, li_4, w1, o_b, e_10, ↓reduceIte, w3]
      · unfold pX9_sheet
        simp (disch := omega) only [letv, li_0, li_1, lj_4, sh1, o_b, e_10, ↓reduceIte, l2, w4]
  · have sh1 : pX9_isSheet a1 = some (nI 0) := by
      unfold pX9_isSheet
      simp only [lj_0, lj_3, w2, o_b]
      rfl
    refine pb (-(nI 1)) ?_ ?_
    · unfold pX8_sheet
      simp (disch := omega) only [li_0, li_1, li_3, w1, o_b, ↓reduceIte]
    · unfold pX9_sheet
      simp (disch := omega) only [letv, li_0, li_1, sh1, o_b, ↓reduceIte]
end S5
