/-! all plans, in their order, on both sides; games -/
section P2
variable {n z b : Nat} {G : G2} {R : R2}
/-- the class's trial of one act: the load behind is the load ahead, an act further -/
theorem p_step (hn : 1000 ≤ n) {V : V2} {E : En} {L : Ld} {d t : Nat} (hd : d < 4) (hE : EC G V R z (z + 1) E) (iE : IE E) (hL : LC V (z + 40 + 5 * d) L) (iL : IL L) (ht : t ≤ L_c L) {W : V2 → V2} (hW : ∀ V1 : V2, ∀ x, x ≠ z + 38 → W V1 x = V1 x) : ∃ V1 V2', pX2_copy V (z + 40 + 5 * (d + 1)) (z + 40 + 5 * d) = some V1 ∧ pX1_goBy n G (W V1) R (z + 1) (z + 40 + 5 * (d + 1)) (nI t) = some (nI (goW E L t), V2') ∧ LC V2' (z + 40 + 5 * (d + 1)) (goL E L t) ∧ (∀ x, x ≠ z + 38 → (x < z + 40 + 5 * (d + 1) ∨ z + 40 + 5 * (d + 1) + 4 < x) → V2' x = V x) ∧ V2' (z + 38) = W V1 (z + 38) ∧ V1 (z + 38) = V (z + 38) := by
  obtain ⟨V1, c1, c2, c3⟩ := c_copy (b := z + 40 + 5 * (d + 1)) (a := z + 40 + 5 * d) hL (by omega)
  have hE1 : EC G (W V1) R z (z + 1) E := hE.fr (by rw [hW _ _ (by omega), c3 _ (by omega)]) (by rw [hW _ _ (by omega), c3 _ (by omega)]) fun x hx => by rw [hW _ _ (by omega), c3 _ (by omega)]
  have hL1 : LC (W V1) (z + 40 + 5 * (d + 1)) L := c2.fr fun x h1 h2 => hW _ _ (by omega)
  obtain ⟨V2', d1, d2, d3⟩ := c_goBy hn hE1 iE (ad_tr (a := z + 40 + 5 * (d + 1)) (by omega)) hL1 iL ht
  refine ⟨V1, V2', c1, d1, d2, fun x h1 h2 => ?_, d3 _ (by omega), c3 _ (by omega)⟩
  rw [d3 x h2, hW _ _ h1, c3 x h2]
theorem SR.less {V U : V2} {len dd dd' cc : Nat} (h : SR z b V U len dd' cc) (hd : dd ≤ dd') : SR z b V U len dd cc := by
  obtain ⟨p1, p2, p3, p4, p5, p6, p7, p8⟩ := h
  exact ⟨p1, p2, p3, p4, p5, p6, fun i hi => p7 i (by omega), p8⟩
theorem p_try (hn : 1000 ≤ n) (hR : ST z G R) {E : En} (iE : IE E) {len nn w0 cc : Nat} (hl : len ≤ 4) (hnn : nn ≤ 4) (hln : len ≤ nn) (hend : len = nn ∨ E_en E ≤ w0 + len) (hlen : ∀ d, d < len → w0 + d < E_en E) :
    ∀ m d D D' {V U : V2} {L : Ld} {wo to' : Nat}, d + m = len → m < D → m < D' → SR z b V U len d cc → EC G V R z (z + 1) E → LC V (z + 40 + 5 * d) L → ME (U (b + 1)) E → MC (U (b + 1)) L → IL L → L_w L = w0 + d → L_c L = cc → (∀ i, i < d → ∃ a, a ≤ cc ∧ V (z + 38) i = nI a) → wo ≤ 18 * d → to' ≤ d →
    ∃ V' U', pX6_tryFrom D n G V R (z + 36) (z + 1) (nI d) (nI wo) (nI to') = some V' ∧ pX9_plans D' n U b (nI d) (nI nn) (nI wo) (nI to') = some U' ∧ SR z b V' U' len d cc ∧ SF z V V' d ∧ SG b U U' d ∧ U' (b + 1) = U (b + 1) ∧ (∀ i, i < d → V' (z + 38) i = V (z + 38) i) ∧ Pos b U' := by
  intro m
  induction m with
  | zero =>
    intro d D D' V U L wo to' h1 h2 h3 hS hE hL mE mC iL hw hcc hac hwo hto
    obtain ⟨D, rfl⟩ : ∃ g, D = g + 1 := ⟨D - 1, by omega⟩
    obtain ⟨D', rfl⟩ : ∃ g, D' = g + 1 := ⟨D' - 1, by omega⟩
    have hd : d = len := by omega
    subst hd
    have hend' : d = nn ∨ (d ≠ nn ∧ pX9_isOver U b = some (nI 1)) := by
      by_cases q : d = nn
      · exact Or.inl q
      · refine Or.inr ⟨q, ?_⟩
        have q2 : E_en E ≤ L_w L := by omega
        rw [m_over mE iE mC iL, if_pos q2]
    obtain ⟨V', U', a1, a2, a3, a4, a5, a6, a7, a8⟩ := p_weigh (wo := wo) (to' := to') (rec := pX9_plans D') hn hS hl hR hL mC iL hac (show wo < 100 by omega) (show to' ≤ 4 by omega) hend' hnn
    refine ⟨V', U', ?_, a2, a3, a4, a5, a6, fun i hi => by rw [a7], a8⟩
    show fX6_tryFrom (pX6_tryFrom D) n G V R (z + 36) (z + 1) (nI d) (nI wo) (nI to') = _
    unfold fX6_tryFrom
    have s6 : V (z + 36) 4 = nI d := hS.2.2.2.2.2.1
    simp (disch := omega) only [s6, e_nlt, ↓reduceIte, a1, o_b]
  | succ m ih =>
    intro d D D' V U L wo to' h1 h2 h3 hS hE hL mE mC iL hw hcc hac hwo hto
    obtain ⟨D, rfl⟩ : ∃ g, D = g + 1 := ⟨D - 1, by omega⟩
    obtain ⟨D', rfl⟩ : ∃ g, D' = g + 1 := ⟨D' - 1, by omega⟩
    have hd : d < len := by omega
    have hc := iL.2.1
    have hov := hlen d hd
    have he := iE.2.1
    obtain ⟨U1, g1, g2, g3, g4⟩ := m_aside (n := n) (b := b) (U := U) hn (lv := d) (by omega)
    have s6 : V (z + 36) 4 = nI len := hS.2.2.2.2.2.1
    -- the loop over acts
    have loop : ∀ k x f f' {V1 U1 : V2}, x + k = L_c L + 1 → k < f → k < f' → SR z b V1 U1 len d cc → SF z V V1 d → (∀ i, i < d → V1 (z + 38) i = V (z + 38) i) → SG b U U1 d → U1 (b + 1) = U (b + 1) → AS b d U1 (U (b + 1)) → ∃ V' U', lX6_tryFrom_37 (pX6_tryFrom D) n G R (z + 36) (z + 1) (nI d) (nI wo) (nI to') (z + 40 + 5 * d) (z + 40 + 5 * (d + 1)) f V1 (nI x) = some V' ∧ lX9_plans_146 (pX9_plans D') n b (nI d) (nI nn) (nI wo) (nI to') f' U1 (nI x) = some U' ∧ SR z b V' U' len d cc ∧ SF z V V' d ∧ (∀ i, i < d → V' (z + 38) i = V (z + 38) i) ∧ SG b U U' d ∧ U' (b + 1) = U (b + 1) ∧ (0 < k ∨ Pos b U1 → Pos b U') := by
      intro k
      induction k with
      | zero =>
        intro x f f' V1 U1 k1 k2 k3 kS kF ka kG ku kA
        obtain ⟨f, rfl⟩ : ∃ g, f = g + 1 := ⟨f - 1, by omega⟩
        obtain ⟨f', rfl⟩ : ∃ g, f' = g + 1 := ⟨f' - 1, by omega⟩
        have t1 : V1 (z + 40 + 5 * d) 1 = nI (L_c L) := by rw [kF _ (by omega)]; exact hL.2.1
        have t2 : U1 (b + 1) 0 = nI (L_c L) := by rw [ku]; exact mC.2.1
        refine ⟨V1, U1, ?_, ?_, kS, kF, ka, kG, ku, fun q => q.elim (fun q => absurd q (by omega)) id⟩
        · unfold lX6_tryFrom_37
          simp (disch := omega) only [t1, e_lt, ↓reduceIte]
        · unfold lX9_plans_146
          simp (disch := omega) only [li_0, e_ld, o_b, t2, e_lt, ↓reduceIte]
      | succ k ihk =>
        intro x f f' V1 U1 k1 k2 k3 kS kF ka kG ku kA
        obtain ⟨f, rfl⟩ : ∃ g, f = g + 1 := ⟨f - 1, by omega⟩
        obtain ⟨f', rfl⟩ : ∃ g, f' = g + 1 := ⟨f' - 1, by omega⟩
        have hx : x ≤ L_c L := by omega
        have t1 : V1 (z + 40 + 5 * d) 1 = nI (L_c L) := by rw [kF _ (by omega)]; exact hL.2.1
        have t2 : U1 (b + 1) 0 = nI (L_c L) := by rw [ku]; exact mC.2.1
        have kE : EC G V1 R z (z + 1) E := hE.fr (by rw [kF _ (by omega)]) (by rw [kF _ (by omega)]) fun y hy => kF y (by omega)
        have kL : LC V1 (z + 40 + 5 * d) L := hL.fr fun y h1 h2 => kF y (by omega)
        obtain ⟨W1, W2, w1, w2, w3, w4, w5, w6⟩ := p_step (d := d) (t := x) hn (by omega) kE iE kL iL hx (W := fun Q => up2 Q (z + 38) d (nI x)) (fun Q y hy => w_row hy)
        have mE1 : ME (up2 U1 (b + 6) d (nI x) (b + 1)) E := by rw [w_row (by omega), ku]; exact mE
        have mC1 : MC (up2 U1 (b + 6) d (nI x) (b + 1)) L := by rw [w_row (by omega), ku]; exact mC
        obtain ⟨Y2, y1, y2, y3, -⟩ := m_goes hn mE1 iE mC1 iL hx
        have iL' := goL_IL (E := E) (a := x) iL hx (by omega)
        have hwle := goW_le (E := E) iL hx
        -- the state behind the act
        have r36 : W2 (z + 36) = V1 (z + 36) := w4 _ (by omega) (by omega)
        have r39 : W2 (z + 39) = V1 (z + 39) := w4 _ (by omega) (by omega)
        have r38 : W2 (z + 38) = up2 V1 (z + 38) d (nI x) (z + 38) := by
          rw [w5]
          funext i
          rw [w_at, w_at, w6]
        have q0 : Y2 b = U1 b := by rw [y3.1 _ (by omega), w_row (by omega)]
        have q6 : Y2 (b + 6) = up2 U1 (b + 6) d (nI x) (b + 6) := y3.1 _ (by omega)
        have q7 : Y2 (b + 7) = U1 (b + 7) := by rw [y3.1 _ (by omega), w_row (by omega)]
        have S2 : SR z b W2 Y2 len (d + 1) cc := by
          obtain ⟨p1, p2, p3, p4, p5, p6, p7, p8⟩ := kS
          unfold SR
          rw [r36, r38, r39, q0, q6, q7]
          refine ⟨p1, p2, p3, p4, p5, p6, fun i hi => ?_, p8⟩
          rw [w_at, w_at]
          split
          · rfl
          · exact p7 i (by omega)
        obtain ⟨to2, ht2, eto⟩ : ∃ to2, to2 ≤ d + 1 ∧ (if nI x = 0 then nI to' else nI to' + 1) = nI to2 := by
          by_cases q : x = 0
          · exact ⟨to', by omega, by subst q; rfl⟩
          · refine ⟨to' + 1, by omega, ?_⟩
            rw [if_neg (show ¬ nI x = 0 by rw [li_0, e_neq (by omega) (by omega) q]; exact id), li_1, e_add]
        obtain ⟨V3, U3, b1, b2, b3, b4, b5, b6, b7, b8⟩ := ih (d + 1) D D' (V := W2) (U := Y2) (L := goL E L x) (wo := wo + goW E L x) (to' := to2) (by omega) (by omega) (by omega) S2 (kE.fr (by rw [w4 _ (by omega) (by omega)]) (by rw [w4 _ (by omega) (by omega)]) fun y hy => w4 y (by omega) (by omega)) w3 (mE1.mf y3) y2 iL' (by rw [goL_w]; omega) hcc (fun i hi => by
            rw [r38, w_at]
            split
            · exact ⟨x, by omega, rfl⟩
            · rw [ka i (by omega)]; exact hac i (by omega)) (by omega) ht2
        have as3 : AS b d U3 (U (b + 1)) := fun i hi => by
          rw [b5.2.2 _ (by omega), y3.1 _ (by omega), w_row (by omega)]
          exact kA i hi
        obtain ⟨U4, c1, c2, c3⟩ := m_restore (n := n) (b := b) (U := U3) hn (lv := d) (by omega) as3 (fun i hi => by rw [b6, y3.2 i (by omega), w_row (by omega), ku])
        have SF3 : SF z V V3 d := fun y hy => by
          rw [b4 y (by omega), w4 y (by omega) (by omega)]
          exact kF y hy
        have SG4 : SG b U U4 d := by
          refine ⟨fun y e1 e2 e3 e4 => ?_, fun k hk => ?_, fun i hi => ?_⟩
          · by_cases q : y = b + 1
            · rw [q, c3]
            · rw [c2 y q, b5.1 y e1 e2 e3 e4, y3.1 y q, w_row e3, kG.1 y e1 e2 e3 e4]
          · rw [c2 _ (by omega), b5.2.1 k hk, q0, kG.2.1 k hk]
          · rw [c2 _ (by omega), b5.2.2 i (by omega), y3.1 _ (by omega), w_row (by omega), kG.2.2 i hi]
        obtain ⟨V5, U5, e1, e2, e3, e4, e5, e6, e7, e8⟩ := ihk (x + 1) f f' (V1 := V3) (U1 := U4) (by omega) (by omega) (by omega) ((b3.less (by omega)).fr rfl rfl rfl (c2 _ (by omega)) (c2 _ (by omega)) (c2 _ (by omega))) SF3 (fun i hi => by
          rw [b7 i (by omega), r38, w_idx (by omega)]
          exact ka i hi) SG4 c3 (fun i hi => by rw [c2 _ (by omega)]; exact as3 i hi)
        have pos4 : Pos b U4 := by
          unfold Pos
          rw [c2 b (by omega)]
          exact b8
        refine ⟨V5, U5, ?_, ?_, e3, e4, e5, e6, e7, fun _ => e8 (Or.inr pos4)⟩
        · unfold lX6_tryFrom_37
          simp only [letv, eto]
          rw [show z + 36 + 2 = z + 38 from rfl]
          simp (disch := omega) only [t1, e_nlt, ↓reduceIte, w1, o_b, e_st, w2, li_1, e_add, b1, e1]
        · unfold lX9_plans_146
          simp only [letv, eto]
          simp (disch := omega) only [li_0, li_1, e_ld, o_b, t2, e_nlt, ↓reduceIte, e_st, y1, e_add, b2, c1, e2]
    obtain ⟨V', U', l1, l2, l3, l4, l5, l6, l7, l8⟩ := loop (L_c L + 1) 0 n n (V1 := V) (U1 := U1) (by omega) (by omega) (by omega) (hS.fr rfl rfl rfl (g2 _ (by omega)) (g2 _ (by omega)) (g2 _ (by omega))) SF.rf (fun _ _ => rfl) ⟨fun y e1 e2 e3 e4 => g2 y e2, fun k hk => by rw [g2 _ (by omega)], fun i hi => g3 i (by omega)⟩ (g2 _ (by omega)) g4
    refine ⟨V', U', ?_, ?_, l3, l4, l6, l7, l5, l8 (Or.inl (by omega))⟩
    · show fX6_tryFrom (pX6_tryFrom D) n G V R (z + 36) (z + 1) (nI d) (nI wo) (nI to') = _
      unfold fX6_tryFrom
      obtain ⟨r1, r2⟩ := hR d (by omega)
      obtain ⟨r3, r4⟩ := hR (d + 1) (by omega)
      have r1' : R (z + 36 + 1) d = some (z + 40 + 5 * d) := r1
      have r3' : R (z + 36 + 1) (d + 1) = some (z + 40 + 5 * (d + 1)) := r3
      simp (disch := omega) only [s6, e_lt, ↓reduceIte, o_ld, o_b, r1', ocase, r2, li_1, e_add, r3', r4, li_0, l1]
    · show fX9_plans (pX9_plans D') n U b (nI d) (nI nn) (nI wo) (nI to') = _
      unfold fX9_plans
      have q2 : ¬ E_en E ≤ L_w L := by omega
      rw [m_over mE iE mC iL, if_neg q2]
      have q3 : (nI d = nI nn) = False := e_neq (by omega) (by omega) (by omega)
      simp only [letv, q3, ↓reduceIte, o_b, li_0, g1, l2]
end P2
