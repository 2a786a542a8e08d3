/-! all of them, one or the other; conditions within conditions -/
section X8
variable {n r b tz p bg m d : Nat} {tp : Nat → Nat} {V U : V2} {g : Nat → Nat × Nat × Nat}
theorem all_x {recC : Nat → V2 → Nat → Int32 → Option (Int32 × V2)} {f : Nat} {o x : Int32} : lX5_readAllOf_8 recC n r o (f + 1) V (nI 0) x = some (V, nI 0) := by
  unfold lX5_readAllOf_8
  rw [if_pos (show nI 0 = (0 : Int32) from rfl)]
  split <;> rfl
theorem all_y {recM : Nat → V2 → Nat → Option V2} {f : Nat} (h10 : U b 10 = nI 1) : lX9_allHere_4 recM n b (f + 1) U = some U := by
  unfold lX9_allHere_4
  rw [h10, if_neg (show ¬ nI 1 = (0 : Int32) by decide)]
theorem all_w {recM : Nat → V2 → Nat → Option V2} (hn : 1000 ≤ n) (h10 : U b 10 = nI 1) : pX9_allHere recM n U b = some U := by
  obtain ⟨f, hf⟩ : ∃ g, n = g + 1 := ⟨n - 1, by omega⟩
  unfold pX9_allHere
  rw [one_w hn h10, o_b, hf, all_y h10, o_b]
theorem all_l (hn : 1000 ≤ n) (hB : TB tz tp) {o : Nat} {recC : Nat → V2 → Nat → Int32 → Option (Int32 × V2)} {recM : Nat → V2 → Nat → Option V2} (hr : Rc n r b tz tp bg o recC recM) (ho3 : o ≤ 3) (hd : d + 2 * (3 - o) + 2 ≤ 9) {V0 U0 : V2} {p0 : Nat} (hU0 : U0 b 11 = nI o) : ∀ k p V U m1 g1 c f f', p + k = tz → k < f → k < f' → c + 1 ≤ p → Gd r b tz tp bg V U p m1 g1 → FV r V0 V → FU b bg U0 U → p0 + 2 * m1 + 1 ≤ p + 2 * m → m ≤ m1 → (∀ j, j < m → g1 j = g j) → pdB g1 d m (m1 - m) (d + 1) → Res r b tz tp bg d (d + 1) V0 U0 p0 m g ((lX5_readAllOf_8 recC n r (nI o) f V (nI 1) (nI c)).bind fun w10 => if isb w10.2 then some (w10.2, w10.1) else none) ((lX9_allHere_4 recM n b f' U).bind fun w8 => some w8) := by
  have hz := hB.1
  have i1 : isb (nI 1) = true := by decide
  have i0 : isb (nI 0) = true := by decide
  intro k
  induction k using Nat.strongRecOn with
  | _ k ih =>
  intro p V U m1 g1 c f f' hk hf hf' hc h fv fu e1 e2 e3 e4
  obtain ⟨f, rfl⟩ : ∃ g, f = g + 1 := ⟨f - 1, by omega⟩
  obtain ⟨f', rfl⟩ : ∃ g, f' = g + 1 := ⟨f' - 1, by omega⟩
  obtain ⟨a1, a2, a3, a4, a5, a6, a7, a8⟩ := id h
  have w18 := wA_le (tyL tz tp p)
  have cw := c_atW a3.2.2.2 w18 (a := 16) (a' := 16) rfl (by omega)
  have mw := m_w3 hB a2 a6 a4 (a := 97) (c := 110) (d := 100) (l' := 3) (a' := 97) (c' := 110) (d' := 100) (e' := 100) rfl rfl rfl rfl rfl (by decide)
  have n200 : ¬ (200 : Int32) ≤ nI c := nI_ge (a := c) (b := 200) (by omega) (by omega)
  unfold lX5_readAllOf_8 lX9_allHere_4
  rw [if_neg n200, if_neg (show ¬ nI 1 = (0 : Int32) by decide), if_pos (show U b 10 = 0 from a5), mw, o_b]
  by_cases q : wA (tyL tz tp p) = 17
  · have tt := (w_tt (tp := tp) a6 (by omega)).1
    have t2 := (tt_le (tp := tp) a6).2.1
    obtain ⟨V1, U1, x1, x2, -, h1, x3, x4⟩ := gd_go hn hB h
    have u11 : U1 b 11 = nI o := by rw [x4.2.1 11 (by omega), fu.2.1 11 (by omega)]; exact hU0
    obtain ⟨x, V2', U2, y1, y2, y3, y4, hh⟩ := one_ok (d := d + 1) hn hB hr h1 u11 ho3 (by omega)
    rw [if_pos (cw.mpr q), if_pos ((wA_17 _).mp q), if_neg (show ¬ nI 1 = (0 : Int32) by decide), x1, x2, o_b, o_b, y1, y2, o_b, o_b]
    rcases hh with ⟨e, p', m', g', k1, k2, k3, k4, k5⟩ | ⟨e, hb⟩
    · subst e
      have p2 := k1.2.2.2.2.2.1
      obtain ⟨V4, U4, s1, s2, s3, s4, s5, s6⟩ := add_ok k1 (by omega) (by omega) (op := 3) (a := 0) (c := 0) (e := 4) (op' := 3) (a' := 0) (c' := 0) (e' := 4) rfl rfl rfl rfl rfl
      dsimp only
      rw [s1, s2, o_b, o_b]
      simp only [letv]
      rw [show nI c + 1 = nI (c + 1) from e_add c 1]
      refine ih (tz - p') (by omega) p' V4 U4 (m' + 1) _ (c + 1) f f' (by omega) (by omega) (by omega) (by omega) s5 (((fv.tr x3).tr y3).tr s3) (((fu.tr x4).tr y4).tr s4) (by omega) (by omega) (fun j hj => by rw [if_neg (by omega), k4 j (by omega)]; exact e3 j hj) ?_
      rw [show m' + 1 - m = (m1 - m) + ((m' - m1) + (0 + 1)) by omega]
      refine pdB_app (d1 := d + 1) _ _ _ _ (pdB_congr _ _ _ (fun i h1 h2 => by rw [if_neg (by omega)]; exact k4 i (by omega)) e4) ?_
      rw [show m + (m1 - m) = m1 by omega]
      refine pdB_app (d1 := d + 1 + 1) _ _ _ _ (pdB_congr _ _ _ (fun i h1 h2 => by rw [if_neg (by omega)]) k5) ?_
      rw [show m1 + (m' - m1) = m' by omega]
      unfold pdB
      rw [if_pos rfl]
      exact ⟨by decide, by decide, by decide, show d + 1 + 1 - 1 ≤ 9 by omega, show d + 1 + 1 - 1 = d + 1 by omega⟩
    · subst e
      obtain ⟨V4, s1, s2, s3, s4⟩ := add_bad hb (op := 3) (a := 0) (c := 0)
      have s2' : pX9_steps U2 b 4 0 0 = some U2 := by
        unfold pX9_steps
        rw [hb.1, if_neg (show ¬ nI 1 = (0 : Int32) by decide)]
      dsimp only
      rw [s1, s2', o_b, o_b]
      simp only [letv]
      rw [show nI c + 1 = nI (c + 1) from e_add c 1]
      obtain ⟨f, rfl⟩ : ∃ g, f = g + 1 := ⟨f - 1, by omega⟩
      obtain ⟨f', rfl⟩ : ∃ g, f' = g + 1 := ⟨f' - 1, by omega⟩
      rw [all_x, all_y hb.1, o_b, o_b]
      exact ⟨0, V4, U2, by rw [if_pos i0], rfl, ((fv.tr x3).tr y3).tr s3, (fu.tr x4).tr y4, Or.inr ⟨rfl, s4⟩⟩
  · rw [if_neg (fun e => q (cw.mp e)), if_neg (fun e => q ((wA_17 _).mpr e)), if_pos (show nI 0 = (0 : Int32) from rfl), o_b, o_b]
    exact ⟨1, V, U, by rw [if_pos i1], rfl, fv, fu, Or.inl ⟨rfl, p, m1, g1, h, e1, e2, e3, e4⟩⟩
theorem all_ok (hn : 1000 ≤ n) (hB : TB tz tp) {o : Nat} {recC : Nat → V2 → Nat → Int32 → Option (Int32 × V2)} {recM : Nat → V2 → Nat → Option V2} (hr : Rc n r b tz tp bg o recC recM) (h : Gd r b tz tp bg V U p m g) (ho : U b 11 = nI o) (ho3 : o ≤ 3) (hd : d + 2 * (3 - o) + 2 ≤ 9) : Res r b tz tp bg d (d + 1) V U p m g (pX5_readAllOf recC n V r (nI o)) (pX9_allHere recM n U b) := by
  have hz := hB.1
  have i0 : isb (nI 0) = true := by decide
  unfold pX5_readAllOf pX9_allHere
  obtain ⟨x, V1, U1, y1, y2, y3, y4, hh⟩ := one_ok (d := d) hn hB hr h ho ho3 (by omega)
  rw [y1, y2, o_b, o_b]
  rcases hh with ⟨e, p', m', g', k1, k2, k3, k4, k5⟩ | ⟨e, hb⟩
  · subst e
    have p2 := k1.2.2.2.2.2.1
    exact all_l hn hB hr ho3 hd ho (tz - p') p' V1 U1 m' g' 0 n n (by omega) (by omega) (by omega) (by omega) k1 y3 y4 k2 k3 k4 k5
  · subst e
    obtain ⟨f, rfl⟩ : ∃ g, n = g + 1 := ⟨n - 1, by omega⟩
    dsimp only
    rw [all_x, all_y hb.1, o_b, o_b]
    exact ⟨0, V1, U1, by rw [if_pos i0], rfl, y3, y4, Or.inr ⟨rfl, hb⟩⟩
theorem cond_x {recC : Nat → V2 → Nat → Int32 → Option (Int32 × V2)} {f : Nat} {o x : Int32} : lX5_readCondition_8 recC n r o (f + 1) V (nI 0) x = some (V, nI 0) := by
  unfold lX5_readCondition_8
  rw [if_pos (show nI 0 = (0 : Int32) from rfl)]
  split <;> rfl
theorem cond_y {recM : Nat → V2 → Nat → Option V2} {f : Nat} (h10 : U b 10 = nI 1) : lX9_condHere_4 recM n b (f + 1) U = some U := by
  unfold lX9_condHere_4
  rw [h10, if_neg (show ¬ nI 1 = (0 : Int32) by decide)]
theorem cond_w {recM : Nat → V2 → Nat → Option V2} (hn : 1000 ≤ n) (h10 : U b 10 = nI 1) : fX9_condHere recM n U b = some U := by
  obtain ⟨f, hf⟩ : ∃ g, n = g + 1 := ⟨n - 1, by omega⟩
  unfold fX9_condHere
  rw [all_w hn h10, o_b, hf, cond_y h10, o_b]
theorem cond_l (hn : 1000 ≤ n) (hB : TB tz tp) {o : Nat} {recC : Nat → V2 → Nat → Int32 → Option (Int32 × V2)} {recM : Nat → V2 → Nat → Option V2} (hr : Rc n r b tz tp bg o recC recM) (ho3 : o ≤ 3) (hd : d + 2 * (3 - o) + 3 ≤ 9) {V0 U0 : V2} {p0 : Nat} (hU0 : U0 b 11 = nI o) : ∀ k p V U m1 g1 c f f', p + k = tz → k < f → k < f' → c + 1 ≤ p → Gd r b tz tp bg V U p m1 g1 → FV r V0 V → FU b bg U0 U → p0 + 2 * m1 + 1 ≤ p + 2 * m → m ≤ m1 → (∀ j, j < m → g1 j = g j) → pdB g1 d m (m1 - m) (d + 1) → Res r b tz tp bg d (d + 1) V0 U0 p0 m g ((lX5_readCondition_8 recC n r (nI o) f V (nI 1) (nI c)).bind fun w10 => if isb w10.2 then some (w10.2, w10.1) else none) ((lX9_condHere_4 recM n b f' U).bind fun w8 => some w8) := by
  have hz := hB.1
  have i1 : isb (nI 1) = true := by decide
  have i0 : isb (nI 0) = true := by decide
  intro k
  induction k using Nat.strongRecOn with
  | _ k ih =>
  intro p V U m1 g1 c f f' hk hf hf' hc h fv fu e1 e2 e3 e4
  obtain ⟨f, rfl⟩ : ∃ g, f = g + 1 := ⟨f - 1, by omega⟩
  obtain ⟨f', rfl⟩ : ∃ g, f' = g + 1 := ⟨f' - 1, by omega⟩
  obtain ⟨a1, a2, a3, a4, a5, a6, a7, a8⟩ := id h
  have w18 := wA_le (tyL tz tp p)
  have cw := c_atW a3.2.2.2 w18 (a := 15) (a' := 15) rfl (by omega)
  have mw := m_two hB a2 a6 a4 (a := 111) (c := 114) (a' := 111) (c' := 114) rfl rfl (by decide)
  have n200 : ¬ (200 : Int32) ≤ nI c := nI_ge (a := c) (b := 200) (by omega) (by omega)
  unfold lX5_readCondition_8 lX9_condHere_4
  rw [if_neg n200, if_neg (show ¬ nI 1 = (0 : Int32) by decide), if_pos (show U b 10 = 0 from a5), mw, o_b]
  by_cases q : wA (tyL tz tp p) = 16
  · have tt := (w_tt (tp := tp) a6 (by omega)).1
    have t2 := (tt_le (tp := tp) a6).2.1
    obtain ⟨V1, U1, x1, x2, -, h1, x3, x4⟩ := gd_go hn hB h
    have u11 : U1 b 11 = nI o := by rw [x4.2.1 11 (by omega), fu.2.1 11 (by omega)]; exact hU0
    obtain ⟨x, V2', U2, y1, y2, y3, y4, hh⟩ := all_ok (d := d + 1) hn hB hr h1 u11 ho3 (by omega)
    rw [if_pos (cw.mpr q), if_pos ((wA_16 _).mp q), if_neg (show ¬ nI 1 = (0 : Int32) by decide), x1, x2, o_b, o_b, y1, y2, o_b, o_b]
    rcases hh with ⟨e, p', m', g', k1, k2, k3, k4, k5⟩ | ⟨e, hb⟩
    · subst e
      have p2 := k1.2.2.2.2.2.1
      obtain ⟨V4, U4, s1, s2, s3, s4, s5, s6⟩ := add_ok k1 (by omega) (by omega) (op := 4) (a := 0) (c := 0) (e := 5) (op' := 4) (a' := 0) (c' := 0) (e' := 5) rfl rfl rfl rfl rfl
      dsimp only
      rw [s1, s2, o_b, o_b]
      simp only [letv]
      rw [show nI c + 1 = nI (c + 1) from e_add c 1]
      refine ih (tz - p') (by omega) p' V4 U4 (m' + 1) _ (c + 1) f f' (by omega) (by omega) (by omega) (by omega) s5 (((fv.tr x3).tr y3).tr s3) (((fu.tr x4).tr y4).tr s4) (by omega) (by omega) (fun j hj => by rw [if_neg (by omega), k4 j (by omega)]; exact e3 j hj) ?_
      rw [show m' + 1 - m = (m1 - m) + ((m' - m1) + (0 + 1)) by omega]
      refine pdB_app (d1 := d + 1) _ _ _ _ (pdB_congr _ _ _ (fun i h1 h2 => by rw [if_neg (by omega)]; exact k4 i (by omega)) e4) ?_
      rw [show m + (m1 - m) = m1 by omega]
      refine pdB_app (d1 := d + 1 + 1) _ _ _ _ (pdB_congr _ _ _ (fun i h1 h2 => by rw [if_neg (by omega)]) k5) ?_
      rw [show m1 + (m' - m1) = m' by omega]
      unfold pdB
      rw [if_pos rfl]
      exact ⟨by decide, by decide, by decide, show d + 1 + 1 - 1 ≤ 9 by omega, show d + 1 + 1 - 1 = d + 1 by omega⟩
    · subst e
      obtain ⟨V4, s1, s2, s3, s4⟩ := add_bad hb (op := 4) (a := 0) (c := 0)
      have s2' : pX9_steps U2 b 5 0 0 = some U2 := by
        unfold pX9_steps
        rw [hb.1, if_neg (show ¬ nI 1 = (0 : Int32) by decide)]
      dsimp only
      rw [s1, s2', o_b, o_b]
      simp only [letv]
      rw [show nI c + 1 = nI (c + 1) from e_add c 1]
      obtain ⟨f, rfl⟩ : ∃ g, f = g + 1 := ⟨f - 1, by omega⟩
      obtain ⟨f', rfl⟩ : ∃ g, f' = g + 1 := ⟨f' - 1, by omega⟩
      rw [cond_x, cond_y hb.1, o_b, o_b]
      exact ⟨0, V4, U2, by rw [if_pos i0], rfl, ((fv.tr x3).tr y3).tr s3, (fu.tr x4).tr y4, Or.inr ⟨rfl, s4⟩⟩
  · rw [if_neg (fun e => q (cw.mp e)), if_neg (fun e => q ((wA_16 _).mpr e)), if_pos (show nI 0 = (0 : Int32) from rfl), o_b, o_b]
    exact ⟨1, V, U, by rw [if_pos i1], rfl, fv, fu, Or.inl ⟨rfl, p, m1, g1, h, e1, e2, e3, e4⟩⟩
theorem cond_ok (hn : 1000 ≤ n) (hB : TB tz tp) {o : Nat} {recC : Nat → V2 → Nat → Int32 → Option (Int32 × V2)} {recM : Nat → V2 → Nat → Option V2} (hr : Rc n r b tz tp bg o recC recM) (h : Gd r b tz tp bg V U p m g) (ho : U b 11 = nI o) (ho3 : o ≤ 3) (hd : d + 2 * (3 - o) + 3 ≤ 9) : Res r b tz tp bg d (d + 1) V U p m g (fX5_readCondition recC n V r (nI o)) (fX9_condHere recM n U b) := by
  have hz := hB.1
  have i0 : isb (nI 0) = true := by decide
  unfold fX5_readCondition fX9_condHere
  obtain ⟨x, V1, U1, y1, y2, y3, y4, hh⟩ := all_ok (d := d) hn hB hr h ho ho3 (by omega)
  rw [y1, y2, o_b, o_b]
  rcases hh with ⟨e, p', m', g', k1, k2, k3, k4, k5⟩ | ⟨e, hb⟩
  · subst e
    have p2 := k1.2.2.2.2.2.1
    exact cond_l hn hB hr ho3 hd ho (tz - p') p' V1 U1 m' g' 0 n n (by omega) (by omega) (by omega) (by omega) k1 y3 y4 k2 k3 k4 k5
  · subst e
    obtain ⟨f, rfl⟩ : ∃ g, n = g + 1 := ⟨n - 1, by omega⟩
    dsimp only
    rw [cond_x, cond_y hb.1, o_b, o_b]
    exact ⟨0, V1, U1, by rw [if_pos i0], rfl, y3, y4, Or.inr ⟨rfl, hb⟩⟩
theorem rec_w (hn : 1000 ≤ n) (h10 : U b 10 = nI 1) (dM : Nat) : pX9_condHere (dM + 1) n U b = some U := cond_w hn h10
theorem rec_ok (hn : 1000 ≤ n) (hB : TB tz tp) : ∀ de o dC dM, o + de = 3 → de < dC → de + 1 < dM → ∀ V U p m g d, Gd r b tz tp bg V U p m g → U b 11 = nI o → d + 2 * (3 - o) + 3 ≤ 9 → Res r b tz tp bg d (d + 1) V U p m g (pX5_readCondition dC n V r (nI o)) (pX9_condHere dM n U b) := by
  intro de
  induction de with
  | zero =>
    intro o dC dM h1 h2 h3 V U p m g d h ho hd
    obtain ⟨dC, rfl⟩ : ∃ e, dC = e + 1 := ⟨dC - 1, by omega⟩
    obtain ⟨dM, rfl⟩ : ∃ e, dM = e + 1 + 1 := ⟨dM - 2, by omega⟩
    have hr : Rc n r b tz tp bg o (pX5_readCondition dC) (pX9_condHere (dM + 1)) := ⟨fun q => by omega, fun U hU => rec_w hn hU dM⟩
    exact cond_ok hn hB hr h ho (by omega) hd
  | succ de ih =>
    intro o dC dM h1 h2 h3 V U p m g d h ho hd
    obtain ⟨dC, rfl⟩ : ∃ e, dC = e + 1 := ⟨dC - 1, by omega⟩
    obtain ⟨dM, rfl⟩ : ∃ e, dM = e + 1 + 1 := ⟨dM - 2, by omega⟩
    have hr : Rc n r b tz tp bg o (pX5_readCondition dC) (pX9_condHere (dM + 1)) := ⟨fun q V U p m g d h ho hd => ih (o + 1) dC (dM + 1) (by omega) (by omega) (by omega) V U p m g d h ho hd, fun U hU => rec_w hn hU dM⟩
    exact cond_ok hn hB hr h ho (by omega) hd
end X8
