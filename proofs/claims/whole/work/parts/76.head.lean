/-! a rule from its KIND on; all of them -/
section Y1
variable {n r b z tz p bg m i : Nat} {tp : Nat → Nat} {V U : V2} {R : R2} {G : G2} {g : Nat → Nat × Nat × Nat}
theorem kd_le (w : Nat) : kdA w ≤ 6 := by unfold kdA; split <;> omega
theorem rule_ok (hn : 1000 ≤ n) (hB : TB tz tp) (hrz : r = z + 65) {rk rw rm : Nat → Nat} {rs : Nat → Nat → Nat × Nat × Nat} (hW : WfG G) (hX : GX G) (hz93 : z + 93 ≤ G.2.2.2) (hi : i ≤ 8) (hMk : Mk r b z G V R U i bg rk rw rm rs) (h : Hd r b tz tp V U p bg) : RR n r b z tz tp G V R U p i rk rw rm rs (pX5_readRule n G V R r) (pX9_ruleHere n U b) := by
  have hz := hB.1
  obtain ⟨a1, a2, a3, a4, a5, a6, a7, a8⟩ := id h
  have w18 := wA_le (tyL tz tp p)
  have cw := c_isW a3.2.2.2 w18 (a := 0) (c := 5) (a' := 0) (c' := 5) rfl rfl (by omega)
  have k6 := kd_le (wA (tyL tz tp p))
  have l5 : ldI 572 (U (b + 1)) 5 = some (nI i) := by
    have : ldI 572 (U (b + 1)) 5 = some (U (b + 1) 5) := e_ld (k := 5) (by omega) (by omega)
    rw [this, hMk.2.1]
  have w10 : up2 U b 10 (nI 1) b 10 = nI 1 := w_same
  have tm : TaM b tz tp (up2 U b 10 (nI 1)) := a2.up (by omega)
  have tT : ToM b tz tp (up2 U b 10 (nI 1)) p := by
    unfold ToM
    rw [w_idx (by omega), w_idx (by omega), w_idx (by omega), w_idx (by omega)]
    exact a4
  have fl : Flt r b tz tp V (up2 U b 10 (nI 1)) := ⟨w10, p, a6, a3.1, tT⟩
  have n0 : pX9_needs n U b 0 = some (up2 U b 10 (nI 1)) := m_needs0 a5
  rw [cl_eq, rl_eq]
  unfold cl0 rl0
  rw [cw, o_b, l5, o_b, m_kind hB a2 a6 a4]
  simp only [letv]
  rw [o_b]
  by_cases q : kdA (wA (tyL tz tp p)) = 0
  · have q' : ¬ (0 + 1 ≤ wA (tyL tz tp p) ∧ wA (tyL tz tp p) ≤ 5 + 1) := fun e => by
      unfold kdA at q
      rw [if_pos (by omega)] at q
      omega
    rw [if_neg q', if_pos (show nI 0 = (0 : Int32) from rfl), q, wn_0, if_pos (show -(nI 1) < (0 : Int32) by decide), o_b, n0, o_b, rl1_w hn hB tm a6 tT w10]
    exact ⟨0, V, R, G, _, rfl, rfl, FV.rf.f, (fu_10 (bg := bg)).f, Or.inr ⟨rfl, rfl, rfl, fl⟩⟩
  have q' : 0 + 1 ≤ wA (tyL tz tp p) ∧ wA (tyL tz tp p) ≤ 5 + 1 := by
    unfold kdA at q
    split at q
    · omega
    · exact absurd rfl q
  obtain ⟨kd, hkd⟩ : ∃ kd, kdA (wA (tyL tz tp p)) = kd + 1 := ⟨kdA (wA (tyL tz tp p)) - 1, by omega⟩
  have hw : wA (tyL tz tp p) = kd + 1 := by
    unfold kdA at hkd
    rw [if_pos (by omega)] at hkd
    omega
  rw [if_pos q', if_neg (show ¬ nI 1 = (0 : Int32) by decide), hMk.1, hkd, wn_s, if_neg (show ¬ nI kd < (0 : Int32) from nI_nlt (a := kd) (b := 0) (by omega) (by omega))]
  by_cases q8 : i < 8
  · rw [if_pos (show nI i < (8 : Int32) from nI_lt (a := i) (b := 8) q8 (by omega)), o_b, if_neg (show ¬ (8 : Int32) ≤ nI i from nI_ge (a := i) (b := 8) q8 (by omega)), o_b]
    have x2 : V r 5 - 0 = nI kd := by
      rw [a3.2.2.2, hw, wn_s, show (0 : Int32) = nI 0 from rfl, e_sub (by omega), Nat.sub_zero]
    have f2 := tt_le (tp := tp) a6
    have pt := (w_tt (tp := tp) a6 (by omega)).1
    obtain ⟨V1, v1, v2, v3, v4⟩ := c_goOn hn hB a1 f2.2.1 a3.2.1
    obtain ⟨U1, u1, u2, u3, u4⟩ := m_needs1 hn hB a2 f2.2.1 a4.2.1 a5
    have u1' : pX9_needs n U b 1 = some U1 := u1
    rw [x2, v1, u1', o_b, o_b]
    have fv : FV r V (up2 V1 r 7 (nI 0)) := ⟨fun x h1 h2 => by rw [w_row h1]; exact v3 x h1, fun k hk => by rw [w_idx (by omega)]; exact v4 k (by omega)⟩
    have fm : FM b U U1 := (fu_of (bg := bg) u3 u4).f
    have fu : ∀ k, k ≠ 7 → k < 122 + 3 * bg → U1 (b + 1) k = U (b + 1) k := fun k _ _ => by rw [u3 _ (by omega)]
    have h1 : Gd r b tz tp bg (up2 V1 r 7 (nI 0)) U1 (ttA tz tp p) 0 (fun _ => (0, 0, 0)) := by
      refine ⟨a1.fv fv, ⟨by rw [u4 5 (by omega)]; exact a2.1, fun j hj => by rw [u3 _ (by omega)]; exact a2.2 j hj⟩, ?_, u2, by rw [u4 10 (by omega)]; exact a5, f2.2.1, by omega, w_same, by rw [u3 _ (by omega)]; exact a8, fun j hj => by omega⟩
      unfold ToC
      rw [w_idx (by omega), w_idx (by omega), w_idx (by omega), w_idx (by omega)]
      exact v2
    obtain ⟨b1, b2, b3, b4, b5, b6, b7, b8⟩ := id h1
    have l7 : ldI 572 (U1 (b + 1)) 7 = some (nI bg) := by
      have : ldI 572 (U1 (b + 1)) 7 = some (U1 (b + 1) 7) := e_ld (k := 7) (by omega) (by omega)
      rw [this, u3 _ (by omega), a8]
    have x66 : (66 : Int32) + 4 * nI i = nI (66 + 4 * i) := by
      rw [show (66 : Int32) = nI 66 from rfl, show (4 : Int32) = nI 4 from rfl, e_mul, e_add]
    have w18' := wA_le (tyL tz tp (ttA tz tp p))
    have cw' := c_atW b3.2.2.2 w18' (a := 14) (a' := 14) rfl (by omega)
    have mw' := m_two hB b2 b6 b4 (a := 105) (c := 102) (a' := 105) (c' := 102) rfl rfl (by decide)
    have u10 : U1 b 10 = (0 : Int32) := b5
    unfold rl1
    rw [l7, o_b, if_pos u10, mw', o_b, x66]
    have z7 : up2 V1 r 7 (0 : Int32) = up2 V1 r 7 (nI 0) := rfl
    rw [z7]
    by_cases qi : wA (tyL tz tp (ttA tz tp p)) = 15
    · rw [if_pos (cw'.mpr qi), if_pos ((wA_15 _).mp qi), if_neg (show ¬ nI 1 = (0 : Int32) by decide)]
      obtain ⟨V2', U2, y1, y2, -, h2, y3, y4⟩ := gd_go hn hB h1
      have pt2 := (w_tt (tp := tp) b6 (by omega)).1
      obtain ⟨x, V3, U3, z1, z2, z3, z4, hh⟩ := rec_ok hn hB 3 0 6 6 rfl (by omega) (by omega) V2' (up2 U2 b 11 (nI 0)) _ 0 _ 0 (gd_11 h2) w_same (by omega)
      have z1' : pX5_readCondition 6 n V2' r 0 = some (nI x, V3) := z1
      have z2' : (letv (up2 U2 b 11 0) fun U11 => (pX9_condHere 6 n U11 b).bind fun q12 => some q12) = some U3 := by
        show (pX9_condHere 6 n (up2 U2 b 11 (nI 0)) b).bind _ = _
        rw [z2]
        rfl
      rw [y1, y2, o_b, o_b, z1', z2', o_b, o_b]
      have fv3 : FV r V V3 := (fv.tr y3).tr z3
      have fm11 : FM b U2 (up2 U2 b 11 (nI 0)) := ⟨fun y h1 _ => w_row h1, fun k hk => w_idx (by omega), fun k _ _ _ => by rw [w_row (by omega)]⟩
      have fm3 : FM b U U3 := ((fm.tr y4.f).tr fm11).tr z4.f
      have fu3 : ∀ k, k ≠ 7 → k < 122 + 3 * bg → U3 (b + 1) k = U (b + 1) k := fun k h1 h2 => by rw [z4.2.2 k h1 h2, w_row (by omega), y4.2.2 k h1 h2]; exact fu k h1 h2
      rcases hh with ⟨e, p', m', g', k1, k2, k3, k4, k5⟩ | ⟨e, hb⟩
      · subst e
        dsimp only
        rw [if_neg (show ¬ nI 1 = (0 : Int32) by decide)]
        exact tail_ok hn hB hrz hW hX hz93 q8 hMk k1 fv3 fu3 fm3 (by omega) (pdB_pr _ _ _ k5) (by omega) rfl rfl rfl
      · subst e
        dsimp only
        rw [if_pos (show nI 0 = (0 : Int32) from rfl)]
        obtain ⟨q10, ⟨q4, hq4, hv4, hT4⟩, -⟩ := id hb
        have tm3 : TaM b tz tp U3 := (h2.2.1.up (k := 11) (v := nI 0) (by omega)).fu z4
        rw [rl2_w hn hB tm3 hq4 hT4 q10]
        exact ⟨0, V3, R, G, U3, rfl, rfl, fv3.f, fm3, Or.inr ⟨rfl, rfl, rfl, hb.flt⟩⟩
    · rw [if_neg (fun e => qi (cw'.mp e)), if_neg (fun e => qi ((wA_15 _).mpr e)), if_pos (show nI 0 = (0 : Int32) from rfl), o_b]
      exact tail_ok hn hB hrz hW hX hz93 q8 hMk h1 fv fu fm (by omega) trivial (by omega) rfl rfl rfl
  · have i8 : i = 8 := by omega
    subst i8
    rw [if_neg (show ¬ nI 8 < (8 : Int32) by decide), o_b, if_pos (show (8 : Int32) ≤ nI 8 by decide), o_b, n0, o_b, rl1_w hn hB tm a6 tT w10]
    exact ⟨0, V, R, G, _, rfl, rfl, FV.rf.f, (fu_10 (bg := bg)).f, Or.inr ⟨rfl, rfl, rfl, fl⟩⟩
theorem FR.tr {V' V'' : V2} {R' R'' : R2} {G' : G2} (h : FR r G V V' R R') (h2 : FR r G' V' V'' R' R'') (hg : G.2.2.2 ≤ G'.2.2.2) : FR r G V V'' R R'' := ⟨fun x a c d => (h2.1 x (by omega) c d).trans (h.1 x a c d), fun k hk => (h2.2.1 k hk).trans (h.2.1 k hk), fun x a c => (h2.2.2 x (by omega) c).trans (h.2.2 x a c)⟩
theorem Gw.rf (hW : WfG G) (hX : GX G) (hz93 : z + 93 ≤ G.2.2.2) : Gw z G G := ⟨hW, hX, hz93, Nat.le_refl _, fun _ _ q => q, fun _ _ _ => rfl⟩
theorem ll_x {f : Nat} {x : Int32} : lX8_rules_11 n z (f + 1) V R G (nI 0) x = some (V, R, G, nI 0) := by
  unfold lX8_rules_11
  rw [if_pos (show nI 0 = (0 : Int32) from rfl)]
  split <;> rfl
theorem rules_l (hn : 1000 ≤ n) (hB : TB tz tp) : ∀ k p V U R G i bg rk rw rm rs f f', p + k = tz → k < f' → i + f = 10 → i ≤ 8 → WfG G → GX G → z + 93 ≤ G.2.2.2 → Mk (z + 65) b z G V R U i bg rk rw rm rs → Hd (z + 65) b tz tp V U p bg → ∃ V' R' G' U' s, lX8_rules_11 n z f V R G (nI 1) (nI i) = some (V', R', G', nI s) ∧ lX9_rules_56 n b f' U = some U' ∧ FR (z + 65) G V V' R R' ∧ FM b U U' ∧ Gw z G G' ∧ ((s = 1 ∧ U' b 10 = nI 0 ∧ ∃ i' bg' rk' rw' rm' rs', i' ≤ 8 ∧ bg' ≤ 100 ∧ Mk (z + 65) b z G' V' R' U' i' bg' rk' rw' rm' rs') ∨ (s = 0 ∧ Flt (z + 65) b tz tp V' U')) := by
  have hz := hB.1
  intro k
  induction k using Nat.strongRecOn with
  | _ k ih =>
  intro p V U R G i bg rk rw rm rs f f' hk hf' hif hi hW hX hz93 hMk h
  obtain ⟨f, rfl⟩ : ∃ g, f = g + 1 := ⟨f - 1, by omega⟩
  obtain ⟨f', rfl⟩ : ∃ g, f' = g + 1 := ⟨f' - 1, by omega⟩
  obtain ⟨a1, a2, a3, a4, a5, a6, a7, a8⟩ := id h
  have s3 : tkA tz tp p ≤ 3 := tc_3 _ _ _
  unfold lX8_rules_11 lX9_rules_56 pX5_isAtEnd
  rw [if_neg (show ¬ (8 : Int32) < nI i from nI_nlt (a := 8) (b := i) (by omega) (by omega)), if_neg (show ¬ nI 1 = (0 : Int32) by decide), if_pos (show U b 10 = 0 from a5), a3.2.2.1, a4.2.2.1]
  by_cases q : tkA tz tp p = 0
  · rw [q, if_pos (show nI 0 = (0 : Int32) from rfl), if_pos (show nI 0 = (0 : Int32) from rfl), o_b, if_neg (show ¬ (1 : Int32) = 0 by decide)]
    exact ⟨V, R, G, U, 1, rfl, rfl, FV.rf.f, FM.rf, Gw.rf hW hX hz93, Or.inl ⟨rfl, a5, i, bg, rk, rw, rm, rs, hi, by omega, hMk⟩⟩
  · have nq : ¬ nI (tkA tz tp p) = (0 : Int32) := fun e => q ((nI_eq (a := tkA tz tp p) (b := 0) (by omega) (by omega)).mp e)
    rw [if_neg nq, if_neg nq, o_b, if_pos (show (0 : Int32) = 0 from rfl)]
    obtain ⟨x, V1, R1, G1, U1, e1, e2, e3, e4, hh⟩ := rule_ok hn hB rfl hW hX hz93 hi hMk h
    rw [e1, e2, o_b, o_b]
    simp only [letv]
    rw [show nI i + 1 = nI (i + 1) from e_add i 1]
    rcases hh with ⟨e, p', bg', rk', rw', rm', rs', k1, k2, k3, k4, k5⟩ | ⟨e, eR, eG, hf⟩
    · subst e
      have p2 := k1.2.2.2.2.2.1
      obtain ⟨V', R', G', U', s, y1, y2, y3, y4, y5, y6⟩ := ih (tz - p') (by omega) p' V1 U1 R1 G1 (i + 1) bg' rk' rw' rm' rs' f f' (by omega) (by omega) (by omega) (by omega) k4.1 k4.2.1 k4.2.2.1 k2 k1
      exact ⟨V', R', G', U', s, y1, y2, e3.tr y3 k4.2.2.2.1, e4.tr y4, k4.tr y5, y6⟩
    · subst e eR eG
      obtain ⟨f, rfl⟩ : ∃ g, f = g + 1 := ⟨f - 1, by omega⟩
      have f2 := (tt_le (tp := tp) a6).2.2 q
      have f3 := (tt_le (tp := tp) a6).2.1
      have f4 := (tf_le (tp := tp) a6).1
      obtain ⟨f', rfl⟩ : ∃ g, f' = g + 1 := ⟨f' - 1, by omega⟩
      rw [ll_x]
      refine ⟨V1, R1, G1, U1, 0, rfl, ?_, e3, e4, Gw.rf hW hX hz93, Or.inr ⟨rfl, hf⟩⟩
      unfold lX9_rules_56
      rw [if_neg (show ¬ U1 b 10 = (0 : Int32) by rw [hf.1]; decide)]
end Y1
