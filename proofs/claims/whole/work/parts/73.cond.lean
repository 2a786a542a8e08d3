/-! conditions: both read the same, or fail at the same place -/
theorem o_e {A : Option (Int32 × V2)} : (A.bind fun q => some (q.1, q.2)) = A := by cases A <;> rfl
theorem o_e1 {A : Option V2} : (A.bind fun q => some q) = A := by cases A <;> rfl
section X7
variable {n r b tz p bg m d : Nat} {tp : Nat → Nat} {V U : V2} {g : Nat → Nat × Nat × Nat}
theorem bad_of {V' U' : V2} (h : Gd r b tz tp bg V U p m g) (hz : tz ≤ 200) (h10 : U' b 10 = nI 1) (hU : ∀ k, k ≠ 10 → U' b k = U b k) (h2 : V' r 2 = V r 2) (h7 : V' r 7 = V r 7) : Bad r b tz tp V' U' := by
  obtain ⟨a1, a2, a3, a4, a5, a6, a7, c1, c2, c3⟩ := h
  refine ⟨h10, ⟨p, a6, by rw [h2]; exact a3.1, ?_⟩, m, by omega, by rw [h7]; exact c1⟩
  unfold ToM
  rw [hU 6 (by omega), hU 7 (by omega), hU 8 (by omega), hU 9 (by omega)]
  exact a4
theorem fu_10 {v : Int32} : FU b bg U (up2 U b 10 v) := ⟨fun y h1 _ => w_row h1, fun k hk => w_idx (by omega), fun i _ _ => by rw [w_row (by omega)]⟩
theorem bad0 (h : Gd r b tz tp bg V U p m g) (hz : tz ≤ 200) : Bad r b tz tp V (up2 U b 10 (nI 1)) := bad_of h hz w_same (fun k hk => w_idx hk) rfl rfl
theorem cmp_ok (hn : 1000 ≤ n) (hB : TB tz tp) (h : Gd r b tz tp bg V U p m g) (hd : d + 1 ≤ 9) : Res r b tz tp bg d (d + 1) V U p m g (pX5_readComparison n V r) (pX9_comparesHere n U b) := by
  have hz := hB.1
  obtain ⟨a1, a2, a3, a4, a5, a6, a7, a8⟩ := id h
  obtain ⟨v1, v2, -⟩ := c_value hn hB a1 a6 a3
  unfold pX5_readComparison pX9_comparesHere
  rw [v1, o_b]
  by_cases q1 : vhA tz tp p = 0
  · -- no value
    obtain ⟨j, e⟩ := m_val0 hn hB a2 a6 a4 a5 q1
    have hb := bad0 h hz
    have w10 : up2 U b 10 (nI 1) b 10 = nI 1 := w_same
    have tm : TaM b tz tp (up2 U b 10 (nI 1)) := a2.up (by omega)
    obtain ⟨-, ⟨q, hq, -, hT⟩, -⟩ := id hb
    have g60 := m_sign hB tm hq hT (c := 60) (c' := 60) rfl (by omega)
    have g61 := m_sign hB tm hq hT (c := 61) (c' := 61) rfl (by omega)
    have g62 := m_sign hB tm hq hT (c := 62) (c' := 62) rfl (by omega)
    obtain ⟨j2, e2⟩ := m_valw hn hB tm hq hT w10
    have st : ∀ x y z, pX9_steps (up2 U b 10 (nI 1)) b x y z = some (up2 U b 10 (nI 1)) := fun x y z => by
      unfold pX9_steps
      rw [w10, if_neg (show ¬ nI 1 = (0 : Int32) by decide)]
    refine ⟨0, V, up2 U b 10 (nI 1), ?_, ?_, FV.rf, fu_10, Or.inr ⟨rfl, hb⟩⟩
    · rw [q1, wn_0, if_neg (show ¬ (0 : Int32) ≤ -(nI 1) by decide)]; rfl
    · rw [e]
      simp only [o_b, g60, g61, g62]
      rcases sg_01 tz tp q 60 with s | s <;> rcases sg_01 tz tp q 61 with s' | s' <;> rcases sg_01 tz tp q 62 with s'' | s'' <;> rw [s, s', s''] <;> simp only [o_b, show (nI 0 = (0 : Int32)) = True from eq_true rfl, show (nI 1 = (0 : Int32)) = False from eq_false (by decide), ↓reduceIte, m_needsw w10, e2, st]
  obtain ⟨U1, e1, e2, e3, e4⟩ := m_val1 hn hB a2 a6 a4 a5 q1
  obtain ⟨V1, x1, x2, x3, x4⟩ := c_goOn hn hB a1 (tt_le (tp := tp) a6).2.1 a3.2.1
  have p1 := vh_tt a6 q1
  have h1 := gd_mv h (by omega) (tt_le (tp := tp) a6).2.1 x2 e2 x3 x4 e3 e4
  obtain ⟨b1, b2, b3, b4, b5, b6, b7, b8⟩ := id h1
  rw [if_pos (show (0 : Int32) ≤ wnI (vhA tz tp p) by
    obtain ⟨w, hw⟩ : ∃ w, vhA tz tp p = w + 1 := ⟨vhA tz tp p - 1, by omega⟩
    rw [hw, wn_s]
    exact nI_le (a := 0) (b := w) (by omega) (by omega)), x1, o_b, e1]
  have k60 := c_sign hB b1 b6 b3 (c := 60) (c' := 60) rfl (by omega)
  have k61 := c_sign hB b1 b6 b3 (c := 61) (c' := 61) rfl (by omega)
  have k62 := c_sign hB b1 b6 b3 (c := 62) (c' := 62) rfl (by omega)
  have g60 := m_sign hB b2 b6 b4 (c := 60) (c' := 60) rfl (by omega)
  have g61 := m_sign hB b2 b6 b4 (c := 61) (c' := 61) rfl (by omega)
  have g62 := m_sign hB b2 b6 b4 (c := 62) (c' := 62) rfl (by omega)
  simp only [o_b, k60, k61, k62, g60, g61, g62]
  have n0 : (nI 0 = (0 : Int32)) = True := eq_true rfl
  have n1 : (nI 1 = (0 : Int32)) = False := eq_false (by decide)
  -- behind a sign
  have go : ∀ sg : Nat, sg ≤ 2 → sgA tz tp (ttA tz tp p) 60 = 1 ∨ sgA tz tp (ttA tz tp p) 61 = 1 ∨ sgA tz tp (ttA tz tp p) 62 = 1 → ∀ sg' : Int32, sg' = nI sg → Res r b tz tp bg d (d + 1) V U p m g ((pX5_goOn n V1 r).bind fun q7 => (pX5_valueHere n q7 r).bind fun q8 => if 0 ≤ q8 then ((pX5_goOn n q7 r).bind fun q9 => (pX5_addStep q9 r sg' (wnI (vhA tz tp p)) q8).bind fun q10 => some (1, q10)) else (some (0, q7))) ((pX9_needs n U1 b (nI 1)).bind fun q9 => (pX9_valueHere n q9 b).bind fun q10 => (pX9_steps q10.2 b sg' (nI (vhA tz tp p - 1)) q10.1).bind fun q11 => some q11) := by
    intro sg hsg hs sg' hsg'
    obtain ⟨V2, U2, y1, -, y2, h2, y3, y4⟩ := gd_go hn hB h1
    have p2 : ttA tz tp p + 1 ≤ ttA tz tp (ttA tz tp p) := by
      rcases hs with s | s | s <;> exact sg_tt b6 s
    obtain ⟨c1, c2, c3, c4, c5, c6, c7, c8⟩ := id h2
    obtain ⟨w1, w2, -⟩ := c_value hn hB c1 c6 c3
    rw [y1, y2, o_b, o_b, w1, o_b]
    by_cases q2 : vhA tz tp (ttA tz tp (ttA tz tp p)) = 0
    · obtain ⟨j, e⟩ := m_val0 hn hB c2 c6 c4 c5 q2
      refine ⟨0, V2, up2 U2 b 10 (nI 1), ?_, ?_, (fv_of x3 x4).tr y3, ((fu_of e3 e4).tr y4).tr fu_10, Or.inr ⟨rfl, bad0 h2 hz⟩⟩
      · rw [q2, wn_0, if_neg (show ¬ (0 : Int32) ≤ -(nI 1) by decide)]; rfl
      · rw [e, o_b]
        unfold pX9_steps
        rw [show (j, up2 U2 b 10 (nI 1)).2 b 10 = nI 1 from w_same, if_neg (show ¬ nI 1 = (0 : Int32) by decide)]
        rfl
    · obtain ⟨U3, z1, z2, z3, z4⟩ := m_val1 hn hB c2 c6 c4 c5 q2
      obtain ⟨V3, t1, t2, t3, t4⟩ := c_goOn hn hB c1 (tt_le (tp := tp) c6).2.1 c3.2.1
      have p3 := vh_tt c6 q2
      have hT := (tt_le (tp := tp) c6).2.1
      have h3 := gd_mv h2 (by omega) hT t2 z2 t3 t4 z3 z4
      obtain ⟨w, hw⟩ : ∃ w, vhA tz tp p = w + 1 := ⟨vhA tz tp p - 1, by omega⟩
      obtain ⟨w', hw'⟩ : ∃ w', vhA tz tp (ttA tz tp (ttA tz tp p)) = w' + 1 := ⟨vhA tz tp (ttA tz tp (ttA tz tp p)) - 1, by omega⟩
      obtain ⟨V4, U4, s1, s2, s3, s4, s5, s6⟩ := add_ok h3 (by omega) (by omega) (op := sg) (a := w) (c := w') (e := sg) hsg' (wn_s w) (wn_s w') hsg' (by unfold moA; rw [if_pos (by omega)])
      refine ⟨1, V4, U4, ?_, ?_, (((fv_of x3 x4).tr y3).tr (fv_of t3 t4)).tr s3, (((fu_of e3 e4).tr y4).tr (fu_of z3 z4)).tr s4, Or.inl ⟨rfl, _, _, _, s5, by omega, by omega, fun j hj => by rw [if_neg (by omega)], ?_⟩⟩
      · rw [if_pos (show (0 : Int32) ≤ wnI (vhA tz tp (ttA tz tp (ttA tz tp p))) by
          rw [hw', wn_s]
          exact nI_le (a := 0) (b := w') (by omega) (by omega)), t1, o_b, hw, hw', s1, o_b]
        rfl
      · rw [z1, o_b, hw, hw', Nat.add_sub_cancel, Nat.add_sub_cancel]
        have s2' : pX9_steps U3 b sg' (nI w) (nI w') = some U4 := s2
        show (pX9_steps U3 b sg' (nI w) (nI w')).bind _ = _
        rw [s2', o_b]
      · rw [show m + 1 - m = 0 + 1 by omega]
        have dp : dpA sg d = d + 1 := by unfold dpA; rw [if_pos (by omega)]
        unfold pdB
        rw [if_pos rfl]
        exact ⟨show sg ≤ 5 by omega, show w ≤ 10004 by omega, show w' ≤ 10004 by omega, by dsimp only; rw [dp]; omega, dp⟩
  have gz : sgA tz tp (ttA tz tp p) 60 = 0 → sgA tz tp (ttA tz tp p) 61 = 0 → sgA tz tp (ttA tz tp p) 62 = 0 → ∀ j : Int32, Res r b tz tp bg d (d + 1) V U p m g (some (0, V1)) ((pX9_needs n U1 b (nI 0)).bind fun q9 => (pX9_valueHere n q9 b).bind fun q10 => (pX9_steps q10.2 b j (nI (vhA tz tp p - 1)) q10.1).bind fun q11 => some q11) := by
    intro z1 z2 z3 j
    have w10 : up2 U1 b 10 (nI 1) b 10 = nI 1 := w_same
    have hb := bad0 h1 hz
    obtain ⟨-, ⟨q, hq, -, hT⟩, -⟩ := id hb
    obtain ⟨j2, e⟩ := m_valw hn hB (b2.up (k := 10) (v := nI 1) (by omega)) hq hT w10
    refine ⟨0, V1, up2 U1 b 10 (nI 1), rfl, ?_, fv_of x3 x4, (fu_of e3 e4).tr fu_10, Or.inr ⟨rfl, hb⟩⟩
    rw [m_needs0 b5, o_b, e, o_b]
    unfold pX9_steps
    rw [show (j2, up2 U1 b 10 (nI 1)).2 b 10 = nI 1 from w_same, if_neg (show ¬ nI 1 = (0 : Int32) by decide)]
    rfl
  have i2 : (0 : Int32) ≤ 2 := by decide
  have i1 : (0 : Int32) ≤ 1 := by decide
  have i0 : (0 : Int32) ≤ 0 := by decide
  have im : ¬ (0 : Int32) ≤ -1 := by decide
  rcases sg_01 tz tp (ttA tz tp p) 60 with s | s
  · rcases sg_01 tz tp (ttA tz tp p) 61 with s' | s'
    · rcases sg_01 tz tp (ttA tz tp p) 62 with s'' | s''
      · rw [s, s', s'']
        simp only [n0, n1, ↓reduceIte, o_b, im]
        exact gz s s' s'' 2
      · rw [s, s', s'']
        simp only [n0, n1, ↓reduceIte, o_b, i2]
        exact go 2 (by omega) (Or.inr (Or.inr s'')) 2 rfl
    · rw [s, s']
      simp only [n0, n1, ↓reduceIte, o_b, i1]
      exact go 1 (by omega) (Or.inr (Or.inl s')) 1 rfl
  · rw [s]
    simp only [n0, n1, ↓reduceIte, o_b, i0]
    exact go 0 (by omega) (Or.inl s) 0 rfl
/-- so many nots -/
theorem not_ok (hn : 1000 ≤ n) (hB : TB tz tp) : ∀ k p V U c f f', p + k = tz → k < f → k < f' → 3 * c ≤ p → Gd r b tz tp bg V U p m g → ∃ V' U' c' p', lX5_readOne_4 n r f V (nI (c % 2)) (nI c) = some (V', nI (c' % 2)) ∧ lX9_oneHere_2 n b f' U (nI c) = some (U', nI c') ∧ Gd r b tz tp bg V' U' p' m g ∧ p + 3 * c' ≤ p' + 3 * c ∧ c ≤ c' ∧ c' ≤ 200 ∧ FV r V V' ∧ FU b bg U U' := by
  have hz := hB.1
  intro k
  induction k using Nat.strongRecOn with
  | _ k ih =>
  intro p V U c f f' hk hf hf' hc h
  obtain ⟨f, rfl⟩ : ∃ g, f = g + 1 := ⟨f - 1, by omega⟩
  obtain ⟨f', rfl⟩ : ∃ g, f' = g + 1 := ⟨f' - 1, by omega⟩
  obtain ⟨a1, a2, a3, a4, a5, a6, a7, a8⟩ := id h
  have w18 := wA_le (tyL tz tp p)
  have cw := c_atW a3.2.2.2 w18 (a := 17) (a' := 17) rfl (by omega)
  have mw := m_w3 hB a2 a6 a4 (a := 110) (c := 111) (d := 116) (l' := 3) (a' := 110) (c' := 111) (d' := 116) (e' := 116) rfl rfl rfl rfl rfl (by decide)
  have n200 : ¬ (200 : Int32) ≤ nI c := nI_ge (a := c) (b := 200) (by omega) (by omega)
  unfold lX5_readOne_4 lX9_oneHere_2
  rw [if_neg n200, if_pos (show U b 10 = 0 from a5), mw, o_b]
  by_cases q : wA (tyL tz tp p) = 18
  · have tt := (w_tt a6 (by omega)).2 (Or.inr q)
    have t2 := (tt_le (tp := tp) a6).2.1
    obtain ⟨V1, U1, x1, x2, -, h1, x3, x4⟩ := gd_go hn hB h
    obtain ⟨V', U', c', p', y1, y2, y3, y4, y5, y6, y7, y8⟩ := ih (tz - ttA tz tp p) (by omega) (ttA tz tp p) V1 U1 (c + 1) f f' (by omega) (by omega) (by omega) (by omega) h1
    refine ⟨V', U', c', p', ?_, ?_, y3, by omega, by omega, y6, x3.tr y7, x4.tr y8⟩
    · rw [if_pos (cw.mpr q)]
      have ed : ((if nI (c % 2) = 0 then 1 else 0 : Int32)) = nI ((c + 1) % 2) := by
        rcases (show c % 2 = 0 ∨ c % 2 = 1 by omega) with z | z
        · rw [z, show (c + 1) % 2 = 1 by omega]; rfl
        · rw [z, show (c + 1) % 2 = 0 by omega]; rfl
      simp only [letv, ed, x1, o_b]
      rw [show (1 : Int32) = nI 1 from rfl, e_add]
      exact y1
    · rw [if_pos ((wA_18 _).mp q), if_neg (show ¬ nI 1 = (0 : Int32) by decide)]
      simp only [letv, x2, o_b]
      rw [show (1 : Int32) = nI 1 from rfl, e_add]
      exact y2
  · refine ⟨V, U, c, p, ?_, ?_, h, by omega, by omega, by omega, FV.rf, FU.rf⟩
    · rw [if_neg (fun e => q (cw.mp e))]
    · rw [if_neg (fun e => q ((wA_18 _).mpr e)), if_pos (show nI 0 = (0 : Int32) from rfl)]
/-- what is done with a read one: folded under a not -/
theorem res_not {A : Option (Int32 × V2)} {B : Option V2} {p0 : Nat} {V0 U0 : V2} (hz : tz ≤ 200) (h : Res r b tz tp bg d (d + 1) V U p m g A B) (hv : FV r V0 V) (hu : FU b bg U0 U) (hd : d + 1 ≤ 9) {c : Nat} (hp : p0 + 3 * c ≤ p) (hk : 2 * (bg + m) ≤ p0) : Res r b tz tp bg d (d + 1) V0 U0 p0 m g (A.bind fun j10 => if nI (c % 2) = 0 then (if isb j10.1 then some (j10.1, j10.2) else none) else ((pX5_addStep j10.2 r 5 0 0).bind fun q14 => if isb j10.1 then some (j10.1, q14) else none)) (B.bind fun j8 => if nI (c % 2) = (1 : Int32) then ((pX9_steps j8 b 3 0 0).bind fun q19 => some q19) else (some j8)) := by
  obtain ⟨x, V', U', rfl, rfl, fv, fu, hh⟩ := h
  have ix : isb (nI x) = true := by
    rcases hh with ⟨rfl, -⟩ | ⟨rfl, -⟩ <;> decide
  simp only [o_b, ix, ↓reduceIte]
  rcases (show c % 2 = 0 ∨ c % 2 = 1 by omega) with z | z
  · rw [z, if_pos (show nI 0 = (0 : Int32) from rfl), if_neg (show ¬ nI 0 = (1 : Int32) by decide)]
    refine ⟨x, V', U', rfl, rfl, hv.tr fv, hu.tr fu, ?_⟩
    rcases hh with ⟨e, p', m', g', k1, k2, k3⟩ | hh
    · exact Or.inl ⟨e, p', m', g', k1, by omega, k3⟩
    · exact Or.inr hh
  · rw [z, if_neg (show ¬ nI 1 = (0 : Int32) by decide), if_pos (show nI 1 = (1 : Int32) from rfl)]
    rcases hh with ⟨e, p', m', g', k1, k2, k3, k4, k5⟩ | ⟨e, hb⟩
    · have p2 := k1.2.2.2.2.2.1
      obtain ⟨V4, U4, s1, s2, s3, s4, s5, s6⟩ := add_ok k1 (by omega) (by omega) (op := 5) (a := 0) (c := 0) (e := 3) (op' := 5) (a' := 0) (c' := 0) (e' := 3) rfl rfl rfl rfl rfl
      refine ⟨x, V4, U4, by rw [s1, o_b], by rw [s2, o_b], (hv.tr fv).tr s3, (hu.tr fu).tr s4, Or.inl ⟨e, _, _, _, s5, by omega, by omega, fun j hj => by rw [if_neg (by omega)]; exact k4 j hj, ?_⟩⟩
      rw [show m' + 1 - m = (m' - m) + (0 + 1) by omega]
      refine pdB_app (d1 := d + 1) _ _ _ _ (pdB_congr _ _ _ (fun i h1 h2 => by rw [if_neg (by omega)]) k5) ?_
      rw [show m + (m' - m) = m' by omega]
      unfold pdB
      rw [if_pos rfl]
      exact ⟨by decide, by decide, by decide, hd, rfl⟩
    · obtain ⟨V4, s1, s2, s3, s4⟩ := add_bad hb (op := 5) (a := 0) (c := 0)
      have s2' : pX9_steps U' b 3 0 0 = some U' := by
        unfold pX9_steps
        rw [hb.1, if_neg (show ¬ nI 1 = (0 : Int32) by decide)]
      exact ⟨x, V4, U', by rw [s1, o_b], by rw [s2', o_b], (hv.tr fv).tr s3, hu.tr fu, Or.inr ⟨e, s4⟩⟩
/-- what the calls for an inner condition do -/
def Rc (n r b tz : Nat) (tp : Nat → Nat) (bg o : Nat) (recC : Nat → V2 → Nat → Int32 → Option (Int32 × V2)) (recM : Nat → V2 → Nat → Option V2) : Prop := (o < 3 → ∀ V U p m g d, Gd r b tz tp bg V U p m g → U b 11 = nI (o + 1) → d + 2 * (3 - (o + 1)) + 3 ≤ 9 → Res r b tz tp bg d (d + 1) V U p m g (recC n V r (nI (o + 1))) (recM n U b)) ∧ ∀ U, U b 10 = nI 1 → recM n U b = some U
theorem gd_11 {v : Int32} (h : Gd r b tz tp bg V U p m g) : Gd r b tz tp bg V (up2 U b 11 v) p m g := by
  obtain ⟨a1, a2, a3, a4, a5, a6, a7, c1, c2, c3⟩ := h
  refine ⟨a1, a2.up (by omega), a3, ?_, by rw [w_idx (by omega)]; exact a5, a6, a7, c1, by rw [w_row (by omega)]; exact c2, fun j hj => ?_⟩
  · unfold ToM
    rw [w_idx (by omega), w_idx (by omega), w_idx (by omega), w_idx (by omega)]
    exact a4
  · rw [w_row (by omega)]
    exact c3 j hj
theorem bad_11 {v : Int32} (h : Bad r b tz tp V U) : Bad r b tz tp V (up2 U b 11 v) := by
  obtain ⟨h1, ⟨q, hq, h2, h3⟩, h4⟩ := h
  refine ⟨by rw [w_idx (by omega)]; exact h1, ⟨q, hq, h2, ?_⟩, h4⟩
  unfold ToM
  rw [w_idx (by omega), w_idx (by omega), w_idx (by omega), w_idx (by omega)]
  exact h3
theorem inner_ok (hn : 1000 ≤ n) (hB : TB tz tp) {o : Nat} {recC : Nat → V2 → Nat → Int32 → Option (Int32 × V2)} {recM : Nat → V2 → Nat → Option V2} (hr : Rc n r b tz tp bg o recC recM) (h : Gd r b tz tp bg V U p m g) (ho : U b 11 = nI o) (ho3 : o ≤ 3) (hd : d + 2 * (3 - o) + 1 ≤ 9) (hs : sgA tz tp p 40 = 1) : Res r b tz tp bg d (d + 1) V U p m g (pX5_readInner recC n V r (nI o)) (letv ((if (3 : Int32) ≤ (U b 11) then (0) else (1) : Int32)) fun j11 => (pX9_needs n U b j11).bind fun q12 => letv (up2 q12 b 11 ((q12 b 11) + 1)) fun U13 => (recM n U13 b).bind fun q14 => (pX9_isByte q14 b 41).bind fun q15 => (pX9_needs n q14 b q15).bind fun q16 => letv (up2 q16 b 11 ((q16 b 11) - 1)) fun U17 => some U17) := by
  have hz := hB.1
  have e11 : ∀ x, nI x + (1 : Int32) = nI (x + 1) := fun x => by rw [show (1 : Int32) = nI 1 from rfl, e_add]
  have s11 : ∀ x, nI (x + 1) - (1 : Int32) = nI x := fun x => by rw [show (1 : Int32) = nI 1 from rfl, e_sub (by omega), Nat.add_sub_cancel]
  unfold pX5_readInner
  simp only [letv, ho]
  by_cases q3 : o < 3
  · rw [if_pos (show nI o < (3 : Int32) from nI_lt (a := o) (b := 3) q3 (by omega)), if_neg (show ¬ (3 : Int32) ≤ nI o from nI_ge (a := o) (b := 3) (by omega) (by omega))]
    obtain ⟨V1, U1, x1, -, x2, h1, x3, x4⟩ := gd_go hn hB h
    have x2' : pX9_needs n U b 1 = some U1 := x2
    have o1 : U1 b 11 = nI o := by rw [x4.2.1 11 (by omega)]; exact ho
    have pt := sg_tt h.2.2.2.2.2.1 hs
    obtain ⟨x, Vb, U2, y1, y2, y3, y4, hh⟩ := hr.1 q3 V1 (up2 U1 b 11 (nI (o + 1))) _ m g d (gd_11 h1) w_same (by omega)
    have o2 : U2 b 11 = nI (o + 1) := by rw [y4.2.1 11 (by omega), w_same]
    rw [x1, x2', o_b, o_b, o1, e11, y1, y2, o_b, o_b]
    have f11 : ∀ {W : V2}, FU b bg (up2 U1 b 11 (nI (o + 1))) W → FU b bg U (up2 W b 11 (nI o)) := fun {W} fw => ⟨fun y a c => by rw [w_row a, fw.1 y a c, w_row a, x4.1 y a c], fun k hk => by
      by_cases k11 : k = 11
      · rw [k11, w_same, ho]
      · rw [w_idx k11, fw.2.1 k hk, w_idx k11, x4.2.1 k hk], fun i a c => by rw [w_row (by omega), fw.2.2 i a c, w_row (by omega), x4.2.2 i a c]⟩
    rcases hh with ⟨e, p', m', g', k1, k2, k3, k4, k5⟩ | ⟨e, hb⟩
    · subst e
      obtain ⟨b1, b2, b3, b4, b5, b6, b7, b8⟩ := id k1
      have k41 := c_sign hB b1 b6 b3 (c := 41) (c' := 41) rfl (by omega)
      have g41 := m_sign hB b2 b6 b4 (c := 41) (c' := 41) rfl (by omega)
      dsimp only
      rw [if_neg (show ¬ nI 1 = (0 : Int32) by decide)]
      rw [k41, g41, o_b, o_b]
      rcases sg_01 tz tp p' 41 with s | s
      · rw [s, if_pos (show nI 0 = (0 : Int32) from rfl), m_needs0 b5, o_b]
        have u11 : up2 U2 b 10 (nI 1) b 11 = nI (o + 1) := by rw [w_idx (by omega)]; exact o2
        rw [u11, s11]
        exact ⟨0, Vb, _, rfl, rfl, x3.tr y3, f11 (y4.tr fu_10), Or.inr ⟨rfl, bad_11 (bad0 k1 hz)⟩⟩
      · rw [s, if_neg (show ¬ nI 1 = (0 : Int32) by decide)]
        obtain ⟨V3, U3, z1, -, z2, h3, z3, z4⟩ := gd_go hn hB k1
        have p3 := sg_tt b6 s
        rw [z1, z2, o_b, o_b]
        have u11 : U3 b 11 = nI (o + 1) := by rw [z4.2.1 11 (by omega)]; exact o2
        rw [u11, s11]
        exact ⟨1, V3, _, rfl, rfl, (x3.tr y3).tr z3, f11 (y4.tr z4), Or.inl ⟨rfl, _, m', g', gd_11 h3, by omega, k3, k4, k5⟩⟩
    · subst e
      dsimp only
      rw [if_pos (show nI 0 = (0 : Int32) from rfl)]
      obtain ⟨w10, ⟨q, hq, hv, hT⟩, -⟩ := id hb
      have tm : TaM b tz tp U2 := ((h1.2.1.up (k := 11) (v := nI (o + 1)) (by omega)).fu y4)
      have g41 := m_sign hB tm hq hT (c := 41) (c' := 41) rfl (by omega)
      rw [g41, o_b, m_needsw w10, o_b, o2, s11]
      exact ⟨0, Vb, _, rfl, rfl, x3.tr y3, f11 y4, Or.inr ⟨rfl, bad_11 hb⟩⟩
  · have ho' : o = 3 := by omega
    subst ho'
    rw [if_neg (show ¬ nI 3 < (3 : Int32) by decide), if_pos (show (3 : Int32) ≤ nI 3 by decide)]
    have n0 : pX9_needs n U b 0 = some (up2 U b 10 (nI 1)) := m_needs0 h.2.2.2.2.1
    have u11 : up2 U b 10 (nI 1) b 11 = nI 3 := by rw [w_idx (by omega)]; exact ho
    have hb := bad_11 (v := nI (3 + 1)) (bad0 h hz)
    rw [n0, o_b, u11, e11, hr.2 _ hb.1, o_b]
    obtain ⟨w10, ⟨q, hq, hv, hT⟩, -⟩ := id hb
    have tm : TaM b tz tp (up2 (up2 U b 10 (nI 1)) b 11 (nI (3 + 1))) := (h.2.1.up (by omega)).up (by omega)
    have g41 := m_sign hB tm hq hT (c := 41) (c' := 41) rfl (by omega)
    have v11 : up2 (up2 U b 10 (nI 1)) b 11 (nI (3 + 1)) b 11 = nI (3 + 1) := w_same
    rw [g41, o_b, m_needsw w10, o_b, v11, s11, w_w]
    have u3 : up2 (up2 U b 10 (nI 1)) b 11 (nI 3) = up2 U b 10 (nI 1) := w_id u11
    rw [u3]
    exact ⟨0, V, _, rfl, rfl, FV.rf, fu_10, Or.inr ⟨rfl, bad0 h hz⟩⟩
theorem one_ok (hn : 1000 ≤ n) (hB : TB tz tp) {o : Nat} {recC : Nat → V2 → Nat → Int32 → Option (Int32 × V2)} {recM : Nat → V2 → Nat → Option V2} (hr : Rc n r b tz tp bg o recC recM) (h : Gd r b tz tp bg V U p m g) (ho : U b 11 = nI o) (ho3 : o ≤ 3) (hd : d + 2 * (3 - o) + 1 ≤ 9) : Res r b tz tp bg d (d + 1) V U p m g (pX5_readOne recC n V r (nI o)) (pX9_oneHere recM n U b) := by
  have hz := hB.1
  have hp := h.2.2.2.2.2.1
  have h7 := h.2.2.2.2.2.2.1
  obtain ⟨V1, U1, c, p1, x1, x2, h1, x3, -, x4, x5, x6⟩ := not_ok hn hB (tz - p) p V U 0 n n (by omega) (by omega) (by omega) (by omega) h
  have x1' : lX5_readOne_4 n r n V 0 0 = some (V1, nI (c % 2)) := x1
  have x2' : lX9_oneHere_2 n b n U 0 = some (U1, nI c) := x2
  obtain ⟨a1, a2, a3, a4, a5, a6, a7, a8⟩ := id h1
  have k40 := c_sign hB a1 a6 a3 (c := 40) (c' := 40) rfl (by omega)
  have g40 := m_sign hB a2 a6 a4 (c := 40) (c' := 40) rfl (by omega)
  have ho1 : U1 b 11 = nI o := by rw [x6.2.1 11 (by omega)]; exact ho
  have er : jrem (nI c) 2 = nI (c % 2) := e_rem (b := 2) (by omega) (by omega)
  unfold pX5_readOne pX9_oneHere
  rw [x1', x2', o_b, o_b]
  show Res r b tz tp bg d (d + 1) V U p m g ((pX5_isSign V1 r 40).bind _) _
  rw [k40, o_b]
  dsimp only
  have u10 : U1 b 10 = (0 : Int32) := a5
  rw [if_pos u10, g40, o_b, er]
  have hp' : p + 3 * c ≤ p1 := by omega
  rcases sg_01 tz tp p1 40 with s | s
  · rw [s, if_pos (show nI 0 = (0 : Int32) from rfl), if_pos (show nI 0 = (0 : Int32) from rfl), if_pos u10]
    have := res_not hz (cmp_ok (d := d) hn hB h1 (by omega)) x5 x6 (by omega) hp' h7
    rw [o_e, o_e1]
    exact this
  · rw [s, if_neg (show ¬ nI 1 = (0 : Int32) by decide), if_neg (show ¬ nI 1 = (0 : Int32) by decide)]
    have := res_not hz (inner_ok (d := d) hn hB hr h1 ho1 ho3 hd s) x5 x6 (by omega) hp' h7
    rw [o_e]
    exact this
theorem one_w {recM : Nat → V2 → Nat → Option V2} (hn : 1000 ≤ n) (h10 : U b 10 = nI 1) : pX9_oneHere recM n U b = some U := by
  have x2' : lX9_oneHere_2 n b n U 0 = some (U, 0) := by
    obtain ⟨f, rfl⟩ : ∃ g, n = g + 1 := ⟨n - 1, by omega⟩
    unfold lX9_oneHere_2
    rw [h10, if_neg (show ¬ nI 1 = (0 : Int32) by decide)]
  unfold pX9_oneHere
  rw [x2', o_b]
  dsimp only
  have u10 : ¬ U b 10 = (0 : Int32) := by rw [h10]; decide
  rw [if_neg u10, if_neg u10, o_b, if_neg (show ¬ jrem 0 2 = (1 : Int32) by decide)]
end X7
