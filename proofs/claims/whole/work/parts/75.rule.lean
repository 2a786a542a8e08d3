/-! one rule -/
def rl2 (n b : Nat) (x2 q3 t7 : Int32) (j8 : V2) : Option V2 :=
  (pX9_doHere j8 b).bind fun q13 =>
  letv ((if q13 < 0 then (0)
  else (1) : Int32)) fun j14 =>
  (pX9_needs n j8 b j14).bind fun q15 =>
  (pX9_isByte q15 b 59).bind fun q16 =>
  (pX9_needs n q15 b q16).bind fun q17 =>
  if (q17 b 10) = 0 then ((stI 572 q17 (b + 1) x2 q3).bind fun U18 =>
  (stI 572 U18 (b + 1) (x2 + 1) q13).bind fun U19 =>
  (stI 572 U19 (b + 1) (x2 + 2) t7).bind fun U20 =>
  (ldI 572 (U20 (b + 1)) 7).bind fun t21 =>
  (stI 572 U20 (b + 1) (x2 + 3) t21).bind fun U22 =>
  (ldI 572 (U22 (b + 1)) 5).bind fun t23 =>
  (stI 572 U22 (b + 1) 5 (t23 + 1)).bind fun U24 =>
  some U24)
  else (some q17)
def rl1 (n b : Nat) (x2 q3 : Int32) (q6 : V2) : Option V2 :=
  (ldI 572 (q6 (b + 1)) 7).bind fun t7 =>
  ((if (q6 b 10) = 0 then ((pX9_isTwo q6 b 105 102).bind fun q9 =>
  if q9 = 0 then (some q6)
  else ((pX9_nextToken n q6 b).bind fun q10 =>
  letv (up2 q10 b 11 0) fun U11 =>
  (pX9_condHere 6 n U11 b).bind fun q12 =>
  some q12))
  else (some q6) : Option (V2))).bind fun j8 => rl2 n b x2 q3 t7 j8
def rl0 (n b : Nat) (V : V2) : Option V2 :=
  (ldI 572 (V (b + 1)) 5).bind fun t1 =>
  letv (66 + (4 * t1)) fun x2 =>
  (pX9_kindHere V b).bind fun q3 =>
  ((if q3 < 0 then (some 0)
  else ((ldI 572 (V (b + 1)) 5).bind fun t5 =>
  if (8 : Int32) ≤ t5 then (some 0)
  else (some 1)) : Option (Int32))).bind fun j4 =>
  (pX9_needs n V b j4).bind fun q6 => rl1 n b x2 q3 q6
theorem rl_eq (n b : Nat) (V : V2) : pX9_ruleHere n V b = rl0 n b V := rfl
def cl2 (n : Nat) (G : G2) (R : R2) (r : Nat) (x2 : Int32) (z6 : V2) : Option (Int32 × V2 × R2 × G2) :=
  (pX5_isWord z6 r 6 8).bind fun q7 =>
  if q7 = 0 then (some (0, z6, R, G))
  else (letv ((z6 r 5) - 6) fun x8 =>
  (pX5_goOn n z6 r).bind fun q9 =>
  (pX5_isSign q9 r 59).bind fun q10 =>
  if q10 = 0 then (some (0, q9, R, G))
  else ((pX5_goOn n q9 r).bind fun q11 =>
  if decide (¬ (q11 r 7) < 0 ∧ (q11 r 7).toNatClampNeg < 300) then (
  (stR 8 (ruR R G.2.2.2) (r + 3) (q11 r 9) (some G.2.2.2)).bind fun S14 =>
  letv (up2 (ruV q11 G.2.2.2 (r + 2) (q11 r 7) x2 x8) r 9 (((ruV q11 G.2.2.2 (r + 2) (q11 r 7) x2 x8) r 9) + 1)) fun U16 =>
  some (1, U16, S14, (ruG G (q11 r 7).toNatClampNeg))) else none))
def cl0 (n : Nat) (G : G2) (V : V2) (R : R2) (r : Nat) : Option (Int32 × V2 × R2 × G2) :=
  (pX5_isWord V r 0 5).bind fun q1 =>
  if q1 = 0 then (some (0, V, R, G))
  else (if (V r 9) < (8 : Int32) then (letv ((V r 5) - 0) fun x2 =>
  (pX5_goOn n V r).bind fun q3 =>
  letv (up2 q3 r 7 0) fun U4 =>
  if (U4 r 5) = (14 : Int32) then ((pX5_goOn n U4 r).bind fun q17 =>
  (pX5_readCondition 6 n q17 r 0).bind fun q18 =>
  if q18.1 = 0 then (some (0, q18.2, R, G))
  else (cl2 n G R r x2 q18.2))
  else (cl2 n G R r x2 U4))
  else (some (0, V, R, G)))
theorem cl_eq (n : Nat) (G : G2) (V : V2) (R : R2) (r : Nat) : pX5_readRule n G V R r = cl0 n G V R r := rfl
section X9
variable {n r b z tz p bg m i : Nat} {tp : Nat → Nat} {V U : V2} {R : R2} {G : G2} {g : Nat → Nat × Nat × Nat}
/-- the rules made so far -/
def Mk (r b z : Nat) (G : G2) (V : V2) (R : R2) (U : V2) (i bg : Nat) (rk rw rm : Nat → Nat) (rs : Nat → Nat → Nat × Nat × Nat) : Prop := V r 9 = nI i ∧ U (b + 1) 5 = nI i ∧ ∀ j, j < i → (rk j ≤ 5 ∧ rw j ≤ 2 ∧ rm j ≤ 100 ∧ prB (rs j) 0 0 (rm j)) ∧ (∃ y, R (r + 3) j = some y ∧ RuC G V y z (rk j) (rw j) (rm j) (rs j)) ∧ ∃ b0, b0 + rm j ≤ bg ∧ U (b + 1) (66 + 4 * j) = nI (rk j) ∧ U (b + 1) (66 + 4 * j + 1) = nI (rw j) ∧ U (b + 1) (66 + 4 * j + 2) = nI b0 ∧ U (b + 1) (66 + 4 * j + 3) = nI (b0 + rm j) ∧ ∀ t, t < rm j → U (b + 1) (122 + 3 * (b0 + t)) = nI (moA (rs j t).1) ∧ U (b + 1) (122 + 3 * (b0 + t) + 1) = nI (rs j t).2.1 ∧ U (b + 1) (122 + 3 * (b0 + t) + 2) = nI (rs j t).2.2
def Hd (r b tz : Nat) (tp : Nat → Nat) (V U : V2) (p bg : Nat) : Prop := TaC r tz tp V ∧ TaM b tz tp U ∧ ToC r tz tp V p ∧ ToM b tz tp U p ∧ U b 10 = nI 0 ∧ p ≤ tz ∧ 2 * bg ≤ p ∧ U (b + 1) 7 = nI bg
def FR (r : Nat) (G : G2) (V V' : V2) (R R' : R2) : Prop := (∀ x, x < G.2.2.2 → x ≠ r → x ≠ r + 2 → V' x = V x) ∧ (∀ k, k < 2 → V' r k = V r k) ∧ ∀ x, x < G.2.2.2 → x ≠ r + 3 → R' x = R x
def FM (b : Nat) (U U' : V2) : Prop := (∀ y, y ≠ b → y ≠ b + 1 → U' y = U y) ∧ (∀ k, (k < 6 ∨ 11 < k) → U' b k = U b k) ∧ ∀ i, i ≠ 5 → i ≠ 7 → (i < 66 ∨ 98 ≤ i ∧ i < 122) → U' (b + 1) i = U (b + 1) i
/-- more is made -/
def Gw (z : Nat) (G G' : G2) : Prop := WfG G' ∧ GX G' ∧ z + 93 ≤ G'.2.2.2 ∧ G.2.2.2 ≤ G'.2.2.2 ∧ (∀ y t, own G y t → own G' y t) ∧ ∀ y t, own G y t → G'.2.2.1 y = G.2.2.1 y
theorem Gw.tr {G' G'' : G2} (h : Gw z G G') (h2 : Gw z G' G'') : Gw z G G'' := ⟨h2.1, h2.2.1, h2.2.2.1, Nat.le_trans h.2.2.2.1 h2.2.2.2.1, fun y t q => h2.2.2.2.2.1 y t (h.2.2.2.2.1 y t q), fun y t q => (h2.2.2.2.2.2 y t (h.2.2.2.2.1 y t q)).trans (h.2.2.2.2.2 y t q)⟩
theorem gw_ru (hW : WfG G) (hX : GX G) (hz : z + 93 ≤ G.2.2.2) (k : Nat) : Gw z G (ruG G k) := ⟨nw2_wf hW, gx_ru hX hW, by show z + 93 ≤ G.2.2.2 + 1 + 1; omega, by show G.2.2.2 ≤ G.2.2.2 + 1 + 1; omega, fun _ _ q => ru_old hW q, fun _ _ q => ru_len hW q⟩
theorem FV.f (hf : FV r V U) : FR r G V U R R := ⟨fun x _ h1 h2 => hf.1 x h1 h2, fun k hk => hf.2 k (by omega), fun _ _ _ => rfl⟩
theorem FU.f {U' : V2} (hf : FU b bg U U') : FM b U U' := ⟨hf.1, fun k hk => hf.2.1 k (by omega), fun i h1 h2 h3 => hf.2.2 i h2 (by omega)⟩
theorem FM.tr {U' U'' : V2} (h : FM b U U') (h2 : FM b U' U'') : FM b U U'' := ⟨fun x a c => (h2.1 x a c).trans (h.1 x a c), fun k hk => (h2.2.1 k hk).trans (h.2.1 k hk), fun i a c d => (h2.2.2 i a c d).trans (h.2.2 i a c d)⟩
theorem FM.rf : FM b U U := ⟨fun _ _ _ => rfl, fun _ _ => rfl, fun _ _ _ _ => rfl⟩
/-- a fault: the place -/
def Flt (r b tz : Nat) (tp : Nat → Nat) (V U : V2) : Prop := U b 10 = nI 1 ∧ ∃ q, q ≤ tz ∧ V r 2 = nI (tfA tz tp q) ∧ ToM b tz tp U q
theorem Bad.flt (h : Bad r b tz tp V U) : Flt r b tz tp V U := ⟨h.1, h.2.1⟩
def RR (n r b z tz : Nat) (tp : Nat → Nat) (G : G2) (V : V2) (R : R2) (U : V2) (p i : Nat) (rk rw rm : Nat → Nat) (rs : Nat → Nat → Nat × Nat × Nat) (A : Option (Int32 × V2 × R2 × G2)) (B : Option V2) : Prop := ∃ x V' R' G' U', A = some (nI x, V', R', G') ∧ B = some U' ∧ FR r G V V' R R' ∧ FM b U U' ∧ ((x = 1 ∧ ∃ p' bg' rk' rw' rm' rs', Hd r b tz tp V' U' p' bg' ∧ Mk r b z G' V' R' U' (i + 1) bg' rk' rw' rm' rs' ∧ p < p' ∧ Gw z G G' ∧ i < 8) ∨ (x = 0 ∧ R' = R ∧ G' = G ∧ Flt r b tz tp V' U'))
theorem rl2_w (hn : 1000 ≤ n) (hB : TB tz tp) (hM : TaM b tz tp U) (hp : p ≤ tz) (hT : ToM b tz tp U p) (h10 : U b 10 = nI 1) {x2 q3 t7 : Int32} : rl2 n b x2 q3 t7 U = some U := by
  unfold rl2
  rw [m_do hB hM hp hT, o_b]
  simp only [letv]
  rw [m_needsw h10, o_b, m_sign hB hM hp hT (c := 59) (c' := 59) rfl (by omega), o_b, m_needsw h10, o_b, h10, if_neg (show ¬ nI 1 = (0 : Int32) by decide)]
theorem rl1_w (hn : 1000 ≤ n) (hB : TB tz tp) (hM : TaM b tz tp U) (hp : p ≤ tz) (hT : ToM b tz tp U p) (h10 : U b 10 = nI 1) {x2 q3 : Int32} : rl1 n b x2 q3 U = some U := by
  unfold rl1
  have l7 : ldI 572 (U (b + 1)) 7 = some (U (b + 1) 7) := e_ld (k := 7) (by omega) (by omega)
  rw [l7, o_b, h10, if_neg (show ¬ nI 1 = (0 : Int32) by decide), o_b]
  exact rl2_w hn hB hM hp hT h10
theorem flt0 (h : Gd r b tz tp bg V U p m g) (hz : tz ≤ 200) : Flt r b tz tp V (up2 U b 10 (nI 1)) := (bad0 h hz).flt
theorem do_le (w : Nat) : doA w ≤ 3 := by unfold doA; split <;> omega
theorem do_tt (hp : p ≤ tz) (h : doA (wA (tyL tz tp p)) ≠ 0) : p + 2 ≤ ttA tz tp p := (w_tt hp (fun e => h (by rw [e]; rfl))).1
theorem tail_ok (hn : 1000 ≤ n) (hB : TB tz tp) (hrz : r = z + 65) {V0 U0 : V2} {p0 : Nat} {rk rw rm : Nat → Nat} {rs : Nat → Nat → Nat × Nat × Nat} (hW : WfG G) (hX : GX G) (hz93 : z + 93 ≤ G.2.2.2) (hi : i < 8) (hMk : Mk r b z G V0 R U0 i bg rk rw rm rs) (h : Gd r b tz tp bg V U p m g) (fv : FV r V0 V) (fu : ∀ k, k ≠ 7 → k < 122 + 3 * bg → U (b + 1) k = U0 (b + 1) k) (f11 : FM b U0 U) (hp0 : p0 ≤ p) (hpr : prB g 0 0 m) {kd : Nat} (hkd : kd ≤ 5) {x2 q3 t7 : Int32} (hx2 : x2 = nI (66 + 4 * i)) (hq3 : q3 = nI kd) (ht7 : t7 = nI bg) : RR n r b z tz tp G V0 R U0 p0 i rk rw rm rs (cl2 n G R r (nI kd) V) (rl2 n b x2 q3 t7 U) := by
  have hz := hB.1
  obtain ⟨a1, a2, a3, a4, a5, a6, a7, a8⟩ := id h
  have w18 := wA_le (tyL tz tp p)
  have cw := c_isW a3.2.2.2 w18 (a := 6) (c := 8) (a' := 6) (c' := 8) rfl rfl (by omega)
  have d3 := do_le (wA (tyL tz tp p))
  unfold cl2 rl2
  rw [cw, o_b, m_do hB a2 a6 a4, o_b]
  simp only [letv]
  by_cases q : doA (wA (tyL tz tp p)) = 0
  · -- no DO
    have q' : ¬ (6 + 1 ≤ wA (tyL tz tp p) ∧ wA (tyL tz tp p) ≤ 8 + 1) := fun e => by
      unfold doA at q
      rw [if_pos (by omega)] at q
      omega
    rw [if_neg q', if_pos (show nI 0 = (0 : Int32) from rfl), q, wn_0, if_pos (show -(nI 1) < (0 : Int32) by decide), show (0 : Int32) = nI 0 from rfl, m_needs0 a5, o_b]
    have w10 : up2 U b 10 (nI 1) b 10 = nI 1 := w_same
    have hf := flt0 h hz
    obtain ⟨-, q4, hq4, -, hT⟩ := id hf
    rw [m_sign hB (a2.up (k := 10) (v := nI 1) (by omega)) hq4 hT (c := 59) (c' := 59) rfl (by omega), o_b, m_needsw w10, o_b, w10, if_neg (show ¬ nI 1 = nI 0 by decide)]
    exact ⟨0, V, R, G, _, rfl, rfl, fv.f, f11.tr (fu_10 (bg := bg)).f, Or.inr ⟨rfl, rfl, rfl, hf⟩⟩
  · have q' : 6 + 1 ≤ wA (tyL tz tp p) ∧ wA (tyL tz tp p) ≤ 8 + 1 := by
      unfold doA at q
      split at q
      · assumption
      · exact absurd rfl q
    obtain ⟨wl, hwl⟩ : ∃ wl, doA (wA (tyL tz tp p)) = wl + 1 := ⟨doA (wA (tyL tz tp p)) - 1, by omega⟩
    have hw : wA (tyL tz tp p) = wl + 7 := by
      unfold doA at hwl
      rw [if_pos (by omega)] at hwl
      omega
    have x8 : V r 5 - 6 = nI wl := by
      rw [a3.2.2.2, hw, wn_s (wl + 6), show (6 : Int32) = nI 6 from rfl, e_sub (by omega), Nat.add_sub_cancel]
    rw [if_pos q', if_neg (show ¬ nI 1 = (0 : Int32) by decide), hwl, wn_s, if_neg (show ¬ nI wl < (0 : Int32) from nI_nlt (a := wl) (b := 0) (by omega) (by omega)), x8]
    obtain ⟨V1, U1, x1, -, x2', h1, x3, x4⟩ := gd_go hn hB h
    have pt1 := do_tt a6 q
    obtain ⟨b1, b2, b3, b4, b5, b6, b7, b8⟩ := id h1
    have x2'' : pX9_needs n U b 1 = some U1 := x2'
    have k59 := c_sign hB b1 b6 b3 (c := 59) (c' := 59) rfl (by omega)
    have g59 := m_sign hB b2 b6 b4 (c := 59) (c' := 59) rfl (by omega)
    rw [x1, x2'', o_b, o_b, k59, g59, o_b, o_b]
    rcases sg_01 tz tp (ttA tz tp p) 59 with s | s
    · have w10 : up2 U1 b 10 (nI 1) b 10 = nI 1 := w_same
      rw [s, if_pos (show nI 0 = (0 : Int32) from rfl), m_needs0 b5, o_b, w10, if_neg (show ¬ nI 1 = (0 : Int32) by decide)]
      exact ⟨0, V1, R, G, _, rfl, rfl, (fv.tr x3).f, (f11.tr x4.f).tr (fu_10 (bg := bg)).f, Or.inr ⟨rfl, rfl, rfl, flt0 h1 hz⟩⟩
    · rw [s, if_neg (show ¬ nI 1 = (0 : Int32) by decide)]
      obtain ⟨V2', U2, y1, -, y2, h2, y3, y4⟩ := gd_go hn hB h1
      have pt2 := sg_tt b6 s
      obtain ⟨c1, c2, c3, c4, c5, c6, c7, s7, u7, sj⟩ := id h2
      rw [y1, y2, o_b, o_b, c5, if_pos (show nI 0 = (0 : Int32) from rfl), s7]
      have hdec : (decide (¬ nI (3 * m) < 0 ∧ (nI (3 * m)).toNatClampNeg < 300)) = true := by
        rw [nI_clamp (by omega)]
        exact decide_eq_true ⟨nI_nlt (a := 3 * m) (b := 0) (by omega) (by omega), by omega⟩
      have v9 : V2' r 9 = nI i := by rw [y3.2 9 (by omega), x3.2 9 (by omega), fv.2 9 (by omega)]; exact hMk.1
      rw [hdec, if_pos rfl, v9, o_st (by omega) (by omega), o_b, nI_clamp (show 3 * m < 2147483648 by omega)]
      -- the class's new cells
      obtain ⟨a, ha⟩ : ∃ a, a = G.2.2.2 := ⟨_, rfl⟩
      rw [← ha]
      obtain ⟨X, hXX⟩ : ∃ X, X = ruV V2' a (r + 2) (nI (3 * m)) (nI kd) (nI wl) := ⟨_, rfl⟩
      have Xo : ∀ x, x ≠ a → x ≠ a + 1 → X x = V2' x := fun x h1 h2 => by
        rw [hXX]; unfold ruV cpV zV
        rw [w_row h1, w_row h1, va_up_ne _ _ h2, va_up_ne _ _ h2, va_up_ne _ _ h1]
      have Xa : X a 0 = nI kd ∧ X a 1 = nI wl := by
        rw [hXX]; unfold ruV
        exact ⟨by rw [w_idx (by omega), w_same], by rw [w_same]⟩
      have Xb : ∀ k, k < 3 * m → X (a + 1) k = V2' (r + 2) k := fun k hk => by
        rw [hXX]; unfold ruV cpV zV
        rw [w_row (by omega), w_row (by omega), va_up_self]
        unfold va_cpy
        rw [nI_clamp (show 3 * m < 2147483648 by omega), if_pos (by omega), va_up_ne _ _ (by omega), va_up_ne _ _ (by omega), Nat.sub_zero, Nat.zero_add]
      rw [← hXX]
      have x9 : X r 9 = nI i := by rw [Xo r (by omega) (by omega)]; exact v9
      rw [x9, show (1 : Int32) = nI 1 from rfl, e_add]
      -- the reference's new numbers
      have l7 : ∀ W : V2, ldI 572 (W (b + 1)) 7 = some (W (b + 1) 7) := fun W => e_ld (k := 7) (by omega) (by omega)
      have l5 : ∀ W : V2, ldI 572 (W (b + 1)) 5 = some (W (b + 1) 5) := fun W => e_ld (k := 5) (by omega) (by omega)
      have m5 : U2 (b + 1) 5 = nI i := by rw [y4.2.2 5 (by omega) (by omega), x4.2.2 5 (by omega) (by omega), fu 5 (by omega) (by omega)]; exact hMk.2.1
      obtain ⟨Y, hY⟩ : ∃ Y, Y = up2 (up2 (up2 (up2 (up2 U2 (b + 1) (66 + 4 * i) (nI kd)) (b + 1) (66 + 4 * i + 1) (nI wl)) (b + 1) (66 + 4 * i + 2) (nI bg)) (b + 1) (66 + 4 * i + 3) (nI (bg + m))) (b + 1) 5 (nI (i + 1)) := ⟨_, rfl⟩
      have hB2 : (stI 572 U2 (b + 1) x2 q3).bind (fun U18 => (stI 572 U18 (b + 1) (x2 + nI 1) (nI wl)).bind fun U19 => (stI 572 U19 (b + 1) (x2 + 2) t7).bind fun U20 => (ldI 572 (U20 (b + 1)) 7).bind fun t21 => (stI 572 U20 (b + 1) (x2 + 3) t21).bind fun U22 => (ldI 572 (U22 (b + 1)) 5).bind fun t23 => (stI 572 U22 (b + 1) 5 (t23 + nI 1)).bind fun U24 => some U24) = some Y := by
        subst hx2 hq3 ht7
        rw [show (2 : Int32) = nI 2 from rfl, show (3 : Int32) = nI 3 from rfl, e_add, e_add, e_add, e_st (by omega) (by omega), o_b, e_st (by omega) (by omega), o_b, e_st (by omega) (by omega), o_b, l7, o_b, w_idx (by omega), w_idx (by omega), w_idx (by omega), u7, e_st (by omega) (by omega), o_b, l5, o_b, w_idx (by omega), w_idx (by omega), w_idx (by omega), w_idx (by omega), m5, e_add, show (5 : Int32) = nI 5 from rfl, e_st (by omega) (by omega), o_b, hY]
      rw [hB2]
      have Yo : ∀ y, y ≠ b + 1 → Y y = U2 y := fun y hy => by rw [hY, w_row hy, w_row hy, w_row hy, w_row hy, w_row hy]
      have Yi : ∀ k, k ≠ 5 → (k < 66 + 4 * i ∨ 66 + 4 * i + 3 < k) → Y (b + 1) k = U2 (b + 1) k := fun k h1 h2 => by rw [hY, w_idx h1, w_idx (by omega), w_idx (by omega), w_idx (by omega), w_idx (by omega)]
      have fv' := (fv.tr x3).tr y3
      have fu' : ∀ k, k ≠ 7 → k < 122 + 3 * bg → U2 (b + 1) k = U0 (b + 1) k := fun k h1 h2 => (y4.2.2 k h1 h2).trans ((x4.2.2 k h1 h2).trans (fu k h1 h2))
      have rlen : (ruG G (3 * m)).2.2.1 (a + 1) = 3 * m := by
        show va_up (va_up G.2.2.1 G.2.2.2 0) (G.2.2.2 + 1) (3 * m) (a + 1) = _
        rw [ha, va_up_self]
      have gw := gw_ru hW hX (by omega : z + 93 ≤ G.2.2.2) (3 * m)
      refine ⟨1, up2 X r 9 (nI (i + 1)), up2 (ruR R a) (r + 3) i (some a), ruG G (3 * m), Y, rfl, rfl, ⟨fun x h1 h2 h3 => ?_, fun k hk => ?_, fun x h1 h2 => ?_⟩, ⟨fun y h1 h2 => ?_, fun k hk => ?_, fun k h1 h2 h3 => ?_⟩, Or.inl ⟨rfl, ttA tz tp (ttA tz tp p), bg + m, (fun j => if j = i then kd else rk j), (fun j => if j = i then wl else rw j), (fun j => if j = i then m else rm j), (fun j => if j = i then g else rs j), ⟨⟨?_, fun j hj => ?_⟩, ⟨?_, fun j hj => ?_⟩, ?_, ?_, ?_, c6, c7, ?_⟩, ⟨w_same, ?_, fun j hj => ?_⟩, by omega, gw, hi⟩⟩
      · rw [w_row h2, Xo x (by omega) (by omega)]; exact fv'.1 x h2 h3
      · rw [w_idx (by omega), Xo r (by omega) (by omega)]; exact fv'.2 k (by omega)
      · rw [w_row h2]; unfold ruR zR; rw [w_row (by omega), va_up_ne _ _ (by omega)]
      · rw [Yo y h2, y4.1 y h1 h2, x4.1 y h1 h2, f11.1 y h1 h2]
      · rw [Yo b (by omega), y4.2.1 k (by omega), x4.2.1 k (by omega)]; exact f11.2.1 k hk
      · rw [Yi k h1 (by omega), y4.2.2 k h2 (by omega), x4.2.2 k h2 (by omega)]; exact f11.2.2 k h1 h2 h3
      · rw [w_idx (by omega), Xo r (by omega) (by omega)]; exact c1.1
      · rw [w_row (by omega), Xo (r + 1) (by omega) (by omega)]; exact c1.2 j hj
      · rw [Yo b (by omega)]; exact c2.1
      · rw [Yo (b + 4) (by omega)]; exact c2.2 j hj
      · unfold ToC
        rw [w_idx (by omega), w_idx (by omega), w_idx (by omega), w_idx (by omega), Xo r (by omega) (by omega)]
        exact c3
      · unfold ToM
        rw [Yo b (by omega)]
        exact c4
      · rw [Yo b (by omega)]; exact c5
      · rw [Yi 7 (by omega) (by omega)]; exact u7
      · rw [hY, w_same]
      · by_cases e : j = i
        · subst e
          simp only [↓reduceIte]
          refine ⟨⟨hkd, by omega, by omega, hpr⟩, ⟨a, w_same, by omega, by rw [ha]; exact ownB_of (ru_new G _), ?_, ?_, rlen, fun t ht => ⟨?_, ?_, ?_⟩⟩, bg, by omega, ?_, ?_, ?_, ?_, fun t ht => ?_⟩
          · rw [w_row (by omega)]; exact Xa.1
          · rw [w_row (by omega)]; exact Xa.2
          · rw [w_row (by omega), Xb _ (by omega)]; exact (sj t ht).1
          · rw [w_row (by omega), Xb _ (by omega)]; exact (sj t ht).2.1
          · rw [w_row (by omega), Xb _ (by omega)]; exact (sj t ht).2.2.1
          · rw [hY, w_idx (by omega), w_idx (by omega), w_idx (by omega), w_idx (by omega), w_same]
          · rw [hY, w_idx (by omega), w_idx (by omega), w_idx (by omega), w_same]
          · rw [hY, w_idx (by omega), w_idx (by omega), w_same]
          · rw [hY, w_idx (by omega), w_same]
          · rw [Yi _ (by omega) (by omega), Yi _ (by omega) (by omega), Yi _ (by omega) (by omega)]
            exact (sj t ht).2.2.2
        · simp only [e, ↓reduceIte]
          obtain ⟨k1, ⟨y, k2, k3⟩, b0, k4, k5, k6, k7, k8, k9⟩ := hMk.2.2 j (by omega)
          refine ⟨k1, ⟨y, ?_, ?_⟩, b0, by omega, ?_, ?_, ?_, ?_, fun t ht => ?_⟩
          · rw [w_idx e]; unfold ruR zR; rw [w_row (by omega), va_up_ne _ _ (by omega)]; exact k2
          · have k3' : RuC G V2' y z (rk j) (rw j) (rm j) (rs j) := k3.fr fun x hx => fv'.1 x (by omega) (by omega)
            have k3'' : RuC (ruG G (3 * m)) X y z (rk j) (rw j) (rm j) (rs j) := k3'.ext hX hW (fun _ _ q => ru_old hW q) (fun _ _ q => ru_len hW q) (fun x hx => Xo x (by omega) (by omega))
            exact k3''.fr fun x hx => w_row (by omega)
          · rw [Yi _ (by omega) (by omega), fu' _ (by omega) (by omega)]; exact k5
          · rw [Yi _ (by omega) (by omega), fu' _ (by omega) (by omega)]; exact k6
          · rw [Yi _ (by omega) (by omega), fu' _ (by omega) (by omega)]; exact k7
          · rw [Yi _ (by omega) (by omega), fu' _ (by omega) (by omega)]; exact k8
          · rw [Yi _ (by omega) (by omega), Yi _ (by omega) (by omega), Yi _ (by omega) (by omega), fu' _ (by omega) (by omega), fu' _ (by omega) (by omega), fu' _ (by omega) (by omega)]
            exact k9 t ht
end X9
