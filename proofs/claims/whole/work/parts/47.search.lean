/-! plans and games -/
section P1
variable {n z b : Nat} {G : G2} {R : R2}
/-- the search's state, in both -/
def SR (z b : Nat) (V U : V2) (len dd cc : Nat) : Prop := V (z + 36) 5 = U b 15 ∧ V (z + 36) 6 = U b 16 ∧ (∃ fe, fe ≤ 9 ∧ U b 19 = nI fe ∧ V (z + 36) 7 = if fe = 9 then -(nI 3) else nI fe) ∧ (∃ ev, ev < 64 ∧ V (z + 36) 8 = nI ev ∧ U b 20 = nI ev) ∧ (∃ wa, wa < 64 ∧ V (z + 36) 2 = nI wa ∧ U b 18 = nI wa) ∧ V (z + 36) 4 = nI len ∧ (∀ i, i < dd → V (z + 38) i = U (b + 6) i) ∧ (∃ mo, mo ≤ 100 ∧ U b 15 = nI mo - nI 1 ∧ (0 < mo → U b 17 = nI len ∧ ∀ i, i < len → V (z + 39) i = U (b + 7) i ∧ ∃ a, a ≤ cc ∧ V (z + 39) i = nI a))
def Pos (b : Nat) (U : V2) : Prop := ∃ mo, 0 < mo ∧ mo ≤ 100 ∧ U b 15 = nI mo - nI 1
/-- what the search may write -/
def SF (z : Nat) (V V' : V2) (d : Nat) : Prop := ∀ x, (x < z + 36 ∨ x = z + 37 ∨ z + 40 ≤ x ∧ x < z + 40 + 5 * (d + 1) ∨ z + 64 < x) → V' x = V x
def SG (b : Nat) (U U' : V2) (d : Nat) : Prop := (∀ y, y ≠ b → y ≠ b + 3 → y ≠ b + 6 → y ≠ b + 7 → U' y = U y) ∧ (∀ k, (k < 15 ∨ 20 < k) → U' b k = U b k) ∧ ∀ i, i < 38 * d → U' (b + 3) i = U (b + 3) i
theorem SF.rf {V : V2} {d : Nat} : SF z V V d := fun _ _ => rfl
theorem SG.rf {U : V2} {d : Nat} : SG b U U d := ⟨fun _ _ _ _ _ => rfl, fun _ _ => rfl, fun _ _ => rfl⟩
theorem SF.tr {V V' V'' : V2} {d : Nat} (h : SF z V V' d) (h2 : SF z V' V'' d) : SF z V V'' d := fun x hx => (h2 x hx).trans (h x hx)
theorem SG.tr {U U' U'' : V2} {d : Nat} (h : SG b U U' d) (h2 : SG b U' U'' d) : SG b U U'' d := ⟨fun y a c e f => (h2.1 y a c e f).trans (h.1 y a c e f), fun k hk => (h2.2.1 k hk).trans (h.2.1 k hk), fun i hi => (h2.2.2 i hi).trans (h.2.2 i hi)⟩
theorem SF.up {V V' : V2} {d d' : Nat} (h : SF z V V' d') (hd : d ≤ d') : SF z V V' d := fun x hx => h x (by omega)
theorem SG.up {U U' : V2} {d d' : Nat} (h : SG b U U' d') (hd : d ≤ d') : SG b U U' d := ⟨h.1, h.2.1, fun i hi => h.2.2 i (by omega)⟩
theorem b_w (f wa : Nat) (hf : f < 64) (hw : wa < 64) : (nI f &&& nI wa = nI wa) = (nI wa &&& (nI f ^^^ (-(nI 1))) = nI 0) := propext ⟨(b_sub f hf wa hw).mpr, (b_sub f hf wa hw).mp⟩
theorem SR.fr {V V' U U' : V2} {len dd cc : Nat} (h : SR z b V U len dd cc) (h1 : V' (z + 36) = V (z + 36)) (h2 : V' (z + 38) = V (z + 38)) (h3 : V' (z + 39) = V (z + 39)) (h4 : U' b = U b) (h5 : U' (b + 6) = U (b + 6)) (h6 : U' (b + 7) = U (b + 7)) : SR z b V' U' len dd cc := by
  unfold SR
  rw [h1, h2, h3, h4, h5, h6]
  exact h
theorem cpy4 {V : V2} {x y len : Nat} (hl : len ≤ 4) : cpyV 4 4 V x 0 y 0 (nI len) = some (va_up V y (va_cpy (V x) (V y) 0 0 len)) := by
  unfold cpyV
  have e1 : (0 : Int32).toNatClampNeg = 0 := by decide
  have e2 : (nI len).toNatClampNeg = len := nI_clamp (by omega)
  rw [e1, e2, if_pos]
  refine ⟨by decide, by decide, ?_, by omega, by omega⟩
  rw [show (0 : Int32) = nI 0 from rfl, e_nlt (by omega) (by omega)]
  exact id
theorem p_w1 (hn : 1000 ≤ n) {V U : V2} {len wo cc : Nat} (hS : SR z b V U len len cc) (hl : len ≤ 4) (hac : ∀ i, i < len → ∃ a, a ≤ cc ∧ V (z + 38) i = nI a) (hwo : wo < 100) : ∃ V' U', ((if nI wo ≤ V (z + 36) 5 then some V else letv (up2 V (z + 36) 5 (nI wo)) fun U2 => letv (up2 U2 (z + 36) 6 0) fun U3 => (cpyV 4 4 U3 (z + 38) 0 (z + 39) 0 (U3 (z + 36) 4)).bind fun U4 => some U4) : Option V2) = some V' ∧ ((if nI wo ≤ U b 15 then some U else letv (up2 U b 15 (nI wo)) fun U4 => letv (up2 U4 b 16 0) fun U5 => letv (up2 U5 b 17 (nI len)) fun U6 => (lX9_plans_38 b n U6 0).bind fun w13 => some w13) : Option V2) = some U' ∧ SR z b V' U' len len cc ∧ (∃ mo, 0 < mo ∧ mo ≤ 100 ∧ U' b 15 = nI mo - nI 1) ∧ (∀ x, x ≠ z + 36 → x ≠ z + 39 → V' x = V x) ∧ (∀ y, y ≠ b → y ≠ b + 7 → U' y = U y) ∧ (∀ k, k < 15 ∨ 20 < k → U' b k = U b k) := by
  obtain ⟨s1, s2, s3, s4, s5, s6, s7, mo, m1, m2, m3⟩ := id hS
  by_cases q : wo + 1 ≤ mo
  · refine ⟨V, U, ?_, ?_, hS, ⟨mo, by omega, m1, m2⟩, fun _ _ _ => rfl, fun _ _ _ => rfl, fun _ _ => rfl⟩
    · rw [s1, m2, if_pos (show nI wo ≤ nI mo - nI 1 by rw [m1_le (by omega) (by omega)]; exact q)]
    · rw [m2, if_pos (show nI wo ≤ nI mo - nI 1 by rw [m1_le (by omega) (by omega)]; exact q)]
  · obtain ⟨U1, c1, c2, c3⟩ := cp_first (b := b) 4 0 n (U := up2 (up2 (up2 U b 15 (nI wo)) b 16 (nI 0)) b 17 (nI len)) (by omega) (by omega)
    have e6 : up2 (up2 V (z + 36) 5 (nI wo)) (z + 36) 6 (nI 0) (z + 36) 4 = nI len := by rw [w_idx (by omega), w_idx (by omega)]; exact s6
    have cb : ∀ k, U1 b k = up2 (up2 (up2 U b 15 (nI wo)) b 16 (nI 0)) b 17 (nI len) b k := fun k => by rw [c2 b (by omega)]
    have c6 : U1 (b + 6) = U (b + 6) := by rw [c2 _ (by omega), w_row (by omega), w_row (by omega), w_row (by omega)]
    have ew : nI wo = nI (wo + 1) - nI 1 := by rw [e_sub (by omega), Nat.add_sub_cancel]
    refine ⟨va_up (up2 (up2 V (z + 36) 5 (nI wo)) (z + 36) 6 (nI 0)) (z + 39) (va_cpy (up2 (up2 V (z + 36) 5 (nI wo)) (z + 36) 6 (nI 0) (z + 38)) (up2 (up2 V (z + 36) 5 (nI wo)) (z + 36) 6 (nI 0) (z + 39)) 0 0 len), U1, ?_, ?_, ⟨?_, ?_, ?_, ?_, ?_, ?_, fun i hi => ?_, wo + 1, by omega, ?_, fun _ => ⟨?_, fun i hi => ⟨?_, ?_⟩⟩⟩, ⟨wo + 1, by omega, by omega, ?_⟩, fun x g1 g2 => ?_, fun y g1 g2 => ?_, fun k hk => ?_⟩
    · rw [s1, m2, if_neg (show ¬ nI wo ≤ nI mo - nI 1 by rw [m1_le (by omega) (by omega)]; exact q)]
      simp only [letv, li_0, e6, cpy4 hl, o_b]
      rw [← li_0, cpy4 hl]
      rfl
    · rw [m2, if_neg (show ¬ nI wo ≤ nI mo - nI 1 by rw [m1_le (by omega) (by omega)]; exact q)]
      simp only [letv, li_0, c1, o_b]
    · rw [va_up_ne _ _ (by omega), w_idx (by omega), w_same, cb, w_idx (by omega), w_idx (by omega), w_same]
    · rw [va_up_ne _ _ (by omega), w_same, cb, w_idx (by omega), w_same]
    · obtain ⟨fe, g1, g2, g3⟩ := s3
      refine ⟨fe, g1, ?_, ?_⟩
      · rw [cb, w_idx (by omega), w_idx (by omega), w_idx (by omega)]; exact g2
      · rw [va_up_ne _ _ (by omega), w_idx (by omega), w_idx (by omega)]; exact g3
    · obtain ⟨ev, g1, g2, g3⟩ := s4
      refine ⟨ev, g1, ?_, ?_⟩
      · rw [va_up_ne _ _ (by omega), w_idx (by omega), w_idx (by omega)]; exact g2
      · rw [cb, w_idx (by omega), w_idx (by omega), w_idx (by omega)]; exact g3
    · obtain ⟨wa, g1, g2, g3⟩ := s5
      refine ⟨wa, g1, ?_, ?_⟩
      · rw [va_up_ne _ _ (by omega), w_idx (by omega), w_idx (by omega)]; exact g2
      · rw [cb, w_idx (by omega), w_idx (by omega), w_idx (by omega)]; exact g3
    · rw [va_up_ne _ _ (by omega)]; exact e6
    · rw [va_up_ne _ _ (by omega), w_row (by omega), w_row (by omega), c6]; exact s7 i hi
    · rw [cb, w_idx (by omega), w_idx (by omega), w_same]; exact ew
    · rw [cb, w_same]
    · rw [va_up_self, cpy_at hi, w_row (by omega), w_row (by omega), s7 i hi, c3 i, if_pos (by omega), w_row (by omega), w_row (by omega), w_row (by omega)]
    · rw [va_up_self, cpy_at hi, w_row (by omega), w_row (by omega)]; exact hac i hi
    · rw [cb, w_idx (by omega), w_idx (by omega), w_same]; exact ew
    · rw [va_up_ne _ _ g2, w_row g1, w_row g1]
    · rw [c2 _ g2, w_row g1, w_row g1, w_row g1]
    · rw [cb, w_idx (by omega), w_idx (by omega), w_idx (by omega)]
theorem w_id {V : V2} {x k : Nat} {v : Int32} (h : V x k = v) : up2 V x k v = V := by
  funext y j
  by_cases q : y = x
  · subst q
    rw [w_at]
    split
    · rename_i q2; rw [q2, h]
    · rfl
  · rw [w_row q]
theorem p_weigh (hn : 1000 ≤ n) {V U : V2} {L : Ld} {len wo to' cc : Nat} (hS : SR z b V U len len cc) (hl : len ≤ 4) (hR : ST z G R) (hL : LC V (z + 40 + 5 * len) L) (mC : MC (U (b + 1)) L) (iL : IL L) (hac : ∀ i, i < len → ∃ a, a ≤ cc ∧ V (z + 38) i = nI a) (hwo : wo < 100) (hto : to' ≤ 4) {rec : Nat → V2 → Nat → Int32 → Int32 → Int32 → Int32 → Option V2} {nn : Nat} (hend : len = nn ∨ (len ≠ nn ∧ pX9_isOver U b = some (nI 1))) (hnn : nn ≤ 4) : ∃ V' U', pX6_weigh G V R (z + 36) (nI wo) (nI to') = some V' ∧ fX9_plans rec n U b (nI len) (nI nn) (nI wo) (nI to') = some U' ∧ SR z b V' U' len len cc ∧ SF z V V' len ∧ SG b U U' len ∧ U' (b + 1) = U (b + 1) ∧ V' (z + 38) = V (z + 38) ∧ Pos b U' := by
  obtain ⟨V1, U1, a1, a2, hS1, ⟨mo, mo0, mo1, mo2⟩, f1, f2, f3⟩ := p_w1 (n := n) hn hS hl hac hwo
  obtain ⟨s1, s2, ⟨fe, fe9, s3, s3'⟩, ⟨ev, ev6, s4, s4'⟩, ⟨wa, wa6, s5, s5'⟩, s6, s7, s8⟩ := id hS1
  have hL1 : V1 (z + 40 + 5 * len) 2 = nI (L_f L) := by rw [f1 _ (by omega) (by omega)]; exact hL.2.2.1
  have mC1 : MC (U1 (b + 1)) L := by rw [f2 _ (by omega) (by omega)]; exact mC
  obtain ⟨r1, r2⟩ := hR len (by omega)
  have ef := iL.2.2.1
  -- the count of the best
  obtain ⟨bm, hbm⟩ : ∃ bm, bm = if nI wo = U1 b 15 then U1 b 16 + nI 1 else U1 b 16 := ⟨_, rfl⟩
  -- fewest
  obtain ⟨fe', fe9', hfe⟩ : ∃ fe', fe' ≤ 9 ∧ fe' = if nI wa &&& (nI (L_f L) ^^^ (-(nI 1))) = nI 0 then (if fe ≤ to' then fe else to') else fe := ⟨_, by split; split; omega; omega; omega, rfl⟩
  have eor := b_or ev ev6 (L_f L) ef
  have eorl := b_orl ev ev6 (L_f L) ef
  refine ⟨up2 (up2 (up2 V1 (z + 36) 6 bm) (z + 36) 8 (nI (ev ||| L_f L))) (z + 36) 7 (if fe' = 9 then -(nI 3) else nI fe'), up2 (up2 (up2 U1 b 16 bm) b 20 (nI (ev ||| L_f L))) b 19 (nI fe'), ?_, ?_, ⟨?_, ?_, ⟨fe', fe9', ?_, ?_⟩, ⟨ev ||| L_f L, eorl, ?_, ?_⟩, ⟨wa, wa6, ?_, ?_⟩, ?_, fun i hi => ?_, ?_⟩, fun x hx => ?_, ⟨fun y g1 g2 g3 g4 => ?_, fun k hk => ?_, fun i hi => ?_⟩, ?_, ?_, ⟨mo, mo0, mo1, ?_⟩⟩
  · unfold pX6_weigh
    rw [show z + 36 + 2 = z + 38 from rfl, show z + 36 + 3 = z + 39 from rfl, a1]
    simp only [o_b, letv]
    have hj5 : (if nI wo = V1 (z + 36) 5 then up2 V1 (z + 36) 6 (V1 (z + 36) 6 + 1) else V1) = up2 V1 (z + 36) 6 bm := by
      rw [hbm, s1, s2]
      split
      · rfl
      · exact (w_id s2).symm
    simp only [hj5]
    have j4 : up2 V1 (z + 36) 6 bm (z + 36) 4 = nI len := by rw [w_idx (by omega)]; exact s6
    have jf : up2 V1 (z + 36) 6 bm (z + 40 + 5 * len) 2 = nI (L_f L) := by rw [w_row (by omega)]; exact hL1
    have j8 : up2 V1 (z + 36) 6 bm (z + 36) 8 = nI ev := by rw [w_idx (by omega)]; exact s4
    have j2 : up2 V1 (z + 36) 6 bm (z + 36) 2 = nI wa := by rw [w_idx (by omega)]; exact s5
    have j7 : up2 V1 (z + 36) 6 bm (z + 36) 7 = if fe = 9 then -(nI 3) else nI fe := by rw [w_idx (by omega)]; exact s3'
    have r1' : R (z + 36 + 1) len = some (z + 40 + 5 * len) := r1
    generalize up2 V1 (z + 36) 6 bm = J at j4 jf j8 j2 j7 ⊢
    have k2 : up2 J (z + 36) 8 (nI (ev ||| L_f L)) (z + 36) 2 = nI wa := by rw [w_idx (by omega)]; exact j2
    have k7 : up2 J (z + 36) 8 (nI (ev ||| L_f L)) (z + 36) 7 = if fe = 9 then -(nI 3) else nI fe := by rw [w_idx (by omega)]; exact j7
    simp (disch := omega) only [j4, o_ld, o_b, r1', ocase, r2, ↓reduceIte, jf, j8, eor, k2]
    generalize up2 J (z + 36) 8 (nI (ev ||| L_f L)) = K at k7 ⊢
    have bw := b_w (L_f L) wa ef wa6
    by_cases c : nI (L_f L) &&& nI wa = nI wa
    · have c' : nI wa &&& (nI (L_f L) ^^^ (-(nI 1))) = nI 0 := by rw [← bw]; exact c
      rw [if_pos c'] at hfe
      by_cases f9 : fe = 9
      · rw [if_neg (by omega)] at hfe
        rw [if_pos f9] at k7
        rw [hfe]
        simp (disch := omega) only [c, ↓reduceIte, k7, li_3, show ¬ to' = 9 by omega]
      · rw [if_neg f9] at k7
        by_cases g : fe ≤ to'
        · rw [if_pos g] at hfe
          rw [hfe]
          simp (disch := omega) only [c, ↓reduceIte, k7, li_3, m_eq, e_le, f9]
          rw [w_id k7]
        · rw [if_neg g] at hfe
          rw [hfe]
          simp (disch := omega) only [c, ↓reduceIte, k7, li_3, m_eq, e_nle, show ¬ to' = 9 by omega]
    · have c' : ¬ nI wa &&& (nI (L_f L) ^^^ (-(nI 1))) = nI 0 := by rw [← bw]; exact c
      rw [if_neg c'] at hfe
      rw [hfe]
      simp only [c, ↓reduceIte]
      rw [w_id k7]
  · simp only [letv] at a2
    have hb15 : ∀ W : V2, (if nI wo = U1 b 15 then (1 : Int32) else 0) = (if nI wo = U1 b 15 then nI 1 else nI 0) := fun _ => rfl
    have hj : up2 U1 b 16 (U1 b 16 + if nI wo = U1 b 15 then (1 : Int32) else 0) = up2 U1 b 16 bm := by
      rw [hbm]
      split
      · rfl
      · rw [show (0 : Int32) = nI 0 from rfl, ← li_0, Int32.add_zero]
    have mf := m_flats hn (show MC (up2 U1 b 16 bm (b + 1)) L by rw [w_row (by omega)]; exact mC1) iL
    have j20 : up2 U1 b 16 bm b 20 = nI ev := by rw [w_idx (by omega)]; exact s4'
    have j18 : up2 U1 b 16 bm b 18 = nI wa := by rw [w_idx (by omega)]; exact s5'
    have j19 : up2 U1 b 16 bm b 19 = nI fe := by rw [w_idx (by omega)]; exact s3
    have leaf : (fX9_plans rec n U b (nI len) (nI len) (nI wo) (nI to')) = some (up2 (up2 (up2 U1 b 16 bm) b 20 (nI (ev ||| L_f L))) b 19 (nI fe')) := by
      unfold fX9_plans
      simp only [letv, ↓reduceIte]
      rw [a2]
      simp only [o_b, hj, mf]
      generalize up2 U1 b 16 bm = J at j20 j18 j19 ⊢
      have ec : (if nI wa &&& (nI (L_f L) ^^^ -1) = 0 then (if nI fe ≤ nI to' then nI fe else nI to') else nI fe) = nI fe' := by
        rw [hfe]
        show (if nI wa &&& (nI (L_f L) ^^^ -(nI 1)) = nI 0 then (if nI fe ≤ nI to' then nI fe else nI to') else nI fe) = _
        by_cases c : nI wa &&& (nI (L_f L) ^^^ (-(nI 1))) = nI 0
        · rw [if_pos c, if_pos c]
          by_cases g : fe ≤ to'
          · simp (disch := omega) only [e_le, ↓reduceIte, g]
          · simp (disch := omega) only [e_nle, ↓reduceIte, g]
        · rw [if_neg c, if_neg c]
      have k18 : up2 J b 20 (nI (ev ||| L_f L)) b 18 = nI wa := by rw [w_idx (by omega)]; exact j18
      have k19 : up2 J b 20 (nI (ev ||| L_f L)) b 19 = nI fe := by rw [w_idx (by omega)]; exact j19
      simp only [j20, eor, k18, k19, ec]
    rcases hend with rfl | ⟨g1, g2⟩
    · exact leaf
    · rw [← leaf]
      unfold fX9_plans
      simp (disch := omega) only [letv, g2, o_b, li_0, e_10, e_neq, ↓reduceIte]
  · rw [w_idx (by omega), w_idx (by omega), w_idx (by omega), w_idx (by omega), w_idx (by omega), w_idx (by omega)]; exact s1
  · rw [w_idx (by omega), w_idx (by omega), w_same, w_idx (by omega), w_idx (by omega), w_same]
  · exact w_same
  · exact w_same
  · rw [w_idx (by omega), w_same]
  · rw [w_idx (by omega), w_same]
  · rw [w_idx (by omega), w_idx (by omega), w_idx (by omega)]; exact s5
  · rw [w_idx (by omega), w_idx (by omega), w_idx (by omega)]; exact s5'
  · rw [w_idx (by omega), w_idx (by omega), w_idx (by omega)]; exact s6
  · rw [w_row (by omega), w_row (by omega), w_row (by omega), w_row (by omega), w_row (by omega), w_row (by omega)]; exact s7 i hi
  · obtain ⟨m, h1, h2, h3⟩ := s8
    refine ⟨m, h1, ?_, fun hm => ⟨?_, fun i hi => ?_⟩⟩
    · rw [w_idx (by omega), w_idx (by omega), w_idx (by omega)]; exact h2
    · rw [w_idx (by omega), w_idx (by omega), w_idx (by omega)]; exact (h3 hm).1
    · rw [w_row (by omega), w_row (by omega), w_row (by omega), w_row (by omega), w_row (by omega), w_row (by omega)]; exact (h3 hm).2 i hi
  · rw [w_row (by omega), w_row (by omega), w_row (by omega), f1 _ (by omega) (by omega)]
  · rw [w_row g1, w_row g1, w_row g1, f2 _ g1 g4]
  · rw [w_idx (by omega), w_idx (by omega), w_idx (by omega), f3 k hk]
  · rw [w_row (by omega), w_row (by omega), w_row (by omega), f2 _ (by omega) (by omega)]
  · rw [w_row (by omega), w_row (by omega), w_row (by omega), f2 _ (by omega) (by omega)]
  · rw [w_row (by omega), w_row (by omega), w_row (by omega), f1 _ (by omega) (by omega)]
  · rw [w_idx (by omega), w_idx (by omega), w_idx (by omega)]; exact mo2
end P1
