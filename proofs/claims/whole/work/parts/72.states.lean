/-! a rule as far as it is read: the class's steps and the reference's -/
def pdB (g : Nat → Nat × Nat × Nat) : Nat → Nat → Nat → Nat → Prop
  | d, _, 0, d' => d = d'
  | d, j, k + 1, d' => (g j).1 ≤ 5 ∧ (g j).2.1 ≤ 10004 ∧ (g j).2.2 ≤ 10004 ∧ dpA (g j).1 d ≤ 9 ∧ pdB g (dpA (g j).1 d) (j + 1) k d'
theorem pdB_app {g : Nat → Nat × Nat × Nat} {d1 d2 : Nat} : ∀ k d j k', pdB g d j k d1 → pdB g d1 (j + k) k' d2 → pdB g d j (k + k') d2
  | 0, d, j, k', h, h2 => by
    have e : d = d1 := h
    rw [e, Nat.zero_add]
    exact h2
  | k + 1, d, j, k', ⟨a1, a2, a3, a4, a5⟩, h2 => by
    rw [show k + 1 + k' = (k + k') + 1 by omega]
    exact ⟨a1, a2, a3, a4, pdB_app k _ (j + 1) k' a5 (by rw [show j + 1 + k = j + (k + 1) by omega]; exact h2)⟩
theorem pdB_congr {g g' : Nat → Nat × Nat × Nat} {d' : Nat} : ∀ k d j, (∀ i, j ≤ i → i < j + k → g' i = g i) → pdB g d j k d' → pdB g' d j k d'
  | 0, d, j, _, h => h
  | k + 1, d, j, h, ⟨a1, a2, a3, a4, a5⟩ => by
    have e := h j (by omega) (by omega)
    unfold pdB
    rw [e]
    exact ⟨a1, a2, a3, a4, pdB_congr k _ (j + 1) (fun i h1 h2 => h i (by omega) (by omega)) a5⟩
theorem pdB_pr {g : Nat → Nat × Nat × Nat} {d' : Nat} : ∀ k d j, pdB g d j k d' → prB g d j k
  | 0, _, _, _ => trivial
  | k + 1, d, j, ⟨a1, a2, a3, a4, a5⟩ => ⟨a1, a2, a3, a4, pdB_pr k _ (j + 1) a5⟩
def FV (r : Nat) (V V' : V2) : Prop := (∀ x, x ≠ r → x ≠ r + 2 → V' x = V x) ∧ ∀ k, (k < 2 ∨ 7 < k) → V' r k = V r k
def FU (b bg : Nat) (U U' : V2) : Prop := (∀ y, y ≠ b → y ≠ b + 1 → U' y = U y) ∧ (∀ k, (k < 6 ∨ 10 < k) → U' b k = U b k) ∧ ∀ i, i ≠ 7 → i < 122 + 3 * bg → U' (b + 1) i = U (b + 1) i
theorem FV.rf {r : Nat} {V : V2} : FV r V V := ⟨fun _ _ _ => rfl, fun _ _ => rfl⟩
theorem FU.rf {b bg : Nat} {U : V2} : FU b bg U U := ⟨fun _ _ _ => rfl, fun _ _ => rfl, fun _ _ _ => rfl⟩
theorem FV.tr {r : Nat} {V V' V'' : V2} (h : FV r V V') (h2 : FV r V' V'') : FV r V V'' := ⟨fun x a c => (h2.1 x a c).trans (h.1 x a c), fun k hk => (h2.2 k hk).trans (h.2 k hk)⟩
theorem FU.tr {b bg : Nat} {U U' U'' : V2} (h : FU b bg U U') (h2 : FU b bg U' U'') : FU b bg U U'' := ⟨fun x a c => (h2.1 x a c).trans (h.1 x a c), fun k hk => (h2.2.1 k hk).trans (h.2.1 k hk), fun i a c => (h2.2.2 i a c).trans (h.2.2 i a c)⟩
section X6
variable {n r b tz p bg m : Nat} {tp : Nat → Nat} {V U : V2} {g : Nat → Nat × Nat × Nat}
theorem TaC.fv {V' : V2} (h : TaC r tz tp V) (f : FV r V V') : TaC r tz tp V' := ⟨by rw [f.2 1 (by omega)]; exact h.1, fun i hi => by rw [f.1 (r + 1) (by omega) (by omega)]; exact h.2 i hi⟩
theorem TaM.fu {U' : V2} (h : TaM b tz tp U) (f : FU b bg U U') : TaM b tz tp U' := ⟨by rw [f.2.1 5 (by omega)]; exact h.1, fun i hi => by rw [f.1 (b + 4) (by omega) (by omega)]; exact h.2 i hi⟩
theorem fv_of {V' : V2} (h1 : ∀ x, x ≠ r → V' x = V x) (h2 : ∀ k, (k < 2 ∨ 5 < k) → V' r k = V r k) : FV r V V' := ⟨fun x a _ => h1 x a, fun k hk => h2 k (by omega)⟩
theorem fu_of {U' : V2} (h1 : ∀ x, x ≠ b → U' x = U x) (h2 : ∀ k, (k < 6 ∨ 9 < k) → U' b k = U b k) : FU b bg U U' := ⟨fun x a _ => h1 x a, fun k hk => h2 k (by omega), fun i _ _ => by rw [h1 (b + 1) (by omega)]⟩
def StB (r b : Nat) (V U : V2) (bg m : Nat) (g : Nat → Nat × Nat × Nat) : Prop := V r 7 = nI (3 * m) ∧ U (b + 1) 7 = nI (bg + m) ∧ ∀ j, j < m → V (r + 2) (3 * j) = nI (g j).1 ∧ V (r + 2) (3 * j + 1) = nI (g j).2.1 ∧ V (r + 2) (3 * j + 2) = nI (g j).2.2 ∧ U (b + 1) (122 + 3 * (bg + j)) = nI (moA (g j).1) ∧ U (b + 1) (122 + 3 * (bg + j) + 1) = nI (g j).2.1 ∧ U (b + 1) (122 + 3 * (bg + j) + 2) = nI (g j).2.2
def Gd (r b tz : Nat) (tp : Nat → Nat) (bg : Nat) (V U : V2) (p m : Nat) (g : Nat → Nat × Nat × Nat) : Prop := TaC r tz tp V ∧ TaM b tz tp U ∧ ToC r tz tp V p ∧ ToM b tz tp U p ∧ U b 10 = nI 0 ∧ p ≤ tz ∧ 2 * (bg + m) ≤ p ∧ StB r b V U bg m g
def Bad (r b tz : Nat) (tp : Nat → Nat) (V U : V2) : Prop := U b 10 = nI 1 ∧ (∃ q, q ≤ tz ∧ V r 2 = nI (tfA tz tp q) ∧ ToM b tz tp U q) ∧ ∃ mm, mm ≤ 100 ∧ V r 7 = nI (3 * mm)
/-- what one or more of a condition come to, from depth d to depth d' -/
def Res (r b tz : Nat) (tp : Nat → Nat) (bg d d' : Nat) (V U : V2) (p m : Nat) (g : Nat → Nat × Nat × Nat) (A : Option (Int32 × V2)) (B : Option V2) : Prop := ∃ x V' U', A = some (nI x, V') ∧ B = some U' ∧ FV r V V' ∧ FU b bg U U' ∧ ((x = 1 ∧ ∃ p' m' g', Gd r b tz tp bg V' U' p' m' g' ∧ p + 2 * m' + 1 ≤ p' + 2 * m ∧ m ≤ m' ∧ (∀ j, j < m → g' j = g j) ∧ pdB g' d m (m' - m) d') ∨ (x = 0 ∧ Bad r b tz tp V' U'))
theorem gd_mv {V' U' : V2} {q : Nat} (h : Gd r b tz tp bg V U p m g) (hq : p ≤ q) (hq2 : q ≤ tz) (hT : ToC r tz tp V' q) (hM : ToM b tz tp U' q) (v1 : ∀ x, x ≠ r → V' x = V x) (v2 : ∀ k, (k < 2 ∨ 5 < k) → V' r k = V r k) (u1 : ∀ x, x ≠ b → U' x = U x) (u2 : ∀ k, (k < 6 ∨ 9 < k) → U' b k = U b k) : Gd r b tz tp bg V' U' q m g := by
  obtain ⟨a1, a2, a3, a4, a5, a6, a7, c1, c2, c3⟩ := h
  refine ⟨a1.fv (fv_of v1 v2), a2.fu (bg := bg) (fu_of u1 u2), hT, hM, by rw [u2 10 (by omega)]; exact a5, hq2, by omega, by rw [v2 7 (by omega)]; exact c1, by rw [u1 (b + 1) (by omega)]; exact c2, fun j hj => ?_⟩
  rw [v1 (r + 2) (by omega), u1 (b + 1) (by omega)]
  exact c3 j hj
theorem gd_go (hn : 1000 ≤ n) (hB : TB tz tp) (h : Gd r b tz tp bg V U p m g) : ∃ V' U', pX5_goOn n V r = some V' ∧ pX9_nextToken n U b = some U' ∧ pX9_needs n U b (nI 1) = some U' ∧ Gd r b tz tp bg V' U' (ttA tz tp p) m g ∧ FV r V V' ∧ FU b bg U U' := by
  obtain ⟨a1, a2, a3, a4, a5, a6, a7, a8⟩ := id h
  have f1 := tf_le (tp := tp) a6
  have f2 := tt_le (tp := tp) a6
  obtain ⟨V', v1, v2, v3, v4⟩ := c_goOn hn hB a1 f2.2.1 a3.2.1
  obtain ⟨U', u1, u2, u3, u4⟩ := m_next hn hB a2 f2.2.1 a4.2.1
  refine ⟨V', U', v1, u1, ?_, gd_mv h (by omega) f2.2.1 v2 u2 v3 v4 u3 u4, fv_of v3 v4, fu_of u3 u4⟩
  unfold pX9_needs
  have i1 : isb (0 : Int32) = true := by decide
  have w0 : up2 U b 10 (0 : Int32) = U := w_id a5
  rw [a5]
  simp only [letv, show (nI 0 = (0 : Int32)) = True from eq_true rfl, show (nI 1 = (0 : Int32)) = False from eq_false (by decide), ↓reduceIte, i1, w0, a5, u1, o_b]
theorem add_ok (h : Gd r b tz tp bg V U p m g) (hp : p ≤ 200) (h2 : 2 * (bg + m) + 2 ≤ p) {op a c e : Nat} {op' a' c' e' : Int32} (ho : op' = nI op) (ha : a' = nI a) (hc : c' = nI c) (he : e' = nI e) (hm : e = moA op) : ∃ V' U', pX5_addStep V r op' a' c' = some V' ∧ pX9_steps U b e' a' c' = some U' ∧ FV r V V' ∧ FU b bg U U' ∧ Gd r b tz tp bg V' U' p (m + 1) (fun j => if j = m then (op, a, c) else g j) ∧ ∀ x, x ≠ 7 → U' b x = U b x := by
  subst ho ha hc he
  obtain ⟨a1, a2, a3, a4, a5, a6, a7, c1, c2, c3⟩ := h
  have k1 : ∀ k v, up2 V (r + 2) k v r = V r := fun k v => w_row (by omega)
  have q1 : pX5_addStep V r (nI op) (nI a) (nI c) = some (up2 (up2 (up2 (up2 V (r + 2) (3 * m) (nI op)) (r + 2) (3 * m + 1) (nI a)) (r + 2) (3 * m + 2) (nI c)) r 7 (nI (3 * m + 3))) := by
    unfold pX5_addStep
    have e1 : up2 V (r + 2) (3 * m) (nI op) r 7 = nI (3 * m) := by rw [w_row (by omega)]; exact c1
    have e2 : up2 (up2 V (r + 2) (3 * m) (nI op)) (r + 2) (3 * m + 1) (nI a) r 7 = nI (3 * m) := by rw [w_row (by omega)]; exact e1
    have e3 : up2 (up2 (up2 V (r + 2) (3 * m) (nI op)) (r + 2) (3 * m + 1) (nI a)) (r + 2) (3 * m + 2) (nI c) r 7 = nI (3 * m) := by rw [w_row (by omega)]; exact e2
    have l3 : (3 : Int32) = nI 3 := rfl
    have l2 : (2 : Int32) = nI 2 := rfl
    have l1 : (1 : Int32) = nI 1 := rfl
    simp (disch := omega) only [letv, c1, l1, l2, l3, e_add, e_nlt, ↓reduceIte, e_st, o_b, e1, e2, e3]
  have q2 : pX9_steps U b (nI e) (nI a) (nI c) = some (up2 (up2 (up2 (up2 U (b + 1) (122 + 3 * (bg + m)) (nI e)) (b + 1) (122 + 3 * (bg + m) + 1) (nI a)) (b + 1) (122 + 3 * (bg + m) + 2) (nI c)) (b + 1) 7 (nI (bg + m + 1))) := by
    unfold pX9_steps
    have e1 : up2 U (b + 1) (122 + 3 * (bg + m)) (nI e) (b + 1) 7 = nI (bg + m) := by rw [w_idx (by omega)]; exact c2
    have e2 : up2 (up2 U (b + 1) (122 + 3 * (bg + m)) (nI e)) (b + 1) (122 + 3 * (bg + m) + 1) (nI a) (b + 1) 7 = nI (bg + m) := by rw [w_idx (by omega)]; exact e1
    have e3 : up2 (up2 (up2 U (b + 1) (122 + 3 * (bg + m)) (nI e)) (b + 1) (122 + 3 * (bg + m) + 1) (nI a)) (b + 1) (122 + 3 * (bg + m) + 2) (nI c) (b + 1) 7 = nI (bg + m) := by rw [w_idx (by omega)]; exact e2
    have l3 : (3 : Int32) = nI 3 := rfl
    have l2 : (2 : Int32) = nI 2 := rfl
    have l1 : (1 : Int32) = nI 1 := rfl
    have l7 : (7 : Int32) = nI 7 := rfl
    have l0 : (0 : Int32) = nI 0 := rfl
    have l122 : (122 : Int32) = nI 122 := rfl
    simp (disch := omega) only [a5, l0, l1, l2, l3, l7, l122, ↓reduceIte, e_ld, c2, o_b, e_mul, e_add, e_st, e1, e2, e3]
  have fv : FV r V (up2 (up2 (up2 (up2 V (r + 2) (3 * m) (nI op)) (r + 2) (3 * m + 1) (nI a)) (r + 2) (3 * m + 2) (nI c)) r 7 (nI (3 * m + 3))) := ⟨fun x h1 h2 => by rw [w_row h1, w_row h2, w_row h2, w_row h2], fun k hk => by rw [w_idx (by omega), w_row (by omega), w_row (by omega), w_row (by omega)]⟩
  have fu : FU b bg U (up2 (up2 (up2 (up2 U (b + 1) (122 + 3 * (bg + m)) (nI e)) (b + 1) (122 + 3 * (bg + m) + 1) (nI a)) (b + 1) (122 + 3 * (bg + m) + 2) (nI c)) (b + 1) 7 (nI (bg + m + 1))) := ⟨fun y h1 h2 => by rw [w_row h2, w_row h2, w_row h2, w_row h2], fun k hk => by rw [w_row (by omega), w_row (by omega), w_row (by omega), w_row (by omega)], fun i h1 h2 => by rw [w_idx (by omega), w_idx (by omega), w_idx (by omega), w_idx (by omega)]⟩
  refine ⟨_, _, q1, q2, fv, fu, ⟨a1.fv fv, a2.fu fu, ?_, ?_, ?_, a6, by omega, ?_, ?_, fun j hj => ?_⟩, fun x _ => by rw [w_row (by omega), w_row (by omega), w_row (by omega), w_row (by omega)]⟩
  · unfold ToC
    rw [w_idx (by omega), w_idx (by omega), w_idx (by omega), w_idx (by omega), w_row (by omega), w_row (by omega), w_row (by omega)]
    exact a3
  · unfold ToM
    rw [w_row (by omega), w_row (by omega), w_row (by omega), w_row (by omega)]
    exact a4
  · rw [w_row (by omega), w_row (by omega), w_row (by omega), w_row (by omega)]
    exact a5
  · rw [w_same]; congr 1
  · rw [w_same]; congr 1
  · dsimp only
    by_cases q : j = m
    · subst q
      rw [if_pos rfl]
      refine ⟨?_, ?_, ?_, ?_, ?_, ?_⟩
      · rw [w_row (by omega), w_idx (by omega), w_idx (by omega), w_same]
      · rw [w_row (by omega), w_idx (by omega), w_same]
      · rw [w_row (by omega), w_same]
      · rw [w_idx (by omega), w_idx (by omega), w_idx (by omega), w_same, hm]
      · rw [w_idx (by omega), w_idx (by omega), w_same]
      · rw [w_idx (by omega), w_same]
    · rw [if_neg q]
      obtain ⟨d1, d2, d3, d4, d5, d6⟩ := c3 j (by omega)
      refine ⟨?_, ?_, ?_, ?_, ?_, ?_⟩
      · rw [w_row (by omega), w_idx (by omega), w_idx (by omega), w_idx (by omega)]; exact d1
      · rw [w_row (by omega), w_idx (by omega), w_idx (by omega), w_idx (by omega)]; exact d2
      · rw [w_row (by omega), w_idx (by omega), w_idx (by omega), w_idx (by omega)]; exact d3
      · rw [w_idx (by omega), w_idx (by omega), w_idx (by omega), w_idx (by omega)]; exact d4
      · rw [w_idx (by omega), w_idx (by omega), w_idx (by omega), w_idx (by omega)]; exact d5
      · rw [w_idx (by omega), w_idx (by omega), w_idx (by omega), w_idx (by omega)]; exact d6
/-- a step behind a fault: nobody reads it -/
theorem add_bad {op a c : Int32} (h : Bad r b tz tp V U) : ∃ V', pX5_addStep V r op a c = some V' ∧ pX9_steps U b op a c = some U ∧ FV r V V' ∧ Bad r b tz tp V' U := by
  obtain ⟨h1, ⟨q, hq, h2, h3⟩, mm, h4, h5⟩ := h
  have hs : ∀ x y z, pX9_steps U b x y z = some U := fun x y z => by
    unfold pX9_steps
    rw [h1, if_neg (show ¬ nI 1 = (0 : Int32) by decide)]
  by_cases h6 : mm = 100
  · refine ⟨V, ?_, hs _ _ _, FV.rf, h1, ⟨q, hq, h2, h3⟩, mm, h4, h5⟩
    unfold pX5_addStep
    rw [h5, show (3 : Int32) = nI 3 from rfl, e_add, if_pos (nI_lt (by omega) (by omega))]
  · refine ⟨up2 (up2 (up2 (up2 V (r + 2) (3 * mm) op) (r + 2) (3 * mm + 1) a) (r + 2) (3 * mm + 2) c) r 7 (nI (3 * mm + 3)), ?_, hs _ _ _, ⟨fun x h1 h2 => by rw [w_row h1, w_row h2, w_row h2, w_row h2], fun k hk => by rw [w_idx (by omega), w_row (by omega), w_row (by omega), w_row (by omega)]⟩, h1, ⟨q, hq, ?_, h3⟩, mm + 1, by omega, ?_⟩
    · unfold pX5_addStep
      have e1 : up2 V (r + 2) (3 * mm) op r 7 = nI (3 * mm) := by rw [w_row (by omega)]; exact h5
      have e2 : up2 (up2 V (r + 2) (3 * mm) op) (r + 2) (3 * mm + 1) a r 7 = nI (3 * mm) := by rw [w_row (by omega)]; exact e1
      have e3 : up2 (up2 (up2 V (r + 2) (3 * mm) op) (r + 2) (3 * mm + 1) a) (r + 2) (3 * mm + 2) c r 7 = nI (3 * mm) := by rw [w_row (by omega)]; exact e2
      have l3 : (3 : Int32) = nI 3 := rfl
      have l2 : (2 : Int32) = nI 2 := rfl
      have l1 : (1 : Int32) = nI 1 := rfl
      simp (disch := omega) only [letv, h5, l1, l2, l3, e_add, e_nlt, ↓reduceIte, e_st, o_b, e1, e2, e3]
    · rw [w_idx (by omega), w_row (by omega), w_row (by omega), w_row (by omega)]; exact h2
    · rw [w_same]; congr 1
end X6
