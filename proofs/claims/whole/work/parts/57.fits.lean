/-! whether a lone thing tells it so -/
section F1
variable {n z b : Nat} {V : V2} {R : R2} {G Gm : G2} {U : V2} {E : En} {rn : Nat} {rp : Nat → Nat → Nat}
theorem m_lies (hn : 1000 ≤ n) {U : V2} (hE : ME (U (b + 1)) E) (iE : IE E) {kd cr bk0 : Nat} (k1 : 1 ≤ kd) (k5 : kd ≤ 5) (hc : cr ≤ 9) (hb : bk0 ≤ 99) : ∃ U', pX9_lies n U b (nI kd) (nI cr) (nI bk0) = some U' ∧ (∀ j, j ≤ 15 → U' (b + 8) j = nI (bkS (E_ir E) kd bk0 j) ∧ U' (b + 9) j = nI (pdS (E_ir E) kd cr bk0 j)) ∧ ∀ y, y ≠ b + 8 → y ≠ b + 9 → U' y = U y := by
  have key : ∀ m x f {U1 : V2}, x + m = 15 → m < f → (∀ y, y ≠ b + 8 → y ≠ b + 9 → U1 y = U y) → (∀ j, j ≤ x → U1 (b + 8) j = nI (bkS (E_ir E) kd bk0 j) ∧ U1 (b + 9) j = nI (pdS (E_ir E) kd cr bk0 j)) → ∃ U', lX9_lies_17 b (nI kd) (nI cr) f U1 (nI x) = some U' ∧ (∀ j, j ≤ 15 → U' (b + 8) j = nI (bkS (E_ir E) kd bk0 j) ∧ U' (b + 9) j = nI (pdS (E_ir E) kd cr bk0 j)) ∧ ∀ y, y ≠ b + 8 → y ≠ b + 9 → U' y = U y := by
    intro m
    induction m with
    | zero =>
      intro x f U1 h1 h2 h3 h4
      obtain ⟨f, rfl⟩ : ∃ g, f = g + 1 := ⟨f - 1, by omega⟩
      refine ⟨U1, ?_, fun j hj => h4 j (by omega), h3⟩
      unfold lX9_lies_17
      simp (disch := omega) only [letv, o_b, ↓reduceIte, e_sub, e_add, e_mul, e_ld, e_st, e_lt, e_nlt, e_le, e_nle, e_eq, e_neq, e_div, e_rem, m_lt, m_le, m_eq, m_eq2, m_ng, o_ld, true_and, and_true, Nat.one_ne_zero, Nat.zero_ne_one, Nat.reduceEqDiff, Bool.false_eq_true, not_true_eq_false, not_false_eq_true, li_0, li_1, li_2, li_3, li_4, li_5, li_6, li_7, li_8, li_9, li_10, li_11, li_12, li_13, li_14, li_15, li_16, li_20, li_23, li_25, li_30, li_31, li_32, li_38, li_40, li_41, li_44, li_48, li_50, li_51, li_52, li_57, li_59, li_60, li_61, li_62, li_63, li_66, li_81, li_94, li_97, li_98, li_99, li_100, li_101, li_103, li_104, li_105, li_107, li_108, li_109, li_110, li_111, li_112, li_114, li_115, li_116, li_117, li_118, li_122, li_200, li_572, li_600, li_9999, li_10000, li_12345, li_1103515245]
    | succ m ih =>
      intro x f U1 h1 h2 h3 h4
      obtain ⟨f, rfl⟩ : ∃ g, f = g + 1 := ⟨f - 1, by omega⟩
      obtain ⟨r8, r9⟩ := h4 x (Nat.le_refl _)
      have hb99 := bkS_le (ir := E_ir E) (kd := kd) hb x
      have hpd := pdS_le (ir := E_ir E) (kd := kd) (cr := cr) (bk0 := bk0) x
      have hi15 := iE.2.2.1 x (by omega)
      have ri : U1 (b + 1) (50 + x) = nI (E_ir E x) := by rw [h3 _ (by omega) (by omega)]; exact hE.2.2.1 x (by omega)
      have e1 := m_need (kd := kd) (bk := bkS (E_ir E) kd bk0 x) (cr := cr) k1 k5 hb99 hc
      have e2 := m_swell (kd := kd) (k := 0) (i := E_ir E x) (w := x) k1 k5 (by omega) hi15 (by omega)
      have hs8 := swA_le (kd := kd) (k := 0) (sg := E_ir E x % 4) (w := x) (by omega) (by omega)
      have hnd := ndA_le (kd := kd) hb99 hc
      obtain ⟨pp, hpp⟩ : ∃ pp, pp = pdS (E_ir E) kd cr bk0 (x + 1) := ⟨_, rfl⟩
      have ep : pp = pdS (E_ir E) kd cr bk0 x + if ndA kd (bkS (E_ir E) kd bk0 x) cr ≤ 4 * (E_ir E x / 4) then 1 else 0 := hpp
      have eb : bkS (E_ir E) kd bk0 (x + 1) = min 99 (bkS (E_ir E) kd bk0 x + swA kd 0 (E_ir E x % 4) x) := rfl
      obtain ⟨U2, hU2⟩ : ∃ U2, U2 = up2 U1 (b + 9) (x + 1) (nI pp) := ⟨_, rfl⟩
      obtain ⟨U3, hU3⟩ : ∃ U3, U3 = up2 U2 (b + 8) (x + 1) (nI (min 99 (bkS (E_ir E) kd bk0 x + swA kd 0 (E_ir E x % 4) x))) := ⟨_, rfl⟩
      obtain ⟨U', c1, c2, c3⟩ := ih (x + 1) f (U1 := U3) (by omega) (by omega) (fun y h1 h2 => by rw [hU3, w_row h1, hU2, w_row h2]; exact h3 y h1 h2) (fun j hj => by
        by_cases q : j = x + 1
        · rw [q, hU3, w_same, w_row (by omega), hU2, w_same, eb, hpp]
          exact ⟨rfl, rfl⟩
        · rw [hU3, w_idx q, w_row (by omega), hU2, w_row (by omega), w_idx q]
          exact h4 j (by omega))
      refine ⟨U', ?_, c2, c3⟩
      have s8 : U2 (b + 8) x = nI (bkS (E_ir E) kd bk0 x) := by rw [hU2, w_row (by omega)]; exact r8
      have si : U2 (b + 1) (50 + x) = nI (E_ir E x) := by rw [hU2, w_row (by omega)]; exact ri
      have hU3' := hU3.symm
      have hU2' := hU2.symm
      unfold lX9_lies_17
      by_cases q : ndA kd (bkS (E_ir E) kd bk0 x) cr ≤ 4 * (E_ir E x / 4)
      · rw [if_pos q] at ep
        rw [ep] at hU2'
        simp (disch := omega) only [letv, o_b, ↓reduceIte, li_0, li_1, li_4, li_15, li_50, li_99, e_nle, e_ld, r8, r9, e_add, ri, e1, e_div, e_mul, e_nlt, e_st, hU2', s8, si, e2, e_ls, hU3', c1]
      · rw [if_neg q] at ep
        rw [ep] at hU2'
        simp (disch := omega) only [letv, o_b, ↓reduceIte, li_0, li_1, li_4, li_15, li_50, li_99, e_nle, e_ld, r8, r9, e_add, ri, e1, e_div, e_mul, e_lt, e_st, hU2', s8, si, e2, e_ls, hU3', c1]
  obtain ⟨U', c1, c2, c3⟩ := key 15 0 n (U1 := up2 (up2 U (b + 8) 0 (nI bk0)) (b + 9) 0 (nI 0)) (by omega) (by omega) (fun y h1 h2 => by rw [w_row h2, w_row h1]) (fun j hj => by
    have hj0 : j = 0 := by omega
    rw [hj0, w_row (by omega), w_same, w_same]
    exact ⟨rfl, rfl⟩)
  refine ⟨U', ?_, c2, c3⟩
  unfold pX9_lies
  simp (disch := omega) only [li_0, e_st, o_b, c1]
theorem m_fit (hn : 1000 ≤ n) {U : V2} {ir : Nat → Nat} {kd cr bk0 : Nat} (hb : bk0 ≤ 99) (hM : RpM (U (b + 1)) rn rp) (hI : IR rn rp) (hr : ∀ j, j ≤ 15 → U (b + 8) j = nI (bkS ir kd bk0 j) ∧ U (b + 9) j = nI (pdS ir kd cr bk0 j)) (a1 : Int32) : pX9_isFit n U b a1 = some (nI (bn (fit (fun i => decide (nI i = a1)) (wgB ir kd cr bk0 rp) rn))) := by
  obtain ⟨sk, hsk⟩ : ∃ sk : Nat → Bool, sk = fun i => decide (nI i = a1) := ⟨_, rfl⟩
  obtain ⟨wg, hwg⟩ : ∃ wg, wg = wgB ir kd cr bk0 rp := ⟨_, rfl⟩
  rw [← hsk, ← hwg]
  have r6 := hI.1
  have and1 : ∀ c : Bool, nI (bn c) &&& nI 1 = nI (bn c) := by decide
  have and0 : ∀ c : Bool, nI (bn c) &&& nI 0 = nI 0 := by decide
  have key : ∀ m x f, x + m = rn → m < f → lX9_isFit_4 U b a1 f (nI (bn (fit sk wg x))) (nI x) = some (nI (bn (fit sk wg rn))) := by
    intro m
    induction m with
    | zero =>
      intro x f h1 h2
      obtain ⟨f, rfl⟩ : ∃ g, f = g + 1 := ⟨f - 1, by omega⟩
      have hx : x = rn := by omega
      rw [hx]
      unfold lX9_isFit_4
      simp (disch := omega) only [hM.1, letv, o_b, ↓reduceIte, e_sub, e_add, e_mul, e_ld, e_st, e_lt, e_nlt, e_le, e_nle, e_eq, e_neq, e_div, e_rem, m_lt, m_le, m_eq, m_eq2, m_ng, o_ld, true_and, and_true, Nat.one_ne_zero, Nat.zero_ne_one, Nat.reduceEqDiff, Bool.false_eq_true, not_true_eq_false, not_false_eq_true, li_0, li_1, li_2, li_3, li_4, li_5, li_6, li_7, li_8, li_9, li_10, li_11, li_12, li_13, li_14, li_15, li_16, li_20, li_23, li_25, li_30, li_31, li_32, li_38, li_40, li_41, li_44, li_48, li_50, li_51, li_52, li_57, li_59, li_60, li_61, li_62, li_63, li_66, li_81, li_94, li_97, li_98, li_99, li_100, li_101, li_103, li_104, li_105, li_107, li_108, li_109, li_110, li_111, li_112, li_114, li_115, li_116, li_117, li_118, li_122, li_200, li_572, li_600, li_9999, li_10000, li_12345, li_1103515245]
    | succ m ih =>
      intro x f h1 h2
      obtain ⟨f, rfl⟩ : ∃ g, f = g + 1 := ⟨f - 1, by omega⟩
      have ih' := ih (x + 1) f (by omega) (by omega)
      obtain ⟨g0, g1, g2, g3⟩ := hM.2 x (by omega)
      obtain ⟨i0, i1, i2, i3⟩ := hI.2 x (by omega)
      obtain ⟨v8, v9⟩ := hr (rp x 0) i0
      have hb99 := bkS_le (ir := ir) (kd := kd) hb (rp x 0)
      have hpd := pdS_le (ir := ir) (kd := kd) (cr := cr) (bk0 := bk0) (rp x 0)
      obtain ⟨vv, hvv, hvl⟩ : ∃ vv, vv = wv ir kd cr bk0 rp x ∧ vv ≤ 99 := ⟨_, rfl, by unfold wv; split <;> omega⟩
      have hw : wg x = !(decide (rp x 2 ≤ vv) && decide (vv ≤ rp x 3)) := by rw [hwg, hvv]; rfl
      have hf : fit sk wg (x + 1) = (fit sk wg x && (sk x || !wg x)) := rfl
      have pick : (if nI (rp x 1) = (0 : Int32) then (ldI 572 (U (b + 1)) (nI (98 + 4 * x))).bind fun t8 => (ldI 16 (U (b + 8)) t8).bind fun t9 => some t9 else (ldI 572 (U (b + 1)) (nI (98 + 4 * x))).bind fun t10 => (ldI 16 (U (b + 9)) t10).bind fun t11 => some t11) = some (nI vv) := by
        by_cases q : rp x 1 = 0
        · have e : wv ir kd cr bk0 rp x = bkS ir kd bk0 (rp x 0) := if_pos q
          rw [if_pos (by rw [q]; rfl)]
          simp (disch := omega) only [e_ld, g0, o_b, v8, hvv, e]
        · have e : wv ir kd cr bk0 rp x = pdS ir kd cr bk0 (rp x 0) := if_neg q
          rw [if_neg (by rw [li_0, e_neq (by omega) (by omega) q]; exact id)]
          simp (disch := omega) only [e_ld, g0, o_b, v9, hvv, e]
      have ix : nI 98 + nI 4 * nI x = nI (98 + 4 * x) := by rw [e_mul, e_add]
      have h98 : ldI 572 (U (b + 1)) 6 = some (nI rn) := by rw [li_6, e_ld (by omega) (by omega), hM.1]
      have hle : (nI rn ≤ nI x) = False := e_nle (by omega) (by omega)
      have x1 : nI x + 1 = nI (x + 1) := by rw [li_1, e_add]
      have l1 : ldI 572 (U (b + 1)) (nI (98 + 4 * x) + 1) = some (nI (rp x 1)) := by rw [li_1, e_add, e_ld (by omega) (by omega), g1]
      have l2 : ldI 572 (U (b + 1)) (nI (98 + 4 * x) + 2) = some (nI (rp x 2)) := by rw [li_2, e_add, e_ld (by omega) (by omega), g2]
      have l3 : ldI 572 (U (b + 1)) (nI (98 + 4 * x) + 3) = some (nI (rp x 3)) := by rw [li_3, e_add, e_ld (by omega) (by omega), g3]
      have ix' : (98 : Int32) + 4 * nI x = nI (98 + 4 * x) := ix
      have nl2 : (nI (rp x 2)).toInt64 = lN (rp x 2) := nI_l (by omega)
      have nl3 : (nI (rp x 3)).toInt64 = lN (rp x 3) := nI_l (by omega)
      conv => lhs; unfold lX9_isFit_4
      by_cases s : nI x = a1
      · have s' : (nI x = a1) = True := eq_true s
        have e : fit sk wg (x + 1) = fit sk wg x := by
          have hs1 : sk x = true := by rw [hsk]; exact decide_eq_true s
          rw [hf, hs1, Bool.true_or, Bool.and_true]
        rw [e] at ih'
        have a1' : nI (bn (fit sk wg x)) &&& 1 = nI (bn (fit sk wg x)) := and1 _
        simp only [letv, h98, o_b, hle, ↓reduceIte, ix', l1, pick, s', a1', x1, ih']
      · have s' : (nI x = a1) = False := eq_false s
        by_cases p : rp x 2 ≤ vv ∧ vv ≤ rp x 3
        · have e : fit sk wg (x + 1) = fit sk wg x := by rw [hf, hw, decide_eq_true p.1, decide_eq_true p.2, Bool.and_true, Bool.not_true, Bool.not_false, Bool.or_true, Bool.and_true]
          rw [e] at ih'
          have a1' : nI (bn (fit sk wg x)) &&& 1 = nI (bn (fit sk wg x)) := and1 _
          have ii := i_in (lo := rp x 2) (hi := rp x 3) (k := vv) p.1 p.2 (by omega)
          rw [← nl2, ← nl3] at ii
          have n10 : (nI 1 = (0 : Int32)) = False := e_10
          simp only [letv, h98, o_b, hle, ↓reduceIte, ix', l1, pick, s', l2, l3, ii, n10, a1', x1, ih']
        · have hand : (decide (rp x 2 ≤ vv) && decide (vv ≤ rp x 3)) = false := by
            rw [Bool.and_eq_false_iff, decide_eq_false_iff_not, decide_eq_false_iff_not]
            omega
          have hs0 : sk x = false := by rw [hsk]; exact decide_eq_false s
          have e : fit sk wg (x + 1) = false := by rw [hf, hw, hand, hs0, Bool.not_false, Bool.not_true, Bool.or_false, Bool.and_false]
          rw [e, show bn false = 0 from rfl] at ih'
          have a0' : nI (bn (fit sk wg x)) &&& 0 = nI 0 := and0 _
          have ii := (w_out (lo := rp x 2) (hi := rp x 3) (k := vv) (by omega) (by omega) (by omega) (by omega)).2
          rw [← nl2, ← nl3] at ii
          have n00 : (nI 0 = (0 : Int32)) = True := eq_true rfl
          simp only [letv, h98, o_b, hle, ↓reduceIte, ix', l1, pick, s', l2, l3, ii, n00, a0', x1, ih']
  unfold pX9_isFit
  have k0 : lX9_isFit_4 U b a1 n 1 0 = some (nI (bn (fit sk wg rn))) := key rn 0 n (by omega) (by omega)
  have hb : isb (nI (bn (fit sk wg rn))) = true := by
    cases fit sk wg rn
    · decide
    · decide
  rw [k0]
  simp only [o_b, hb, ↓reduceIte]
def FI (b : Nat) (P : Nat → Bool) (U0 U : V2) (j : Nat) : Prop := U b 24 = nI (cn P j) ∧ (U b 25 = if cn P j = 0 then -(nI 3) else nI (100 + fsP P j)) ∧ (∀ y, y ≠ b → y ≠ b + 8 → y ≠ b + 9 → U y = U0 y) ∧ ∀ k, k ≠ 24 → k ≠ 25 → U b k = U0 b k
theorem m_finds (hn : 1000 ≤ n) {U : V2} (hE : ME (U (b + 1)) E) (iE : IE E) (hM : RpM (U (b + 1)) rn rp) (hI : IR rn rp) (a1 : Int32) : ∃ U', pX9_findsFits n U b a1 = some U' ∧ FI b (Mq (E_ir E) rn rp a1) U U' 500 := by
  obtain ⟨P, hP⟩ : ∃ P, P = Mq (E_ir E) rn rp a1 := ⟨_, rfl⟩
  rw [← hP]
  have key : ∀ m j f {U1 : V2}, j + m = 500 → m < f → FI b P U U1 j → ∃ U', lX9_findsFits_14 n b a1 f U1 (nI (100 + j)) = some U' ∧ FI b P U U' 500 := by
    intro m
    induction m with
    | zero =>
      intro j f U1 h1 h2 h3
      obtain ⟨f, rfl⟩ : ∃ g, f = g + 1 := ⟨f - 1, by omega⟩
      have hj : j = 500 := by omega
      rw [hj] at h3 ⊢
      refine ⟨U1, ?_, h3⟩
      unfold lX9_findsFits_14
      simp (disch := omega) only [letv, o_b, ↓reduceIte, e_sub, e_add, e_mul, e_ld, e_st, e_lt, e_nlt, e_le, e_nle, e_eq, e_neq, e_div, e_rem, m_lt, m_le, m_eq, m_eq2, m_ng, o_ld, true_and, and_true, Nat.one_ne_zero, Nat.zero_ne_one, Nat.reduceEqDiff, Bool.false_eq_true, not_true_eq_false, not_false_eq_true, li_0, li_1, li_2, li_3, li_4, li_5, li_6, li_7, li_8, li_9, li_10, li_11, li_12, li_13, li_14, li_15, li_16, li_20, li_23, li_25, li_30, li_31, li_32, li_38, li_40, li_41, li_44, li_48, li_50, li_51, li_52, li_57, li_59, li_60, li_61, li_62, li_63, li_66, li_81, li_94, li_97, li_98, li_99, li_100, li_101, li_103, li_104, li_105, li_107, li_108, li_109, li_110, li_111, li_112, li_114, li_115, li_116, li_117, li_118, li_122, li_200, li_572, li_600, li_9999, li_10000, li_12345, li_1103515245]
    | succ m ih =>
      intro j f U1 h1 h2 h3
      obtain ⟨f, rfl⟩ : ∃ g, f = g + 1 := ⟨f - 1, by omega⟩
      obtain ⟨f1, f2, f3, f4⟩ := h3
      have r1 : U1 (b + 1) = U (b + 1) := f3 _ (by omega) (by omega) (by omega)
      obtain ⟨U2, a2, a3, a4⟩ := m_lies (b := b) (U := U1) (kd := 1 + j / 100) (cr := j / 10 % 10) (bk0 := j % 10 * 9) hn (by rw [r1]; exact hE) iE (by omega) (by omega) (by omega) (by omega)
      have fi := m_fit (b := b) (U := U2) hn (by omega) (by rw [a4 _ (by omega) (by omega), r1]; exact hM) hI a3 a1
      rw [show fit (fun i => decide (nI i = a1)) (wgB (E_ir E) (1 + j / 100) (j / 10 % 10) (j % 10 * 9) rp) rn = P j by rw [hP]; rfl] at fi
      have d1 : nI (100 + j) / nI 100 = nI (1 + j / 100) := by rw [e_div (by omega) (by omega)]; congr 1; omega
      have d2 : jrem (nI (100 + j) / nI 10) (nI 10) = nI (j / 10 % 10) := by rw [e_div (by omega) (by omega), e_rem (by omega) (by omega)]; congr 1; omega
      have d3 : jrem (nI (100 + j)) (nI 10) * nI 9 = nI (j % 10 * 9) := by rw [e_rem (by omega) (by omega), e_mul]; congr 1; omega
      have g24 : U2 b 24 = nI (cn P j) := by rw [a4 _ (by omega) (by omega)]; exact f1
      have g25 : U2 b 25 = if cn P j = 0 then -(nI 3) else nI (100 + fsP P j) := by rw [a4 _ (by omega) (by omega)]; exact f2
      have hcl := cn_le (P := P) j
      have hcs : cn P (j + 1) = cn P j + bn (P j) := rfl
      have hfs : fsP P (j + 1) = if P j = true ∧ cn P j = 0 then j else fsP P j := rfl
      have fr2 : ∀ y, y ≠ b → y ≠ b + 8 → y ≠ b + 9 → U2 y = U y := fun y h1 h2 h3 => by rw [a4 y h2 h3]; exact f3 y h1 h2 h3
      have fb2 : ∀ k, k ≠ 24 → k ≠ 25 → U2 b k = U b k := fun k h1 h2 => by rw [a4 b (by omega) (by omega)]; exact f4 k h1 h2
      cases e : P j
      · rw [e] at fi
        replace hcs : cn P (j + 1) = cn P j := by
          rw [hcs, e]
          rfl
        rw [if_neg (fun h => absurd (e.symm.trans h.1) (by decide))] at hfs
        obtain ⟨U', c1, c2⟩ := ih (j + 1) f (U1 := U2) (by omega) (by omega) ⟨by rw [hcs]; exact g24, by rw [hcs, hfs]; exact g25, fr2, fb2⟩
        refine ⟨U', ?_, c2⟩
        have fi' : pX9_isFit n U2 b a1 = some (nI 0) := fi
        have c1' : lX9_findsFits_14 n b a1 f U2 (nI (100 + j + 1)) = some U' := c1
        unfold lX9_findsFits_14
        simp (disch := omega) only [letv, li_0, li_1, li_9, li_10, li_100, li_600, e_nle, ↓reduceIte, d1, d2, d3, a2, o_b, fi', e_add, c1']
      · rw [e] at fi
        have fi' : pX9_isFit n U2 b a1 = some (nI 1) := fi
        replace hcs : cn P (j + 1) = cn P j + 1 := by
          rw [hcs, e]
          rfl
        by_cases q : cn P j = 0
        · rw [if_pos ⟨e, q⟩] at hfs
          obtain ⟨U', c1, c2⟩ := ih (j + 1) f (U1 := up2 (up2 U2 b 25 (nI (100 + j))) b 24 (nI 1)) (by omega) (by omega) ⟨by rw [w_same, hcs, q], by rw [w_idx (by omega), w_same, hcs, hfs, if_neg (by omega)], fun y h1 h2 h3 => by rw [w_row h1, w_row h1]; exact fr2 y h1 h2 h3, fun k h1 h2 => by rw [w_idx h1, w_idx h2]; exact fb2 k h1 h2⟩
          refine ⟨U', ?_, c2⟩
          have c1' : lX9_findsFits_14 n b a1 f (up2 (up2 U2 b 25 (nI (100 + j))) b 24 (nI 1)) (nI (100 + j + 1)) = some U' := c1
          have h240 : U2 b 24 = nI 0 := by rw [g24, q]
          have h24' : up2 U2 b 25 (nI (100 + j)) b 24 = nI 0 := by rw [w_idx (by omega)]; exact h240
          have a11 : (nI 0 + nI 1 : Int32) = nI 1 := by decide
          unfold lX9_findsFits_14
          simp (disch := omega) only [letv, li_0, li_1, li_9, li_10, li_100, li_600, e_nle, ↓reduceIte, d1, d2, d3, a2, o_b, fi', e_10, h240, h24', a11, e_add, c1']
        · rw [if_neg (fun h => q h.2)] at hfs
          rw [if_neg q] at g25
          obtain ⟨U', c1, c2⟩ := ih (j + 1) f (U1 := up2 (up2 U2 b 25 (nI (100 + fsP P j))) b 24 (nI (cn P j + 1))) (by omega) (by omega) ⟨by rw [w_same, hcs], by rw [w_idx (by omega), w_same, hcs, hfs, if_neg (by omega)], fun y h1 h2 h3 => by rw [w_row h1, w_row h1]; exact fr2 y h1 h2 h3, fun k h1 h2 => by rw [w_idx h1, w_idx h2]; exact fb2 k h1 h2⟩
          refine ⟨U', ?_, c2⟩
          have c1' : lX9_findsFits_14 n b a1 f (up2 (up2 U2 b 25 (nI (100 + fsP P j))) b 24 (nI (cn P j + 1))) (nI (100 + j + 1)) = some U' := c1
          have h24' : up2 U2 b 25 (nI (100 + fsP P j)) b 24 = nI (cn P j) := by rw [w_idx (by omega)]; exact g24
          unfold lX9_findsFits_14
          simp (disch := omega) only [letv, li_0, li_1, li_9, li_10, li_100, li_600, e_nle, ↓reduceIte, d1, d2, d3, a2, o_b, fi', e_10, g24, e_neq, g25, h24', e_add, c1']
  obtain ⟨U', c1, c2⟩ := key 500 0 n (U1 := up2 (up2 U b 24 (nI 0)) b 25 (-(nI 3))) (by omega) (by omega) ⟨by rw [w_idx (by omega), w_same]; rfl, by rw [w_same]; rfl, fun y h1 h2 h3 => by rw [w_row h1, w_row h1], fun k h1 h2 => by rw [w_idx h2, w_idx h1]⟩
  refine ⟨U', ?_, c2⟩
  unfold pX9_findsFits
  have c1' : lX9_findsFits_14 n b a1 n (up2 (up2 U b 24 0) b 25 (-3)) 100 = some U' := c1
  simp only [letv, c1', o_b]
end F1
