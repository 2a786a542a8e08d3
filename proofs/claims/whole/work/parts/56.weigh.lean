/-! every lone thing is weighed -/
section W1
variable {n z b : Nat} {R : R2} {G Gm : G2} {E : En} {rn : Nat} {rp : Nat → Nat → Nat}
def WI (z : Nat) (ir : Nat → Nat) (rn : Nat) (rp : Nat → Nat → Nat) (V0 V : V2) (j : Nat) : Prop := (∀ x, x ≠ z + 11 → V x = V0 x) ∧ (∀ k, (k < 5 ∨ 9 < k) → V (z + 11) k = V0 (z + 11) k) ∧ V (z + 11) 5 = nI (cn (Pq ir rn rp) j) ∧ V (z + 11) 9 = nI (sl (Wq ir rn rp) j) ∧ (0 < cn (Pq ir rn rp) j → V (z + 11) 6 = nI (1 + fsP (Pq ir rn rp) j / 100) ∧ V (z + 11) 7 = nI (fsP (Pq ir rn rp) j / 10 % 10) ∧ V (z + 11) 8 = nI (fsP (Pq ir rn rp) j % 10 * 9))
theorem c_one (hn : 1000 ≤ n) (iE : IE E) (hI : IR rn rp) (hl : G.2.2.1 (z + 7) = 16) {V0 V : V2} {j : Nat} (hC : RpC V0 (z + 11) rn rp) (hir : ∀ i, i < 16 → V0 (z + 7) i = nI (E_ir E i)) (hW : WI z (E_ir E) rn rp V0 V j) (hj : j < 500) : ∃ V', pX3_weighOne n G V (z + 11) (nI (1 + j / 100)) (nI (j / 10 % 10)) (nI (j % 10 * 9)) (z + 7) = some V' ∧ WI z (E_ir E) rn rp V0 V' (j + 1) := by
  obtain ⟨w1, w2, w3, w4, w5⟩ := hW
  have hC' : RpC V (z + 11) rn rp := hC.fr (w2 0 (by omega)) fun x h1 h2 => w1 x (by omega)
  have key := c_wrong (V := V) (kd := 1 + j / 100) (cr := j / 10 % 10) (bk0 := j % 10 * 9) hn hC' hI (fun i hi => by rw [w1 _ (by omega)]; exact hir i hi) iE hl (by omega) (by omega) (by omega) (by omega)
  rw [show (w6 fun i => decide (i < rn) && wgB (E_ir E) (1 + j / 100) (j / 10 % 10) (j % 10 * 9) rp i) = Wq (E_ir E) rn rp j from rfl] at key
  have hW64 : ∀ j, Wq (E_ir E) rn rp j < 64 := fun j => w6_lt _
  have hc := cn_le (P := Pq (E_ir E) rn rp) j
  have hcs : cn (Pq (E_ir E) rn rp) (j + 1) = cn (Pq (E_ir E) rn rp) j + bn (Pq (E_ir E) rn rp j) := rfl
  have hfs : fsP (Pq (E_ir E) rn rp) (j + 1) = if Pq (E_ir E) rn rp j = true ∧ cn (Pq (E_ir E) rn rp) j = 0 then j else fsP (Pq (E_ir E) rn rp) j := rfl
  have hsl : sl (Wq (E_ir E) rn rp) (j + 1) = if pcA (Wq (E_ir E) rn rp j) = 1 then sl (Wq (E_ir E) rn rp) j ||| Wq (E_ir E) rn rp j else sl (Wq (E_ir E) rn rp) j := rfl
  have hs64 := sl_lt hW64 j
  unfold pX3_weighOne
  rw [key]
  by_cases q : Wq (E_ir E) rn rp j = 0
  · have qp : Pq (E_ir E) rn rp j = true := decide_eq_true q
    have pc0 : ¬ pcA (Wq (E_ir E) rn rp j) = 1 := by rw [q]; decide
    rw [if_neg pc0] at hsl
    rw [qp, show bn true = 1 from rfl] at hcs
    by_cases p : cn (Pq (E_ir E) rn rp) j = 0
    · rw [if_pos ⟨qp, p⟩] at hfs
      have w30 : V (z + 11) 5 = nI 0 := by rw [w3, p]
      refine ⟨up2 (up2 (up2 (up2 V (z + 11) 6 (nI (1 + j / 100))) (z + 11) 7 (nI (j / 10 % 10))) (z + 11) 8 (nI (j % 10 * 9))) (z + 11) 5 (nI 1), ?_, fun x hx => ?_, fun k hk => ?_, ?_, ?_, fun _ => ⟨?_, ?_, ?_⟩⟩
      · have e5 : up2 (up2 (up2 V (z + 11) 6 (nI (1 + j / 100))) (z + 11) 7 (nI (j / 10 % 10))) (z + 11) 8 (nI (j % 10 * 9)) (z + 11) 5 = nI 0 := by rw [w_idx (by omega), w_idx (by omega), w_idx (by omega), w30]
        have a1 : (nI 0 + nI 1 : Int32) = nI 1 := by decide
        simp (disch := omega) only [letv, o_b, li_0, li_1, e_eq, ↓reduceIte, w30, q, e5, a1]
      · rw [w_row hx, w_row hx, w_row hx, w_row hx]; exact w1 x hx
      · rw [w_idx (by omega), w_idx (by omega), w_idx (by omega), w_idx (by omega)]; exact w2 k hk
      · rw [w_same, hcs, p]
      · rw [w_idx (by omega), w_idx (by omega), w_idx (by omega), w_idx (by omega), w4, hsl]
      · rw [w_idx (by omega), w_idx (by omega), w_idx (by omega), w_same, hfs]
      · rw [w_idx (by omega), w_idx (by omega), w_same, hfs]
      · rw [w_idx (by omega), w_same, hfs]
    · rw [if_neg (fun h => p h.2)] at hfs
      obtain ⟨g1, g2, g3⟩ := w5 (by omega)
      refine ⟨up2 V (z + 11) 5 (nI (cn (Pq (E_ir E) rn rp) j + 1)), ?_, fun x hx => ?_, fun k hk => ?_, ?_, ?_, fun _ => ⟨?_, ?_, ?_⟩⟩
      · simp (disch := omega) only [letv, o_b, li_0, li_1, e_eq, e_neq, ↓reduceIte, w3, q, p, e_add]
      · rw [w_row hx]; exact w1 x hx
      · rw [w_idx (by omega)]; exact w2 k hk
      · rw [w_same, hcs]
      · rw [w_idx (by omega), w4, hsl]
      · rw [w_idx (by omega), hfs, g1]
      · rw [w_idx (by omega), hfs, g2]
      · rw [w_idx (by omega), hfs, g3]
  · have qp : Pq (E_ir E) rn rp j = false := decide_eq_false q
    have hw := hW64 j
    rw [if_neg (fun h => absurd (qp.symm.trans h.1) (by decide))] at hfs
    replace hcs : cn (Pq (E_ir E) rn rp) (j + 1) = cn (Pq (E_ir E) rn rp) j := by
      rw [hcs, qp]
      rfl
    have pl := pcA_le6 (Wq (E_ir E) rn rp j)
    by_cases p : pcA (Wq (E_ir E) rn rp j) = 1
    · rw [if_pos p] at hsl
      refine ⟨up2 V (z + 11) 9 (nI (sl (Wq (E_ir E) rn rp) j ||| Wq (E_ir E) rn rp j)), ?_, fun x hx => ?_, fun k hk => ?_, ?_, ?_, fun h0 => ?_⟩
      · simp (disch := omega) only [letv, o_b, li_0, li_1, e_neq, ↓reduceIte, b_cnt _ hw, p, w4, b_or _ hs64 _ hw]
      · rw [w_row hx]; exact w1 x hx
      · rw [w_idx (by omega)]; exact w2 k hk
      · rw [w_idx (by omega), w3, hcs]
      · rw [w_same, hsl]
      · rw [hcs] at h0
        rw [w_idx (by omega), w_idx (by omega), w_idx (by omega), hfs]
        exact w5 h0
    · rw [if_neg p] at hsl
      refine ⟨V, ?_, w1, w2, by rw [w3, hcs], by rw [w4, hsl], fun h0 => ?_⟩
      · simp (disch := omega) only [letv, o_b, li_0, li_1, e_neq, ↓reduceIte, b_cnt _ hw]
      · rw [hcs] at h0
        rw [hfs]
        exact w5 h0
theorem c_w28 (hn : 1000 ≤ n) (iE : IE E) (hI : IR rn rp) (hl : G.2.2.1 (z + 7) = 16) {V0 : V2} (hC : RpC V0 (z + 11) rn rp) (hir : ∀ i, i < 16 → V0 (z + 7) i = nI (E_ir E i)) {kd cr : Nat} (hk : kd < 5) (hc : cr < 10) : ∀ m t f {V : V2}, t + m = 10 → m < f → WI z (E_ir E) rn rp V0 V (100 * kd + 10 * cr + t) → ∃ V', lX3_weighAll_28 n G (z + 11) (z + 7) (nI (kd + 1)) (nI cr) f V (nI (9 * t)) = some V' ∧ WI z (E_ir E) rn rp V0 V' (100 * kd + 10 * cr + 10) := by
  intro m
  induction m with
  | zero =>
    intro t f V h1 h2 h3
    obtain ⟨f, rfl⟩ : ∃ g, f = g + 1 := ⟨f - 1, by omega⟩
    have ht : t = 10 := by omega
    rw [ht] at h3 ⊢
    refine ⟨V, ?_, h3⟩
    unfold lX3_weighAll_28
    simp (disch := omega) only [letv, o_b, ↓reduceIte, e_sub, e_add, e_mul, e_ld, e_st, e_lt, e_nlt, e_le, e_nle, e_eq, e_neq, e_div, e_rem, m_lt, m_le, m_eq, m_eq2, m_ng, o_ld, true_and, and_true, Nat.one_ne_zero, Nat.zero_ne_one, Nat.reduceEqDiff, Bool.false_eq_true, not_true_eq_false, not_false_eq_true, li_0, li_1, li_2, li_3, li_4, li_5, li_6, li_7, li_8, li_9, li_10, li_11, li_12, li_13, li_14, li_15, li_16, li_20, li_23, li_25, li_30, li_31, li_32, li_38, li_40, li_41, li_44, li_48, li_50, li_51, li_52, li_57, li_59, li_60, li_61, li_62, li_63, li_66, li_81, li_94, li_97, li_98, li_99, li_100, li_101, li_103, li_104, li_105, li_107, li_108, li_109, li_110, li_111, li_112, li_114, li_115, li_116, li_117, li_118, li_122, li_200, li_572, li_600, li_9999, li_10000, li_12345, li_1103515245]
  | succ m ih =>
    intro t f V h1 h2 h3
    obtain ⟨f, rfl⟩ : ∃ g, f = g + 1 := ⟨f - 1, by omega⟩
    obtain ⟨V1, a1, a2⟩ := c_one hn iE hI hl hC hir h3 (by omega)
    rw [show 1 + (100 * kd + 10 * cr + t) / 100 = kd + 1 by omega, show (100 * kd + 10 * cr + t) / 10 % 10 = cr by omega, show (100 * kd + 10 * cr + t) % 10 * 9 = 9 * t by omega] at a1
    obtain ⟨V', c1, c2⟩ := ih (t + 1) f (V := V1) (by omega) (by omega) a2
    refine ⟨V', ?_, c2⟩
    unfold lX3_weighAll_28
    have c1' : lX3_weighAll_28 n G (z + 11) (z + 7) (nI (kd + 1)) (nI cr) f V1 (nI (9 * t + 9)) = some V' := c1
    simp (disch := omega) only [letv, li_81, e_nlt, ↓reduceIte, a1, o_b, li_9, e_add, c1']
theorem c_w19 (hn : 1000 ≤ n) (iE : IE E) (hI : IR rn rp) (hl : G.2.2.1 (z + 7) = 16) {V0 : V2} (hC : RpC V0 (z + 11) rn rp) (hir : ∀ i, i < 16 → V0 (z + 7) i = nI (E_ir E i)) {kd : Nat} (hk : kd < 5) : ∀ m c f {V : V2}, c + m = 10 → m < f → WI z (E_ir E) rn rp V0 V (100 * kd + 10 * c) → ∃ V', lX3_weighAll_19 n G (z + 11) (z + 7) (nI (kd + 1)) f V (nI c) = some V' ∧ WI z (E_ir E) rn rp V0 V' (100 * kd + 100) := by
  intro m
  induction m with
  | zero =>
    intro c f V h1 h2 h3
    obtain ⟨f, rfl⟩ : ∃ g, f = g + 1 := ⟨f - 1, by omega⟩
    have ht : c = 10 := by omega
    rw [ht] at h3 ⊢
    refine ⟨V, ?_, h3⟩
    unfold lX3_weighAll_19
    simp (disch := omega) only [letv, o_b, ↓reduceIte, e_sub, e_add, e_mul, e_ld, e_st, e_lt, e_nlt, e_le, e_nle, e_eq, e_neq, e_div, e_rem, m_lt, m_le, m_eq, m_eq2, m_ng, o_ld, true_and, and_true, Nat.one_ne_zero, Nat.zero_ne_one, Nat.reduceEqDiff, Bool.false_eq_true, not_true_eq_false, not_false_eq_true, li_0, li_1, li_2, li_3, li_4, li_5, li_6, li_7, li_8, li_9, li_10, li_11, li_12, li_13, li_14, li_15, li_16, li_20, li_23, li_25, li_30, li_31, li_32, li_38, li_40, li_41, li_44, li_48, li_50, li_51, li_52, li_57, li_59, li_60, li_61, li_62, li_63, li_66, li_81, li_94, li_97, li_98, li_99, li_100, li_101, li_103, li_104, li_105, li_107, li_108, li_109, li_110, li_111, li_112, li_114, li_115, li_116, li_117, li_118, li_122, li_200, li_572, li_600, li_9999, li_10000, li_12345, li_1103515245]
  | succ m ih =>
    intro c f V h1 h2 h3
    obtain ⟨f, rfl⟩ : ∃ g, f = g + 1 := ⟨f - 1, by omega⟩
    obtain ⟨V1, a1, a2⟩ := c_w28 hn iE hI hl hC hir hk (cr := c) (by omega) 10 0 n (V := V) (by omega) (by omega) h3
    obtain ⟨V', c1, c2⟩ := ih (c + 1) f (V := V1) (by omega) (by omega) a2
    refine ⟨V', ?_, c2⟩
    unfold lX3_weighAll_19
    have a1' : lX3_weighAll_28 n G (z + 11) (z + 7) (nI (kd + 1)) (nI c) n V (nI 0) = some V1 := a1
    simp (disch := omega) only [letv, li_0, e_nlt, ↓reduceIte, a1', o_b, li_1, li_9, e_add, c1]
theorem c_w12 (hn : 1000 ≤ n) (iE : IE E) (hI : IR rn rp) (hl : G.2.2.1 (z + 7) = 16) {V0 : V2} (hC : RpC V0 (z + 11) rn rp) (hir : ∀ i, i < 16 → V0 (z + 7) i = nI (E_ir E i)) : ∀ m k f {V : V2}, k + m = 5 → m < f → WI z (E_ir E) rn rp V0 V (100 * k) → ∃ V', lX3_weighAll_12 n G (z + 11) (z + 7) f V (nI (k + 1)) = some V' ∧ WI z (E_ir E) rn rp V0 V' 500 := by
  intro m
  induction m with
  | zero =>
    intro k f V h1 h2 h3
    obtain ⟨f, rfl⟩ : ∃ g, f = g + 1 := ⟨f - 1, by omega⟩
    have ht : k = 5 := by omega
    rw [ht] at h3 ⊢
    refine ⟨V, ?_, h3⟩
    unfold lX3_weighAll_12
    simp (disch := omega) only [letv, o_b, ↓reduceIte, e_sub, e_add, e_mul, e_ld, e_st, e_lt, e_nlt, e_le, e_nle, e_eq, e_neq, e_div, e_rem, m_lt, m_le, m_eq, m_eq2, m_ng, o_ld, true_and, and_true, Nat.one_ne_zero, Nat.zero_ne_one, Nat.reduceEqDiff, Bool.false_eq_true, not_true_eq_false, not_false_eq_true, li_0, li_1, li_2, li_3, li_4, li_5, li_6, li_7, li_8, li_9, li_10, li_11, li_12, li_13, li_14, li_15, li_16, li_20, li_23, li_25, li_30, li_31, li_32, li_38, li_40, li_41, li_44, li_48, li_50, li_51, li_52, li_57, li_59, li_60, li_61, li_62, li_63, li_66, li_81, li_94, li_97, li_98, li_99, li_100, li_101, li_103, li_104, li_105, li_107, li_108, li_109, li_110, li_111, li_112, li_114, li_115, li_116, li_117, li_118, li_122, li_200, li_572, li_600, li_9999, li_10000, li_12345, li_1103515245]
  | succ m ih =>
    intro k f V h1 h2 h3
    obtain ⟨f, rfl⟩ : ∃ g, f = g + 1 := ⟨f - 1, by omega⟩
    obtain ⟨V1, a1, a2⟩ := c_w19 hn iE hI hl hC hir (kd := k) (by omega) 10 0 n (V := V) (by omega) (by omega) h3
    obtain ⟨V', c1, c2⟩ := ih (k + 1) f (V := V1) (by omega) (by omega) a2
    refine ⟨V', ?_, c2⟩
    unfold lX3_weighAll_12
    have a1' : lX3_weighAll_19 n G (z + 11) (z + 7) (nI (k + 1)) n V (nI 0) = some V1 := a1
    simp (disch := omega) only [letv, li_0, li_5, e_nlt, ↓reduceIte, a1', o_b, li_1, e_add, c1]
theorem c_all (hn : 1000 ≤ n) (iE : IE E) (hI : IR rn rp) (hl : G.2.2.1 (z + 7) = 16) {V : V2} (hC : RpC V (z + 11) rn rp) (hir : ∀ i, i < 16 → V (z + 7) i = nI (E_ir E i)) : ∃ V', pX3_weighAll n G V (z + 11) (z + 7) = some V' ∧ WI z (E_ir E) rn rp V V' 500 := by
  obtain ⟨V', c1, c2⟩ := c_w12 (V := up2 (up2 V (z + 11) 5 (nI 0)) (z + 11) 9 (nI 0)) hn iE hI hl hC hir 5 0 n (by omega) (by omega) ⟨fun x hx => by rw [w_row hx, w_row hx], fun k hk => by rw [w_idx (by omega), w_idx (by omega)], by rw [w_idx (by omega), w_same]; rfl, by rw [w_same]; rfl, fun h => absurd h (by unfold cn; omega)⟩
  refine ⟨V', ?_, c2⟩
  unfold pX3_weighAll
  have c1' : lX3_weighAll_12 n G (z + 11) (z + 7) n (up2 (up2 V (z + 11) 5 0) (z + 11) 9 0) 1 = some V' := c1
  simp only [letv, c1', o_b]
end W1
