/-! the answers about piles -/
section Q3
variable {n z b : Nat} {V : V2} {R : R2} {G Gm : G2} {U : V2} {L : Ld}
theorem m_pass (hn : 1000 ≤ n) (mC : MC (U (b + 1)) L) (iL : IL L) {f : Nat} (hf : inP L f) : ∃ g, lX9_pileOf_28 n U b n (nI f) (nI 0) = some (nI g) ∧ PS L f g := by
  have hc := iL.2.1
  have key : ∀ m x fu acc, x + m = L_c L → m < fu → inP L acc → sub f acc → (∀ h, clo L h → sub f h → sub acc h) → (acc = f → ∀ x' y, x' < x → y < L_c L → bt f x' = 1 → nearL L x' y → bt f y = 1) → ∃ g, lX9_pileOf_28 n U b fu (nI acc) (nI x) = some (nI g) ∧ PS L f g := by
    intro m
    induction m with
    | zero =>
      intro x fu acc h1 h2 h3 h4 h5 h6
      obtain ⟨fu, rfl⟩ : ∃ g, fu = g + 1 := ⟨fu - 1, by omega⟩
      refine ⟨acc, ?_, h3, h4, h5, fun e x' y hx' hy => h6 e x' y (by omega) hy⟩
      unfold lX9_pileOf_28
      simp (disch := omega) only [mC.2.1, letv, o_b, ↓reduceIte, e_sub, e_add, e_mul, e_ld, e_st, e_lt, e_nlt, e_le, e_nle, e_eq, e_neq, e_div, e_rem, m_lt, m_le, m_eq, m_eq2, m_ng, o_ld, true_and, and_true, Nat.one_ne_zero, Nat.zero_ne_one, Nat.reduceEqDiff, Bool.false_eq_true, not_true_eq_false, not_false_eq_true, li_0, li_1, li_2, li_3, li_4, li_5, li_6, li_7, li_8, li_9, li_10, li_11, li_12, li_13, li_14, li_15, li_16, li_20, li_23, li_25, li_30, li_31, li_32, li_38, li_40, li_41, li_44, li_48, li_50, li_51, li_52, li_57, li_59, li_60, li_61, li_62, li_63, li_66, li_81, li_94, li_97, li_98, li_99, li_100, li_101, li_103, li_104, li_105, li_107, li_108, li_109, li_110, li_111, li_112, li_114, li_115, li_116, li_117, li_118, li_122, li_200, li_572, li_600, li_9999, li_10000, li_12345, li_1103515245]
    | succ m ih =>
      intro x fu acc h1 h2 h3 h4 h5 h6
      obtain ⟨fu, rfl⟩ : ∃ g, fu = g + 1 := ⟨fu - 1, by omega⟩
      have hx : x < L_c L := by omega
      obtain ⟨g, a1, a2, a3, a4, a5⟩ := m_p42 hn mC iL h3 hx
      obtain ⟨g2, b1, b2⟩ := ih (x + 1) fu g (by omega) (by omega) a2 (fun k hk hb => a3 k hk (h4 k hk hb)) (fun h hh hs => a4 h hh (h5 h hh hs)) (fun e x2 y hx2 hy hb hnr => by
        have e1 : acc = f := sub_eq h3.1 hf.1 (fun k hk hb => by rw [← e]; exact a3 k hk hb) h4
        by_cases q : x2 = x
        · have := a5 (by rw [e, e1]) y hy
          rw [e1] at this
          rw [q] at hb hnr
          exact this hb hnr
        · exact h6 e1 x2 y (by omega) hy hb hnr)
      refine ⟨g2, ?_, b2⟩
      unfold lX9_pileOf_28
      simp (disch := omega) only [mC.2.1, a1, b1, letv, o_b, ↓reduceIte, e_sub, e_add, e_mul, e_ld, e_st, e_lt, e_nlt, e_le, e_nle, e_eq, e_neq, e_div, e_rem, m_lt, m_le, m_eq, m_eq2, m_ng, o_ld, true_and, and_true, Nat.one_ne_zero, Nat.zero_ne_one, Nat.reduceEqDiff, Bool.false_eq_true, not_true_eq_false, not_false_eq_true, li_0, li_1, li_2, li_3, li_4, li_5, li_6, li_7, li_8, li_9, li_10, li_11, li_12, li_13, li_14, li_15, li_16, li_20, li_23, li_25, li_30, li_31, li_32, li_38, li_40, li_41, li_44, li_48, li_50, li_51, li_52, li_57, li_59, li_60, li_61, li_62, li_63, li_66, li_81, li_94, li_97, li_98, li_99, li_100, li_101, li_103, li_104, li_105, li_107, li_108, li_109, li_110, li_111, li_112, li_114, li_115, li_116, li_117, li_118, li_122, li_200, li_572, li_600, li_9999, li_10000, li_12345, li_1103515245]
  exact key (L_c L) 0 n f (by omega) (by omega) hf (fun _ _ h => h) (fun _ _ h => h) (fun _ _ _ h => by omega)
theorem m_pile (hn : 1000 ≤ n) (mC : MC (U (b + 1)) L) (iL : IL L) {k : Nat} (hk : k < L_c L) : (bt (L_f L) k = 1 ∧ pX9_pileOf n U b (nI k) = some (nI 0)) ∨ (bt (L_f L) k = 0 ∧ ∃ g, pX9_pileOf n U b (nI k) = some (nI g) ∧ Pile L k g) := by
  have hc := iL.2.1
  have i4 : pX9_its U b (nI k) 4 = some (nI (bt (L_f L) k)) := m_its4 mC (by omega)
  have n10 : (nI 1 = (0 : Int32)) = False := e_10
  have n00 : (nI 0 = (0 : Int32)) = True := eq_true rfl
  have key : ∀ m x fu g0 g, x + m = 6 → m < fu → PSm L x g0 g → ∃ g', lX9_pileOf_19 n U b fu (nI g) (nI x) = some (nI g') ∧ PSm L 6 g0 g' := by
    intro m
    induction m with
    | zero =>
      intro x fu g0 g h1 h2 h3
      obtain ⟨fu, rfl⟩ : ∃ g, fu = g + 1 := ⟨fu - 1, by omega⟩
      have hx : x = 6 := by omega
      rw [hx] at h3
      refine ⟨g, ?_, h3⟩
      unfold lX9_pileOf_19
      simp (disch := omega) only [letv, o_b, ↓reduceIte, e_sub, e_add, e_mul, e_ld, e_st, e_lt, e_nlt, e_le, e_nle, e_eq, e_neq, e_div, e_rem, m_lt, m_le, m_eq, m_eq2, m_ng, o_ld, true_and, and_true, Nat.one_ne_zero, Nat.zero_ne_one, Nat.reduceEqDiff, Bool.false_eq_true, not_true_eq_false, not_false_eq_true, li_0, li_1, li_2, li_3, li_4, li_5, li_6, li_7, li_8, li_9, li_10, li_11, li_12, li_13, li_14, li_15, li_16, li_20, li_23, li_25, li_30, li_31, li_32, li_38, li_40, li_41, li_44, li_48, li_50, li_51, li_52, li_57, li_59, li_60, li_61, li_62, li_63, li_66, li_81, li_94, li_97, li_98, li_99, li_100, li_101, li_103, li_104, li_105, li_107, li_108, li_109, li_110, li_111, li_112, li_114, li_115, li_116, li_117, li_118, li_122, li_200, li_572, li_600, li_9999, li_10000, li_12345, li_1103515245]
    | succ m ih =>
      intro x fu g0 g h1 h2 h3
      obtain ⟨fu, rfl⟩ : ∃ g, fu = g + 1 := ⟨fu - 1, by omega⟩
      obtain ⟨g', p1, p2⟩ := m_pass hn mC iL h3.1
      obtain ⟨g2, q1, q2⟩ := ih (x + 1) fu g0 g' (by omega) (by omega) (h3.s p2)
      refine ⟨g2, ?_, q2⟩
      unfold lX9_pileOf_19
      simp (disch := omega) only [p1, q1, letv, o_b, ↓reduceIte, e_sub, e_add, e_mul, e_ld, e_st, e_lt, e_nlt, e_le, e_nle, e_eq, e_neq, e_div, e_rem, m_lt, m_le, m_eq, m_eq2, m_ng, o_ld, true_and, and_true, Nat.one_ne_zero, Nat.zero_ne_one, Nat.reduceEqDiff, Bool.false_eq_true, not_true_eq_false, not_false_eq_true, li_0, li_1, li_2, li_3, li_4, li_5, li_6, li_7, li_8, li_9, li_10, li_11, li_12, li_13, li_14, li_15, li_16, li_20, li_23, li_25, li_30, li_31, li_32, li_38, li_40, li_41, li_44, li_48, li_50, li_51, li_52, li_57, li_59, li_60, li_61, li_62, li_63, li_66, li_81, li_94, li_97, li_98, li_99, li_100, li_101, li_103, li_104, li_105, li_107, li_108, li_109, li_110, li_111, li_112, li_114, li_115, li_116, li_117, li_118, li_122, li_200, li_572, li_600, li_9999, li_10000, li_12345, li_1103515245]
  have empt : ∀ m x fu, x + m = 6 → m < fu → lX9_pileOf_19 n U b fu (nI 0) (nI x) = some (nI 0) := by
    have in0 : inP L 0 := ⟨by omega, fun k hk h => by rw [b_0 k hk] at h; exact absurd h (by decide)⟩
    obtain ⟨g, p1, p2, p3, p4, -⟩ := m_pass hn mC iL in0
    have g0 : g = 0 := sub_eq p2.1 (by omega) (p4 0 (fun x y hx _ h => by rw [b_0 x (by omega)] at h; exact absurd h (by decide)) fun _ _ h => h) p3
    rw [g0] at p1
    intro m
    induction m with
    | zero =>
      intro x fu h1 h2
      obtain ⟨fu, rfl⟩ : ∃ g, fu = g + 1 := ⟨fu - 1, by omega⟩
      unfold lX9_pileOf_19
      simp (disch := omega) only [letv, o_b, ↓reduceIte, e_sub, e_add, e_mul, e_ld, e_st, e_lt, e_nlt, e_le, e_nle, e_eq, e_neq, e_div, e_rem, m_lt, m_le, m_eq, m_eq2, m_ng, o_ld, true_and, and_true, Nat.one_ne_zero, Nat.zero_ne_one, Nat.reduceEqDiff, Bool.false_eq_true, not_true_eq_false, not_false_eq_true, li_0, li_1, li_2, li_3, li_4, li_5, li_6, li_7, li_8, li_9, li_10, li_11, li_12, li_13, li_14, li_15, li_16, li_20, li_23, li_25, li_30, li_31, li_32, li_38, li_40, li_41, li_44, li_48, li_50, li_51, li_52, li_57, li_59, li_60, li_61, li_62, li_63, li_66, li_81, li_94, li_97, li_98, li_99, li_100, li_101, li_103, li_104, li_105, li_107, li_108, li_109, li_110, li_111, li_112, li_114, li_115, li_116, li_117, li_118, li_122, li_200, li_572, li_600, li_9999, li_10000, li_12345, li_1103515245]
    | succ m ih =>
      intro x fu h1 h2
      obtain ⟨fu, rfl⟩ : ∃ g, fu = g + 1 := ⟨fu - 1, by omega⟩
      have ih' := ih (x + 1) fu (by omega) (by omega)
      unfold lX9_pileOf_19
      simp (disch := omega) only [p1, ih', letv, o_b, ↓reduceIte, e_sub, e_add, e_mul, e_ld, e_st, e_lt, e_nlt, e_le, e_nle, e_eq, e_neq, e_div, e_rem, m_lt, m_le, m_eq, m_eq2, m_ng, o_ld, true_and, and_true, Nat.one_ne_zero, Nat.zero_ne_one, Nat.reduceEqDiff, Bool.false_eq_true, not_true_eq_false, not_false_eq_true, li_0, li_1, li_2, li_3, li_4, li_5, li_6, li_7, li_8, li_9, li_10, li_11, li_12, li_13, li_14, li_15, li_16, li_20, li_23, li_25, li_30, li_31, li_32, li_38, li_40, li_41, li_44, li_48, li_50, li_51, li_52, li_57, li_59, li_60, li_61, li_62, li_63, li_66, li_81, li_94, li_97, li_98, li_99, li_100, li_101, li_103, li_104, li_105, li_107, li_108, li_109, li_110, li_111, li_112, li_114, li_115, li_116, li_117, li_118, li_122, li_200, li_572, li_600, li_9999, li_10000, li_12345, li_1103515245]
  unfold pX9_pileOf
  rcases bt_01 (L_f L) k with q | q
  · have hb : ((1 : Int32) <<< (nI k &&& 31)) = nI (2 ^ k) := b_shl k (by omega)
    have hp : 2 ^ k < 64 := (show ∀ k, k < 6 → 2 ^ k < 64 by decide) k (by omega)
    have hin : inP L (2 ^ k) := ⟨hp, fun j hj h => by
      rw [b_pow k (by omega) j hj] at h
      by_cases e : j = k
      · rw [e]; exact ⟨hk, q⟩
      · rw [if_neg e] at h
        exact absurd h (by decide)⟩
    obtain ⟨g, p1, p2⟩ := key 6 0 n (2 ^ k) (2 ^ k) (by omega) (by omega) (PSm.z hin)
    refine Or.inr ⟨q, g, ?_, p2.fin iL (by omega) (by omega)⟩
    have p1' : lX9_pileOf_19 n U b n (nI (2 ^ k)) 0 = some (nI g) := p1
    simp only [i4, q, o_b, n00, ↓reduceIte, letv, hb, p1']
  · refine Or.inl ⟨q, ?_⟩
    have p1' : lX9_pileOf_19 n U b n 0 0 = some (nI 0) := empt 6 0 n (by omega) (by omega)
    simp only [i4, q, o_b, n10, ↓reduceIte, letv, p1']
end Q3
