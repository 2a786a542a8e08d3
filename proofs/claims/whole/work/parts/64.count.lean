/-! how many piles -/
theorem b_andl : ∀ f, f < 64 → ∀ g, g < 64 → nI f &&& nI g = nI (f &&& g) ∧ f &&& g < 64 := by decide +kernel
theorem b_andb : ∀ f, f < 64 → ∀ g, g < 64 → ∀ k, k < 6 → bt (f &&& g) k = bt f k * bt g k := by decide +kernel
theorem b_lowm : ∀ f, f < 64 → ∀ k, k < 6 → nI f &&& ((nI 1 <<< (nI k &&& nI 31)) - nI 1) = nI (f &&& (2 ^ k - 1)) ∧ f &&& (2 ^ k - 1) < 64 := by decide +kernel
theorem b_lowb : ∀ f, f < 64 → ∀ k, k < 6 → ∀ j, j < 6 → bt (f &&& (2 ^ k - 1)) j = if j < k then bt f j else 0 := by decide +kernel
section Q4
variable {n z b : Nat} {V : V2} {R : R2} {G Gm : G2} {U : V2} {L : Ld}
theorem z_iff {f : Nat} (hf : f < 64) : f = 0 ↔ ∀ k, k < 6 → bt f k = 0 := ⟨fun h k hk => by rw [h, b_0 k hk], fun h => b_ext f hf 0 (by omega) fun k hk => by rw [h k hk, b_0 k hk]⟩
theorem cnt_l (hn : 1000 ≤ n) (hL : LC V (z + 2) L) (mC : MC (U (b + 1)) L) (iL : IL L) : ∀ m x f f' cnt seen, x + m = L_c L → m < f → m < f' → seen < 64 → (∀ y g, y < x → Pile L y g → bt (L_f L) y = 0 → sub g seen) → (∀ k, k < 6 → bt seen k = 1 → ∃ y g, y < x ∧ Pile L y g ∧ bt g k = 1) → ∃ o, lX8_howManyPiles_6 n V z f (nI cnt) (nI seen) (nI x) = some o ∧ lX9_piles_29 n U b f' (nI cnt) (nI x) = some o := by
  have hc := iL.2.1
  intro m
  induction m with
  | zero =>
    intro x f f' cnt seen h1 h2 h3 h4 h5 h6
    obtain ⟨f, rfl⟩ : ∃ g, f = g + 1 := ⟨f - 1, by omega⟩
    obtain ⟨f', rfl⟩ : ∃ g, f' = g + 1 := ⟨f' - 1, by omega⟩
    refine ⟨nI cnt, ?_, ?_⟩
    · unfold lX8_howManyPiles_6
      simp (disch := omega) only [hL.2.1, letv, o_b, ↓reduceIte, e_sub, e_add, e_mul, e_ld, e_st, e_lt, e_nlt, e_le, e_nle, e_eq, e_neq, e_div, e_rem, m_lt, m_le, m_eq, m_eq2, m_ng, o_ld, true_and, and_true, Nat.one_ne_zero, Nat.zero_ne_one, Nat.reduceEqDiff, Bool.false_eq_true, not_true_eq_false, not_false_eq_true, li_0, li_1, li_2, li_3, li_4, li_5, li_6, li_7, li_8, li_9, li_10, li_11, li_12, li_13, li_14, li_15, li_16, li_20, li_23, li_25, li_30, li_31, li_32, li_38, li_40, li_41, li_44, li_48, li_50, li_51, li_52, li_57, li_59, li_60, li_61, li_62, li_63, li_66, li_81, li_94, li_97, li_98, li_99, li_100, li_101, li_103, li_104, li_105, li_107, li_108, li_109, li_110, li_111, li_112, li_114, li_115, li_116, li_117, li_118, li_122, li_200, li_572, li_600, li_9999, li_10000, li_12345, li_1103515245]
    · unfold lX9_piles_29
      simp (disch := omega) only [mC.2.1, letv, o_b, ↓reduceIte, e_sub, e_add, e_mul, e_ld, e_st, e_lt, e_nlt, e_le, e_nle, e_eq, e_neq, e_div, e_rem, m_lt, m_le, m_eq, m_eq2, m_ng, o_ld, true_and, and_true, Nat.one_ne_zero, Nat.zero_ne_one, Nat.reduceEqDiff, Bool.false_eq_true, not_true_eq_false, not_false_eq_true, li_0, li_1, li_2, li_3, li_4, li_5, li_6, li_7, li_8, li_9, li_10, li_11, li_12, li_13, li_14, li_15, li_16, li_20, li_23, li_25, li_30, li_31, li_32, li_38, li_40, li_41, li_44, li_48, li_50, li_51, li_52, li_57, li_59, li_60, li_61, li_62, li_63, li_66, li_81, li_94, li_97, li_98, li_99, li_100, li_101, li_103, li_104, li_105, li_107, li_108, li_109, li_110, li_111, li_112, li_114, li_115, li_116, li_117, li_118, li_122, li_200, li_572, li_600, li_9999, li_10000, li_12345, li_1103515245]
  | succ m ih =>
    intro x f f' cnt seen h1 h2 h3 h4 h5 h6
    obtain ⟨f, rfl⟩ : ∃ g, f = g + 1 := ⟨f - 1, by omega⟩
    obtain ⟨f', rfl⟩ : ∃ g, f' = g + 1 := ⟨f' - 1, by omega⟩
    have hx : x < L_c L := by omega
    have n10 : (nI 1 = (0 : Int32)) = False := e_10
    have n00 : (nI 0 = (0 : Int32)) = True := eq_true rfl
    have v1 : V (z + 2) 1 = nI (L_c L) := hL.2.1
    have ld0 : ldI 572 (U (b + 1)) 0 = some (nI (L_c L)) := by rw [li_0, e_ld (by omega) (by omega), mC.2.1]
    have hle : (nI (L_c L) ≤ nI x) = False := e_nle (by omega) (by omega)
    have x1 : nI x + 1 = nI (x + 1) := by rw [li_1, e_add]
    have c1 : nI cnt + 1 = nI (cnt + 1) := by rw [li_1, e_add]
    have c0 : nI cnt + 0 = nI cnt := Int32.add_zero _
    have i4 : pX9_its U b (nI x) 4 = some (nI (bt (L_f L) x)) := m_its4 mC (by omega)
    rcases c_pile hn hL iL hx with ⟨q, p⟩ | ⟨q, g, p, hg⟩
    · obtain ⟨o, o1, o2⟩ := ih (x + 1) f f' cnt seen (by omega) (by omega) (by omega) h4 (fun y g hy hp hu => by
        by_cases e : y = x
        · rw [e] at hu; omega
        · exact h5 y g (by omega) hp hu) (fun k hk hb => by
        obtain ⟨y, g, a1, a2⟩ := h6 k hk hb
        exact ⟨y, g, by omega, a2⟩)
      refine ⟨o, ?_, ?_⟩
      · unfold lX8_howManyPiles_6
        simp only [v1, hle, ↓reduceIte, p, o_b, n00, letv, x1, o1]
      · unfold lX9_piles_29
        simp only [ld0, o_b, hle, ↓reduceIte, i4, q, n10, letv, c0, x1, o2]
    · rcases m_pile hn mC iL hx with ⟨q', -⟩ | ⟨-, g', p', hg'⟩
      · omega
      · have eg : g' = g := hg'.eq hg
        rw [eg] at p'
        have g64 := hg.1.1
        have gx : bt g x = 1 := hg.2.1
        have gn : g ≠ 0 := fun h => by rw [h, b_0 x (by omega)] at gx; exact absurd gx (by decide)
        have gn' : (nI g = (0 : Int32)) = False := e_neq (b := 0) (by omega) (by omega) gn
        obtain ⟨al1, al2⟩ := b_andl g g64 seen h4
        obtain ⟨lm1, lm2⟩ := b_lowm g g64 x (by omega)
        have lm1' : nI g &&& ((1 : Int32) <<< (nI x &&& 31) - 1) = nI (g &&& (2 ^ x - 1)) := lm1
        have hor := b_or seen h4 g g64
        have horl := b_orl seen h4 g g64
        have iff : g &&& seen = 0 ↔ g &&& (2 ^ x - 1) = 0 := by
          rw [z_iff al2, z_iff lm2]
          constructor
          · intro h j hj
            rw [b_lowb g g64 x (by omega) j hj]
            by_cases e : j < x
            · rw [if_pos e]
              rcases bt_01 g j with w | w
              · exact w
              · exfalso
                obtain ⟨-, hfj⟩ := hg.1.2 j hj w
                rcases m_pile hn mC iL (show j < L_c L by omega) with ⟨r, -⟩ | ⟨-, gj, -, hgj⟩
                · omega
                · have s1 := h5 j gj e hgj hfj j hj hgj.2.1
                  have := h j hj
                  rw [b_andb g g64 seen h4 j hj, w, s1] at this
                  exact absurd this (by decide)
            · rw [if_neg e]
          · intro h k hk
            rw [b_andb g g64 seen h4 k hk]
            rcases bt_01 g k with w | w
            · rw [w, Nat.zero_mul]
            · rcases bt_01 seen k with w2 | w2
              · rw [w2, Nat.mul_zero]
              · exfalso
                obtain ⟨y, gy, y1, y2, y3⟩ := h6 k hk w2
                have := Pile.mem iL hg y2 (by omega) hk w y3
                have h7 := h y (by omega)
                rw [b_lowb g g64 x (by omega) y (by omega), if_pos y1] at h7
                omega
        by_cases e : g &&& seen = 0
        · have e' : (nI (g &&& seen) = (0 : Int32)) = True := eq_true (by rw [e]; rfl)
          have e2' : (nI (g &&& (2 ^ x - 1)) = (0 : Int32)) = True := eq_true (by rw [iff.mp e]; rfl)
          obtain ⟨o, o1, o2⟩ := ih (x + 1) f f' (cnt + 1) (seen ||| g) (by omega) (by omega) (by omega) horl (fun y g2 hy hp hu k hk hb => by
            rw [b_orbt seen h4 g g64 k hk]
            by_cases e3 : y = x
            · rw [e3] at hp
              rw [hp.eq hg] at hb
              rw [if_pos (Or.inr hb)]
            · rw [if_pos (Or.inl (h5 y g2 (by omega) hp hu k hk hb))]) (fun k hk hb => by
            rw [b_orbt seen h4 g g64 k hk] at hb
            by_cases w : bt seen k = 1
            · obtain ⟨y, gy, a1, a2⟩ := h6 k hk w
              exact ⟨y, gy, by omega, a2⟩
            · by_cases w2 : bt g k = 1
              · exact ⟨x, g, by omega, hg, w2⟩
              · rw [if_neg (fun h => h.elim w w2)] at hb
                exact absurd hb (by decide))
          refine ⟨o, ?_, ?_⟩
          · unfold lX8_howManyPiles_6
            simp only [v1, hle, ↓reduceIte, p, o_b, gn', al1, e', letv, c1, hor, x1, o1]
          · unfold lX9_piles_29
            simp only [ld0, o_b, hle, ↓reduceIte, i4, q, n00, p', lm1', e2', letv, c1, x1, o2]
        · have e' : (nI (g &&& seen) = (0 : Int32)) = False := e_neq (b := 0) (by omega) (by omega) e
          have e2' : (nI (g &&& (2 ^ x - 1)) = (0 : Int32)) = False := e_neq (b := 0) (by omega) (by omega) fun h => e (iff.mpr h)
          have hgs : sub g seen := fun k hk hb => by
            have w : ∃ y, y < x ∧ bt g y = 1 := by
              by_cases w : ∃ y, y < x ∧ bt g y = 1
              · exact w
              · refine absurd (iff.mpr ((z_iff lm2).mpr fun j hj => ?_)) e
                rw [b_lowb g g64 x (by omega) j hj]
                split
                · rename_i hj2
                  rcases bt_01 g j with r | r
                  · exact r
                  · exact absurd ⟨j, hj2, r⟩ w
                · rfl
            obtain ⟨y, y1, y2⟩ := w
            obtain ⟨-, hfy⟩ := hg.1.2 y (by omega) y2
            rcases m_pile hn mC iL (show y < L_c L by omega) with ⟨r, -⟩ | ⟨-, gy, -, hgy⟩
            · omega
            · have hxy : bt gy x = 1 := Pile.mem iL hgy hg hx (by omega) hgy.2.1 y2
              exact h5 y gy y1 hgy hfy k hk (hg.2.2.2 gy hgy.2.2.1 hxy k hk hb)
          obtain ⟨o, o1, o2⟩ := ih (x + 1) f f' cnt seen (by omega) (by omega) (by omega) h4 (fun y g2 hy hp hu => by
            by_cases e3 : y = x
            · rw [e3] at hp
              rw [hp.eq hg]
              exact hgs
            · exact h5 y g2 (by omega) hp hu) (fun k hk hb => by
            obtain ⟨y, gy, a1, a2⟩ := h6 k hk hb
            exact ⟨y, gy, by omega, a2⟩)
          refine ⟨o, ?_, ?_⟩
          · unfold lX8_howManyPiles_6
            simp only [v1, hle, ↓reduceIte, p, o_b, gn', al1, e', letv, x1, o1]
          · unfold lX9_piles_29
            simp only [ld0, o_b, hle, ↓reduceIte, i4, q, n00, p', lm1', e2', letv, c0, x1, o2]
end Q4
