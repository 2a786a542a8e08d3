/-! piles, as the reference finds them -/
section Q2
variable {n z b : Nat} {V : V2} {R : R2} {G Gm : G2} {U : V2} {L : Ld}
theorem b_or0 : ∀ f, f < 64 → nI f ||| nI 0 = nI f := by decide +kernel
theorem m_close (mC : MC (U (b + 1)) L) (iL : IL L) {x y : Nat} (hx : x < 6) (hy : y < 6) : (pX9_areClose U b (nI x) (nI y) = some (nI 1) ∧ nearL L x y) ∨ (pX9_areClose U b (nI x) (nI y) = some (nI 0) ∧ ¬ nearL L x y) := by
  have n10 : (nI 1 = (0 : Int32)) = False := e_10
  have n00 : (nI 0 = (0 : Int32)) = True := eq_true rfl
  have i4x : pX9_its U b (nI x) 4 = some (nI (bt (L_f L) x)) := m_its4 mC hx
  have i4y : pX9_its U b (nI y) 4 = some (nI (bt (L_f L) y)) := m_its4 mC hy
  have i3x : pX9_its U b (nI x) 3 = some (nI (L_t L x 3)) := m_its3 mC hx
  have i3y : pX9_its U b (nI y) 3 = some (nI (L_t L y 3)) := m_its3 mC hy
  have i2x : pX9_its U b (nI x) 2 = some (nI (L_t L x 2)) := m_its2 mC hx
  have i2y : pX9_its U b (nI y) 2 = some (nI (L_t L y 2)) := m_its2 mC hy
  have one : (1 : Int32) = nI 1 := rfl
  have zer : some (0 : Int32) = some (nI 0) := rfl
  have n10' : ((1 : Int32) = 0) = False := eq_false (by decide)
  unfold pX9_areClose
  rcases bt_01 (L_f L) x with q | q
  · rcases bt_01 (L_f L) y with q2 | q2
    · by_cases s3 : nI (L_t L x 3) = nI (L_t L y 3)
      · refine Or.inl ⟨?_, q, q2, Or.inl (t_eq3 iL hx hy s3)⟩
        have s3' : (nI (L_t L x 3) = nI (L_t L y 3)) = True := eq_true s3
        simp only [i4x, i4y, q, q2, o_b, n00, ↓reduceIte, n10', i3x, i3y, s3']
        rfl
      · have s3' : (nI (L_t L x 3) = nI (L_t L y 3)) = False := eq_false s3
        by_cases s2 : nI (L_t L x 2) = nI (L_t L y 2)
        · refine Or.inl ⟨?_, q, q2, Or.inr (t_eq2 iL hx hy s2)⟩
          have s2' : (nI (L_t L x 2) = nI (L_t L y 2)) = True := eq_true s2
          simp only [i4x, i4y, q, q2, o_b, n00, ↓reduceIte, n10', i3x, i3y, i2x, i2y, s3', s2']
          rfl
        · refine Or.inr ⟨?_, fun h => h.2.2.elim (fun h => s3 (by rw [h])) fun h => s2 (by rw [h])⟩
          have s2' : (nI (L_t L x 2) = nI (L_t L y 2)) = False := eq_false s2
          simp only [i4x, i4y, q, q2, o_b, n00, ↓reduceIte, n10', i3x, i3y, i2x, i2y, s3', s2']
          rfl
    · refine Or.inr ⟨?_, fun h => by have := h.2.1; omega⟩
      simp only [i4x, i4y, q, q2, o_b, n00, n10, ↓reduceIte]
      rfl
  · refine Or.inr ⟨?_, fun h => by have := h.1; omega⟩
    simp only [i4x, q, o_b, n10, ↓reduceIte]
    rfl
/-- one thing's row of a pass -/
theorem m_p42 (hn : 1000 ≤ n) (mC : MC (U (b + 1)) L) (iL : IL L) {f x : Nat} (hf : inP L f) (hx : x < L_c L) : ∃ g, lX9_pileOf_42 U b (nI x) n (nI f) (nI 0) = some (nI g) ∧ inP L g ∧ sub f g ∧ (∀ h, clo L h → sub f h → sub g h) ∧ (g = f → ∀ y, y < L_c L → bt f x = 1 → nearL L x y → bt f y = 1) := by
  have hc := iL.2.1
  have key : ∀ m y fu acc, y + m = L_c L → m < fu → inP L acc → sub f acc → (∀ h, clo L h → sub f h → sub acc h) → (acc = f → ∀ y', y' < y → bt f x = 1 → nearL L x y' → bt f y' = 1) → ∃ g, lX9_pileOf_42 U b (nI x) fu (nI acc) (nI y) = some (nI g) ∧ inP L g ∧ sub f g ∧ (∀ h, clo L h → sub f h → sub g h) ∧ (g = f → ∀ y, y < L_c L → bt f x = 1 → nearL L x y → bt f y = 1) := by
    intro m
    induction m with
    | zero =>
      intro y fu acc h1 h2 h3 h4 h5 h6
      obtain ⟨fu, rfl⟩ : ∃ g, fu = g + 1 := ⟨fu - 1, by omega⟩
      refine ⟨acc, ?_, h3, h4, h5, fun e y' hy' => h6 e y' (by omega)⟩
      unfold lX9_pileOf_42
      simp (disch := omega) only [mC.2.1, letv, o_b, ↓reduceIte, e_sub, e_add, e_mul, e_ld, e_st, e_lt, e_nlt, e_le, e_nle, e_eq, e_neq, e_div, e_rem, m_lt, m_le, m_eq, m_eq2, m_ng, o_ld, true_and, and_true, Nat.one_ne_zero, Nat.zero_ne_one, Nat.reduceEqDiff, Bool.false_eq_true, not_true_eq_false, not_false_eq_true, li_0, li_1, li_2, li_3, li_4, li_5, li_6, li_7, li_8, li_9, li_10, li_11, li_12, li_13, li_14, li_15, li_16, li_20, li_23, li_25, li_30, li_31, li_32, li_38, li_40, li_41, li_44, li_48, li_50, li_51, li_52, li_57, li_59, li_60, li_61, li_62, li_63, li_66, li_81, li_94, li_97, li_98, li_99, li_100, li_101, li_103, li_104, li_105, li_107, li_108, li_109, li_110, li_111, li_112, li_114, li_115, li_116, li_117, li_118, li_122, li_200, li_572, li_600, li_9999, li_10000, li_12345, li_1103515245]
    | succ m ih =>
      intro y fu acc h1 h2 h3 h4 h5 h6
      obtain ⟨fu, rfl⟩ : ∃ g, fu = g + 1 := ⟨fu - 1, by omega⟩
      have hy : y < L_c L := by omega
      have ld0 : ldI 572 (U (b + 1)) 0 = some (nI (L_c L)) := by rw [li_0, e_ld (by omega) (by omega), mC.2.1]
      have hle : (nI (L_c L) ≤ nI y) = False := e_nle (by omega) (by omega)
      have x1 : nI y + 1 = nI (y + 1) := by rw [li_1, e_add]
      have n10 : (nI 1 = (0 : Int32)) = False := e_10
      have n00 : (nI 0 = (0 : Int32)) = True := eq_true rfl
      have bset : nI acc ||| (1 <<< (nI y &&& 31)) = nI (stB acc y) := b_set acc h3.1 y (by omega)
      have or0 : nI acc ||| 0 = nI acc := b_or0 acc h3.1
      have bs1 := stB_lt acc h3.1 y (by omega)
      have bs2 := stB_bt acc h3.1 y (by omega)
      have hb : ((nI acc >>> (nI x &&& 31)) &&& 1 = (1 : Int32)) = (bt acc x = 1) := b_bit1 acc h3.1 x (by omega)
      have keep : (acc = f → bt f x = 1 → nearL L x y → bt f y = 1) → ∃ g, lX9_pileOf_42 U b (nI x) fu (nI acc) (nI (y + 1)) = some (nI g) ∧ inP L g ∧ sub f g ∧ (∀ h, clo L h → sub f h → sub g h) ∧ (g = f → ∀ y, y < L_c L → bt f x = 1 → nearL L x y → bt f y = 1) := fun hk => ih (y + 1) fu acc (by omega) (by omega) h3 h4 h5 fun e y2 hy2 hb2 hn2 => by
        by_cases e2 : y2 = y
        · rw [e2] at hn2 ⊢
          exact hk e hb2 hn2
        · exact h6 e y2 (by omega) hb2 hn2
      unfold lX9_pileOf_42
      by_cases p : bt acc x = 1
      · have p' : (bt acc x = 1) = True := eq_true p
        rcases m_close mC iL (x := x) (y := y) (by omega) (by omega) with ⟨q, hnx⟩ | ⟨q, hno⟩
        · simp only [ld0, o_b, hle, ↓reduceIte, hb, p', q, n10, letv, bset, x1]
          have s2 : sub acc (stB acc y) := fun k hk hb => by
            rw [bs2 k hk]
            split
            · rfl
            · exact hb
          refine ih (y + 1) fu (stB acc y) (by omega) (by omega) ⟨bs1, fun k hk hb => ?_⟩ (fun k hk hb => s2 k hk (h4 k hk hb)) (fun h hh hs k hk hb => ?_) (fun e y2 hy2 hb2 hn2 => ?_)
          · rw [bs2 k hk] at hb
            by_cases e : k = y
            · rw [e]; exact ⟨hy, hnx.2.1⟩
            · rw [if_neg e] at hb
              exact h3.2 k hk hb
          · rw [bs2 k hk] at hb
            by_cases e : k = y
            · rw [e]; exact hh x y hx hy (h5 h hh hs x (by omega) p) hnx
            · rw [if_neg e] at hb
              exact h5 h hh hs k hk hb
          · have ef : acc = f := sub_eq h3.1 hf.1 (fun k hk hb => by rw [← e]; exact s2 k hk hb) h4
            by_cases e2 : y2 = y
            · rw [← e, bs2 y2 (by omega), if_pos e2]
            · exact h6 ef y2 (by omega) hb2 hn2
        · simp only [ld0, o_b, hle, ↓reduceIte, hb, p', q, n00, letv, or0, x1]
          exact keep fun _ _ h => absurd h hno
      · have p' : (bt acc x = 1) = False := eq_false p
        simp only [ld0, o_b, hle, ↓reduceIte, hb, p', letv, or0, x1]
        exact keep fun e h _ => absurd (e ▸ h) p
  exact key (L_c L) 0 n f (by omega) (by omega) hf (fun _ _ h => h) (fun _ _ h => h) (fun _ _ h => by omega)
end Q2
