/-! piles, as the class finds them -/
theorem b_shl : ∀ k, k < 6 → nI 1 <<< (nI k &&& nI 31) = nI (2 ^ k) := by decide +kernel
section Q1
variable {n z b : Nat} {V : V2} {R : R2} {G Gm : G2} {U : V2} {L : Ld}
theorem t_eq3 (iL : IL L) {x y : Nat} (hx : x < 6) (hy : y < 6) (h : nI (L_t L x 3) = nI (L_t L y 3)) : L_t L x 3 = L_t L y 3 := by
  have h1 := (iL.2.2.2.2 x hx).2.2.2.2
  have h2 := (iL.2.2.2.2 y hy).2.2.2.2
  exact (nI_eq (by omega) (by omega)).mp h
theorem t_eq2 (iL : IL L) {x y : Nat} (hx : x < 6) (hy : y < 6) (h : nI (L_t L x 2) = nI (L_t L y 2)) : L_t L x 2 = L_t L y 2 := by
  have h1 := (iL.2.2.2.2 x hx).2.2.2.1
  have h2 := (iL.2.2.2.2 y hy).2.2.2.1
  exact (nI_eq (by omega) (by omega)).mp h
theorem c_any (hn : 1000 ≤ n) {a : Nat} (hL : LC V a L) (iL : IL L) {f y : Nat} (hf : inP L f) (hy : y < L_c L) : (pX2_isCloseToAny n V a (nI y) (nI f) = some (nI 1) ∧ ∃ x, x < L_c L ∧ bt f x = 1 ∧ nearL L x y) ∨ (pX2_isCloseToAny n V a (nI y) (nI f) = some (nI 0) ∧ ∀ x, x < L_c L → bt f x = 1 → ¬ nearL L x y) := by
  have hc := iL.2.1
  unfold pX2_isCloseToAny
  rw [c_flat hL iL (show y < 6 by omega)]
  have n10 : (nI 1 = (0 : Int32)) = False := e_10
  have n00 : (nI 0 = (0 : Int32)) = True := eq_true rfl
  rcases bt_01 (L_f L) y with q | q
  · rw [q]
    have key : ∀ m x fu, x + m = L_c L → m < fu → (∀ x', x' < x → bt f x' = 1 → ¬ nearL L x' y) → (lX2_isCloseToAny_12 V a (nI y) (nI f) fu (nI x) (fun _ => some 0) = some (nI 1) ∧ ∃ x, x < L_c L ∧ bt f x = 1 ∧ nearL L x y) ∨ (lX2_isCloseToAny_12 V a (nI y) (nI f) fu (nI x) (fun _ => some 0) = some (nI 0) ∧ ∀ x, x < L_c L → bt f x = 1 → ¬ nearL L x y) := by
      intro m
      induction m with
      | zero =>
        intro x fu h1 h2 h3
        obtain ⟨fu, rfl⟩ : ∃ g, fu = g + 1 := ⟨fu - 1, by omega⟩
        refine Or.inr ⟨?_, fun x' hx' => h3 x' (by omega)⟩
        unfold lX2_isCloseToAny_12
        simp (disch := omega) only [hL.2.1, letv, o_b, ↓reduceIte, e_sub, e_add, e_mul, e_ld, e_st, e_lt, e_nlt, e_le, e_nle, e_eq, e_neq, e_div, e_rem, m_lt, m_le, m_eq, m_eq2, m_ng, o_ld, true_and, and_true, Nat.one_ne_zero, Nat.zero_ne_one, Nat.reduceEqDiff, Bool.false_eq_true, not_true_eq_false, not_false_eq_true, li_0, li_1, li_2, li_3, li_4, li_5, li_6, li_7, li_8, li_9, li_10, li_11, li_12, li_13, li_14, li_15, li_16, li_20, li_23, li_25, li_30, li_31, li_32, li_38, li_40, li_41, li_44, li_48, li_50, li_51, li_52, li_57, li_59, li_60, li_61, li_62, li_63, li_66, li_81, li_94, li_97, li_98, li_99, li_100, li_101, li_103, li_104, li_105, li_107, li_108, li_109, li_110, li_111, li_112, li_114, li_115, li_116, li_117, li_118, li_122, li_200, li_572, li_600, li_9999, li_10000, li_12345, li_1103515245]
      | succ m ih =>
        intro x fu h1 h2 h3
        obtain ⟨fu, rfl⟩ : ∃ g, fu = g + 1 := ⟨fu - 1, by omega⟩
        have hx : x < L_c L := by omega
        obtain ⟨-, -, x2, x3⟩ := hL.2.2.2 x (by omega)
        obtain ⟨-, -, y2, y3⟩ := hL.2.2.2 y (by omega)
        have hle : (nI (L_c L) ≤ nI x) = False := e_nle (by omega) (by omega)
        have x1 : nI x + 1 = nI (x + 1) := by rw [li_1, e_add]
        have hb : ((nI f >>> (nI x &&& 31)) &&& 1 = (1 : Int32)) = (bt f x = 1) := b_bit1 f hf.1 x (by omega)
        have l1 : ldI 6 (V (a + 4)) (nI x) = some (nI (L_t L x 3)) := by rw [e_ld (by omega) (by omega), x3]
        have l2 : ldI 6 (V (a + 4)) (nI y) = some (nI (L_t L y 3)) := by rw [e_ld (by omega) (by omega), y3]
        have l3 : ldI 6 (V (a + 3)) (nI x) = some (nI (L_t L x 2)) := by rw [e_ld (by omega) (by omega), x2]
        have l4 : ldI 6 (V (a + 3)) (nI y) = some (nI (L_t L y 2)) := by rw [e_ld (by omega) (by omega), y2]
        by_cases p : bt f x = 1
        · have hfx := (hf.2 x (by omega) p).2
          have p' : (bt f x = 1) = True := eq_true p
          by_cases s3 : nI (L_t L x 3) = nI (L_t L y 3)
          · refine Or.inl ⟨?_, x, hx, p, hfx, q, Or.inl ?_⟩
            · unfold lX2_isCloseToAny_12
              have s3' : (nI (L_t L x 3) = nI (L_t L y 3)) = True := eq_true s3
              simp only [hL.2.1, hle, ↓reduceIte, hb, p', l1, l2, o_b, s3']
              rfl
            · exact t_eq3 iL (by omega) (by omega) s3
          · have s3' : (nI (L_t L x 3) = nI (L_t L y 3)) = False := eq_false s3
            by_cases s2 : nI (L_t L x 2) = nI (L_t L y 2)
            · refine Or.inl ⟨?_, x, hx, p, hfx, q, Or.inr ?_⟩
              · unfold lX2_isCloseToAny_12
                have s2' : (nI (L_t L x 2) = nI (L_t L y 2)) = True := eq_true s2
                simp only [hL.2.1, hle, ↓reduceIte, hb, p', l1, l2, l3, l4, o_b, s3', s2']
                rfl
              · exact t_eq2 iL (by omega) (by omega) s2
            · have s2' : (nI (L_t L x 2) = nI (L_t L y 2)) = False := eq_false s2
              unfold lX2_isCloseToAny_12
              simp only [hL.2.1, hle, ↓reduceIte, hb, p', l1, l2, l3, l4, o_b, s3', s2', letv, x1]
              refine ih (x + 1) fu (by omega) (by omega) fun x' hx' hb' => ?_
              by_cases e : x' = x
              · rw [e]
                exact fun h => h.2.2.elim (fun h => s3 (by rw [h])) fun h => s2 (by rw [h])
              · exact h3 x' (by omega) hb'
        · have p' : (bt f x = 1) = False := eq_false p
          unfold lX2_isCloseToAny_12
          simp only [hL.2.1, hle, ↓reduceIte, hb, p', letv, x1]
          refine ih (x + 1) fu (by omega) (by omega) fun x' hx' hb' => ?_
          by_cases e : x' = x
          · rw [e] at hb'
            exact absurd hb' p
          · exact h3 x' (by omega) hb'
    have k0 := key (L_c L) 0 n (by omega) (by omega) (fun x' hx' => by omega)
    have e0 : ((some (nI 0) : Option Int32).bind fun q1 => if q1 = 0 then (lX2_isCloseToAny_12 V a (nI y) (nI f) n 0 (fun _ => some 0)) else (some 0)) = lX2_isCloseToAny_12 V a (nI y) (nI f) n (nI 0) (fun _ => some 0) := by
      simp only [o_b, n00, ↓reduceIte]
      rfl
    rw [e0]
    exact k0
  · rw [q]
    refine Or.inr ⟨?_, fun x _ _ h => by have := h.2.1; omega⟩
    simp only [o_b, n10, ↓reduceIte]
    rfl
theorem c_pass (hn : 1000 ≤ n) {a : Nat} (hL : LC V a L) (iL : IL L) {f : Nat} (hf : inP L f) : ∃ g, lX2_pileOf_27 n V a n (nI f) (nI 0) = some (nI g) ∧ PS L f g := by
  have hc := iL.2.1
  have key : ∀ m y fu acc, y + m = L_c L → m < fu → inP L acc → sub f acc → (∀ h, clo L h → sub f h → sub acc h) → (acc = f → ∀ x y', x < L_c L → y' < y → bt f x = 1 → nearL L x y' → bt f y' = 1) → ∃ g, lX2_pileOf_27 n V a fu (nI acc) (nI y) = some (nI g) ∧ PS L f g := by
    intro m
    induction m with
    | zero =>
      intro y fu acc h1 h2 h3 h4 h5 h6
      obtain ⟨fu, rfl⟩ : ∃ g, fu = g + 1 := ⟨fu - 1, by omega⟩
      refine ⟨acc, ?_, h3, h4, h5, fun e x y' hx hy' => h6 e x y' hx (by omega)⟩
      unfold lX2_pileOf_27
      simp (disch := omega) only [hL.2.1, letv, o_b, ↓reduceIte, e_sub, e_add, e_mul, e_ld, e_st, e_lt, e_nlt, e_le, e_nle, e_eq, e_neq, e_div, e_rem, m_lt, m_le, m_eq, m_eq2, m_ng, o_ld, true_and, and_true, Nat.one_ne_zero, Nat.zero_ne_one, Nat.reduceEqDiff, Bool.false_eq_true, not_true_eq_false, not_false_eq_true, li_0, li_1, li_2, li_3, li_4, li_5, li_6, li_7, li_8, li_9, li_10, li_11, li_12, li_13, li_14, li_15, li_16, li_20, li_23, li_25, li_30, li_31, li_32, li_38, li_40, li_41, li_44, li_48, li_50, li_51, li_52, li_57, li_59, li_60, li_61, li_62, li_63, li_66, li_81, li_94, li_97, li_98, li_99, li_100, li_101, li_103, li_104, li_105, li_107, li_108, li_109, li_110, li_111, li_112, li_114, li_115, li_116, li_117, li_118, li_122, li_200, li_572, li_600, li_9999, li_10000, li_12345, li_1103515245]
    | succ m ih =>
      intro y fu acc h1 h2 h3 h4 h5 h6
      obtain ⟨fu, rfl⟩ : ∃ g, fu = g + 1 := ⟨fu - 1, by omega⟩
      have hy : y < L_c L := by omega
      have hle : (nI (L_c L) ≤ nI y) = False := e_nle (by omega) (by omega)
      have x1 : nI y + 1 = nI (y + 1) := by rw [li_1, e_add]
      have n10 : (nI 1 = (0 : Int32)) = False := e_10
      have n00 : (nI 0 = (0 : Int32)) = True := eq_true rfl
      have bset : nI acc ||| (1 <<< (nI y &&& 31)) = nI (stB acc y) := b_set acc h3.1 y (by omega)
      have bs1 := stB_lt acc h3.1 y (by omega)
      have bs2 := stB_bt acc h3.1 y (by omega)
      unfold lX2_pileOf_27
      rcases c_any hn hL iL h3 hy with ⟨q, x, hx, hbx, hnx⟩ | ⟨q, hno⟩
      · simp only [hL.2.1, hle, ↓reduceIte, q, o_b, n10, letv, bset, x1]
        have s2 : sub acc (stB acc y) := fun k hk hb => by
          rw [bs2 k hk]
          split
          · rfl
          · exact hb
        refine ih (y + 1) fu (stB acc y) (by omega) (by omega) ⟨bs1, fun k hk hb => ?_⟩ (fun k hk hb => s2 k hk (h4 k hk hb)) (fun h hh hs k hk hb => ?_) (fun e x2 y2 hx2 hy2 hb2 hn2 => ?_)
        · rw [bs2 k hk] at hb
          by_cases e : k = y
          · rw [e]; exact ⟨hy, hnx.2.1⟩
          · rw [if_neg e] at hb
            exact h3.2 k hk hb
        · rw [bs2 k hk] at hb
          by_cases e : k = y
          · rw [e]; exact hh x y hx hy (h5 h hh hs x (by omega) hbx) hnx
          · rw [if_neg e] at hb
            exact h5 h hh hs k hk hb
        · have ef : acc = f := sub_eq h3.1 hf.1 (fun k hk hb => by rw [← e]; exact s2 k hk hb) h4
          by_cases e2 : y2 = y
          · rw [← e, bs2 y2 (by omega), if_pos e2]
          · exact h6 ef x2 y2 hx2 (by omega) hb2 hn2
      · simp only [hL.2.1, hle, ↓reduceIte, q, o_b, n00, letv, x1]
        refine ih (y + 1) fu acc (by omega) (by omega) h3 h4 h5 (fun e x2 y2 hx2 hy2 hb2 hn2 => ?_)
        by_cases e2 : y2 = y
        · rw [e2] at hn2
          rw [← e] at hb2
          exact absurd hn2 (hno x2 hx2 hb2)
        · exact h6 e x2 y2 hx2 (by omega) hb2 hn2
  exact key (L_c L) 0 n f (by omega) (by omega) hf (fun _ _ h => h) (fun _ _ h => h) (fun _ _ _ _ h => by omega)
theorem c_pile (hn : 1000 ≤ n) {a : Nat} (hL : LC V a L) (iL : IL L) {k : Nat} (hk : k < L_c L) : (bt (L_f L) k = 1 ∧ pX2_pileOf n V a (nI k) = some (nI 0)) ∨ (bt (L_f L) k = 0 ∧ ∃ g, pX2_pileOf n V a (nI k) = some (nI g) ∧ Pile L k g) := by
  have hc := iL.2.1
  have key : ∀ m x fu g0 g, x + m = L_c L → m < fu → PSm L x g0 g → ∃ g', lX2_pileOf_16 n V a fu (nI g) (nI x) = some (nI g') ∧ PSm L (L_c L) g0 g' := by
    intro m
    induction m with
    | zero =>
      intro x fu g0 g h1 h2 h3
      obtain ⟨fu, rfl⟩ : ∃ g, fu = g + 1 := ⟨fu - 1, by omega⟩
      have hx : x = L_c L := by omega
      rw [hx] at h3
      refine ⟨g, ?_, h3⟩
      unfold lX2_pileOf_16
      simp (disch := omega) only [hL.2.1, letv, o_b, ↓reduceIte, e_sub, e_add, e_mul, e_ld, e_st, e_lt, e_nlt, e_le, e_nle, e_eq, e_neq, e_div, e_rem, m_lt, m_le, m_eq, m_eq2, m_ng, o_ld, true_and, and_true, Nat.one_ne_zero, Nat.zero_ne_one, Nat.reduceEqDiff, Bool.false_eq_true, not_true_eq_false, not_false_eq_true, li_0, li_1, li_2, li_3, li_4, li_5, li_6, li_7, li_8, li_9, li_10, li_11, li_12, li_13, li_14, li_15, li_16, li_20, li_23, li_25, li_30, li_31, li_32, li_38, li_40, li_41, li_44, li_48, li_50, li_51, li_52, li_57, li_59, li_60, li_61, li_62, li_63, li_66, li_81, li_94, li_97, li_98, li_99, li_100, li_101, li_103, li_104, li_105, li_107, li_108, li_109, li_110, li_111, li_112, li_114, li_115, li_116, li_117, li_118, li_122, li_200, li_572, li_600, li_9999, li_10000, li_12345, li_1103515245]
    | succ m ih =>
      intro x fu g0 g h1 h2 h3
      obtain ⟨fu, rfl⟩ : ∃ g, fu = g + 1 := ⟨fu - 1, by omega⟩
      obtain ⟨g', p1, p2⟩ := c_pass hn hL iL h3.1
      obtain ⟨g2, q1, q2⟩ := ih (x + 1) fu g0 g' (by omega) (by omega) (h3.s p2)
      refine ⟨g2, ?_, q2⟩
      unfold lX2_pileOf_16
      simp (disch := omega) only [hL.2.1, p1, q1, letv, o_b, ↓reduceIte, e_sub, e_add, e_mul, e_ld, e_st, e_lt, e_nlt, e_le, e_nle, e_eq, e_neq, e_div, e_rem, m_lt, m_le, m_eq, m_eq2, m_ng, o_ld, true_and, and_true, Nat.one_ne_zero, Nat.zero_ne_one, Nat.reduceEqDiff, Bool.false_eq_true, not_true_eq_false, not_false_eq_true, li_0, li_1, li_2, li_3, li_4, li_5, li_6, li_7, li_8, li_9, li_10, li_11, li_12, li_13, li_14, li_15, li_16, li_20, li_23, li_25, li_30, li_31, li_32, li_38, li_40, li_41, li_44, li_48, li_50, li_51, li_52, li_57, li_59, li_60, li_61, li_62, li_63, li_66, li_81, li_94, li_97, li_98, li_99, li_100, li_101, li_103, li_104, li_105, li_107, li_108, li_109, li_110, li_111, li_112, li_114, li_115, li_116, li_117, li_118, li_122, li_200, li_572, li_600, li_9999, li_10000, li_12345, li_1103515245]
  have n10 : (nI 1 = (0 : Int32)) = False := e_10
  have n00 : (nI 0 = (0 : Int32)) = True := eq_true rfl
  unfold pX2_pileOf
  rw [c_flat hL iL (show k < 6 by omega)]
  rcases bt_01 (L_f L) k with q | q
  · rw [q]
    have hb : ((1 : Int32) <<< (nI k &&& 31)) = nI (2 ^ k) := b_shl k (by omega)
    have hp : 2 ^ k < 64 := (show ∀ k, k < 6 → 2 ^ k < 64 by decide) k (by omega)
    have hin : inP L (2 ^ k) := ⟨hp, fun j hj h => by
      rw [b_pow k (by omega) j hj] at h
      by_cases e : j = k
      · rw [e]; exact ⟨hk, q⟩
      · rw [if_neg e] at h
        exact absurd h (by decide)⟩
    obtain ⟨g, p1, p2⟩ := key (L_c L) 0 n (2 ^ k) (2 ^ k) (by omega) (by omega) (PSm.z hin)
    refine Or.inr ⟨rfl, g, ?_, p2.fin iL (by omega) (Nat.le_refl _)⟩
    have p1' : lX2_pileOf_16 n V a n (nI (2 ^ k)) 0 = some (nI g) := p1
    simp only [o_b, n00, ↓reduceIte, letv, hb, p1']
  · rw [q]
    refine Or.inl ⟨rfl, ?_⟩
    simp only [o_b, n10, ↓reduceIte]
    rfl
end Q1
