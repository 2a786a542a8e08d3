/-! the class's wash -/
theorem m_01 : (nI 0 - nI 1 < nI 0) = True := eq_true (by decide)
theorem m_add (x : Nat) : nI x + -(nI 1) = nI x - nI 1 := (Int32.sub_eq_add_neg _ _).symm
theorem LC.setF {V : V2} {a : Nat} {L : Ld} (h : LC V a L) (f : Nat) : LC (up2 V a 2 (nI f)) a (L_w L, L_c L, f, L_t L) := by
  obtain ⟨h1, h2, h3, h4⟩ := h
  refine ⟨by rw [w_idx (by omega)]; exact h1, by rw [w_idx (by omega)]; exact h2, w_same, fun k hk => ?_⟩
  rw [w_row (by omega), w_row (by omega), w_row (by omega), w_row (by omega)]
  exact h4 k hk
theorem LC.setW {V : V2} {a : Nat} {L : Ld} (h : LC V a L) (w : Nat) : LC (up2 V a 0 (nI w)) a (w, L_c L, L_f L, L_t L) := by
  obtain ⟨h1, h2, h3, h4⟩ := h
  refine ⟨w_same, by rw [w_idx (by omega)]; exact h2, by rw [w_idx (by omega)]; exact h3, fun k hk => ?_⟩
  rw [w_row (by omega), w_row (by omega), w_row (by omega), w_row (by omega)]
  exact h4 k hk
theorem upT_at {t : Nat → Nat → Nat} {k j v x y : Nat} : upT t k j v x y = if x = k ∧ y = j then v else t x y := rfl
theorem LC.setT {V : V2} {a : Nat} {L : Ld} (h : LC V a L) {j : Nat} (k v : Nat) (hj : j < 4) : LC (up2 V (a + 1 + j) k (nI v)) a (L_w L, L_c L, L_f L, upT (L_t L) k j v) := by
  obtain ⟨h1, h2, h3, h4⟩ := h
  refine ⟨by rw [w_row (by omega)]; exact h1, by rw [w_row (by omega)]; exact h2, by rw [w_row (by omega)]; exact h3, fun x hx => ?_⟩
  obtain ⟨g0, g1, g2, g3⟩ := h4 x hx
  show _ = nI (upT _ _ _ _ _ _) ∧ _ = nI (upT _ _ _ _ _ _) ∧ _ = nI (upT _ _ _ _ _ _) ∧ _ = nI (upT _ _ _ _ _ _)
  simp only [upT_at]
  rcases (show j = 0 ∨ j = 1 ∨ j = 2 ∨ j = 3 by omega) with rfl | rfl | rfl | rfl
  · rw [w_row (x := a + 1 + 0) (y := a + 2) (by omega), w_row (x := a + 1 + 0) (y := a + 3) (by omega), w_row (x := a + 1 + 0) (y := a + 4) (by omega), show a + 1 + 0 = a + 1 from rfl, w_at, g0, g1, g2, g3]
    by_cases q : x = k <;> simp [q]
  · rw [w_row (x := a + 1 + 1) (y := a + 1) (by omega), w_row (x := a + 1 + 1) (y := a + 3) (by omega), w_row (x := a + 1 + 1) (y := a + 4) (by omega), show a + 1 + 1 = a + 2 from rfl, w_at, g0, g1, g2, g3]
    by_cases q : x = k <;> simp [q]
  · rw [w_row (x := a + 1 + 2) (y := a + 1) (by omega), w_row (x := a + 1 + 2) (y := a + 2) (by omega), w_row (x := a + 1 + 2) (y := a + 4) (by omega), show a + 1 + 2 = a + 3 from rfl, w_at, g0, g1, g2, g3]
    by_cases q : x = k <;> simp [q]
  · rw [w_row (x := a + 1 + 3) (y := a + 1) (by omega), w_row (x := a + 1 + 3) (y := a + 2) (by omega), w_row (x := a + 1 + 3) (y := a + 3) (by omega), show a + 1 + 3 = a + 4 from rfl, w_at, g0, g1, g2, g3]
    by_cases q : x = k <;> simp [q]
theorem LC.cg {V : V2} {a w c f : Nat} {t t' : Nat → Nat → Nat} (h : LC V a (w, c, f, t)) (ht : ∀ k, k < 6 → ∀ j, j < 4 → t k j = t' k j) : LC V a (w, c, f, t') := by
  obtain ⟨h1, h2, h3, h4⟩ := h
  refine ⟨h1, h2, h3, fun k hk => ?_⟩
  obtain ⟨g0, g1, g2, g3⟩ := h4 k hk
  show _ = nI (t' k 0) ∧ _ = nI (t' k 1) ∧ _ = nI (t' k 2) ∧ _ = nI (t' k 3)
  rw [← ht k hk 0 (by omega), ← ht k hk 1 (by omega), ← ht k hk 2 (by omega), ← ht k hk 3 (by omega)]
  exact ⟨g0, g1, g2, g3⟩
theorem LC.fr {V V' : V2} {a : Nat} {L : Ld} (h : LC V a L) (hV : ∀ x, a ≤ x → x ≤ a + 4 → V' x = V x) : LC V' a L := by
  obtain ⟨h1, h2, h3, h4⟩ := h
  refine ⟨by rw [hV a (by omega) (by omega)]; exact h1, by rw [hV a (by omega) (by omega)]; exact h2, by rw [hV a (by omega) (by omega)]; exact h3, fun k hk => ?_⟩
  rw [hV (a + 1) (by omega) (by omega), hV (a + 2) (by omega) (by omega), hV (a + 3) (by omega) (by omega), hV (a + 4) (by omega) (by omega)]
  exact h4 k hk
/-! ranges stay -/
theorem IL.setF {L : Ld} (h : IL L) {f : Nat} (hf : f < 64) (hb : ∀ k, k < 6 → L_c L ≤ k → bt f k = 0) : IL (L_w L, L_c L, f, L_t L) := ⟨h.1, h.2.1, hf, hb, h.2.2.2.2⟩
theorem IL.setT {L : Ld} (h : IL L) {k j v : Nat} (hv : (j = 1 ∧ v ≤ 99) ∨ (j = 2 ∧ v ≤ 9) ∨ (j = 3 ∧ v ≤ 5) ∨ (j = 0 ∧ 1 ≤ v ∧ v ≤ 5)) : IL (L_w L, L_c L, L_f L, upT (L_t L) k j v) := by
  refine ⟨h.1, h.2.1, h.2.2.1, h.2.2.2.1, fun x hx => ?_⟩
  obtain ⟨g0, g1, g2, g3, g4⟩ := h.2.2.2.2 x hx
  show upT _ _ _ _ _ _ ≤ 5 ∧ (x < L_c L → 1 ≤ upT _ _ _ _ _ _) ∧ upT _ _ _ _ _ _ ≤ 99 ∧ upT _ _ _ _ _ _ ≤ 9 ∧ upT _ _ _ _ _ _ ≤ 5
  simp only [upT_at]
  refine ⟨?_, fun hc => ?_, ?_, ?_, ?_⟩
  · split <;> omega
  · have := g1 hc
    split <;> omega
  · split <;> omega
  · split <;> omega
  · split <;> omega
theorem IL.stB {L : Ld} (h : IL L) {k : Nat} (hk : k < L_c L) : IL (L_w L, L_c L, stB (L_f L) k, L_t L) := by
  have hc := h.2.1
  refine h.setF (stB_lt _ h.2.2.1 k (by omega)) fun j hj hl => ?_
  rw [stB_bt _ h.2.2.1 k (by omega) j hj, if_neg (by omega)]
  exact h.2.2.2.1 j hj hl
theorem IL.clB {L : Ld} (h : IL L) {k : Nat} (hk : k < 6) : IL (L_w L, L_c L, clB (L_f L) k, L_t L) := by
  refine h.setF (clB_lt _ h.2.2.1 k hk) fun j hj hl => ?_
  rw [clB_bt _ h.2.2.1 k hk j hj, h.2.2.2.1 j hj hl]
  split <;> rfl
theorem dwA_wc {E : En} {L : Ld} {k : Nat} : L_w (dwA E L k).2 = L_w L ∧ L_c (dwA E L k).2 = L_c L := by
  unfold dwA
  split
  · exact ⟨rfl, rfl⟩
  split
  · dsimp only
    split <;> exact ⟨rfl, rfl⟩
  split <;> exact ⟨rfl, rfl⟩
theorem dwA_IL {E : En} {L : Ld} {k : Nat} (h : IL L) (hk : k < L_c L) : IL (dwA E L k).2 := by
  have hc := h.2.1
  obtain ⟨g0, g1, g2, g3, g4⟩ := h.2.2.2.2 k (by omega)
  unfold dwA
  split
  · exact h
  split
  · dsimp only
    split
    · exact (h.stB hk).setT (L := (L_w L, L_c L, stB (L_f L) k, L_t L)) (k := k) (j := 1) (v := 0) (by omega)
    · exact h
  split
  · exact (h.setT (k := k) (j := 2) (v := min 9 (L_t L k 2 + 1)) (by omega)).setT (L := (L_w L, L_c L, L_f L, upT (L_t L) k 2 (min 9 (L_t L k 2 + 1)))) (k := k) (j := 1) (v := L_t L k 1 - 6) (by omega)
  · exact h
theorem lsF_le (f : Nat) : ∀ c, lsF f c ≤ c
  | 0 => Nat.le_refl _
  | c + 1 => by
    unfold lsF
    have := lsF_le f c
    split <;> omega
theorem udA_wc {L : Ld} : L_w (udA L) = L_w L ∧ L_c (udA L) = L_c L := by
  unfold udA
  split <;> exact ⟨rfl, rfl⟩
theorem udA_IL {L : Ld} (h : IL L) : IL (udA L) := by
  have hc := h.2.1
  have hl := lsF_le (L_f L) (L_c L)
  unfold udA
  split
  · exact h
  · exact (h.clB (k := lsF (L_f L) (L_c L) - 1) (by omega)).setT (L := (L_w L, L_c L, clB (L_f L) (lsF (L_f L) (L_c L) - 1), L_t L)) (k := lsF (L_f L) (L_c L) - 1) (j := 1) (v := 25) (by omega)
theorem toA_wc {E : En} {L : Ld} {a : Nat} : L_w (toA E L a).2 = L_w L ∧ L_c (toA E L a).2 = L_c L := by
  unfold toA
  split
  · exact ⟨rfl, rfl⟩
  · exact dwA_wc
theorem toA_IL {E : En} {L : Ld} {a : Nat} (h : IL L) (ha : a ≤ L_c L) : IL (toA E L a).2 := by
  unfold toA
  split
  · exact h
  · exact dwA_IL h (by omega)
theorem g2A_wc {E : En} {L : Ld} {a : Nat} : L_w (g2A E L a) = L_w L ∧ L_c (g2A E L a) = L_c L := by
  unfold g2A
  split
  · exact ⟨udA_wc.1.trans toA_wc.1, udA_wc.2.trans toA_wc.2⟩
  · exact toA_wc
theorem g2A_IL {E : En} {L : Ld} {a : Nat} (h : IL L) (ha : a ≤ L_c L) : IL (g2A E L a) := by
  unfold g2A
  split
  · exact udA_IL (toA_IL h ha)
  · exact toA_IL h ha
theorem nbA_le {E : En} {L : Ld} {x : Nat} : nbA E L x ≤ 99 := by unfold nbA; split <;> omega
theorem blA_at {E : En} {L : Ld} {m x y : Nat} : blA E L m x y = if y = 1 ∧ x < m then nbA E L x else L_t L x y := rfl
theorem bl_IL {E : En} {L : Ld} (h : IL L) (m : Nat) : IL (L_w L, L_c L, L_f L, blA E L m) := by
  refine ⟨h.1, h.2.1, h.2.2.1, h.2.2.2.1, fun x hx => ?_⟩
  obtain ⟨g0, g1, g2, g3, g4⟩ := h.2.2.2.2 x hx
  have hb := nbA_le (E := E) (L := L) (x := x)
  show blA E L m x 0 ≤ 5 ∧ (x < L_c L → 1 ≤ blA E L m x 0) ∧ blA E L m x 1 ≤ 99 ∧ blA E L m x 2 ≤ 9 ∧ blA E L m x 3 ≤ 5
  simp only [blA_at]
  refine ⟨?_, fun hc => ?_, ?_, ?_, ?_⟩
  · rw [if_neg (by omega)]; omega
  · have := g1 hc
    rw [if_neg (by omega)]; omega
  · split <;> omega
  · rw [if_neg (by omega)]; omega
  · rw [if_neg (by omega)]; omega
theorem goL_IL {E : En} {L : Ld} {a : Nat} (h : IL L) (ha : a ≤ L_c L) (hw : L_w L < 16) : IL (goL E L a) := by
  have h2 := bl_IL (E := E) (g2A_IL (E := E) (a := a) h ha) (L_c L)
  obtain ⟨w1, c1⟩ := g2A_wc (E := E) (L := L) (a := a)
  rw [w1, c1] at h2
  exact ⟨by show L_w L + 1 ≤ 16; omega, h2.2⟩
theorem goL_w {E : En} {L : Ld} {a : Nat} : L_w (goL E L a) = L_w L + 1 := rfl
theorem goL_c {E : En} {L : Ld} {a : Nat} : L_c (goL E L a) = L_c L := rfl
def grW (E : En) : Nat → Ld → Nat
  | 0, _ => 0
  | m + 1, L => if E_en E ≤ L_w L then 0 else goW E L (rsA E L) + grW E m (goL E L (rsA E L))
def grL (E : En) : Nat → Ld → Ld
  | 0, L => L
  | m + 1, L => if E_en E ≤ L_w L then L else grL E m (goL E L (rsA E L))
theorem grL_ok {E : En} (hi : IE E) : ∀ m {L : Ld}, IL L → L_w L ≤ E_en E → IL (grL E m L) ∧ L_w (grL E m L) ≤ E_en E ∧ L_c (grL E m L) = L_c L := by
  intro m
  induction m with
  | zero => exact fun h hw => ⟨h, hw, rfl⟩
  | succ m ih =>
    intro L h hw
    unfold grL
    split
    · exact ⟨h, hw, rfl⟩
    · have he := hi.2.1
      have := ih (goL_IL (E := E) (a := rsA E L) h rsA_le (by omega)) (by rw [goL_w]; omega)
      exact ⟨this.1, this.2.1, this.2.2⟩
section C2
variable {n z Y a : Nat} {G : G2} {V : V2} {R : R2} {E : En} {L : Ld}
theorem c_over (hE : EC G V R z Y E) (hi : IE E) (h : LC V a L) (hL : IL L) : pX1_isOver V Y a = some (nI (if E_en E ≤ L_w L then 1 else 0)) := by
  have h1 := hL.1
  have h2 := hi.2.1
  unfold pX1_isOver
  rw [h.1, hE.1]
  by_cases q : E_en E ≤ L_w L
  · simp (disch := omega) only [q, letv, o_b, ↓reduceIte, e_sub, e_add, e_mul, e_ld, e_st, e_lt, e_nlt, e_le, e_nle, e_eq, e_neq, e_div, e_rem, m_lt, m_le, m_eq, m_eq2, m_ng, o_ld, true_and, and_true, Nat.one_ne_zero, Nat.zero_ne_one, Nat.reduceEqDiff, Bool.false_eq_true, not_true_eq_false, not_false_eq_true, li_0, li_1, li_2, li_3, li_4, li_5, li_6, li_7, li_8, li_9, li_10, li_11, li_12, li_13, li_14, li_15, li_16, li_20, li_23, li_25, li_30, li_31, li_32, li_38, li_40, li_41, li_44, li_48, li_50, li_51, li_52, li_57, li_59, li_60, li_61, li_62, li_63, li_66, li_81, li_94, li_97, li_98, li_99, li_100, li_101, li_103, li_104, li_105, li_107, li_108, li_109, li_110, li_111, li_112, li_114, li_115, li_116, li_117, li_118, li_122, li_200, li_572, li_600, li_9999, li_10000, li_12345, li_1103515245]
  · simp (disch := omega) only [q, letv, o_b, ↓reduceIte, e_sub, e_add, e_mul, e_ld, e_st, e_lt, e_nlt, e_le, e_nle, e_eq, e_neq, e_div, e_rem, m_lt, m_le, m_eq, m_eq2, m_ng, o_ld, true_and, and_true, Nat.one_ne_zero, Nat.zero_ne_one, Nat.reduceEqDiff, Bool.false_eq_true, not_true_eq_false, not_false_eq_true, li_0, li_1, li_2, li_3, li_4, li_5, li_6, li_7, li_8, li_9, li_10, li_11, li_12, li_13, li_14, li_15, li_16, li_20, li_23, li_25, li_30, li_31, li_32, li_38, li_40, li_41, li_44, li_48, li_50, li_51, li_52, li_57, li_59, li_60, li_61, li_62, li_63, li_66, li_81, li_94, li_97, li_98, li_99, li_100, li_101, li_103, li_104, li_105, li_107, li_108, li_109, li_110, li_111, li_112, li_114, li_115, li_116, li_117, li_118, li_122, li_200, li_572, li_600, li_9999, li_10000, li_12345, li_1103515245]
theorem c_bulk_l (h : LC V a L) (hL : IL L) : ∀ m x f acc, x + m = L_c L → m < f → lX2_bulkOfAll_4 V a f (nI acc) (nI x) = some (nI (acc + smA (fun k => L_t L k 1) x m)) := by
  have hc := hL.2.1
  intro m
  induction m with
  | zero =>
    intro x f acc h1 h2
    obtain ⟨f, rfl⟩ : ∃ g, f = g + 1 := ⟨f - 1, by omega⟩
    unfold lX2_bulkOfAll_4
    simp (disch := omega) only [h.2.1, smA, Nat.add_zero, letv, o_b, ↓reduceIte, e_sub, e_add, e_mul, e_ld, e_st, e_lt, e_nlt, e_le, e_nle, e_eq, e_neq, e_div, e_rem, m_lt, m_le, m_eq, m_eq2, m_ng, o_ld, true_and, and_true, Nat.one_ne_zero, Nat.zero_ne_one, Nat.reduceEqDiff, Bool.false_eq_true, not_true_eq_false, not_false_eq_true, li_0, li_1, li_2, li_3, li_4, li_5, li_6, li_7, li_8, li_9, li_10, li_11, li_12, li_13, li_14, li_15, li_16, li_20, li_23, li_25, li_30, li_31, li_32, li_38, li_40, li_41, li_44, li_48, li_50, li_51, li_52, li_57, li_59, li_60, li_61, li_62, li_63, li_66, li_81, li_94, li_97, li_98, li_99, li_100, li_101, li_103, li_104, li_105, li_107, li_108, li_109, li_110, li_111, li_112, li_114, li_115, li_116, li_117, li_118, li_122, li_200, li_572, li_600, li_9999, li_10000, li_12345, li_1103515245]
  | succ m ih =>
    intro x f acc h1 h2
    obtain ⟨f, rfl⟩ : ∃ g, f = g + 1 := ⟨f - 1, by omega⟩
    unfold lX2_bulkOfAll_4 smA
    simp (disch := omega) only [h.2.1, (h.2.2.2 x (show x < 6 by omega)).2.1, ih (x + 1) f (acc + L_t L x 1) (by omega) (by omega), Nat.add_assoc, letv, o_b, ↓reduceIte, e_sub, e_add, e_mul, e_ld, e_st, e_lt, e_nlt, e_le, e_nle, e_eq, e_neq, e_div, e_rem, m_lt, m_le, m_eq, m_eq2, m_ng, o_ld, true_and, and_true, Nat.one_ne_zero, Nat.zero_ne_one, Nat.reduceEqDiff, Bool.false_eq_true, not_true_eq_false, not_false_eq_true, li_0, li_1, li_2, li_3, li_4, li_5, li_6, li_7, li_8, li_9, li_10, li_11, li_12, li_13, li_14, li_15, li_16, li_20, li_23, li_25, li_30, li_31, li_32, li_38, li_40, li_41, li_44, li_48, li_50, li_51, li_52, li_57, li_59, li_60, li_61, li_62, li_63, li_66, li_81, li_94, li_97, li_98, li_99, li_100, li_101, li_103, li_104, li_105, li_107, li_108, li_109, li_110, li_111, li_112, li_114, li_115, li_116, li_117, li_118, li_122, li_200, li_572, li_600, li_9999, li_10000, li_12345, li_1103515245]
theorem c_bulk (hn : 1000 ≤ n) (h : LC V a L) (hL : IL L) : pX2_bulkOfAll n V a = some (nI (bkA L)) := by
  have hc := hL.2.1
  unfold pX2_bulkOfAll
  simp (disch := omega) only [c_bulk_l h hL (L_c L) 0 n 0 (by omega) (by omega), Nat.zero_add, letv, o_b, ↓reduceIte, e_sub, e_add, e_mul, e_ld, e_st, e_lt, e_nlt, e_le, e_nle, e_eq, e_neq, e_div, e_rem, m_lt, m_le, m_eq, m_eq2, m_ng, o_ld, true_and, and_true, Nat.one_ne_zero, Nat.zero_ne_one, Nat.reduceEqDiff, Bool.false_eq_true, not_true_eq_false, not_false_eq_true, li_0, li_1, li_2, li_3, li_4, li_5, li_6, li_7, li_8, li_9, li_10, li_11, li_12, li_13, li_14, li_15, li_16, li_20, li_23, li_25, li_30, li_31, li_32, li_38, li_40, li_41, li_44, li_48, li_50, li_51, li_52, li_57, li_59, li_60, li_61, li_62, li_63, li_66, li_81, li_94, li_97, li_98, li_99, li_100, li_101, li_103, li_104, li_105, li_107, li_108, li_109, li_110, li_111, li_112, li_114, li_115, li_116, li_117, li_118, li_122, li_200, li_572, li_600, li_9999, li_10000, li_12345, li_1103515245]
  rfl
theorem c_lie (h : LC V a L) (hL : IL L) {k : Nat} (hk : k < 6) : ∃ V', pX2_lieFlat V a (nI k) = some V' ∧ LC V' a (L_w L, L_c L, stB (L_f L) k, upT (L_t L) k 1 0) ∧ CF a V V' := by
  refine ⟨up2 (up2 V a 2 (nI (stB (L_f L) k))) (a + 2) k (nI 0), ?_, (h.setF _).setT (j := 1) k 0 (by omega), (CF.up (by omega)).tr (CF.up (by omega))⟩
  unfold pX2_lieFlat
  rw [li_1, c_setF h.2.2.1 hL.2.2.1 hk]
  simp (disch := omega) only [letv, o_b, ↓reduceIte, e_sub, e_add, e_mul, e_ld, e_st, e_lt, e_nlt, e_le, e_nle, e_eq, e_neq, e_div, e_rem, m_lt, m_le, m_eq, m_eq2, m_ng, o_ld, true_and, and_true, Nat.one_ne_zero, Nat.zero_ne_one, Nat.reduceEqDiff, Bool.false_eq_true, not_true_eq_false, not_false_eq_true, li_0, li_1, li_2, li_3, li_4, li_5, li_6, li_7, li_8, li_9, li_10, li_11, li_12, li_13, li_14, li_15, li_16, li_20, li_23, li_25, li_30, li_31, li_32, li_38, li_40, li_41, li_44, li_48, li_50, li_51, li_52, li_57, li_59, li_60, li_61, li_62, li_63, li_66, li_81, li_94, li_97, li_98, li_99, li_100, li_101, li_103, li_104, li_105, li_107, li_108, li_109, li_110, li_111, li_112, li_114, li_115, li_116, li_117, li_118, li_122, li_200, li_572, li_600, li_9999, li_10000, li_12345, li_1103515245]
theorem c_fold (h : LC V a L) (hL : IL L) {k : Nat} (hk : k < 6) : ∃ V', pX2_fold V a (nI k) = some V' ∧ LC V' a (L_w L, L_c L, L_f L, upT (upT (L_t L) k 2 (min 9 (L_t L k 2 + 1))) k 1 (L_t L k 1 - 6)) ∧ CF a V V' := by
  obtain ⟨i0, i1, i2, i3, i4⟩ := hL.2.2.2.2 k hk
  obtain ⟨t0, t1, t2, t3⟩ := h.2.2.2 k hk
  refine ⟨up2 (up2 V (a + 3) k (nI (min 9 (L_t L k 2 + 1)))) (a + 2) k (nI (L_t L k 1 - 6)), ?_, (h.setT (j := 2) k (min 9 (L_t L k 2 + 1)) (by omega)).setT (j := 1) k (L_t L k 1 - 6) (by omega), (CF.up (by omega)).tr (CF.up (by omega))⟩
  unfold pX2_fold
  simp (disch := omega) only [t2, e_jmin, w_row (show a + 2 ≠ a + 3 by omega), t1, e_jmax, letv, o_b, ↓reduceIte, e_sub, e_add, e_mul, e_ld, e_st, e_lt, e_nlt, e_le, e_nle, e_eq, e_neq, e_div, e_rem, m_lt, m_le, m_eq, m_eq2, m_ng, o_ld, true_and, and_true, Nat.one_ne_zero, Nat.zero_ne_one, Nat.reduceEqDiff, Bool.false_eq_true, not_true_eq_false, not_false_eq_true, li_0, li_1, li_2, li_3, li_4, li_5, li_6, li_7, li_8, li_9, li_10, li_11, li_12, li_13, li_14, li_15, li_16, li_20, li_23, li_25, li_30, li_31, li_32, li_38, li_40, li_41, li_44, li_48, li_50, li_51, li_52, li_57, li_59, li_60, li_61, li_62, li_63, li_66, li_81, li_94, li_97, li_98, li_99, li_100, li_101, li_103, li_104, li_105, li_107, li_108, li_109, li_110, li_111, li_112, li_114, li_115, li_116, li_117, li_118, li_122, li_200, li_572, li_600, li_9999, li_10000, li_12345, li_1103515245]
theorem c_undo_l (h : LC V a L) (hL : IL L) : ∀ x f, x ≤ L_c L → x < f → lX2_undoLastFlat_7 a f V (nI x - nI 1) (fun w9 => some w9) = if lsF (L_f L) x = 0 then some V else some (up2 (up2 V a 2 (nI (clB (L_f L) (lsF (L_f L) x - 1)))) (a + 2) (lsF (L_f L) x - 1) (nI 25)) := by
  have hc := hL.2.1
  intro x
  induction x with
  | zero =>
    intro f h1 h2
    obtain ⟨f, rfl⟩ : ∃ g, f = g + 1 := ⟨f - 1, by omega⟩
    unfold lX2_undoLastFlat_7 lsF
    simp only [li_0, m_01, ↓reduceIte]
  | succ x ih =>
    intro f h1 h2
    obtain ⟨f, rfl⟩ : ∃ g, f = g + 1 := ⟨f - 1, by omega⟩
    have hx : x < 6 := by omega
    unfold lX2_undoLastFlat_7 lsF
    rcases bt_01 (L_f L) x with q | q
    · simp (disch := omega) only [Nat.add_sub_cancel, c_flat h hL hx, q, m_add, ih f (by omega) (by omega), Nat.zero_ne_one, letv, o_b, ↓reduceIte, e_sub, e_add, e_mul, e_ld, e_st, e_lt, e_nlt, e_le, e_nle, e_eq, e_neq, e_div, e_rem, m_lt, m_le, m_eq, m_eq2, m_ng, o_ld, true_and, and_true, Nat.one_ne_zero, Nat.zero_ne_one, Nat.reduceEqDiff, Bool.false_eq_true, not_true_eq_false, not_false_eq_true, li_0, li_1, li_2, li_3, li_4, li_5, li_6, li_7, li_8, li_9, li_10, li_11, li_12, li_13, li_14, li_15, li_16, li_20, li_23, li_25, li_30, li_31, li_32, li_38, li_40, li_41, li_44, li_48, li_50, li_51, li_52, li_57, li_59, li_60, li_61, li_62, li_63, li_66, li_81, li_94, li_97, li_98, li_99, li_100, li_101, li_103, li_104, li_105, li_107, li_108, li_109, li_110, li_111, li_112, li_114, li_115, li_116, li_117, li_118, li_122, li_200, li_572, li_600, li_9999, li_10000, li_12345, li_1103515245]
    · simp (disch := omega) only [Nat.add_sub_cancel, c_flat h hL hx, q, c_clrF h.2.2.1 hL.2.2.1 hx, Nat.add_one_ne_zero, letv, o_b, ↓reduceIte, e_sub, e_add, e_mul, e_ld, e_st, e_lt, e_nlt, e_le, e_nle, e_eq, e_neq, e_div, e_rem, m_lt, m_le, m_eq, m_eq2, m_ng, o_ld, true_and, and_true, Nat.one_ne_zero, Nat.zero_ne_one, Nat.reduceEqDiff, Bool.false_eq_true, not_true_eq_false, not_false_eq_true, li_0, li_1, li_2, li_3, li_4, li_5, li_6, li_7, li_8, li_9, li_10, li_11, li_12, li_13, li_14, li_15, li_16, li_20, li_23, li_25, li_30, li_31, li_32, li_38, li_40, li_41, li_44, li_48, li_50, li_51, li_52, li_57, li_59, li_60, li_61, li_62, li_63, li_66, li_81, li_94, li_97, li_98, li_99, li_100, li_101, li_103, li_104, li_105, li_107, li_108, li_109, li_110, li_111, li_112, li_114, li_115, li_116, li_117, li_118, li_122, li_200, li_572, li_600, li_9999, li_10000, li_12345, li_1103515245]
theorem c_undo (hn : 1000 ≤ n) (h : LC V a L) (hL : IL L) : ∃ V', pX2_undoLastFlat n V a = some V' ∧ LC V' a (udA L) ∧ CF a V V' := by
  have hc := hL.2.1
  have hl := lsF_le (L_f L) (L_c L)
  have key := c_undo_l h hL (L_c L) n (Nat.le_refl _) (by omega)
  unfold pX2_undoLastFlat udA
  rw [h.2.1]
  simp only [letv, li_1]
  rw [key]
  split
  · exact ⟨V, rfl, h, CF.rf⟩
  · exact ⟨_, rfl, (h.setF _).setT (j := 1) _ 25 (by omega), (CF.up (by omega)).tr (CF.up (by omega))⟩
theorem c_doWill (hn : 1000 ≤ n) (hE : EC G V R z Y E) (hi : IE E) (ha : AD z Y a) (h : LC V a L) (hL : IL L) {k : Nat} (hk : k < L_c L) : ∃ V', pX1_doWill n G V R Y a (nI k) = some (nI (dwA E L k).1, V') ∧ LC V' a (dwA E L k).2 ∧ CF a V V' := by
  have hc := hL.2.1
  have hk6 : k < 6 := by omega
  have hs := stm_le (L := L) hi
  have hw := wlA_le (L := L) hi k
  have hp := pyA_le (E := E) (st := stm E L) hL hk6
  unfold pX1_doWill
  rw [c_flat h hL hk6]
  rcases bt_01 (L_f L) k with q | q
  · rw [q]
    rcases (show wlA E L k = 0 ∨ wlA E L k = 1 ∨ wlA E L k = 2 by omega) with q1 | q1 | q1
    · by_cases q2 : 0 < pyA E L k (stm E L)
      · obtain ⟨V', e1, e2, e3⟩ := c_lie h hL hk6
        refine ⟨V', ?_, ?_, e3⟩
        · unfold dwA
          simp (disch := omega) only [c_steam hE hi h hL, c_will hn hE hi h hL hk6, q1, c_pays hn hE hi h hL hk hs, q2, e1, q, Nat.zero_ne_one, letv, o_b, ↓reduceIte, e_sub, e_add, e_mul, e_ld, e_st, e_lt, e_nlt, e_le, e_nle, e_eq, e_neq, e_div, e_rem, m_lt, m_le, m_eq, m_eq2, m_ng, o_ld, true_and, and_true, Nat.one_ne_zero, Nat.zero_ne_one, Nat.reduceEqDiff, Bool.false_eq_true, not_true_eq_false, not_false_eq_true, li_0, li_1, li_2, li_3, li_4, li_5, li_6, li_7, li_8, li_9, li_10, li_11, li_12, li_13, li_14, li_15, li_16, li_20, li_23, li_25, li_30, li_31, li_32, li_38, li_40, li_41, li_44, li_48, li_50, li_51, li_52, li_57, li_59, li_60, li_61, li_62, li_63, li_66, li_81, li_94, li_97, li_98, li_99, li_100, li_101, li_103, li_104, li_105, li_107, li_108, li_109, li_110, li_111, li_112, li_114, li_115, li_116, li_117, li_118, li_122, li_200, li_572, li_600, li_9999, li_10000, li_12345, li_1103515245]
        · unfold dwA
          rw [if_neg (by omega), if_pos q1, if_pos q2]
          exact e2
      · refine ⟨V, ?_, ?_, CF.rf⟩
        · unfold dwA
          simp (disch := omega) only [c_steam hE hi h hL, c_will hn hE hi h hL hk6, q1, c_pays hn hE hi h hL hk hs, q2, q, Nat.zero_ne_one, letv, o_b, ↓reduceIte, e_sub, e_add, e_mul, e_ld, e_st, e_lt, e_nlt, e_le, e_nle, e_eq, e_neq, e_div, e_rem, m_lt, m_le, m_eq, m_eq2, m_ng, o_ld, true_and, and_true, Nat.one_ne_zero, Nat.zero_ne_one, Nat.reduceEqDiff, Bool.false_eq_true, not_true_eq_false, not_false_eq_true, li_0, li_1, li_2, li_3, li_4, li_5, li_6, li_7, li_8, li_9, li_10, li_11, li_12, li_13, li_14, li_15, li_16, li_20, li_23, li_25, li_30, li_31, li_32, li_38, li_40, li_41, li_44, li_48, li_50, li_51, li_52, li_57, li_59, li_60, li_61, li_62, li_63, li_66, li_81, li_94, li_97, li_98, li_99, li_100, li_101, li_103, li_104, li_105, li_107, li_108, li_109, li_110, li_111, li_112, li_114, li_115, li_116, li_117, li_118, li_122, li_200, li_572, li_600, li_9999, li_10000, li_12345, li_1103515245]
        · unfold dwA
          rw [if_neg (by omega), if_pos q1, if_neg q2]
          exact h
    · refine ⟨V, ?_, ?_, CF.rf⟩
      · unfold dwA
        simp (disch := omega) only [c_steam hE hi h hL, c_will hn hE hi h hL hk6, q1, q, Nat.zero_ne_one, Nat.one_ne_zero, Nat.reduceEqDiff, letv, o_b, ↓reduceIte, e_sub, e_add, e_mul, e_ld, e_st, e_lt, e_nlt, e_le, e_nle, e_eq, e_neq, e_div, e_rem, m_lt, m_le, m_eq, m_eq2, m_ng, o_ld, true_and, and_true, Nat.one_ne_zero, Nat.zero_ne_one, Nat.reduceEqDiff, Bool.false_eq_true, not_true_eq_false, not_false_eq_true, li_0, li_1, li_2, li_3, li_4, li_5, li_6, li_7, li_8, li_9, li_10, li_11, li_12, li_13, li_14, li_15, li_16, li_20, li_23, li_25, li_30, li_31, li_32, li_38, li_40, li_41, li_44, li_48, li_50, li_51, li_52, li_57, li_59, li_60, li_61, li_62, li_63, li_66, li_81, li_94, li_97, li_98, li_99, li_100, li_101, li_103, li_104, li_105, li_107, li_108, li_109, li_110, li_111, li_112, li_114, li_115, li_116, li_117, li_118, li_122, li_200, li_572, li_600, li_9999, li_10000, li_12345, li_1103515245]
      · unfold dwA
        rw [if_neg (by omega), if_neg (by omega), if_neg (by omega)]
        exact h
    · obtain ⟨V', e1, e2, e3⟩ := c_fold h hL hk6
      have hE' := hE.cf ha e3
      have hL' : IL (dwA E L k).2 := dwA_IL hL hk
      have e2' : LC V' a (dwA E L k).2 := by
        unfold dwA
        rw [if_neg (by omega), if_neg (by omega), if_pos q1]
        exact e2
      have hsg : sgh E (dwA E L k).2 = sgh E L := by unfold sgh; rw [dwA_wc.1]
      have hs4 := sgh_le E L
      refine ⟨V', ?_, e2', e3⟩
      have e4 := c_sigh hE' hi e2' hL'
      rw [hsg] at e4
      by_cases q3 : sgh E L = 0
      · unfold dwA
        simp (disch := omega) only [c_steam hE hi h hL, c_will hn hE hi h hL hk6, q1, q, Nat.zero_ne_one, e1, e4, q3, Nat.reduceEqDiff, letv, o_b, ↓reduceIte, e_sub, e_add, e_mul, e_ld, e_st, e_lt, e_nlt, e_le, e_nle, e_eq, e_neq, e_div, e_rem, m_lt, m_le, m_eq, m_eq2, m_ng, o_ld, true_and, and_true, Nat.one_ne_zero, Nat.zero_ne_one, Nat.reduceEqDiff, Bool.false_eq_true, not_true_eq_false, not_false_eq_true, li_0, li_1, li_2, li_3, li_4, li_5, li_6, li_7, li_8, li_9, li_10, li_11, li_12, li_13, li_14, li_15, li_16, li_20, li_23, li_25, li_30, li_31, li_32, li_38, li_40, li_41, li_44, li_48, li_50, li_51, li_52, li_57, li_59, li_60, li_61, li_62, li_63, li_66, li_81, li_94, li_97, li_98, li_99, li_100, li_101, li_103, li_104, li_105, li_107, li_108, li_109, li_110, li_111, li_112, li_114, li_115, li_116, li_117, li_118, li_122, li_200, li_572, li_600, li_9999, li_10000, li_12345, li_1103515245]
      · unfold dwA
        simp (disch := omega) only [c_steam hE hi h hL, c_will hn hE hi h hL hk6, q1, q, Nat.zero_ne_one, e1, e4, q3, Nat.reduceEqDiff, letv, o_b, ↓reduceIte, e_sub, e_add, e_mul, e_ld, e_st, e_lt, e_nlt, e_le, e_nle, e_eq, e_neq, e_div, e_rem, m_lt, m_le, m_eq, m_eq2, m_ng, o_ld, true_and, and_true, Nat.one_ne_zero, Nat.zero_ne_one, Nat.reduceEqDiff, Bool.false_eq_true, not_true_eq_false, not_false_eq_true, li_0, li_1, li_2, li_3, li_4, li_5, li_6, li_7, li_8, li_9, li_10, li_11, li_12, li_13, li_14, li_15, li_16, li_20, li_23, li_25, li_30, li_31, li_32, li_38, li_40, li_41, li_44, li_48, li_50, li_51, li_52, li_57, li_59, li_60, li_61, li_62, li_63, li_66, li_81, li_94, li_97, li_98, li_99, li_100, li_101, li_103, li_104, li_105, li_107, li_108, li_109, li_110, li_111, li_112, li_114, li_115, li_116, li_117, li_118, li_122, li_200, li_572, li_600, li_9999, li_10000, li_12345, li_1103515245]
  · rw [q]
    refine ⟨V, ?_, ?_, CF.rf⟩
    · unfold dwA
      simp (disch := omega) only [q, letv, o_b, ↓reduceIte, e_sub, e_add, e_mul, e_ld, e_st, e_lt, e_nlt, e_le, e_nle, e_eq, e_neq, e_div, e_rem, m_lt, m_le, m_eq, m_eq2, m_ng, o_ld, true_and, and_true, Nat.one_ne_zero, Nat.zero_ne_one, Nat.reduceEqDiff, Bool.false_eq_true, not_true_eq_false, not_false_eq_true, li_0, li_1, li_2, li_3, li_4, li_5, li_6, li_7, li_8, li_9, li_10, li_11, li_12, li_13, li_14, li_15, li_16, li_20, li_23, li_25, li_30, li_31, li_32, li_38, li_40, li_41, li_44, li_48, li_50, li_51, li_52, li_57, li_59, li_60, li_61, li_62, li_63, li_66, li_81, li_94, li_97, li_98, li_99, li_100, li_101, li_103, li_104, li_105, li_107, li_108, li_109, li_110, li_111, li_112, li_114, li_115, li_116, li_117, li_118, li_122, li_200, li_572, li_600, li_9999, li_10000, li_12345, li_1103515245]
    · unfold dwA
      rw [if_pos q]
      exact h
theorem c_go_l (hi : IE E) (ha : AD z Y a) (hL : IL L) : ∀ m x f {U : V2}, x + m = L_c L → m < f → EC G U R z Y E → LC U a (L_w L, L_c L, L_f L, blA E L x) → ∃ V', lX1_goBy_57 Y a (nI (sgh E L)) f U (nI x) = some V' ∧ LC V' a (L_w L, L_c L, L_f L, blA E L (L_c L)) ∧ CF a U V' := by
  have hc := hL.2.1
  intro m
  induction m with
  | zero =>
    intro x f U h1 h2 hE h
    obtain ⟨f, rfl⟩ : ∃ g, f = g + 1 := ⟨f - 1, by omega⟩
    have hx : x = L_c L := by omega
    subst hx
    refine ⟨U, ?_, h, CF.rf⟩
    have h0 : U a 1 = nI (L_c L) := h.2.1
    unfold lX1_goBy_57
    rw [h0]
    simp (disch := omega) only [letv, o_b, ↓reduceIte, e_sub, e_add, e_mul, e_ld, e_st, e_lt, e_nlt, e_le, e_nle, e_eq, e_neq, e_div, e_rem, m_lt, m_le, m_eq, m_eq2, m_ng, o_ld, true_and, and_true, Nat.one_ne_zero, Nat.zero_ne_one, Nat.reduceEqDiff, Bool.false_eq_true, not_true_eq_false, not_false_eq_true, li_0, li_1, li_2, li_3, li_4, li_5, li_6, li_7, li_8, li_9, li_10, li_11, li_12, li_13, li_14, li_15, li_16, li_20, li_23, li_25, li_30, li_31, li_32, li_38, li_40, li_41, li_44, li_48, li_50, li_51, li_52, li_57, li_59, li_60, li_61, li_62, li_63, li_66, li_81, li_94, li_97, li_98, li_99, li_100, li_101, li_103, li_104, li_105, li_107, li_108, li_109, li_110, li_111, li_112, li_114, li_115, li_116, li_117, li_118, li_122, li_200, li_572, li_600, li_9999, li_10000, li_12345, li_1103515245]
  | succ m ih =>
    intro x f U h1 h2 hE h
    obtain ⟨f, rfl⟩ : ∃ g, f = g + 1 := ⟨f - 1, by omega⟩
    have hx : x < L_c L := by omega
    have hx6 : x < 6 := by omega
    have hI := bl_IL (E := E) hL x
    obtain ⟨i0, i1, i2, i3, i4⟩ := hL.2.2.2.2 x hx6
    have t1 := (h.2.2.2 x hx6).2.1
    have t1' : U (a + 2) x = nI (L_t L x 1) := by
      rw [t1]
      show nI (blA E L x x 1) = _
      rw [blA_at, if_neg (by omega)]
    have hw8 := swl_le (E := E) (L := L) hx6
    have e1 : pX1_swells U Y a (nI x) (nI (sgh E L)) = some (nI (swl E L x)) := by
      have := c_swl hE hi h hI hx
      have e2 : swl E (L_w L, L_c L, L_f L, blA E L x) x = swl E L x := by
        unfold swl
        show swA (blA E L x x 0) x _ _ - E_rp E (blA E L x x 3) / 3 = _
        rw [blA_at, if_neg (by omega), blA_at, if_neg (by omega)]
        rfl
      rw [e2] at this
      exact this
    have e3 : pX2_isFlat U a (nI x) = some (nI (bt (L_f L) x)) := c_flat h hI hx6
    have h' : LC (up2 U (a + 2) x (nI (nbA E L x))) a (L_w L, L_c L, L_f L, blA E L (x + 1)) := by
      refine (h.setT (j := 1) x (nbA E L x) (by omega)).cg fun k hk j hj => ?_
      show upT (blA E L x) x 1 (nbA E L x) k j = blA E L (x + 1) k j
      rw [upT_at, blA_at, blA_at]
      by_cases q1 : j = 1
      · subst q1
        by_cases q2 : k = x
        · subst q2
          rw [if_pos ⟨rfl, rfl⟩, if_pos ⟨rfl, by omega⟩]
        · rw [if_neg (fun q => q2 q.1)]
          by_cases q3 : k < x
          · rw [if_pos ⟨rfl, q3⟩, if_pos ⟨rfl, by omega⟩]
          · rw [if_neg (by omega), if_neg (by omega)]
      · rw [if_neg (by omega), if_neg (by omega), if_neg (by omega)]
    have hcf : CF a U (up2 U (a + 2) x (nI (nbA E L x))) := CF.up (by omega)
    obtain ⟨V', g1, g2, g3⟩ := ih (x + 1) f (by omega) (by omega) (hE.cf ha hcf) h'
    refine ⟨V', ?_, g2, hcf.tr g3⟩
    unfold lX1_goBy_57
    have hc1 : U a 1 = nI (L_c L) := h.2.1
    rcases bt_01 (L_f L) x with q | q
    · have e4 : nbA E L x = min 99 (L_t L x 1 + swl E L x) := by unfold nbA; rw [if_neg (by omega)]
      rw [e4] at g1
      simp (disch := omega) only [hc1, e3, q, t1', e1, e_jmin, g1, letv, o_b, ↓reduceIte, e_sub, e_add, e_mul, e_ld, e_st, e_lt, e_nlt, e_le, e_nle, e_eq, e_neq, e_div, e_rem, m_lt, m_le, m_eq, m_eq2, m_ng, o_ld, true_and, and_true, Nat.one_ne_zero, Nat.zero_ne_one, Nat.reduceEqDiff, Bool.false_eq_true, not_true_eq_false, not_false_eq_true, li_0, li_1, li_2, li_3, li_4, li_5, li_6, li_7, li_8, li_9, li_10, li_11, li_12, li_13, li_14, li_15, li_16, li_20, li_23, li_25, li_30, li_31, li_32, li_38, li_40, li_41, li_44, li_48, li_50, li_51, li_52, li_57, li_59, li_60, li_61, li_62, li_63, li_66, li_81, li_94, li_97, li_98, li_99, li_100, li_101, li_103, li_104, li_105, li_107, li_108, li_109, li_110, li_111, li_112, li_114, li_115, li_116, li_117, li_118, li_122, li_200, li_572, li_600, li_9999, li_10000, li_12345, li_1103515245]
    · have e4 : nbA E L x = 0 := by unfold nbA; rw [if_pos q]
      rw [e4] at g1
      simp (disch := omega) only [hc1, e3, q, g1, letv, o_b, ↓reduceIte, e_sub, e_add, e_mul, e_ld, e_st, e_lt, e_nlt, e_le, e_nle, e_eq, e_neq, e_div, e_rem, m_lt, m_le, m_eq, m_eq2, m_ng, o_ld, true_and, and_true, Nat.one_ne_zero, Nat.zero_ne_one, Nat.reduceEqDiff, Bool.false_eq_true, not_true_eq_false, not_false_eq_true, li_0, li_1, li_2, li_3, li_4, li_5, li_6, li_7, li_8, li_9, li_10, li_11, li_12, li_13, li_14, li_15, li_16, li_20, li_23, li_25, li_30, li_31, li_32, li_38, li_40, li_41, li_44, li_48, li_50, li_51, li_52, li_57, li_59, li_60, li_61, li_62, li_63, li_66, li_81, li_94, li_97, li_98, li_99, li_100, li_101, li_103, li_104, li_105, li_107, li_108, li_109, li_110, li_111, li_112, li_114, li_115, li_116, li_117, li_118, li_122, li_200, li_572, li_600, li_9999, li_10000, li_12345, li_1103515245]
theorem c_goBy (hn : 1000 ≤ n) (hE : EC G V R z Y E) (hi : IE E) (ha : AD z Y a) (h : LC V a L) (hL : IL L) {t : Nat} (ht : t ≤ L_c L) : ∃ V', pX1_goBy n G V R Y a (nI t) = some (nI (goW E L t), V') ∧ LC V' a (goL E L t) ∧ CF a V V' := by
  have hc := hL.2.1
  have hs := sgh_le E L
  -- what is told
  obtain ⟨V1, a1, a2, a3⟩ : ∃ V1, ((if nI t < (1 : Int32) then some (0, V) else if V a 1 < nI t then some (0, V) else (pX1_doWill n G V R Y a (nI t - 1)).bind fun q3 => some (q3.1, q3.2)) : Option (Int32 × V2)) = some (nI (toA E L t).1, V1) ∧ LC V1 a (toA E L t).2 ∧ CF a V V1 := by
    by_cases q : t = 0
    · subst q
      exact ⟨V, rfl, h, CF.rf⟩
    · obtain ⟨V1, b1, b2, b3⟩ := c_doWill hn hE hi ha h hL (k := t - 1) (by omega)
      have e : toA E L t = dwA E L (t - 1) := by unfold toA; rw [if_neg q]
      rw [e]
      refine ⟨V1, ?_, b2, b3⟩
      simp (disch := omega) only [h.2.1, b1, letv, o_b, ↓reduceIte, e_sub, e_add, e_mul, e_ld, e_st, e_lt, e_nlt, e_le, e_nle, e_eq, e_neq, e_div, e_rem, m_lt, m_le, m_eq, m_eq2, m_ng, o_ld, true_and, and_true, Nat.one_ne_zero, Nat.zero_ne_one, Nat.reduceEqDiff, Bool.false_eq_true, not_true_eq_false, not_false_eq_true, li_0, li_1, li_2, li_3, li_4, li_5, li_6, li_7, li_8, li_9, li_10, li_11, li_12, li_13, li_14, li_15, li_16, li_20, li_23, li_25, li_30, li_31, li_32, li_38, li_40, li_41, li_44, li_48, li_50, li_51, li_52, li_57, li_59, li_60, li_61, li_62, li_63, li_66, li_81, li_94, li_97, li_98, li_99, li_100, li_101, li_103, li_104, li_105, li_107, li_108, li_109, li_110, li_111, li_112, li_114, li_115, li_116, li_117, li_118, li_122, li_200, li_572, li_600, li_9999, li_10000, li_12345, li_1103515245]
  have hE1 := hE.cf ha a3
  have hL1 := toA_IL (E := E) hL ht
  -- the last is undone
  obtain ⟨W2, b1, b2, b3⟩ : ∃ W2, ((if nI (sgh E L) = (3 : Int32) then (pX2_undoLastFlat n V1 a).bind fun q5 => some q5 else some V1) : Option V2) = some W2 ∧ LC W2 a (g2A E L t) ∧ CF a V1 W2 := by
    unfold g2A
    by_cases q : sgh E L = 3
    · obtain ⟨W2, c1, c2, c3⟩ := c_undo hn a2 hL1
      refine ⟨W2, ?_, ?_, c3⟩
      · simp (disch := omega) only [q, c1, letv, o_b, ↓reduceIte, e_sub, e_add, e_mul, e_ld, e_st, e_lt, e_nlt, e_le, e_nle, e_eq, e_neq, e_div, e_rem, m_lt, m_le, m_eq, m_eq2, m_ng, o_ld, true_and, and_true, Nat.one_ne_zero, Nat.zero_ne_one, Nat.reduceEqDiff, Bool.false_eq_true, not_true_eq_false, not_false_eq_true, li_0, li_1, li_2, li_3, li_4, li_5, li_6, li_7, li_8, li_9, li_10, li_11, li_12, li_13, li_14, li_15, li_16, li_20, li_23, li_25, li_30, li_31, li_32, li_38, li_40, li_41, li_44, li_48, li_50, li_51, li_52, li_57, li_59, li_60, li_61, li_62, li_63, li_66, li_81, li_94, li_97, li_98, li_99, li_100, li_101, li_103, li_104, li_105, li_107, li_108, li_109, li_110, li_111, li_112, li_114, li_115, li_116, li_117, li_118, li_122, li_200, li_572, li_600, li_9999, li_10000, li_12345, li_1103515245]
      · rw [if_pos q]; exact c2
    · refine ⟨V1, ?_, ?_, CF.rf⟩
      · simp (disch := omega) only [q, letv, o_b, ↓reduceIte, e_sub, e_add, e_mul, e_ld, e_st, e_lt, e_nlt, e_le, e_nle, e_eq, e_neq, e_div, e_rem, m_lt, m_le, m_eq, m_eq2, m_ng, o_ld, true_and, and_true, Nat.one_ne_zero, Nat.zero_ne_one, Nat.reduceEqDiff, Bool.false_eq_true, not_true_eq_false, not_false_eq_true, li_0, li_1, li_2, li_3, li_4, li_5, li_6, li_7, li_8, li_9, li_10, li_11, li_12, li_13, li_14, li_15, li_16, li_20, li_23, li_25, li_30, li_31, li_32, li_38, li_40, li_41, li_44, li_48, li_50, li_51, li_52, li_57, li_59, li_60, li_61, li_62, li_63, li_66, li_81, li_94, li_97, li_98, li_99, li_100, li_101, li_103, li_104, li_105, li_107, li_108, li_109, li_110, li_111, li_112, li_114, li_115, li_116, li_117, li_118, li_122, li_200, li_572, li_600, li_9999, li_10000, li_12345, li_1103515245]
      · rw [if_neg q]; exact a2
  have hE2 := hE1.cf ha b3
  have hL2 := g2A_IL (E := E) hL ht
  obtain ⟨w2, c2⟩ := g2A_wc (E := E) (L := L) (a := t)
  have sg2 : sgh E (g2A E L t) = sgh E L := by unfold sgh; rw [w2]
  obtain ⟨V3, d1, d2, d3⟩ := c_go_l hi ha hL2 (L_c L) 0 n (by omega) (by omega) hE2 ((show LC W2 a (L_w (g2A E L t), L_c (g2A E L t), L_f (g2A E L t), L_t (g2A E L t)) from b2).cg (t' := blA E (g2A E L t) 0) fun k _ j _ => by rw [blA_at, if_neg (by omega)])
  rw [sg2] at d1
  rw [c2] at d2
  have e4 : V3 a 0 = nI (L_w L) := by rw [d2.1]; show nI (L_w (g2A E L t)) = _; rw [w2]
  refine ⟨up2 V3 a 0 (nI (L_w L + 1)), ?_, ?_, ((a3.tr b3).tr d3).tr (CF.up (by omega))⟩
  · unfold pX1_goBy
    rw [c_sigh hE hi h hL]
    simp only [o_b]
    rw [a1]
    simp only [o_b]
    rw [b1]
    simp only [o_b, letv, li_0, li_1]
    rw [b2.2.2.1, b_cnt _ hL2.2.2.1]
    simp only [o_b]
    rw [d1]
    simp only [o_b]
    rw [e4, e_add, e_add]
    rfl
  · exact d2.setW (L_w L + 1)
theorem c_gr_l (hn : 1000 ≤ n) (hi : IE E) (ha : AD z Y a) {N : Nat} (hN : N ≤ 16) : ∀ m x f acc {U : V2} {L : Ld}, x + m = N → m < f → EC G U R z Y E → LC U a L → IL L → L_w L ≤ E_en E → ∃ V', lX1_goRest_5 n G R Y a (nI N) f U (nI acc) (nI x) = some (V', nI (acc + grW E m L)) ∧ LC V' a (grL E m L) ∧ CF a U V' := by
  have he := hi.2.1
  intro m
  induction m with
  | zero =>
    intro x f acc U L h1 h2 hE h hL hw
    obtain ⟨f, rfl⟩ : ∃ g, f = g + 1 := ⟨f - 1, by omega⟩
    refine ⟨U, ?_, h, CF.rf⟩
    unfold lX1_goRest_5 grW
    simp (disch := omega) only [Nat.add_zero, letv, o_b, ↓reduceIte, e_sub, e_add, e_mul, e_ld, e_st, e_lt, e_nlt, e_le, e_nle, e_eq, e_neq, e_div, e_rem, m_lt, m_le, m_eq, m_eq2, m_ng, o_ld, true_and, and_true, Nat.one_ne_zero, Nat.zero_ne_one, Nat.reduceEqDiff, Bool.false_eq_true, not_true_eq_false, not_false_eq_true, li_0, li_1, li_2, li_3, li_4, li_5, li_6, li_7, li_8, li_9, li_10, li_11, li_12, li_13, li_14, li_15, li_16, li_20, li_23, li_25, li_30, li_31, li_32, li_38, li_40, li_41, li_44, li_48, li_50, li_51, li_52, li_57, li_59, li_60, li_61, li_62, li_63, li_66, li_81, li_94, li_97, li_98, li_99, li_100, li_101, li_103, li_104, li_105, li_107, li_108, li_109, li_110, li_111, li_112, li_114, li_115, li_116, li_117, li_118, li_122, li_200, li_572, li_600, li_9999, li_10000, li_12345, li_1103515245]
  | succ m ih =>
    intro x f acc U L h1 h2 hE h hL hw
    obtain ⟨f, rfl⟩ : ∃ g, f = g + 1 := ⟨f - 1, by omega⟩
    by_cases q : E_en E ≤ L_w L
    · refine ⟨U, ?_, by unfold grL; rw [if_pos q]; exact h, CF.rf⟩
      unfold lX1_goRest_5 grW
      simp (disch := omega) only [c_over hE hi h hL, q, Nat.add_zero, letv, o_b, ↓reduceIte, e_sub, e_add, e_mul, e_ld, e_st, e_lt, e_nlt, e_le, e_nle, e_eq, e_neq, e_div, e_rem, m_lt, m_le, m_eq, m_eq2, m_ng, o_ld, true_and, and_true, Nat.one_ne_zero, Nat.zero_ne_one, Nat.reduceEqDiff, Bool.false_eq_true, not_true_eq_false, not_false_eq_true, li_0, li_1, li_2, li_3, li_4, li_5, li_6, li_7, li_8, li_9, li_10, li_11, li_12, li_13, li_14, li_15, li_16, li_20, li_23, li_25, li_30, li_31, li_32, li_38, li_40, li_41, li_44, li_48, li_50, li_51, li_52, li_57, li_59, li_60, li_61, li_62, li_63, li_66, li_81, li_94, li_97, li_98, li_99, li_100, li_101, li_103, li_104, li_105, li_107, li_108, li_109, li_110, li_111, li_112, li_114, li_115, li_116, li_117, li_118, li_122, li_200, li_572, li_600, li_9999, li_10000, li_12345, li_1103515245]
    · obtain ⟨V1, a1, a2, a3⟩ := c_goBy hn hE hi ha h hL (t := rsA E L) rsA_le
      obtain ⟨W2, b1, b2, b3⟩ := ih (x + 1) f (acc + goW E L (rsA E L)) (by omega) (by omega) (hE.cf ha a3) a2 (goL_IL hL rsA_le (by omega)) (by rw [goL_w]; omega)
      refine ⟨W2, ?_, by unfold grL; rw [if_neg q]; exact b2, a3.tr b3⟩
      unfold lX1_goRest_5 grW
      simp (disch := omega) only [c_over hE hi h hL, q, c_rest hn hE hi h hL, a1, b1, Nat.add_assoc, letv, o_b, ↓reduceIte, e_sub, e_add, e_mul, e_ld, e_st, e_lt, e_nlt, e_le, e_nle, e_eq, e_neq, e_div, e_rem, m_lt, m_le, m_eq, m_eq2, m_ng, o_ld, true_and, and_true, Nat.one_ne_zero, Nat.zero_ne_one, Nat.reduceEqDiff, Bool.false_eq_true, not_true_eq_false, not_false_eq_true, li_0, li_1, li_2, li_3, li_4, li_5, li_6, li_7, li_8, li_9, li_10, li_11, li_12, li_13, li_14, li_15, li_16, li_20, li_23, li_25, li_30, li_31, li_32, li_38, li_40, li_41, li_44, li_48, li_50, li_51, li_52, li_57, li_59, li_60, li_61, li_62, li_63, li_66, li_81, li_94, li_97, li_98, li_99, li_100, li_101, li_103, li_104, li_105, li_107, li_108, li_109, li_110, li_111, li_112, li_114, li_115, li_116, li_117, li_118, li_122, li_200, li_572, li_600, li_9999, li_10000, li_12345, li_1103515245]
theorem c_gr (hn : 1000 ≤ n) (hE : EC G V R z Y E) (hi : IE E) (ha : AD z Y a) (h : LC V a L) (hL : IL L) (hw : L_w L ≤ E_en E) {N : Nat} (hN : N ≤ 16) : ∃ V', pX1_goRest n G V R Y a (nI N) = some (nI (grW E N L), V') ∧ LC V' a (grL E N L) ∧ CF a V V' := by
  obtain ⟨V', a1, a2, a3⟩ := c_gr_l hn hi ha hN N 0 n 0 (by omega) (by omega) hE h hL hw
  refine ⟨V', ?_, a2, a3⟩
  unfold pX1_goRest
  simp (disch := omega) only [a1, Nat.zero_add, letv, o_b, ↓reduceIte, e_sub, e_add, e_mul, e_ld, e_st, e_lt, e_nlt, e_le, e_nle, e_eq, e_neq, e_div, e_rem, m_lt, m_le, m_eq, m_eq2, m_ng, o_ld, true_and, and_true, Nat.one_ne_zero, Nat.zero_ne_one, Nat.reduceEqDiff, Bool.false_eq_true, not_true_eq_false, not_false_eq_true, li_0, li_1, li_2, li_3, li_4, li_5, li_6, li_7, li_8, li_9, li_10, li_11, li_12, li_13, li_14, li_15, li_16, li_20, li_23, li_25, li_30, li_31, li_32, li_38, li_40, li_41, li_44, li_48, li_50, li_51, li_52, li_57, li_59, li_60, li_61, li_62, li_63, li_66, li_81, li_94, li_97, li_98, li_99, li_100, li_101, li_103, li_104, li_105, li_107, li_108, li_109, li_110, li_111, li_112, li_114, li_115, li_116, li_117, li_118, li_122, li_200, li_572, li_600, li_9999, li_10000, li_12345, li_1103515245]
theorem cpy6 {V : V2} {x y : Nat} : cpyV 6 6 V x 0 y 0 6 = some (va_up V y (va_cpy (V x) (V y) 0 0 6)) := by
  unfold cpyV
  rw [if_pos (by decide +kernel)]
  rfl
theorem cpy_at {f g : Nat → Int32} {m k : Nat} (hk : k < m) : va_cpy f g 0 0 m k = f k := by
  unfold va_cpy
  rw [if_pos (by omega)]
  congr 1
  omega
theorem CF.va {b x : Nat} {V : V2} {s : Nat → Int32} (h : b ≤ x ∧ x ≤ b + 4) : CF b V (va_up V x s) := fun y hy => va_up_ne _ _ (by omega)
theorem c_copy {b : Nat} (h : LC V a L) (hab : a + 4 < b ∨ b + 4 < a) : ∃ V', pX2_copy V b a = some V' ∧ LC V' b L ∧ CF b V V' := by
  obtain ⟨h1, h2, h3, h4⟩ := h
  unfold pX2_copy
  simp only [letv, cpy6, o_b]
  refine ⟨_, rfl, ⟨?_, ?_, ?_, fun k hk => ?_⟩, ?_⟩
  · simp (disch := omega) only [va_up_ne, w_same, w_idx, w_row, h1]
  · simp (disch := omega) only [va_up_ne, w_same, w_idx, w_row, h2]
  · simp (disch := omega) only [va_up_ne, w_same, w_idx, w_row, h3]
  · obtain ⟨g0, g1, g2, g3⟩ := h4 k hk
    simp (disch := omega) only [va_up_ne, va_up_self, cpy_at hk, w_row, g0, g1, g2, g3, and_self]
  · exact ((((((CF.up (by omega)).tr (CF.up (by omega))).tr (CF.up (by omega))).tr (CF.va (by omega))).tr (CF.va (by omega))).tr (CF.va (by omega))).tr (CF.va (by omega))
end C2
