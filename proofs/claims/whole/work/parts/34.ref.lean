/-! the reference's row of numbers, tied to the same -/
def MC (s : Nat → Int32) (L : Ld) : Prop := s 1 = nI (L_w L) ∧ s 0 = nI (L_c L) ∧ ∀ k, k < 6 → s (8 + 5 * k) = nI (L_t L k 0) ∧ s (8 + 5 * k + 1) = nI (L_t L k 1) ∧ s (8 + 5 * k + 2) = nI (L_t L k 2) ∧ s (8 + 5 * k + 3) = nI (L_t L k 3) ∧ s (8 + 5 * k + 4) = nI (bt (L_f L) k)
def moA (op : Nat) : Nat := if op < 3 then op else if op = 5 then 3 else op + 1
def RuM (s : Nat → Int32) (i kd wl m : Nat) (g : Nat → Nat × Nat × Nat) : Prop := ∃ bg, s (66 + 4 * i) = nI kd ∧ s (66 + 4 * i + 1) = nI wl ∧ s (66 + 4 * i + 2) = nI bg ∧ s (66 + 4 * i + 3) = nI (bg + m) ∧ bg + m ≤ 150 ∧ ∀ j, j < m → s (122 + 3 * (bg + j)) = nI (moA (g j).1) ∧ s (122 + 3 * (bg + j) + 1) = nI (g j).2.1 ∧ s (122 + 3 * (bg + j) + 2) = nI (g j).2.2
def ME (s : Nat → Int32) (E : En) : Prop := s 2 = nI (E_en E) ∧ s 5 = nI (E_rc E) ∧ (∀ i, i < 16 → s (50 + i) = nI (E_ir E i)) ∧ (∀ i, i < 6 → s (38 + i) = nI (E_wt E i) ∧ s (44 + i) = nI (E_rp E i)) ∧ ∀ i, i < E_rc E → RuM s i (E_rk E i) (E_rw E i) (E_rm E i) (E_rs E i)
def MF (b : Nat) (U U' : V2) : Prop := (∀ x, x ≠ b + 1 → U' x = U x) ∧ ∀ i, (i = 2 ∨ (4 ≤ i ∧ i ≤ 7) ∨ 38 ≤ i) → U' (b + 1) i = U (b + 1) i
theorem MF.rf {b : Nat} {U : V2} : MF b U U := ⟨fun _ _ => rfl, fun _ _ => rfl⟩
theorem MF.tr {b : Nat} {U U' U'' : V2} (h : MF b U U') (h2 : MF b U' U'') : MF b U U'' := ⟨fun x hx => (h2.1 x hx).trans (h.1 x hx), fun i hi => (h2.2 i hi).trans (h.2 i hi)⟩
theorem MF.up {b : Nat} {U : V2} {i : Nat} {v : Int32} (h : i < 38) (h2 : i < 2 ∨ i = 3 ∨ 8 ≤ i) : MF b U (up2 U (b + 1) i v) := ⟨fun x hx => w_row hx, fun j hj => w_idx (by omega)⟩
theorem ME.fr {s s' : Nat → Int32} {E : En} (h : ME s E) (hs : ∀ i, (i = 2 ∨ (4 ≤ i ∧ i ≤ 7) ∨ 38 ≤ i) → s' i = s i) : ME s' E := by
  obtain ⟨h1, h2, h3, h4, h5⟩ := h
  refine ⟨by rw [hs 2 (by omega)]; exact h1, by rw [hs 5 (by omega)]; exact h2, fun i hi => by rw [hs _ (by omega)]; exact h3 i hi, fun i hi => by rw [hs _ (by omega), hs _ (by omega)]; exact h4 i hi, fun i hi => ?_⟩
  obtain ⟨bg, g1, g2, g3, g4, g5, g6⟩ := h5 i hi
  refine ⟨bg, by rw [hs _ (by omega)]; exact g1, by rw [hs _ (by omega)]; exact g2, by rw [hs _ (by omega)]; exact g3, by rw [hs _ (by omega)]; exact g4, g5, fun j hj => ?_⟩
  rw [hs _ (by omega), hs _ (by omega), hs _ (by omega)]
  exact g6 j hj
theorem ME.mf {b : Nat} {U U' : V2} {E : En} (h : ME (U (b + 1)) E) (hf : MF b U U') : ME (U' (b + 1)) E := h.fr hf.2
theorem MC.fr {s s' : Nat → Int32} {L : Ld} (h : MC s L) (hs : ∀ i, i < 2 ∨ 8 ≤ i ∧ i < 38 → s' i = s i) : MC s' L := by
  obtain ⟨h1, h2, h3⟩ := h
  refine ⟨by rw [hs _ (by omega)]; exact h1, by rw [hs _ (by omega)]; exact h2, fun k hk => ?_⟩
  rw [hs _ (by omega), hs _ (by omega), hs _ (by omega), hs _ (by omega), hs _ (by omega)]
  exact h3 k hk
theorem MC.setT {U : V2} {b : Nat} {L : Ld} (h : MC (U (b + 1)) L) {j : Nat} (k v : Nat) (hj : j < 4) (hk : k < 6) : MC (up2 U (b + 1) (8 + 5 * k + j) (nI v) (b + 1)) (L_w L, L_c L, L_f L, upT (L_t L) k j v) := by
  obtain ⟨h1, h2, h3⟩ := h
  refine ⟨by rw [w_idx (by omega)]; exact h1, by rw [w_idx (by omega)]; exact h2, fun x hx => ?_⟩
  obtain ⟨g0, g1, g2, g3, g4⟩ := h3 x hx
  show _ = nI (upT _ _ _ _ _ _) ∧ _ = nI (upT _ _ _ _ _ _) ∧ _ = nI (upT _ _ _ _ _ _) ∧ _ = nI (upT _ _ _ _ _ _) ∧ _
  simp only [upT_at]
  by_cases q : x = k
  · subst q
    rcases (show j = 0 ∨ j = 1 ∨ j = 2 ∨ j = 3 by omega) with rfl | rfl | rfl | rfl
    · rw [show 8 + 5 * x + 0 = 8 + 5 * x from rfl, w_same, w_idx (by omega), w_idx (by omega), w_idx (by omega), w_idx (by omega), g1, g2, g3, g4]
      simp
    · rw [w_same, w_idx (by omega), w_idx (by omega), w_idx (by omega), w_idx (by omega), g0, g2, g3, g4]
      simp
    · rw [w_same, w_idx (by omega), w_idx (by omega), w_idx (by omega), w_idx (by omega), g0, g1, g3, g4]
      simp
    · rw [w_same, w_idx (by omega), w_idx (by omega), w_idx (by omega), w_idx (by omega), g0, g1, g2, g4]
      simp
  · rw [w_idx (by omega), w_idx (by omega), w_idx (by omega), w_idx (by omega), w_idx (by omega), g0, g1, g2, g3, g4]
    simp [q]
theorem MC.setF {U : V2} {b : Nat} {L : Ld} (h : MC (U (b + 1)) L) (hf : L_f L < 64) (k : Nat) (hk : k < 6) : MC (up2 U (b + 1) (8 + 5 * k + 4) (nI 1) (b + 1)) (L_w L, L_c L, stB (L_f L) k, L_t L) := by
  obtain ⟨h1, h2, h3⟩ := h
  refine ⟨by rw [w_idx (by omega)]; exact h1, by rw [w_idx (by omega)]; exact h2, fun x hx => ?_⟩
  obtain ⟨g0, g1, g2, g3, g4⟩ := h3 x hx
  have e := stB_bt _ hf k hk x hx
  show _ ∧ _ ∧ _ ∧ _ ∧ _ = nI (bt (stB (L_f L) k) x)
  rw [e]
  by_cases q : x = k
  · subst q
    rw [w_same, w_idx (by omega), w_idx (by omega), w_idx (by omega), w_idx (by omega), g0, g1, g2, g3]
    simp
  · rw [w_idx (by omega), w_idx (by omega), w_idx (by omega), w_idx (by omega), w_idx (by omega), g0, g1, g2, g3, g4]
    simp [q]
theorem MC.clF {U : V2} {b : Nat} {L : Ld} (h : MC (U (b + 1)) L) (hf : L_f L < 64) (k : Nat) (hk : k < 6) : MC (up2 U (b + 1) (8 + 5 * k + 4) (nI 0) (b + 1)) (L_w L, L_c L, clB (L_f L) k, L_t L) := by
  obtain ⟨h1, h2, h3⟩ := h
  refine ⟨by rw [w_idx (by omega)]; exact h1, by rw [w_idx (by omega)]; exact h2, fun x hx => ?_⟩
  obtain ⟨g0, g1, g2, g3, g4⟩ := h3 x hx
  have e := clB_bt _ hf k hk x hx
  show _ ∧ _ ∧ _ ∧ _ ∧ _ = nI (bt (clB (L_f L) k) x)
  rw [e]
  by_cases q : x = k
  · subst q
    rw [w_same, w_idx (by omega), w_idx (by omega), w_idx (by omega), w_idx (by omega), g0, g1, g2, g3]
    simp
  · rw [w_idx (by omega), w_idx (by omega), w_idx (by omega), w_idx (by omega), w_idx (by omega), g0, g1, g2, g3, g4]
    simp [q]
theorem MC.cg {s : Nat → Int32} {w c f : Nat} {t t' : Nat → Nat → Nat} (h : MC s (w, c, f, t)) (ht : ∀ k, k < 6 → ∀ j, j < 4 → t k j = t' k j) : MC s (w, c, f, t') := by
  obtain ⟨h1, h2, h3⟩ := h
  refine ⟨h1, h2, fun k hk => ?_⟩
  obtain ⟨g0, g1, g2, g3, g4⟩ := h3 k hk
  show _ = nI (t' k 0) ∧ _ = nI (t' k 1) ∧ _ = nI (t' k 2) ∧ _ = nI (t' k 3) ∧ _
  rw [← ht k hk 0 (by omega), ← ht k hk 1 (by omega), ← ht k hk 2 (by omega), ← ht k hk 3 (by omega)]
  exact ⟨g0, g1, g2, g3, g4⟩
theorem m_under : ∀ kd, kd < 6 → ∀ a, a < 6 → pX9_isUnder (nI kd) (nI a) = some (nI (if unA kd a = true then 1 else 0)) := by decide +kernel
theorem s_cmp {a : Nat} (ha : a < 1000) : (lg_cmp (lN a) (lN 1) = nI 0) = (a = 1) := by
  rw [show (nI 0 : Int32) = 0 from rfl]
  exact propext ((lg_cmp_eq _ _).trans (lN_eq (by omega) (by omega)))
theorem s_bit : ∀ st, st < 1024 → lN st &&& lN 1 = lN (st % 2) := by decide +kernel
theorem s_half : ∀ st, st < 1024 → lN st / lN 2 = lN (st / 2) := by decide +kernel
theorem s_not : ∀ st, st < 1024 → lN st ^^^ lN 1 = lN (ntT st) := by decide +kernel
theorem s_and : ∀ st, st < 1024 → st % 2 = 0 → lN (st / 2) &&& -(lN 2) = lN (anT st) := by decide +kernel
theorem s_and1 : ∀ st, st < 1024 → st % 2 = 1 → st / 2 = anT st := by decide +kernel
theorem s_or : ∀ st, st < 1024 → lN (st / 2) ||| lN (st % 2) = lN (orT st) := by decide +kernel
theorem s_p : ∀ st, st < 1024 → lN 2 * lN st + lN 0 = lN (2 * st + 0) ∧ lN 2 * lN st + lN 1 = lN (2 * st + 1) := fun st _ => by rw [lN_mul, lN_add, lN_add]; exact ⟨rfl, rfl⟩
theorem s_rem : ∀ st, st < 1024 → jreml (lN st) (lN 2) = lN (st % 2) := by decide +kernel
section M1
variable {n b : Nat} {U : V2} {E : En} {L : Ld}
theorem m_its0 (h : MC (U (b + 1)) L) {k : Nat} (hk : k < 6) : pX9_its U b (nI k) (nI 0) = some (nI (L_t L k 0)) := by
  unfold pX9_its
  simp (disch := omega) only [Nat.add_zero, (h.2.2 k hk).1, letv, o_b, ↓reduceIte, e_sub, e_add, e_mul, e_ld, e_st, e_lt, e_nlt, e_le, e_nle, e_eq, e_neq, e_div, e_rem, m_lt, m_le, m_eq, m_eq2, m_ng, o_ld, true_and, and_true, Nat.one_ne_zero, Nat.zero_ne_one, Nat.reduceEqDiff, Bool.false_eq_true, not_true_eq_false, not_false_eq_true, li_0, li_1, li_2, li_3, li_4, li_5, li_6, li_7, li_8, li_9, li_10, li_11, li_12, li_13, li_14, li_15, li_16, li_20, li_23, li_25, li_30, li_31, li_32, li_38, li_40, li_41, li_44, li_48, li_50, li_51, li_52, li_57, li_59, li_60, li_61, li_62, li_63, li_66, li_81, li_94, li_97, li_98, li_99, li_100, li_101, li_103, li_104, li_105, li_107, li_108, li_109, li_110, li_111, li_112, li_114, li_115, li_116, li_117, li_118, li_122, li_200, li_572, li_600, li_9999, li_10000, li_12345, li_1103515245]
theorem m_its1 (h : MC (U (b + 1)) L) {k : Nat} (hk : k < 6) : pX9_its U b (nI k) (nI 1) = some (nI (L_t L k 1)) := by
  unfold pX9_its
  simp (disch := omega) only [(h.2.2 k hk).2.1, letv, o_b, ↓reduceIte, e_sub, e_add, e_mul, e_ld, e_st, e_lt, e_nlt, e_le, e_nle, e_eq, e_neq, e_div, e_rem, m_lt, m_le, m_eq, m_eq2, m_ng, o_ld, true_and, and_true, Nat.one_ne_zero, Nat.zero_ne_one, Nat.reduceEqDiff, Bool.false_eq_true, not_true_eq_false, not_false_eq_true, li_0, li_1, li_2, li_3, li_4, li_5, li_6, li_7, li_8, li_9, li_10, li_11, li_12, li_13, li_14, li_15, li_16, li_20, li_23, li_25, li_30, li_31, li_32, li_38, li_40, li_41, li_44, li_48, li_50, li_51, li_52, li_57, li_59, li_60, li_61, li_62, li_63, li_66, li_81, li_94, li_97, li_98, li_99, li_100, li_101, li_103, li_104, li_105, li_107, li_108, li_109, li_110, li_111, li_112, li_114, li_115, li_116, li_117, li_118, li_122, li_200, li_572, li_600, li_9999, li_10000, li_12345, li_1103515245]
theorem m_its2 (h : MC (U (b + 1)) L) {k : Nat} (hk : k < 6) : pX9_its U b (nI k) (nI 2) = some (nI (L_t L k 2)) := by
  unfold pX9_its
  simp (disch := omega) only [(h.2.2 k hk).2.2.1, letv, o_b, ↓reduceIte, e_sub, e_add, e_mul, e_ld, e_st, e_lt, e_nlt, e_le, e_nle, e_eq, e_neq, e_div, e_rem, m_lt, m_le, m_eq, m_eq2, m_ng, o_ld, true_and, and_true, Nat.one_ne_zero, Nat.zero_ne_one, Nat.reduceEqDiff, Bool.false_eq_true, not_true_eq_false, not_false_eq_true, li_0, li_1, li_2, li_3, li_4, li_5, li_6, li_7, li_8, li_9, li_10, li_11, li_12, li_13, li_14, li_15, li_16, li_20, li_23, li_25, li_30, li_31, li_32, li_38, li_40, li_41, li_44, li_48, li_50, li_51, li_52, li_57, li_59, li_60, li_61, li_62, li_63, li_66, li_81, li_94, li_97, li_98, li_99, li_100, li_101, li_103, li_104, li_105, li_107, li_108, li_109, li_110, li_111, li_112, li_114, li_115, li_116, li_117, li_118, li_122, li_200, li_572, li_600, li_9999, li_10000, li_12345, li_1103515245]
theorem m_its3 (h : MC (U (b + 1)) L) {k : Nat} (hk : k < 6) : pX9_its U b (nI k) (nI 3) = some (nI (L_t L k 3)) := by
  unfold pX9_its
  simp (disch := omega) only [(h.2.2 k hk).2.2.2.1, letv, o_b, ↓reduceIte, e_sub, e_add, e_mul, e_ld, e_st, e_lt, e_nlt, e_le, e_nle, e_eq, e_neq, e_div, e_rem, m_lt, m_le, m_eq, m_eq2, m_ng, o_ld, true_and, and_true, Nat.one_ne_zero, Nat.zero_ne_one, Nat.reduceEqDiff, Bool.false_eq_true, not_true_eq_false, not_false_eq_true, li_0, li_1, li_2, li_3, li_4, li_5, li_6, li_7, li_8, li_9, li_10, li_11, li_12, li_13, li_14, li_15, li_16, li_20, li_23, li_25, li_30, li_31, li_32, li_38, li_40, li_41, li_44, li_48, li_50, li_51, li_52, li_57, li_59, li_60, li_61, li_62, li_63, li_66, li_81, li_94, li_97, li_98, li_99, li_100, li_101, li_103, li_104, li_105, li_107, li_108, li_109, li_110, li_111, li_112, li_114, li_115, li_116, li_117, li_118, li_122, li_200, li_572, li_600, li_9999, li_10000, li_12345, li_1103515245]
theorem m_its4 (h : MC (U (b + 1)) L) {k : Nat} (hk : k < 6) : pX9_its U b (nI k) (nI 4) = some (nI (bt (L_f L) k)) := by
  unfold pX9_its
  simp (disch := omega) only [(h.2.2 k hk).2.2.2.2, letv, o_b, ↓reduceIte, e_sub, e_add, e_mul, e_ld, e_st, e_lt, e_nlt, e_le, e_nle, e_eq, e_neq, e_div, e_rem, m_lt, m_le, m_eq, m_eq2, m_ng, o_ld, true_and, and_true, Nat.one_ne_zero, Nat.zero_ne_one, Nat.reduceEqDiff, Bool.false_eq_true, not_true_eq_false, not_false_eq_true, li_0, li_1, li_2, li_3, li_4, li_5, li_6, li_7, li_8, li_9, li_10, li_11, li_12, li_13, li_14, li_15, li_16, li_20, li_23, li_25, li_30, li_31, li_32, li_38, li_40, li_41, li_44, li_48, li_50, li_51, li_52, li_57, li_59, li_60, li_61, li_62, li_63, li_66, li_81, li_94, li_97, li_98, li_99, li_100, li_101, li_103, li_104, li_105, li_107, li_108, li_109, li_110, li_111, li_112, li_114, li_115, li_116, li_117, li_118, li_122, li_200, li_572, li_600, li_9999, li_10000, li_12345, li_1103515245]
theorem m_iron (hE : ME (U (b + 1)) E) {w : Nat} (hw : w < 100) : pX9_ironOf U b (nI w) = some (nI (irA E w)) := by
  unfold pX9_ironOf irA
  by_cases h : w < 16
  · simp (disch := omega) only [hE.2.2.1 w h, h, letv, o_b, ↓reduceIte, e_sub, e_add, e_mul, e_ld, e_st, e_lt, e_nlt, e_le, e_nle, e_eq, e_neq, e_div, e_rem, m_lt, m_le, m_eq, m_eq2, m_ng, o_ld, true_and, and_true, Nat.one_ne_zero, Nat.zero_ne_one, Nat.reduceEqDiff, Bool.false_eq_true, not_true_eq_false, not_false_eq_true, li_0, li_1, li_2, li_3, li_4, li_5, li_6, li_7, li_8, li_9, li_10, li_11, li_12, li_13, li_14, li_15, li_16, li_20, li_23, li_25, li_30, li_31, li_32, li_38, li_40, li_41, li_44, li_48, li_50, li_51, li_52, li_57, li_59, li_60, li_61, li_62, li_63, li_66, li_81, li_94, li_97, li_98, li_99, li_100, li_101, li_103, li_104, li_105, li_107, li_108, li_109, li_110, li_111, li_112, li_114, li_115, li_116, li_117, li_118, li_122, li_200, li_572, li_600, li_9999, li_10000, li_12345, li_1103515245]
  · simp (disch := omega) only [h, letv, o_b, ↓reduceIte, e_sub, e_add, e_mul, e_ld, e_st, e_lt, e_nlt, e_le, e_nle, e_eq, e_neq, e_div, e_rem, m_lt, m_le, m_eq, m_eq2, m_ng, o_ld, true_and, and_true, Nat.one_ne_zero, Nat.zero_ne_one, Nat.reduceEqDiff, Bool.false_eq_true, not_true_eq_false, not_false_eq_true, li_0, li_1, li_2, li_3, li_4, li_5, li_6, li_7, li_8, li_9, li_10, li_11, li_12, li_13, li_14, li_15, li_16, li_20, li_23, li_25, li_30, li_31, li_32, li_38, li_40, li_41, li_44, li_48, li_50, li_51, li_52, li_57, li_59, li_60, li_61, li_62, li_63, li_66, li_81, li_94, li_97, li_98, li_99, li_100, li_101, li_103, li_104, li_105, li_107, li_108, li_109, li_110, li_111, li_112, li_114, li_115, li_116, li_117, li_118, li_122, li_200, li_572, li_600, li_9999, li_10000, li_12345, li_1103515245]
theorem m_over (hE : ME (U (b + 1)) E) (hi : IE E) (h : MC (U (b + 1)) L) (hL : IL L) : pX9_isOver U b = some (nI (if E_en E ≤ L_w L then 1 else 0)) := by
  have h1 := hL.1
  have h2 := hi.2.1
  unfold pX9_isOver
  by_cases q : E_en E ≤ L_w L
  · simp (disch := omega) only [h.1, hE.1, q, letv, o_b, ↓reduceIte, e_sub, e_add, e_mul, e_ld, e_st, e_lt, e_nlt, e_le, e_nle, e_eq, e_neq, e_div, e_rem, m_lt, m_le, m_eq, m_eq2, m_ng, o_ld, true_and, and_true, Nat.one_ne_zero, Nat.zero_ne_one, Nat.reduceEqDiff, Bool.false_eq_true, not_true_eq_false, not_false_eq_true, li_0, li_1, li_2, li_3, li_4, li_5, li_6, li_7, li_8, li_9, li_10, li_11, li_12, li_13, li_14, li_15, li_16, li_20, li_23, li_25, li_30, li_31, li_32, li_38, li_40, li_41, li_44, li_48, li_50, li_51, li_52, li_57, li_59, li_60, li_61, li_62, li_63, li_66, li_81, li_94, li_97, li_98, li_99, li_100, li_101, li_103, li_104, li_105, li_107, li_108, li_109, li_110, li_111, li_112, li_114, li_115, li_116, li_117, li_118, li_122, li_200, li_572, li_600, li_9999, li_10000, li_12345, li_1103515245]
  · simp (disch := omega) only [h.1, hE.1, q, letv, o_b, ↓reduceIte, e_sub, e_add, e_mul, e_ld, e_st, e_lt, e_nlt, e_le, e_nle, e_eq, e_neq, e_div, e_rem, m_lt, m_le, m_eq, m_eq2, m_ng, o_ld, true_and, and_true, Nat.one_ne_zero, Nat.zero_ne_one, Nat.reduceEqDiff, Bool.false_eq_true, not_true_eq_false, not_false_eq_true, li_0, li_1, li_2, li_3, li_4, li_5, li_6, li_7, li_8, li_9, li_10, li_11, li_12, li_13, li_14, li_15, li_16, li_20, li_23, li_25, li_30, li_31, li_32, li_38, li_40, li_41, li_44, li_48, li_50, li_51, li_52, li_57, li_59, li_60, li_61, li_62, li_63, li_66, li_81, li_94, li_97, li_98, li_99, li_100, li_101, li_103, li_104, li_105, li_107, li_108, li_109, li_110, li_111, li_112, li_114, li_115, li_116, li_117, li_118, li_122, li_200, li_572, li_600, li_9999, li_10000, li_12345, li_1103515245]
theorem m_swell {kd k i w : Nat} (h1 : 1 ≤ kd) (h2 : kd ≤ 5) (hk : k < 6) (hs : i ≤ 15) (hw : w ≤ 16) : pX9_swells (nI kd) (nI k) (nI w) (nI i) = some (nI (swA kd k (i % 4) w)) := by
  unfold pX9_swells swA
  rcases (show kd = 1 ∨ kd = 2 ∨ kd = 3 ∨ kd = 4 ∨ kd = 5 by omega) with rfl | rfl | rfl | rfl | rfl <;> simp (disch := omega) only [e_gr, letv, o_b, ↓reduceIte, e_sub, e_add, e_mul, e_ld, e_st, e_lt, e_nlt, e_le, e_nle, e_eq, e_neq, e_div, e_rem, m_lt, m_le, m_eq, m_eq2, m_ng, o_ld, true_and, and_true, Nat.one_ne_zero, Nat.zero_ne_one, Nat.reduceEqDiff, Bool.false_eq_true, not_true_eq_false, not_false_eq_true, li_0, li_1, li_2, li_3, li_4, li_5, li_6, li_7, li_8, li_9, li_10, li_11, li_12, li_13, li_14, li_15, li_16, li_20, li_23, li_25, li_30, li_31, li_32, li_38, li_40, li_41, li_44, li_48, li_50, li_51, li_52, li_57, li_59, li_60, li_61, li_62, li_63, li_66, li_81, li_94, li_97, li_98, li_99, li_100, li_101, li_103, li_104, li_105, li_107, li_108, li_109, li_110, li_111, li_112, li_114, li_115, li_116, li_117, li_118, li_122, li_200, li_572, li_600, li_9999, li_10000, li_12345, li_1103515245] <;> rfl
theorem m_need {kd bk cr : Nat} (h1 : 1 ≤ kd) (h2 : kd ≤ 5) (hb : bk ≤ 99) (hc : cr ≤ 9) : pX9_needsBy (nI kd) (nI bk) (nI cr) = some (nI (ndA kd bk cr)) := by
  unfold pX9_needsBy ndA
  rcases (show kd = 1 ∨ kd = 2 ∨ kd = 3 ∨ kd = 4 ∨ kd = 5 by omega) with rfl | rfl | rfl | rfl | rfl <;> simp (disch := omega) only [letv, o_b, ↓reduceIte, e_sub, e_add, e_mul, e_ld, e_st, e_lt, e_nlt, e_le, e_nle, e_eq, e_neq, e_div, e_rem, m_lt, m_le, m_eq, m_eq2, m_ng, o_ld, true_and, and_true, Nat.one_ne_zero, Nat.zero_ne_one, Nat.reduceEqDiff, Bool.false_eq_true, not_true_eq_false, not_false_eq_true, li_0, li_1, li_2, li_3, li_4, li_5, li_6, li_7, li_8, li_9, li_10, li_11, li_12, li_13, li_14, li_15, li_16, li_20, li_23, li_25, li_30, li_31, li_32, li_38, li_40, li_41, li_44, li_48, li_50, li_51, li_52, li_57, li_59, li_60, li_61, li_62, li_63, li_66, li_81, li_94, li_97, li_98, li_99, li_100, li_101, li_103, li_104, li_105, li_107, li_108, li_109, li_110, li_111, li_112, li_114, li_115, li_116, li_117, li_118, li_122, li_200, li_572, li_600, li_9999, li_10000, li_12345, li_1103515245] <;> rfl
theorem m_swl (hE : ME (U (b + 1)) E) (hi : IE E) (h : MC (U (b + 1)) L) (hL : IL L) {k : Nat} (hk : k < L_c L) : pX9_swollen U b (nI k) = some (nI (swl E L k)) := by
  have hc := hL.2.1
  have hw := hL.1
  have hk6 : k < 6 := by omega
  obtain ⟨i0, i1, i2, i3, i4⟩ := hL.2.2.2.2 k hk6
  have i1 := i1 hk
  have hr := (hE.2.2.2.1 (L_t L k 3) (by omega)).2
  have hr9 := (hi.2.2.2.1 (L_t L k 3) (by omega)).2
  have hir := irA_le hi (L_w L)
  have hs := swA_le (kd := L_t L k 0) (w := L_w L) hk6 (sgh_le E L)
  unfold sgh at hs
  unfold pX9_swollen swl sgh
  simp (disch := omega) only [m_its0 h hk6, m_its3 h hk6, h.1, m_iron hE (show L_w L < 100 by omega), m_swell i1 i0 hk6 hir hw, hr, e_gr, letv, o_b, ↓reduceIte, e_sub, e_add, e_mul, e_ld, e_st, e_lt, e_nlt, e_le, e_nle, e_eq, e_neq, e_div, e_rem, m_lt, m_le, m_eq, m_eq2, m_ng, o_ld, true_and, and_true, Nat.one_ne_zero, Nat.zero_ne_one, Nat.reduceEqDiff, Bool.false_eq_true, not_true_eq_false, not_false_eq_true, li_0, li_1, li_2, li_3, li_4, li_5, li_6, li_7, li_8, li_9, li_10, li_11, li_12, li_13, li_14, li_15, li_16, li_20, li_23, li_25, li_30, li_31, li_32, li_38, li_40, li_41, li_44, li_48, li_50, li_51, li_52, li_57, li_59, li_60, li_61, li_62, li_63, li_66, li_81, li_94, li_97, li_98, li_99, li_100, li_101, li_103, li_104, li_105, li_107, li_108, li_109, li_110, li_111, li_112, li_114, li_115, li_116, li_117, li_118, li_122, li_200, li_572, li_600, li_9999, li_10000, li_12345, li_1103515245]
theorem m_needs (h : MC (U (b + 1)) L) (hL : IL L) {k : Nat} (hk : k < L_c L) : pX9_needsOf U b (nI k) = some (nI (ndL L k)) := by
  have hc := hL.2.1
  have hk6 : k < 6 := by omega
  obtain ⟨i0, i1, i2, i3, i4⟩ := hL.2.2.2.2 k hk6
  have i1 := i1 hk
  unfold pX9_needsOf ndL
  simp (disch := omega) only [m_its0 h hk6, m_its1 h hk6, m_its2 h hk6, m_need i1 i0 i2 i3, letv, o_b, ↓reduceIte, e_sub, e_add, e_mul, e_ld, e_st, e_lt, e_nlt, e_le, e_nle, e_eq, e_neq, e_div, e_rem, m_lt, m_le, m_eq, m_eq2, m_ng, o_ld, true_and, and_true, Nat.one_ne_zero, Nat.zero_ne_one, Nat.reduceEqDiff, Bool.false_eq_true, not_true_eq_false, not_false_eq_true, li_0, li_1, li_2, li_3, li_4, li_5, li_6, li_7, li_8, li_9, li_10, li_11, li_12, li_13, li_14, li_15, li_16, li_20, li_23, li_25, li_30, li_31, li_32, li_38, li_40, li_41, li_44, li_48, li_50, li_51, li_52, li_57, li_59, li_60, li_61, li_62, li_63, li_66, li_81, li_94, li_97, li_98, li_99, li_100, li_101, li_103, li_104, li_105, li_107, li_108, li_109, li_110, li_111, li_112, li_114, li_115, li_116, li_117, li_118, li_122, li_200, li_572, li_600, li_9999, li_10000, li_12345, li_1103515245]
theorem m_load_l (h : MC (U (b + 1)) L) (hL : IL L) {bd : Nat} (hb : bd < 6) : ∀ m x f acc, x + m = L_c L → m < f → lX9_load_12 U b (nI bd) f (nI acc) (nI x) = some (nI (acc + 2 * smA (fun k => if bt (L_f L) k = 1 ∧ L_t L k 3 = bd then 1 else 0) x m)) := by
  have hc := hL.2.1
  intro m
  induction m with
  | zero =>
    intro x f acc h1 h2
    obtain ⟨f, rfl⟩ : ∃ g, f = g + 1 := ⟨f - 1, by omega⟩
    unfold lX9_load_12
    simp (disch := omega) only [h.2.1, smA, Nat.add_zero, Nat.mul_zero, letv, o_b, ↓reduceIte, e_sub, e_add, e_mul, e_ld, e_st, e_lt, e_nlt, e_le, e_nle, e_eq, e_neq, e_div, e_rem, m_lt, m_le, m_eq, m_eq2, m_ng, o_ld, true_and, and_true, Nat.one_ne_zero, Nat.zero_ne_one, Nat.reduceEqDiff, Bool.false_eq_true, not_true_eq_false, not_false_eq_true, li_0, li_1, li_2, li_3, li_4, li_5, li_6, li_7, li_8, li_9, li_10, li_11, li_12, li_13, li_14, li_15, li_16, li_20, li_23, li_25, li_30, li_31, li_32, li_38, li_40, li_41, li_44, li_48, li_50, li_51, li_52, li_57, li_59, li_60, li_61, li_62, li_63, li_66, li_81, li_94, li_97, li_98, li_99, li_100, li_101, li_103, li_104, li_105, li_107, li_108, li_109, li_110, li_111, li_112, li_114, li_115, li_116, li_117, li_118, li_122, li_200, li_572, li_600, li_9999, li_10000, li_12345, li_1103515245]
  | succ m ih =>
    intro x f acc h1 h2
    obtain ⟨f, rfl⟩ : ∃ g, f = g + 1 := ⟨f - 1, by omega⟩
    have hk : x < 6 := by omega
    have hd := (hL.2.2.2.2 x hk).2.2.2.2
    unfold lX9_load_12
    unfold smA
    rcases bt_01 (L_f L) x with q | q
    · simp (disch := omega) only [h.2.1, m_its4 h hk, q, Nat.add_zero, ih (x + 1) f acc (by omega) (by omega), Nat.zero_add, false_and, Nat.zero_ne_one, letv, o_b, ↓reduceIte, e_sub, e_add, e_mul, e_ld, e_st, e_lt, e_nlt, e_le, e_nle, e_eq, e_neq, e_div, e_rem, m_lt, m_le, m_eq, m_eq2, m_ng, o_ld, true_and, and_true, Nat.one_ne_zero, Nat.zero_ne_one, Nat.reduceEqDiff, Bool.false_eq_true, not_true_eq_false, not_false_eq_true, li_0, li_1, li_2, li_3, li_4, li_5, li_6, li_7, li_8, li_9, li_10, li_11, li_12, li_13, li_14, li_15, li_16, li_20, li_23, li_25, li_30, li_31, li_32, li_38, li_40, li_41, li_44, li_48, li_50, li_51, li_52, li_57, li_59, li_60, li_61, li_62, li_63, li_66, li_81, li_94, li_97, li_98, li_99, li_100, li_101, li_103, li_104, li_105, li_107, li_108, li_109, li_110, li_111, li_112, li_114, li_115, li_116, li_117, li_118, li_122, li_200, li_572, li_600, li_9999, li_10000, li_12345, li_1103515245]
    · by_cases hq : L_t L x 3 = bd
      · simp (disch := omega) only [h.2.1, m_its4 h hk, q, m_its3 h hk, hq, ih (x + 1) f (acc + 2) (by omega) (by omega), Nat.add_assoc, Nat.mul_add, Nat.mul_one, letv, o_b, ↓reduceIte, e_sub, e_add, e_mul, e_ld, e_st, e_lt, e_nlt, e_le, e_nle, e_eq, e_neq, e_div, e_rem, m_lt, m_le, m_eq, m_eq2, m_ng, o_ld, true_and, and_true, Nat.one_ne_zero, Nat.zero_ne_one, Nat.reduceEqDiff, Bool.false_eq_true, not_true_eq_false, not_false_eq_true, li_0, li_1, li_2, li_3, li_4, li_5, li_6, li_7, li_8, li_9, li_10, li_11, li_12, li_13, li_14, li_15, li_16, li_20, li_23, li_25, li_30, li_31, li_32, li_38, li_40, li_41, li_44, li_48, li_50, li_51, li_52, li_57, li_59, li_60, li_61, li_62, li_63, li_66, li_81, li_94, li_97, li_98, li_99, li_100, li_101, li_103, li_104, li_105, li_107, li_108, li_109, li_110, li_111, li_112, li_114, li_115, li_116, li_117, li_118, li_122, li_200, li_572, li_600, li_9999, li_10000, li_12345, li_1103515245]
      · simp (disch := omega) only [h.2.1, m_its4 h hk, q, m_its3 h hk, hq, Nat.add_zero, ih (x + 1) f acc (by omega) (by omega), Nat.zero_add, letv, o_b, ↓reduceIte, e_sub, e_add, e_mul, e_ld, e_st, e_lt, e_nlt, e_le, e_nle, e_eq, e_neq, e_div, e_rem, m_lt, m_le, m_eq, m_eq2, m_ng, o_ld, true_and, and_true, Nat.one_ne_zero, Nat.zero_ne_one, Nat.reduceEqDiff, Bool.false_eq_true, not_true_eq_false, not_false_eq_true, li_0, li_1, li_2, li_3, li_4, li_5, li_6, li_7, li_8, li_9, li_10, li_11, li_12, li_13, li_14, li_15, li_16, li_20, li_23, li_25, li_30, li_31, li_32, li_38, li_40, li_41, li_44, li_48, li_50, li_51, li_52, li_57, li_59, li_60, li_61, li_62, li_63, li_66, li_81, li_94, li_97, li_98, li_99, li_100, li_101, li_103, li_104, li_105, li_107, li_108, li_109, li_110, li_111, li_112, li_114, li_115, li_116, li_117, li_118, li_122, li_200, li_572, li_600, li_9999, li_10000, li_12345, li_1103515245]
theorem m_load (hn : 1000 ≤ n) (hE : ME (U (b + 1)) E) (hi : IE E) (h : MC (U (b + 1)) L) (hL : IL L) {bd : Nat} (hb : bd < 6) : pX9_load n U b (nI bd) = some (nI (E_wt E bd + 2 * flo L bd)) := by
  have hc := hL.2.1
  have hw := (hE.2.2.2.1 bd hb).1
  have hw9 := (hi.2.2.2.1 bd hb).1
  unfold pX9_load flo
  simp (disch := omega) only [hw, m_load_l h hL hb (L_c L) 0 n (E_wt E bd) (by omega) (by omega), letv, o_b, ↓reduceIte, e_sub, e_add, e_mul, e_ld, e_st, e_lt, e_nlt, e_le, e_nle, e_eq, e_neq, e_div, e_rem, m_lt, m_le, m_eq, m_eq2, m_ng, o_ld, true_and, and_true, Nat.one_ne_zero, Nat.zero_ne_one, Nat.reduceEqDiff, Bool.false_eq_true, not_true_eq_false, not_false_eq_true, li_0, li_1, li_2, li_3, li_4, li_5, li_6, li_7, li_8, li_9, li_10, li_11, li_12, li_13, li_14, li_15, li_16, li_20, li_23, li_25, li_30, li_31, li_32, li_38, li_40, li_41, li_44, li_48, li_50, li_51, li_52, li_57, li_59, li_60, li_61, li_62, li_63, li_66, li_81, li_94, li_97, li_98, li_99, li_100, li_101, li_103, li_104, li_105, li_107, li_108, li_109, li_110, li_111, li_112, li_114, li_115, li_116, li_117, li_118, li_122, li_200, li_572, li_600, li_9999, li_10000, li_12345, li_1103515245]
theorem m_pays (hn : 1000 ≤ n) (hE : ME (U (b + 1)) E) (hi : IE E) (h : MC (U (b + 1)) L) (hL : IL L) {k : Nat} (hk : k < L_c L) : pX9_pays n U b (nI k) = some (nI (pyA E L k (stm E L))) := by
  have hc := hL.2.1
  have hw := hL.1
  have hk6 : k < 6 := by omega
  obtain ⟨i0, i1, i2, i3, i4⟩ := hL.2.2.2.2 k hk6
  have i1 := i1 hk
  have hw9 := (hi.2.2.2.1 (L_t L k 3) (by omega)).1
  have hf := flo_le hL (L_t L k 3)
  have hd := ndA_le (kd := L_t L k 0) i2 i3
  have hir := irA_le hi (L_w L)
  unfold pX9_pays pyA
  rw [li_4, m_its4 h hk6]
  rcases bt_01 (L_f L) k with q | q
  · rw [q]
    by_cases hq : ndL L k ≤ prs E L k (stm E L)
    · have hq' := hq
      have hdl : ndL L k ≤ 100 := hd
      unfold prs stm at hq'
      simp (disch := omega) only [h.1, m_iron hE (show L_w L < 100 by omega), m_its3 h hk6, m_load hn hE hi h hL (show L_t L k 3 < 6 by omega), m_needs h hL hk, m_its1 h hk6, hq, letv, o_b, ↓reduceIte, e_sub, e_add, e_mul, e_ld, e_st, e_lt, e_nlt, e_le, e_nle, e_eq, e_neq, e_div, e_rem, m_lt, m_le, m_eq, m_eq2, m_ng, o_ld, true_and, and_true, Nat.one_ne_zero, Nat.zero_ne_one, Nat.reduceEqDiff, Bool.false_eq_true, not_true_eq_false, not_false_eq_true, li_0, li_1, li_2, li_3, li_4, li_5, li_6, li_7, li_8, li_9, li_10, li_11, li_12, li_13, li_14, li_15, li_16, li_20, li_23, li_25, li_30, li_31, li_32, li_38, li_40, li_41, li_44, li_48, li_50, li_51, li_52, li_57, li_59, li_60, li_61, li_62, li_63, li_66, li_81, li_94, li_97, li_98, li_99, li_100, li_101, li_103, li_104, li_105, li_107, li_108, li_109, li_110, li_111, li_112, li_114, li_115, li_116, li_117, li_118, li_122, li_200, li_572, li_600, li_9999, li_10000, li_12345, li_1103515245]
    · have hq' := hq
      have hdl : ndL L k ≤ 100 := hd
      unfold prs stm at hq'
      simp (disch := omega) only [h.1, m_iron hE (show L_w L < 100 by omega), m_its3 h hk6, m_load hn hE hi h hL (show L_t L k 3 < 6 by omega), m_needs h hL hk, m_its1 h hk6, hq, and_false, letv, o_b, ↓reduceIte, e_sub, e_add, e_mul, e_ld, e_st, e_lt, e_nlt, e_le, e_nle, e_eq, e_neq, e_div, e_rem, m_lt, m_le, m_eq, m_eq2, m_ng, o_ld, true_and, and_true, Nat.one_ne_zero, Nat.zero_ne_one, Nat.reduceEqDiff, Bool.false_eq_true, not_true_eq_false, not_false_eq_true, li_0, li_1, li_2, li_3, li_4, li_5, li_6, li_7, li_8, li_9, li_10, li_11, li_12, li_13, li_14, li_15, li_16, li_20, li_23, li_25, li_30, li_31, li_32, li_38, li_40, li_41, li_44, li_48, li_50, li_51, li_52, li_57, li_59, li_60, li_61, li_62, li_63, li_66, li_81, li_94, li_97, li_98, li_99, li_100, li_101, li_103, li_104, li_105, li_107, li_108, li_109, li_110, li_111, li_112, li_114, li_115, li_116, li_117, li_118, li_122, li_200, li_572, li_600, li_9999, li_10000, li_12345, li_1103515245]
  · rw [q]
    simp (disch := omega) only [false_and, Nat.one_ne_zero, letv, o_b, ↓reduceIte, e_sub, e_add, e_mul, e_ld, e_st, e_lt, e_nlt, e_le, e_nle, e_eq, e_neq, e_div, e_rem, m_lt, m_le, m_eq, m_eq2, m_ng, o_ld, true_and, and_true, Nat.one_ne_zero, Nat.zero_ne_one, Nat.reduceEqDiff, Bool.false_eq_true, not_true_eq_false, not_false_eq_true, li_0, li_1, li_2, li_3, li_4, li_5, li_6, li_7, li_8, li_9, li_10, li_11, li_12, li_13, li_14, li_15, li_16, li_20, li_23, li_25, li_30, li_31, li_32, li_38, li_40, li_41, li_44, li_48, li_50, li_51, li_52, li_57, li_59, li_60, li_61, li_62, li_63, li_66, li_81, li_94, li_97, li_98, li_99, li_100, li_101, li_103, li_104, li_105, li_107, li_108, li_109, li_110, li_111, li_112, li_114, li_115, li_116, li_117, li_118, li_122, li_200, li_572, li_600, li_9999, li_10000, li_12345, li_1103515245]
theorem m_val (hE : ME (U (b + 1)) E) (h : MC (U (b + 1)) L) (hi : IE E) (hL : IL L) {k v : Nat} (hk : k < 6) (hv : v ≤ 10004) : pX9_valueOf U b (nI v) (nI k) = some (nI (fcA E L k v)) := by
  have hw := hL.1
  have hir := irA_le hi (L_w L)
  unfold pX9_valueOf fcA
  by_cases hq : v < 10000
  · have e : nI v - nI 10000 = -(nI (10000 - v)) := by rw [← e_sub (a := 10000) (b := v) (by omega), Int32.neg_sub]
    simp (disch := omega) only [e, show ¬ v = 10000 by omega, show ¬ v = 10001 by omega, show ¬ v = 10002 by omega, show ¬ v = 10003 by omega, show ¬ v = 10004 by omega, letv, o_b, ↓reduceIte, e_sub, e_add, e_mul, e_ld, e_st, e_lt, e_nlt, e_le, e_nle, e_eq, e_neq, e_div, e_rem, m_lt, m_le, m_eq, m_eq2, m_ng, o_ld, true_and, and_true, Nat.one_ne_zero, Nat.zero_ne_one, Nat.reduceEqDiff, Bool.false_eq_true, not_true_eq_false, not_false_eq_true, li_0, li_1, li_2, li_3, li_4, li_5, li_6, li_7, li_8, li_9, li_10, li_11, li_12, li_13, li_14, li_15, li_16, li_20, li_23, li_25, li_30, li_31, li_32, li_38, li_40, li_41, li_44, li_48, li_50, li_51, li_52, li_57, li_59, li_60, li_61, li_62, li_63, li_66, li_81, li_94, li_97, li_98, li_99, li_100, li_101, li_103, li_104, li_105, li_107, li_108, li_109, li_110, li_111, li_112, li_114, li_115, li_116, li_117, li_118, li_122, li_200, li_572, li_600, li_9999, li_10000, li_12345, li_1103515245]
  · rcases (show v = 10000 ∨ v = 10001 ∨ v = 10002 ∨ v = 10003 ∨ v = 10004 by omega) with rfl | rfl | rfl | rfl | rfl
    · simp (disch := omega) only [h.1, Nat.reduceSub, letv, o_b, ↓reduceIte, e_sub, e_add, e_mul, e_ld, e_st, e_lt, e_nlt, e_le, e_nle, e_eq, e_neq, e_div, e_rem, m_lt, m_le, m_eq, m_eq2, m_ng, o_ld, true_and, and_true, Nat.one_ne_zero, Nat.zero_ne_one, Nat.reduceEqDiff, Bool.false_eq_true, not_true_eq_false, not_false_eq_true, li_0, li_1, li_2, li_3, li_4, li_5, li_6, li_7, li_8, li_9, li_10, li_11, li_12, li_13, li_14, li_15, li_16, li_20, li_23, li_25, li_30, li_31, li_32, li_38, li_40, li_41, li_44, li_48, li_50, li_51, li_52, li_57, li_59, li_60, li_61, li_62, li_63, li_66, li_81, li_94, li_97, li_98, li_99, li_100, li_101, li_103, li_104, li_105, li_107, li_108, li_109, li_110, li_111, li_112, li_114, li_115, li_116, li_117, li_118, li_122, li_200, li_572, li_600, li_9999, li_10000, li_12345, li_1103515245]
    · simp (disch := omega) only [m_its1 h hk, Nat.reduceSub, Nat.reduceEqDiff, letv, o_b, ↓reduceIte, e_sub, e_add, e_mul, e_ld, e_st, e_lt, e_nlt, e_le, e_nle, e_eq, e_neq, e_div, e_rem, m_lt, m_le, m_eq, m_eq2, m_ng, o_ld, true_and, and_true, Nat.one_ne_zero, Nat.zero_ne_one, Nat.reduceEqDiff, Bool.false_eq_true, not_true_eq_false, not_false_eq_true, li_0, li_1, li_2, li_3, li_4, li_5, li_6, li_7, li_8, li_9, li_10, li_11, li_12, li_13, li_14, li_15, li_16, li_20, li_23, li_25, li_30, li_31, li_32, li_38, li_40, li_41, li_44, li_48, li_50, li_51, li_52, li_57, li_59, li_60, li_61, li_62, li_63, li_66, li_81, li_94, li_97, li_98, li_99, li_100, li_101, li_103, li_104, li_105, li_107, li_108, li_109, li_110, li_111, li_112, li_114, li_115, li_116, li_117, li_118, li_122, li_200, li_572, li_600, li_9999, li_10000, li_12345, li_1103515245]
    · simp (disch := omega) only [m_its2 h hk, Nat.reduceSub, Nat.reduceEqDiff, letv, o_b, ↓reduceIte, e_sub, e_add, e_mul, e_ld, e_st, e_lt, e_nlt, e_le, e_nle, e_eq, e_neq, e_div, e_rem, m_lt, m_le, m_eq, m_eq2, m_ng, o_ld, true_and, and_true, Nat.one_ne_zero, Nat.zero_ne_one, Nat.reduceEqDiff, Bool.false_eq_true, not_true_eq_false, not_false_eq_true, li_0, li_1, li_2, li_3, li_4, li_5, li_6, li_7, li_8, li_9, li_10, li_11, li_12, li_13, li_14, li_15, li_16, li_20, li_23, li_25, li_30, li_31, li_32, li_38, li_40, li_41, li_44, li_48, li_50, li_51, li_52, li_57, li_59, li_60, li_61, li_62, li_63, li_66, li_81, li_94, li_97, li_98, li_99, li_100, li_101, li_103, li_104, li_105, li_107, li_108, li_109, li_110, li_111, li_112, li_114, li_115, li_116, li_117, li_118, li_122, li_200, li_572, li_600, li_9999, li_10000, li_12345, li_1103515245]
    · simp (disch := omega) only [h.1, m_iron hE (show L_w L < 100 by omega), Nat.reduceSub, Nat.reduceEqDiff, letv, o_b, ↓reduceIte, e_sub, e_add, e_mul, e_ld, e_st, e_lt, e_nlt, e_le, e_nle, e_eq, e_neq, e_div, e_rem, m_lt, m_le, m_eq, m_eq2, m_ng, o_ld, true_and, and_true, Nat.one_ne_zero, Nat.zero_ne_one, Nat.reduceEqDiff, Bool.false_eq_true, not_true_eq_false, not_false_eq_true, li_0, li_1, li_2, li_3, li_4, li_5, li_6, li_7, li_8, li_9, li_10, li_11, li_12, li_13, li_14, li_15, li_16, li_20, li_23, li_25, li_30, li_31, li_32, li_38, li_40, li_41, li_44, li_48, li_50, li_51, li_52, li_57, li_59, li_60, li_61, li_62, li_63, li_66, li_81, li_94, li_97, li_98, li_99, li_100, li_101, li_103, li_104, li_105, li_107, li_108, li_109, li_110, li_111, li_112, li_114, li_115, li_116, li_117, li_118, li_122, li_200, li_572, li_600, li_9999, li_10000, li_12345, li_1103515245]
      rfl
    · simp (disch := omega) only [Nat.reduceSub, Nat.reduceEqDiff, letv, o_b, ↓reduceIte, e_sub, e_add, e_mul, e_ld, e_st, e_lt, e_nlt, e_le, e_nle, e_eq, e_neq, e_div, e_rem, m_lt, m_le, m_eq, m_eq2, m_ng, o_ld, true_and, and_true, Nat.one_ne_zero, Nat.zero_ne_one, Nat.reduceEqDiff, Bool.false_eq_true, not_true_eq_false, not_false_eq_true, li_0, li_1, li_2, li_3, li_4, li_5, li_6, li_7, li_8, li_9, li_10, li_11, li_12, li_13, li_14, li_15, li_16, li_20, li_23, li_25, li_30, li_31, li_32, li_38, li_40, li_41, li_44, li_48, li_50, li_51, li_52, li_57, li_59, li_60, li_61, li_62, li_63, li_66, li_81, li_94, li_97, li_98, li_99, li_100, li_101, li_103, li_104, li_105, li_107, li_108, li_109, li_110, li_111, li_112, li_114, li_115, li_116, li_117, li_118, li_122, li_200, li_572, li_600, li_9999, li_10000, li_12345, li_1103515245]
theorem m_holds_l (hE : ME (U (b + 1)) E) (hi : IE E) (h : MC (U (b + 1)) L) (hL : IL L) {k i bg M : Nat} {g : Nat → Nat × Nat × Nat} (hk : k < 6) (hr : i < 8) (hM : bg + M ≤ 150) (he : U (b + 1) (66 + 4 * i + 3) = nI (bg + M)) (hg : ∀ j, j < M → U (b + 1) (122 + 3 * (bg + j)) = nI (moA (g j).1) ∧ U (b + 1) (122 + 3 * (bg + j) + 1) = nI (g j).2.1 ∧ U (b + 1) (122 + 3 * (bg + j) + 2) = nI (g j).2.2) :
    ∀ m j d st f, j + m = M → m < f → d ≤ 9 → st < 2 ^ (d + 1) → prB g d j m → lX9_holds_17 U b (nI i) (nI k) f (lN st) (nI (bg + j)) = some (lN (rnA E L k g st j m)) ∧ rnA E L k g st j m < 1024 := by
  intro m
  induction m with
  | zero =>
    intro j d st f h1 h2 hd hst hp
    obtain ⟨f, rfl⟩ : ∃ g, f = g + 1 := ⟨f - 1, by omega⟩
    have hs : st < 1024 := Nat.lt_of_lt_of_le hst (Nat.pow_le_pow_right (n := 2) (by omega) (show d + 1 ≤ 10 by omega))
    unfold lX9_holds_17 rnA
    refine ⟨?_, hs⟩
    simp (disch := omega) only [he, letv, o_b, ↓reduceIte, e_sub, e_add, e_mul, e_ld, e_st, e_lt, e_nlt, e_le, e_nle, e_eq, e_neq, e_div, e_rem, m_lt, m_le, m_eq, m_eq2, m_ng, o_ld, true_and, and_true, Nat.one_ne_zero, Nat.zero_ne_one, Nat.reduceEqDiff, Bool.false_eq_true, not_true_eq_false, not_false_eq_true, li_0, li_1, li_2, li_3, li_4, li_5, li_6, li_7, li_8, li_9, li_10, li_11, li_12, li_13, li_14, li_15, li_16, li_20, li_23, li_25, li_30, li_31, li_32, li_38, li_40, li_41, li_44, li_48, li_50, li_51, li_52, li_57, li_59, li_60, li_61, li_62, li_63, li_66, li_81, li_94, li_97, li_98, li_99, li_100, li_101, li_103, li_104, li_105, li_107, li_108, li_109, li_110, li_111, li_112, li_114, li_115, li_116, li_117, li_118, li_122, li_200, li_572, li_600, li_9999, li_10000, li_12345, li_1103515245]
  | succ m ih =>
    intro j d st f h1 h2 hd hst hp
    obtain ⟨f, rfl⟩ : ∃ g, f = g + 1 := ⟨f - 1, by omega⟩
    have hs : st < 1024 := Nat.lt_of_lt_of_le hst (Nat.pow_le_pow_right (n := 2) (by omega) (show d + 1 ≤ 10 by omega))
    obtain ⟨p1, p2, p3, p4, p5⟩ := hp
    obtain ⟨g1, g2, g3⟩ := hg j (by omega)
    have hst' := spA_lt (E := E) (L := L) (k := k) p1 hst
    have ih' := ih (j + 1) (dpA (g j).1 d) (spA E L k (g j) st) f (by omega) (by omega) p4 hst' p5
    rw [show bg + (j + 1) = bg + j + 1 by omega] at ih'
    have b1 := fcA_le hi hL hk p2
    have b2 := fcA_le hi hL hk p3
    unfold rnA
    have go : ∀ v, spA E L k (g j) st = v → (lX9_holds_17 U b (nI i) (nI k) f (lN v) (nI (bg + j + 1)) = some (lN (rnA E L k g (spA E L k (g j) st) (j + 1) m)) → lX9_holds_17 U b (nI i) (nI k) (f + 1) (lN st) (nI (bg + j)) = some (lN (rnA E L k g (spA E L k (g j) st) (j + 1) m))) → lX9_holds_17 U b (nI i) (nI k) (f + 1) (lN st) (nI (bg + j)) = some (lN (rnA E L k g (spA E L k (g j) st) (j + 1) m)) := fun v hv hh => hh (by rw [← hv]; exact ih'.1)
    refine ⟨?_, ih'.2⟩
    generalize rnA E L k g (spA E L k (g j) st) (j + 1) m = res at go ⊢
    obtain ⟨sp0, sp1⟩ := s_p st hs
    rcases (show (g j).1 < 3 ∨ (g j).1 = 3 ∨ (g j).1 = 4 ∨ (g j).1 = 5 by omega) with q | q | q | q
    · have em : moA (g j).1 = (g j).1 := by unfold moA; rw [if_pos q]
      rw [em] at g1
      have v1 := m_val (E := E) hE h hi hL hk p2
      have v2 := m_val (E := E) hE h hi hL hk p3
      generalize hva : fcA E L k (g j).2.1 = va at b1 v1
      generalize hvb : fcA E L k (g j).2.2 = vb at b2 v2
      rcases (show (g j).1 = 0 ∨ (g j).1 = 1 ∨ (g j).1 = 2 by omega) with qo | qo | qo
      · rw [qo] at g1
        by_cases hq : va < vb
        · refine go (2 * st + 1) (by unfold spA cpA; rw [if_pos q, hva, hvb, qo]; simp only [hq, Nat.one_ne_zero, Nat.reduceEqDiff, ↓reduceIte]) fun ih => ?_
          unfold lX9_holds_17
          simp (disch := omega) only [he, g1, g2, g3, v1, v2, qo, hq, lj_0, lj_1, lj_2, sp1, ih, letv, o_b, ↓reduceIte, e_sub, e_add, e_mul, e_ld, e_st, e_lt, e_nlt, e_le, e_nle, e_eq, e_neq, e_div, e_rem, m_lt, m_le, m_eq, m_eq2, m_ng, o_ld, true_and, and_true, Nat.one_ne_zero, Nat.zero_ne_one, Nat.reduceEqDiff, Bool.false_eq_true, not_true_eq_false, not_false_eq_true, li_0, li_1, li_2, li_3, li_4, li_5, li_6, li_7, li_8, li_9, li_10, li_11, li_12, li_13, li_14, li_15, li_16, li_20, li_23, li_25, li_30, li_31, li_32, li_38, li_40, li_41, li_44, li_48, li_50, li_51, li_52, li_57, li_59, li_60, li_61, li_62, li_63, li_66, li_81, li_94, li_97, li_98, li_99, li_100, li_101, li_103, li_104, li_105, li_107, li_108, li_109, li_110, li_111, li_112, li_114, li_115, li_116, li_117, li_118, li_122, li_200, li_572, li_600, li_9999, li_10000, li_12345, li_1103515245]
        · refine go (2 * st + 0) (by unfold spA cpA; rw [if_pos q, hva, hvb, qo]; simp only [hq, Nat.one_ne_zero, Nat.reduceEqDiff, ↓reduceIte]) fun ih => ?_
          unfold lX9_holds_17
          simp (disch := omega) only [he, g1, g2, g3, v1, v2, qo, hq, lj_0, lj_1, lj_2, sp0, ih, letv, o_b, ↓reduceIte, e_sub, e_add, e_mul, e_ld, e_st, e_lt, e_nlt, e_le, e_nle, e_eq, e_neq, e_div, e_rem, m_lt, m_le, m_eq, m_eq2, m_ng, o_ld, true_and, and_true, Nat.one_ne_zero, Nat.zero_ne_one, Nat.reduceEqDiff, Bool.false_eq_true, not_true_eq_false, not_false_eq_true, li_0, li_1, li_2, li_3, li_4, li_5, li_6, li_7, li_8, li_9, li_10, li_11, li_12, li_13, li_14, li_15, li_16, li_20, li_23, li_25, li_30, li_31, li_32, li_38, li_40, li_41, li_44, li_48, li_50, li_51, li_52, li_57, li_59, li_60, li_61, li_62, li_63, li_66, li_81, li_94, li_97, li_98, li_99, li_100, li_101, li_103, li_104, li_105, li_107, li_108, li_109, li_110, li_111, li_112, li_114, li_115, li_116, li_117, li_118, li_122, li_200, li_572, li_600, li_9999, li_10000, li_12345, li_1103515245]
      · rw [qo] at g1
        by_cases hq : va = vb
        · refine go (2 * st + 1) (by unfold spA cpA; rw [if_pos q, hva, hvb, qo]; simp only [hq, Nat.one_ne_zero, Nat.reduceEqDiff, ↓reduceIte]) fun ih => ?_
          unfold lX9_holds_17
          simp (disch := omega) only [he, g1, g2, g3, v1, v2, qo, hq, lj_0, lj_1, lj_2, sp1, ih, letv, o_b, ↓reduceIte, e_sub, e_add, e_mul, e_ld, e_st, e_lt, e_nlt, e_le, e_nle, e_eq, e_neq, e_div, e_rem, m_lt, m_le, m_eq, m_eq2, m_ng, o_ld, true_and, and_true, Nat.one_ne_zero, Nat.zero_ne_one, Nat.reduceEqDiff, Bool.false_eq_true, not_true_eq_false, not_false_eq_true, li_0, li_1, li_2, li_3, li_4, li_5, li_6, li_7, li_8, li_9, li_10, li_11, li_12, li_13, li_14, li_15, li_16, li_20, li_23, li_25, li_30, li_31, li_32, li_38, li_40, li_41, li_44, li_48, li_50, li_51, li_52, li_57, li_59, li_60, li_61, li_62, li_63, li_66, li_81, li_94, li_97, li_98, li_99, li_100, li_101, li_103, li_104, li_105, li_107, li_108, li_109, li_110, li_111, li_112, li_114, li_115, li_116, li_117, li_118, li_122, li_200, li_572, li_600, li_9999, li_10000, li_12345, li_1103515245]
        · refine go (2 * st + 0) (by unfold spA cpA; rw [if_pos q, hva, hvb, qo]; simp only [hq, Nat.one_ne_zero, Nat.reduceEqDiff, ↓reduceIte]) fun ih => ?_
          unfold lX9_holds_17
          simp (disch := omega) only [he, g1, g2, g3, v1, v2, qo, hq, lj_0, lj_1, lj_2, sp0, ih, letv, o_b, ↓reduceIte, e_sub, e_add, e_mul, e_ld, e_st, e_lt, e_nlt, e_le, e_nle, e_eq, e_neq, e_div, e_rem, m_lt, m_le, m_eq, m_eq2, m_ng, o_ld, true_and, and_true, Nat.one_ne_zero, Nat.zero_ne_one, Nat.reduceEqDiff, Bool.false_eq_true, not_true_eq_false, not_false_eq_true, li_0, li_1, li_2, li_3, li_4, li_5, li_6, li_7, li_8, li_9, li_10, li_11, li_12, li_13, li_14, li_15, li_16, li_20, li_23, li_25, li_30, li_31, li_32, li_38, li_40, li_41, li_44, li_48, li_50, li_51, li_52, li_57, li_59, li_60, li_61, li_62, li_63, li_66, li_81, li_94, li_97, li_98, li_99, li_100, li_101, li_103, li_104, li_105, li_107, li_108, li_109, li_110, li_111, li_112, li_114, li_115, li_116, li_117, li_118, li_122, li_200, li_572, li_600, li_9999, li_10000, li_12345, li_1103515245]
      · rw [qo] at g1
        by_cases hq : vb < va
        · refine go (2 * st + 1) (by unfold spA cpA; rw [if_pos q, hva, hvb, qo]; simp only [hq, Nat.one_ne_zero, Nat.reduceEqDiff, ↓reduceIte]) fun ih => ?_
          unfold lX9_holds_17
          simp (disch := omega) only [he, g1, g2, g3, v1, v2, qo, hq, lj_0, lj_1, lj_2, sp1, ih, letv, o_b, ↓reduceIte, e_sub, e_add, e_mul, e_ld, e_st, e_lt, e_nlt, e_le, e_nle, e_eq, e_neq, e_div, e_rem, m_lt, m_le, m_eq, m_eq2, m_ng, o_ld, true_and, and_true, Nat.one_ne_zero, Nat.zero_ne_one, Nat.reduceEqDiff, Bool.false_eq_true, not_true_eq_false, not_false_eq_true, li_0, li_1, li_2, li_3, li_4, li_5, li_6, li_7, li_8, li_9, li_10, li_11, li_12, li_13, li_14, li_15, li_16, li_20, li_23, li_25, li_30, li_31, li_32, li_38, li_40, li_41, li_44, li_48, li_50, li_51, li_52, li_57, li_59, li_60, li_61, li_62, li_63, li_66, li_81, li_94, li_97, li_98, li_99, li_100, li_101, li_103, li_104, li_105, li_107, li_108, li_109, li_110, li_111, li_112, li_114, li_115, li_116, li_117, li_118, li_122, li_200, li_572, li_600, li_9999, li_10000, li_12345, li_1103515245]
        · refine go (2 * st + 0) (by unfold spA cpA; rw [if_pos q, hva, hvb, qo]; simp only [hq, Nat.one_ne_zero, Nat.reduceEqDiff, ↓reduceIte]) fun ih => ?_
          unfold lX9_holds_17
          simp (disch := omega) only [he, g1, g2, g3, v1, v2, qo, hq, lj_0, lj_1, lj_2, sp0, ih, letv, o_b, ↓reduceIte, e_sub, e_add, e_mul, e_ld, e_st, e_lt, e_nlt, e_le, e_nle, e_eq, e_neq, e_div, e_rem, m_lt, m_le, m_eq, m_eq2, m_ng, o_ld, true_and, and_true, Nat.one_ne_zero, Nat.zero_ne_one, Nat.reduceEqDiff, Bool.false_eq_true, not_true_eq_false, not_false_eq_true, li_0, li_1, li_2, li_3, li_4, li_5, li_6, li_7, li_8, li_9, li_10, li_11, li_12, li_13, li_14, li_15, li_16, li_20, li_23, li_25, li_30, li_31, li_32, li_38, li_40, li_41, li_44, li_48, li_50, li_51, li_52, li_57, li_59, li_60, li_61, li_62, li_63, li_66, li_81, li_94, li_97, li_98, li_99, li_100, li_101, li_103, li_104, li_105, li_107, li_108, li_109, li_110, li_111, li_112, li_114, li_115, li_116, li_117, li_118, li_122, li_200, li_572, li_600, li_9999, li_10000, li_12345, li_1103515245]
    · have em : moA (g j).1 = 4 := by rw [q]; rfl
      rw [em] at g1
      rcases (show st % 2 = 0 ∨ st % 2 = 1 by omega) with c0 | c0
      · refine go (anT st) (by unfold spA; rw [if_neg (by omega), if_pos q]) fun ih => ?_
        unfold lX9_holds_17
        simp (disch := omega) only [he, g1, lj_1, lj_2, s_bit st hs, s_half st hs, s_cmp, c0, s_and st hs c0, ih, letv, o_b, ↓reduceIte, e_sub, e_add, e_mul, e_ld, e_st, e_lt, e_nlt, e_le, e_nle, e_eq, e_neq, e_div, e_rem, m_lt, m_le, m_eq, m_eq2, m_ng, o_ld, true_and, and_true, Nat.one_ne_zero, Nat.zero_ne_one, Nat.reduceEqDiff, Bool.false_eq_true, not_true_eq_false, not_false_eq_true, li_0, li_1, li_2, li_3, li_4, li_5, li_6, li_7, li_8, li_9, li_10, li_11, li_12, li_13, li_14, li_15, li_16, li_20, li_23, li_25, li_30, li_31, li_32, li_38, li_40, li_41, li_44, li_48, li_50, li_51, li_52, li_57, li_59, li_60, li_61, li_62, li_63, li_66, li_81, li_94, li_97, li_98, li_99, li_100, li_101, li_103, li_104, li_105, li_107, li_108, li_109, li_110, li_111, li_112, li_114, li_115, li_116, li_117, li_118, li_122, li_200, li_572, li_600, li_9999, li_10000, li_12345, li_1103515245]
      · refine go (anT st) (by unfold spA; rw [if_neg (by omega), if_pos q]) fun ih => ?_
        unfold lX9_holds_17
        simp (disch := omega) only [he, g1, lj_1, lj_2, s_bit st hs, s_half st hs, s_cmp, c0, s_and1 st hs c0, ih, letv, o_b, ↓reduceIte, e_sub, e_add, e_mul, e_ld, e_st, e_lt, e_nlt, e_le, e_nle, e_eq, e_neq, e_div, e_rem, m_lt, m_le, m_eq, m_eq2, m_ng, o_ld, true_and, and_true, Nat.one_ne_zero, Nat.zero_ne_one, Nat.reduceEqDiff, Bool.false_eq_true, not_true_eq_false, not_false_eq_true, li_0, li_1, li_2, li_3, li_4, li_5, li_6, li_7, li_8, li_9, li_10, li_11, li_12, li_13, li_14, li_15, li_16, li_20, li_23, li_25, li_30, li_31, li_32, li_38, li_40, li_41, li_44, li_48, li_50, li_51, li_52, li_57, li_59, li_60, li_61, li_62, li_63, li_66, li_81, li_94, li_97, li_98, li_99, li_100, li_101, li_103, li_104, li_105, li_107, li_108, li_109, li_110, li_111, li_112, li_114, li_115, li_116, li_117, li_118, li_122, li_200, li_572, li_600, li_9999, li_10000, li_12345, li_1103515245]
    · have em : moA (g j).1 = 5 := by rw [q]; rfl
      rw [em] at g1
      refine go (orT st) (by unfold spA; rw [if_neg (by omega), if_neg (by omega), if_pos q]) fun ih => ?_
      unfold lX9_holds_17
      simp (disch := omega) only [he, g1, lj_1, lj_2, s_bit st hs, s_half st hs, s_or st hs, ih, letv, o_b, ↓reduceIte, e_sub, e_add, e_mul, e_ld, e_st, e_lt, e_nlt, e_le, e_nle, e_eq, e_neq, e_div, e_rem, m_lt, m_le, m_eq, m_eq2, m_ng, o_ld, true_and, and_true, Nat.one_ne_zero, Nat.zero_ne_one, Nat.reduceEqDiff, Bool.false_eq_true, not_true_eq_false, not_false_eq_true, li_0, li_1, li_2, li_3, li_4, li_5, li_6, li_7, li_8, li_9, li_10, li_11, li_12, li_13, li_14, li_15, li_16, li_20, li_23, li_25, li_30, li_31, li_32, li_38, li_40, li_41, li_44, li_48, li_50, li_51, li_52, li_57, li_59, li_60, li_61, li_62, li_63, li_66, li_81, li_94, li_97, li_98, li_99, li_100, li_101, li_103, li_104, li_105, li_107, li_108, li_109, li_110, li_111, li_112, li_114, li_115, li_116, li_117, li_118, li_122, li_200, li_572, li_600, li_9999, li_10000, li_12345, li_1103515245]
    · have em : moA (g j).1 = 3 := by rw [q]; rfl
      rw [em] at g1
      refine go (ntT st) (by unfold spA; rw [if_neg (by omega), if_neg (by omega), if_neg (by omega)]) fun ih => ?_
      unfold lX9_holds_17
      simp (disch := omega) only [he, g1, lj_1, lj_2, s_not st hs, ih, letv, o_b, ↓reduceIte, e_sub, e_add, e_mul, e_ld, e_st, e_lt, e_nlt, e_le, e_nle, e_eq, e_neq, e_div, e_rem, m_lt, m_le, m_eq, m_eq2, m_ng, o_ld, true_and, and_true, Nat.one_ne_zero, Nat.zero_ne_one, Nat.reduceEqDiff, Bool.false_eq_true, not_true_eq_false, not_false_eq_true, li_0, li_1, li_2, li_3, li_4, li_5, li_6, li_7, li_8, li_9, li_10, li_11, li_12, li_13, li_14, li_15, li_16, li_20, li_23, li_25, li_30, li_31, li_32, li_38, li_40, li_41, li_44, li_48, li_50, li_51, li_52, li_57, li_59, li_60, li_61, li_62, li_63, li_66, li_81, li_94, li_97, li_98, li_99, li_100, li_101, li_103, li_104, li_105, li_107, li_108, li_109, li_110, li_111, li_112, li_114, li_115, li_116, li_117, li_118, li_122, li_200, li_572, li_600, li_9999, li_10000, li_12345, li_1103515245]
theorem m_holds (hn : 1000 ≤ n) (hE : ME (U (b + 1)) E) (hi : IE E) (h : MC (U (b + 1)) L) (hL : IL L) {k i : Nat} (hk : k < 6) (hr : i < E_rc E) : pX9_holds n U b (nI i) (nI k) = some (nI (if hlA E L k i = true then 1 else 0)) := by
  have h8 := hi.2.2.2.2.1
  obtain ⟨-, -, r3, r4⟩ := hi.2.2.2.2.2 i hr
  obtain ⟨bg, e1, e2, e3, e4, e5, e6⟩ := hE.2.2.2.2 i hr
  have key := m_holds_l hE hi h hL hk (show i < 8 by omega) e5 e4 e6 (E_rm E i) 0 0 1 n (by omega) (by omega) (by omega) (by decide) r4
  unfold pX9_holds hlA
  rw [show bg + 0 = bg from rfl] at key
  by_cases q : rnA E L k (E_rs E i) 1 0 (E_rm E i) % 2 = 1
  · simp (disch := omega) only [e3, lj_1, lj_2, key.1, s_rem _ key.2, s_cmp, q, decide_true, letv, o_b, ↓reduceIte, e_sub, e_add, e_mul, e_ld, e_st, e_lt, e_nlt, e_le, e_nle, e_eq, e_neq, e_div, e_rem, m_lt, m_le, m_eq, m_eq2, m_ng, o_ld, true_and, and_true, Nat.one_ne_zero, Nat.zero_ne_one, Nat.reduceEqDiff, Bool.false_eq_true, not_true_eq_false, not_false_eq_true, li_0, li_1, li_2, li_3, li_4, li_5, li_6, li_7, li_8, li_9, li_10, li_11, li_12, li_13, li_14, li_15, li_16, li_20, li_23, li_25, li_30, li_31, li_32, li_38, li_40, li_41, li_44, li_48, li_50, li_51, li_52, li_57, li_59, li_60, li_61, li_62, li_63, li_66, li_81, li_94, li_97, li_98, li_99, li_100, li_101, li_103, li_104, li_105, li_107, li_108, li_109, li_110, li_111, li_112, li_114, li_115, li_116, li_117, li_118, li_122, li_200, li_572, li_600, li_9999, li_10000, li_12345, li_1103515245]
  · simp (disch := omega) only [e3, lj_1, lj_2, key.1, s_rem _ key.2, s_cmp, show rnA E L k (E_rs E i) 1 0 (E_rm E i) % 2 = 0 by omega, Nat.zero_ne_one, decide_false, letv, o_b, ↓reduceIte, e_sub, e_add, e_mul, e_ld, e_st, e_lt, e_nlt, e_le, e_nle, e_eq, e_neq, e_div, e_rem, m_lt, m_le, m_eq, m_eq2, m_ng, o_ld, true_and, and_true, Nat.one_ne_zero, Nat.zero_ne_one, Nat.reduceEqDiff, Bool.false_eq_true, not_true_eq_false, not_false_eq_true, li_0, li_1, li_2, li_3, li_4, li_5, li_6, li_7, li_8, li_9, li_10, li_11, li_12, li_13, li_14, li_15, li_16, li_20, li_23, li_25, li_30, li_31, li_32, li_38, li_40, li_41, li_44, li_48, li_50, li_51, li_52, li_57, li_59, li_60, li_61, li_62, li_63, li_66, li_81, li_94, li_97, li_98, li_99, li_100, li_101, li_103, li_104, li_105, li_107, li_108, li_109, li_110, li_111, li_112, li_114, li_115, li_116, li_117, li_118, li_122, li_200, li_572, li_600, li_9999, li_10000, li_12345, li_1103515245]
theorem m_will_l (hn : 1000 ≤ n) (hE : ME (U (b + 1)) E) (hi : IE E) (h : MC (U (b + 1)) L) (hL : IL L) {k : Nat} (hk : k < 6) {K : Unit → Option Int32} : ∀ m x f, x + m = E_rc E → m < f → lX9_will_2 n U b (nI k) f (nI x) K = if fsA (tlA E L k) x m = 0 then K () else some (nI (E_rw E (fsA (tlA E L k) x m - 1))) := by
  have hc := hi.2.2.2.2.1
  intro m
  induction m with
  | zero =>
    intro x f h1 h2
    obtain ⟨f, rfl⟩ : ∃ g, f = g + 1 := ⟨f - 1, by omega⟩
    unfold lX9_will_2
    simp (disch := omega) only [hE.2.1, fsA, letv, o_b, ↓reduceIte, e_sub, e_add, e_mul, e_ld, e_st, e_lt, e_nlt, e_le, e_nle, e_eq, e_neq, e_div, e_rem, m_lt, m_le, m_eq, m_eq2, m_ng, o_ld, true_and, and_true, Nat.one_ne_zero, Nat.zero_ne_one, Nat.reduceEqDiff, Bool.false_eq_true, not_true_eq_false, not_false_eq_true, li_0, li_1, li_2, li_3, li_4, li_5, li_6, li_7, li_8, li_9, li_10, li_11, li_12, li_13, li_14, li_15, li_16, li_20, li_23, li_25, li_30, li_31, li_32, li_38, li_40, li_41, li_44, li_48, li_50, li_51, li_52, li_57, li_59, li_60, li_61, li_62, li_63, li_66, li_81, li_94, li_97, li_98, li_99, li_100, li_101, li_103, li_104, li_105, li_107, li_108, li_109, li_110, li_111, li_112, li_114, li_115, li_116, li_117, li_118, li_122, li_200, li_572, li_600, li_9999, li_10000, li_12345, li_1103515245]
  | succ m ih =>
    intro x f h1 h2
    obtain ⟨f, rfl⟩ : ∃ g, f = g + 1 := ⟨f - 1, by omega⟩
    have hx : x < E_rc E := by omega
    obtain ⟨bg, e1, e2, e3, e4, e5, e6⟩ := hE.2.2.2.2 x hx
    obtain ⟨r1, r2, -, -⟩ := hi.2.2.2.2.2 x hx
    have i0 := (hL.2.2.2.2 k hk).1
    have ih := ih (x + 1) f (by omega) (by omega)
    unfold lX9_will_2 fsA
    have e : tlA E L k x = (unA (L_t L k 0) (E_rk E x) && hlA E L k x) := rfl
    cases q1 : unA (L_t L k 0) (E_rk E x) with
    | false =>
      rw [q1, Bool.false_and] at e
      simp (disch := omega) only [hE.2.1, m_its0 h hk, e1, m_under _ (show L_t L k 0 < 6 by omega) _ (show E_rk E x < 6 by omega), q1, e, ih, letv, o_b, ↓reduceIte, e_sub, e_add, e_mul, e_ld, e_st, e_lt, e_nlt, e_le, e_nle, e_eq, e_neq, e_div, e_rem, m_lt, m_le, m_eq, m_eq2, m_ng, o_ld, true_and, and_true, Nat.one_ne_zero, Nat.zero_ne_one, Nat.reduceEqDiff, Bool.false_eq_true, not_true_eq_false, not_false_eq_true, li_0, li_1, li_2, li_3, li_4, li_5, li_6, li_7, li_8, li_9, li_10, li_11, li_12, li_13, li_14, li_15, li_16, li_20, li_23, li_25, li_30, li_31, li_32, li_38, li_40, li_41, li_44, li_48, li_50, li_51, li_52, li_57, li_59, li_60, li_61, li_62, li_63, li_66, li_81, li_94, li_97, li_98, li_99, li_100, li_101, li_103, li_104, li_105, li_107, li_108, li_109, li_110, li_111, li_112, li_114, li_115, li_116, li_117, li_118, li_122, li_200, li_572, li_600, li_9999, li_10000, li_12345, li_1103515245]
    | true =>
      cases q2 : hlA E L k x with
      | false =>
        rw [q1, q2, Bool.true_and] at e
        simp (disch := omega) only [hE.2.1, m_its0 h hk, e1, m_under _ (show L_t L k 0 < 6 by omega) _ (show E_rk E x < 6 by omega), q1, e, m_holds hn hE hi h hL hk hx, q2, ih, letv, o_b, ↓reduceIte, e_sub, e_add, e_mul, e_ld, e_st, e_lt, e_nlt, e_le, e_nle, e_eq, e_neq, e_div, e_rem, m_lt, m_le, m_eq, m_eq2, m_ng, o_ld, true_and, and_true, Nat.one_ne_zero, Nat.zero_ne_one, Nat.reduceEqDiff, Bool.false_eq_true, not_true_eq_false, not_false_eq_true, li_0, li_1, li_2, li_3, li_4, li_5, li_6, li_7, li_8, li_9, li_10, li_11, li_12, li_13, li_14, li_15, li_16, li_20, li_23, li_25, li_30, li_31, li_32, li_38, li_40, li_41, li_44, li_48, li_50, li_51, li_52, li_57, li_59, li_60, li_61, li_62, li_63, li_66, li_81, li_94, li_97, li_98, li_99, li_100, li_101, li_103, li_104, li_105, li_107, li_108, li_109, li_110, li_111, li_112, li_114, li_115, li_116, li_117, li_118, li_122, li_200, li_572, li_600, li_9999, li_10000, li_12345, li_1103515245]
      | true =>
        rw [q1, q2, Bool.true_and] at e
        simp (disch := omega) only [hE.2.1, m_its0 h hk, e1, e2, m_under _ (show L_t L k 0 < 6 by omega) _ (show E_rk E x < 6 by omega), q1, e, m_holds hn hE hi h hL hk hx, q2, Nat.add_sub_cancel, Nat.add_one_ne_zero, letv, o_b, ↓reduceIte, e_sub, e_add, e_mul, e_ld, e_st, e_lt, e_nlt, e_le, e_nle, e_eq, e_neq, e_div, e_rem, m_lt, m_le, m_eq, m_eq2, m_ng, o_ld, true_and, and_true, Nat.one_ne_zero, Nat.zero_ne_one, Nat.reduceEqDiff, Bool.false_eq_true, not_true_eq_false, not_false_eq_true, li_0, li_1, li_2, li_3, li_4, li_5, li_6, li_7, li_8, li_9, li_10, li_11, li_12, li_13, li_14, li_15, li_16, li_20, li_23, li_25, li_30, li_31, li_32, li_38, li_40, li_41, li_44, li_48, li_50, li_51, li_52, li_57, li_59, li_60, li_61, li_62, li_63, li_66, li_81, li_94, li_97, li_98, li_99, li_100, li_101, li_103, li_104, li_105, li_107, li_108, li_109, li_110, li_111, li_112, li_114, li_115, li_116, li_117, li_118, li_122, li_200, li_572, li_600, li_9999, li_10000, li_12345, li_1103515245]
theorem m_will (hn : 1000 ≤ n) (hE : ME (U (b + 1)) E) (hi : IE E) (h : MC (U (b + 1)) L) (hL : IL L) {k : Nat} (hk : k < 6) : pX9_will n U b (nI k) = some (nI (wlA E L k)) := by
  have hc := hi.2.2.2.2.1
  unfold pX9_will wlA wlR
  rw [show (0 : Int32) = nI 0 from rfl, m_will_l hn hE hi h hL hk (E_rc E) 0 n (by omega) (by omega)]
  split <;> rfl
theorem m_may (hn : 1000 ≤ n) (hE : ME (U (b + 1)) E) (hi : IE E) (h : MC (U (b + 1)) L) (hL : IL L) {k : Nat} (hk : k < L_c L) : pX9_mayBe n U b (nI k) = some (nI (if myA E L k = true then 1 else 0)) := by
  have hc := hL.2.1
  have hk6 : k < 6 := by omega
  have h2 := pyA_le (E := E) (st := stm E L) hL hk6
  have h3 := wlA_le (L := L) hi k
  unfold pX9_mayBe myA
  by_cases q : 0 < pyA E L k (stm E L)
  · by_cases q2 : wlA E L k = 0
    · simp (disch := omega) only [m_pays hn hE hi h hL hk, m_will hn hE hi h hL hk6, q, q2, decide_true, letv, o_b, ↓reduceIte, e_sub, e_add, e_mul, e_ld, e_st, e_lt, e_nlt, e_le, e_nle, e_eq, e_neq, e_div, e_rem, m_lt, m_le, m_eq, m_eq2, m_ng, o_ld, true_and, and_true, Nat.one_ne_zero, Nat.zero_ne_one, Nat.reduceEqDiff, Bool.false_eq_true, not_true_eq_false, not_false_eq_true, li_0, li_1, li_2, li_3, li_4, li_5, li_6, li_7, li_8, li_9, li_10, li_11, li_12, li_13, li_14, li_15, li_16, li_20, li_23, li_25, li_30, li_31, li_32, li_38, li_40, li_41, li_44, li_48, li_50, li_51, li_52, li_57, li_59, li_60, li_61, li_62, li_63, li_66, li_81, li_94, li_97, li_98, li_99, li_100, li_101, li_103, li_104, li_105, li_107, li_108, li_109, li_110, li_111, li_112, li_114, li_115, li_116, li_117, li_118, li_122, li_200, li_572, li_600, li_9999, li_10000, li_12345, li_1103515245]
    · simp (disch := omega) only [m_pays hn hE hi h hL hk, m_will hn hE hi h hL hk6, q, q2, decide_false, letv, o_b, ↓reduceIte, e_sub, e_add, e_mul, e_ld, e_st, e_lt, e_nlt, e_le, e_nle, e_eq, e_neq, e_div, e_rem, m_lt, m_le, m_eq, m_eq2, m_ng, o_ld, true_and, and_true, Nat.one_ne_zero, Nat.zero_ne_one, Nat.reduceEqDiff, Bool.false_eq_true, not_true_eq_false, not_false_eq_true, li_0, li_1, li_2, li_3, li_4, li_5, li_6, li_7, li_8, li_9, li_10, li_11, li_12, li_13, li_14, li_15, li_16, li_20, li_23, li_25, li_30, li_31, li_32, li_38, li_40, li_41, li_44, li_48, li_50, li_51, li_52, li_57, li_59, li_60, li_61, li_62, li_63, li_66, li_81, li_94, li_97, li_98, li_99, li_100, li_101, li_103, li_104, li_105, li_107, li_108, li_109, li_110, li_111, li_112, li_114, li_115, li_116, li_117, li_118, li_122, li_200, li_572, li_600, li_9999, li_10000, li_12345, li_1103515245]
  · simp (disch := omega) only [m_pays hn hE hi h hL hk, q, decide_false, false_and, letv, o_b, ↓reduceIte, e_sub, e_add, e_mul, e_ld, e_st, e_lt, e_nlt, e_le, e_nle, e_eq, e_neq, e_div, e_rem, m_lt, m_le, m_eq, m_eq2, m_ng, o_ld, true_and, and_true, Nat.one_ne_zero, Nat.zero_ne_one, Nat.reduceEqDiff, Bool.false_eq_true, not_true_eq_false, not_false_eq_true, li_0, li_1, li_2, li_3, li_4, li_5, li_6, li_7, li_8, li_9, li_10, li_11, li_12, li_13, li_14, li_15, li_16, li_20, li_23, li_25, li_30, li_31, li_32, li_38, li_40, li_41, li_44, li_48, li_50, li_51, li_52, li_57, li_59, li_60, li_61, li_62, li_63, li_66, li_81, li_94, li_97, li_98, li_99, li_100, li_101, li_103, li_104, li_105, li_107, li_108, li_109, li_110, li_111, li_112, li_114, li_115, li_116, li_117, li_118, li_122, li_200, li_572, li_600, li_9999, li_10000, li_12345, li_1103515245]
theorem m_rest_l (hn : 1000 ≤ n) (hE : ME (U (b + 1)) E) (hi : IE E) (h : MC (U (b + 1)) L) (hL : IL L) {K : Unit → Option Int32} : ∀ m x f, x + m = L_c L → m < f → lX9_restAct_2 n U b f (nI x) K = if fsA (myA E L) x m = 0 then K () else some (nI (fsA (myA E L) x m)) := by
  have hc := hL.2.1
  intro m
  induction m with
  | zero =>
    intro x f h1 h2
    obtain ⟨f, rfl⟩ : ∃ g, f = g + 1 := ⟨f - 1, by omega⟩
    unfold lX9_restAct_2
    simp (disch := omega) only [h.2.1, fsA, letv, o_b, ↓reduceIte, e_sub, e_add, e_mul, e_ld, e_st, e_lt, e_nlt, e_le, e_nle, e_eq, e_neq, e_div, e_rem, m_lt, m_le, m_eq, m_eq2, m_ng, o_ld, true_and, and_true, Nat.one_ne_zero, Nat.zero_ne_one, Nat.reduceEqDiff, Bool.false_eq_true, not_true_eq_false, not_false_eq_true, li_0, li_1, li_2, li_3, li_4, li_5, li_6, li_7, li_8, li_9, li_10, li_11, li_12, li_13, li_14, li_15, li_16, li_20, li_23, li_25, li_30, li_31, li_32, li_38, li_40, li_41, li_44, li_48, li_50, li_51, li_52, li_57, li_59, li_60, li_61, li_62, li_63, li_66, li_81, li_94, li_97, li_98, li_99, li_100, li_101, li_103, li_104, li_105, li_107, li_108, li_109, li_110, li_111, li_112, li_114, li_115, li_116, li_117, li_118, li_122, li_200, li_572, li_600, li_9999, li_10000, li_12345, li_1103515245]
  | succ m ih =>
    intro x f h1 h2
    obtain ⟨f, rfl⟩ : ∃ g, f = g + 1 := ⟨f - 1, by omega⟩
    have ih := ih (x + 1) f (by omega) (by omega)
    have hx : x < L_c L := by omega
    unfold lX9_restAct_2 fsA
    cases q1 : myA E L x with
    | false => simp (disch := omega) only [h.2.1, m_may hn hE hi h hL hx, q1, ih, letv, o_b, ↓reduceIte, e_sub, e_add, e_mul, e_ld, e_st, e_lt, e_nlt, e_le, e_nle, e_eq, e_neq, e_div, e_rem, m_lt, m_le, m_eq, m_eq2, m_ng, o_ld, true_and, and_true, Nat.one_ne_zero, Nat.zero_ne_one, Nat.reduceEqDiff, Bool.false_eq_true, not_true_eq_false, not_false_eq_true, li_0, li_1, li_2, li_3, li_4, li_5, li_6, li_7, li_8, li_9, li_10, li_11, li_12, li_13, li_14, li_15, li_16, li_20, li_23, li_25, li_30, li_31, li_32, li_38, li_40, li_41, li_44, li_48, li_50, li_51, li_52, li_57, li_59, li_60, li_61, li_62, li_63, li_66, li_81, li_94, li_97, li_98, li_99, li_100, li_101, li_103, li_104, li_105, li_107, li_108, li_109, li_110, li_111, li_112, li_114, li_115, li_116, li_117, li_118, li_122, li_200, li_572, li_600, li_9999, li_10000, li_12345, li_1103515245]
    | true => simp (disch := omega) only [h.2.1, m_may hn hE hi h hL hx, q1, Nat.add_one_ne_zero, letv, o_b, ↓reduceIte, e_sub, e_add, e_mul, e_ld, e_st, e_lt, e_nlt, e_le, e_nle, e_eq, e_neq, e_div, e_rem, m_lt, m_le, m_eq, m_eq2, m_ng, o_ld, true_and, and_true, Nat.one_ne_zero, Nat.zero_ne_one, Nat.reduceEqDiff, Bool.false_eq_true, not_true_eq_false, not_false_eq_true, li_0, li_1, li_2, li_3, li_4, li_5, li_6, li_7, li_8, li_9, li_10, li_11, li_12, li_13, li_14, li_15, li_16, li_20, li_23, li_25, li_30, li_31, li_32, li_38, li_40, li_41, li_44, li_48, li_50, li_51, li_52, li_57, li_59, li_60, li_61, li_62, li_63, li_66, li_81, li_94, li_97, li_98, li_99, li_100, li_101, li_103, li_104, li_105, li_107, li_108, li_109, li_110, li_111, li_112, li_114, li_115, li_116, li_117, li_118, li_122, li_200, li_572, li_600, li_9999, li_10000, li_12345, li_1103515245]
theorem m_rest (hn : 1000 ≤ n) (hE : ME (U (b + 1)) E) (hi : IE E) (h : MC (U (b + 1)) L) (hL : IL L) : pX9_restAct n U b = some (nI (rsA E L)) := by
  have hc := hL.2.1
  unfold pX9_restAct rsA
  rw [show (0 : Int32) = nI 0 from rfl, m_rest_l hn hE hi h hL (L_c L) 0 n (by omega) (by omega)]
  split
  · rename_i q
    rw [q]
  · rfl
theorem m_flats_l (h : MC (U (b + 1)) L) (hL : IL L) : ∀ m x f, x + m = L_c L → m < f → lX9_flatOnes_4 U b f (nI (L_f L % 2 ^ x)) (nI x) = some (nI (L_f L % 2 ^ (L_c L))) := by
  have hc := hL.2.1
  intro m
  induction m with
  | zero =>
    intro x f h1 h2
    obtain ⟨f, rfl⟩ : ∃ g, f = g + 1 := ⟨f - 1, by omega⟩
    have hx : x = L_c L := by omega
    unfold lX9_flatOnes_4
    simp (disch := omega) only [h.2.1, hx, letv, o_b, ↓reduceIte, e_sub, e_add, e_mul, e_ld, e_st, e_lt, e_nlt, e_le, e_nle, e_eq, e_neq, e_div, e_rem, m_lt, m_le, m_eq, m_eq2, m_ng, o_ld, true_and, and_true, Nat.one_ne_zero, Nat.zero_ne_one, Nat.reduceEqDiff, Bool.false_eq_true, not_true_eq_false, not_false_eq_true, li_0, li_1, li_2, li_3, li_4, li_5, li_6, li_7, li_8, li_9, li_10, li_11, li_12, li_13, li_14, li_15, li_16, li_20, li_23, li_25, li_30, li_31, li_32, li_38, li_40, li_41, li_44, li_48, li_50, li_51, li_52, li_57, li_59, li_60, li_61, li_62, li_63, li_66, li_81, li_94, li_97, li_98, li_99, li_100, li_101, li_103, li_104, li_105, li_107, li_108, li_109, li_110, li_111, li_112, li_114, li_115, li_116, li_117, li_118, li_122, li_200, li_572, li_600, li_9999, li_10000, li_12345, li_1103515245]
  | succ m ih =>
    intro x f h1 h2
    obtain ⟨f, rfl⟩ : ∃ g, f = g + 1 := ⟨f - 1, by omega⟩
    have hx : x < 6 := by omega
    unfold lX9_flatOnes_4
    simp (disch := omega) only [h.2.1, m_its4 h hx, b_orz _ hL.2.2.1 x hx, ih (x + 1) f (by omega) (by omega), letv, o_b, ↓reduceIte, e_sub, e_add, e_mul, e_ld, e_st, e_lt, e_nlt, e_le, e_nle, e_eq, e_neq, e_div, e_rem, m_lt, m_le, m_eq, m_eq2, m_ng, o_ld, true_and, and_true, Nat.one_ne_zero, Nat.zero_ne_one, Nat.reduceEqDiff, Bool.false_eq_true, not_true_eq_false, not_false_eq_true, li_0, li_1, li_2, li_3, li_4, li_5, li_6, li_7, li_8, li_9, li_10, li_11, li_12, li_13, li_14, li_15, li_16, li_20, li_23, li_25, li_30, li_31, li_32, li_38, li_40, li_41, li_44, li_48, li_50, li_51, li_52, li_57, li_59, li_60, li_61, li_62, li_63, li_66, li_81, li_94, li_97, li_98, li_99, li_100, li_101, li_103, li_104, li_105, li_107, li_108, li_109, li_110, li_111, li_112, li_114, li_115, li_116, li_117, li_118, li_122, li_200, li_572, li_600, li_9999, li_10000, li_12345, li_1103515245]
theorem m_flats (hn : 1000 ≤ n) (h : MC (U (b + 1)) L) (hL : IL L) : pX9_flatOnes n U b = some (nI (L_f L)) := by
  have hc := hL.2.1
  have key := m_flats_l h hL (L_c L) 0 n (by omega) (by omega)
  rw [mod_all _ hL.2.2.1 _ hc hL.2.2.2.1, show L_f L % 2 ^ 0 = 0 from Nat.mod_one _] at key
  unfold pX9_flatOnes
  simp (disch := omega) only [key, letv, o_b, ↓reduceIte, e_sub, e_add, e_mul, e_ld, e_st, e_lt, e_nlt, e_le, e_nle, e_eq, e_neq, e_div, e_rem, m_lt, m_le, m_eq, m_eq2, m_ng, o_ld, true_and, and_true, Nat.one_ne_zero, Nat.zero_ne_one, Nat.reduceEqDiff, Bool.false_eq_true, not_true_eq_false, not_false_eq_true, li_0, li_1, li_2, li_3, li_4, li_5, li_6, li_7, li_8, li_9, li_10, li_11, li_12, li_13, li_14, li_15, li_16, li_20, li_23, li_25, li_30, li_31, li_32, li_38, li_40, li_41, li_44, li_48, li_50, li_51, li_52, li_57, li_59, li_60, li_61, li_62, li_63, li_66, li_81, li_94, li_97, li_98, li_99, li_100, li_101, li_103, li_104, li_105, li_107, li_108, li_109, li_110, li_111, li_112, li_114, li_115, li_116, li_117, li_118, li_122, li_200, li_572, li_600, li_9999, li_10000, li_12345, li_1103515245]
theorem m_size_l : ∀ m f v acc, v < 64 → pcA v = m → m < f → lX9_size_4 f (nI acc) (nI v) = some (nI (acc + m)) := by
  intro m
  induction m with
  | zero =>
    intro f v acc hv h1 h2
    obtain ⟨f, rfl⟩ : ∃ g, f = g + 1 := ⟨f - 1, by omega⟩
    have : v = 0 := by
      by_cases q : v = 0
      · exact q
      · have := (b_low v hv q).2.1; omega
    subst this
    unfold lX9_size_4
    simp (disch := omega) only [Nat.add_zero, letv, o_b, ↓reduceIte, e_sub, e_add, e_mul, e_ld, e_st, e_lt, e_nlt, e_le, e_nle, e_eq, e_neq, e_div, e_rem, m_lt, m_le, m_eq, m_eq2, m_ng, o_ld, true_and, and_true, Nat.one_ne_zero, Nat.zero_ne_one, Nat.reduceEqDiff, Bool.false_eq_true, not_true_eq_false, not_false_eq_true, li_0, li_1, li_2, li_3, li_4, li_5, li_6, li_7, li_8, li_9, li_10, li_11, li_12, li_13, li_14, li_15, li_16, li_20, li_23, li_25, li_30, li_31, li_32, li_38, li_40, li_41, li_44, li_48, li_50, li_51, li_52, li_57, li_59, li_60, li_61, li_62, li_63, li_66, li_81, li_94, li_97, li_98, li_99, li_100, li_101, li_103, li_104, li_105, li_107, li_108, li_109, li_110, li_111, li_112, li_114, li_115, li_116, li_117, li_118, li_122, li_200, li_572, li_600, li_9999, li_10000, li_12345, li_1103515245]
  | succ m ih =>
    intro f v acc hv h1 h2
    obtain ⟨f, rfl⟩ : ∃ g, f = g + 1 := ⟨f - 1, by omega⟩
    have q : v ≠ 0 := fun q => by subst q; exact absurd h1 (by rw [show pcA 0 = 0 from rfl]; omega)
    obtain ⟨g1, g2, g3⟩ := b_low v hv q
    have ih' := ih f (lwB v) (acc + 1) g3 (by omega) (by omega)
    have g0 : (nI v = nI 0) = False := e_neq (by omega) (by omega) q
    unfold lX9_size_4
    simp only [letv, li_0, li_1, g0, ↓reduceIte, g1, e_add, ih']
    congr 2
    omega
theorem m_size (hn : 1000 ≤ n) {v : Nat} (hv : v < 64) : pX9_size n (nI v) = some (nI (pcA v)) := by
  have h6 := pcA_le v hv
  unfold pX9_size
  simp (disch := omega) only [m_size_l (pcA v) n v 0 hv rfl (by omega), Nat.zero_add, letv, o_b, ↓reduceIte, e_sub, e_add, e_mul, e_ld, e_st, e_lt, e_nlt, e_le, e_nle, e_eq, e_neq, e_div, e_rem, m_lt, m_le, m_eq, m_eq2, m_ng, o_ld, true_and, and_true, Nat.one_ne_zero, Nat.zero_ne_one, Nat.reduceEqDiff, Bool.false_eq_true, not_true_eq_false, not_false_eq_true, li_0, li_1, li_2, li_3, li_4, li_5, li_6, li_7, li_8, li_9, li_10, li_11, li_12, li_13, li_14, li_15, li_16, li_20, li_23, li_25, li_30, li_31, li_32, li_38, li_40, li_41, li_44, li_48, li_50, li_51, li_52, li_57, li_59, li_60, li_61, li_62, li_63, li_66, li_81, li_94, li_97, li_98, li_99, li_100, li_101, li_103, li_104, li_105, li_107, li_108, li_109, li_110, li_111, li_112, li_114, li_115, li_116, li_117, li_118, li_122, li_200, li_572, li_600, li_9999, li_10000, li_12345, li_1103515245]
theorem m_bulk_l (h : MC (U (b + 1)) L) (hL : IL L) : ∀ m x f acc, x + m = L_c L → m < f → lX9_bulkOfAll_4 U b f (nI acc) (nI x) = some (nI (acc + smA (fun k => L_t L k 1) x m)) := by
  have hc := hL.2.1
  intro m
  induction m with
  | zero =>
    intro x f acc h1 h2
    obtain ⟨f, rfl⟩ : ∃ g, f = g + 1 := ⟨f - 1, by omega⟩
    unfold lX9_bulkOfAll_4
    simp (disch := omega) only [h.2.1, smA, Nat.add_zero, letv, o_b, ↓reduceIte, e_sub, e_add, e_mul, e_ld, e_st, e_lt, e_nlt, e_le, e_nle, e_eq, e_neq, e_div, e_rem, m_lt, m_le, m_eq, m_eq2, m_ng, o_ld, true_and, and_true, Nat.one_ne_zero, Nat.zero_ne_one, Nat.reduceEqDiff, Bool.false_eq_true, not_true_eq_false, not_false_eq_true, li_0, li_1, li_2, li_3, li_4, li_5, li_6, li_7, li_8, li_9, li_10, li_11, li_12, li_13, li_14, li_15, li_16, li_20, li_23, li_25, li_30, li_31, li_32, li_38, li_40, li_41, li_44, li_48, li_50, li_51, li_52, li_57, li_59, li_60, li_61, li_62, li_63, li_66, li_81, li_94, li_97, li_98, li_99, li_100, li_101, li_103, li_104, li_105, li_107, li_108, li_109, li_110, li_111, li_112, li_114, li_115, li_116, li_117, li_118, li_122, li_200, li_572, li_600, li_9999, li_10000, li_12345, li_1103515245]
  | succ m ih =>
    intro x f acc h1 h2
    obtain ⟨f, rfl⟩ : ∃ g, f = g + 1 := ⟨f - 1, by omega⟩
    unfold lX9_bulkOfAll_4 smA
    simp (disch := omega) only [h.2.1, m_its1 h (show x < 6 by omega), ih (x + 1) f (acc + L_t L x 1) (by omega) (by omega), Nat.add_assoc, letv, o_b, ↓reduceIte, e_sub, e_add, e_mul, e_ld, e_st, e_lt, e_nlt, e_le, e_nle, e_eq, e_neq, e_div, e_rem, m_lt, m_le, m_eq, m_eq2, m_ng, o_ld, true_and, and_true, Nat.one_ne_zero, Nat.zero_ne_one, Nat.reduceEqDiff, Bool.false_eq_true, not_true_eq_false, not_false_eq_true, li_0, li_1, li_2, li_3, li_4, li_5, li_6, li_7, li_8, li_9, li_10, li_11, li_12, li_13, li_14, li_15, li_16, li_20, li_23, li_25, li_30, li_31, li_32, li_38, li_40, li_41, li_44, li_48, li_50, li_51, li_52, li_57, li_59, li_60, li_61, li_62, li_63, li_66, li_81, li_94, li_97, li_98, li_99, li_100, li_101, li_103, li_104, li_105, li_107, li_108, li_109, li_110, li_111, li_112, li_114, li_115, li_116, li_117, li_118, li_122, li_200, li_572, li_600, li_9999, li_10000, li_12345, li_1103515245]
theorem m_bulk (hn : 1000 ≤ n) (h : MC (U (b + 1)) L) (hL : IL L) : pX9_bulkOfAll n U b = some (nI (bkA L)) := by
  have hc := hL.2.1
  unfold pX9_bulkOfAll
  simp (disch := omega) only [m_bulk_l h hL (L_c L) 0 n 0 (by omega) (by omega), Nat.zero_add, letv, o_b, ↓reduceIte, e_sub, e_add, e_mul, e_ld, e_st, e_lt, e_nlt, e_le, e_nle, e_eq, e_neq, e_div, e_rem, m_lt, m_le, m_eq, m_eq2, m_ng, o_ld, true_and, and_true, Nat.one_ne_zero, Nat.zero_ne_one, Nat.reduceEqDiff, Bool.false_eq_true, not_true_eq_false, not_false_eq_true, li_0, li_1, li_2, li_3, li_4, li_5, li_6, li_7, li_8, li_9, li_10, li_11, li_12, li_13, li_14, li_15, li_16, li_20, li_23, li_25, li_30, li_31, li_32, li_38, li_40, li_41, li_44, li_48, li_50, li_51, li_52, li_57, li_59, li_60, li_61, li_62, li_63, li_66, li_81, li_94, li_97, li_98, li_99, li_100, li_101, li_103, li_104, li_105, li_107, li_108, li_109, li_110, li_111, li_112, li_114, li_115, li_116, li_117, li_118, li_122, li_200, li_572, li_600, li_9999, li_10000, li_12345, li_1103515245]
  rfl
theorem m_does (hn : 1000 ≤ n) (hE : ME (U (b + 1)) E) (hi : IE E) (h : MC (U (b + 1)) L) (hL : IL L) {k : Nat} (hk : k < L_c L) (hb : bt (L_f L) k = 0) : ∃ U', pX9_does n U b (nI k) (nI (wlA E L k)) = some (nI (dwA E L k).1, U') ∧ MC (U' (b + 1)) (dwA E L k).2 ∧ MF b U U' ∧ U' (b + 1) 3 = U (b + 1) 3 := by
  have hc := hL.2.1
  have hw16 := hL.1
  have hk6 : k < 6 := by omega
  obtain ⟨i0, i1, i2, i3, i4⟩ := hL.2.2.2.2 k hk6
  obtain ⟨g0, g1, g2, g3, g4⟩ := h.2.2 k hk6
  have hw := wlA_le (L := L) hi k
  have hp := pyA_le (E := E) (st := stm E L) hL hk6
  have hir := irA_le hi (L_w L)
  unfold pX9_does
  rcases (show wlA E L k = 0 ∨ wlA E L k = 1 ∨ wlA E L k = 2 by omega) with q1 | q1 | q1
  · by_cases q2 : 0 < pyA E L k (stm E L)
    · refine ⟨up2 (up2 U (b + 1) (8 + 5 * k + 4) (nI 1)) (b + 1) (8 + 5 * k + 1) (nI 0), ?_, ?_, (MF.up (by omega) (by omega)).tr (MF.up (by omega) (by omega)), ?_⟩
      · unfold dwA
        simp (disch := omega) only [q1, m_pays hn hE hi h hL hk, q2, hb, Nat.zero_ne_one, letv, o_b, ↓reduceIte, e_sub, e_add, e_mul, e_ld, e_st, e_lt, e_nlt, e_le, e_nle, e_eq, e_neq, e_div, e_rem, m_lt, m_le, m_eq, m_eq2, m_ng, o_ld, true_and, and_true, Nat.one_ne_zero, Nat.zero_ne_one, Nat.reduceEqDiff, Bool.false_eq_true, not_true_eq_false, not_false_eq_true, li_0, li_1, li_2, li_3, li_4, li_5, li_6, li_7, li_8, li_9, li_10, li_11, li_12, li_13, li_14, li_15, li_16, li_20, li_23, li_25, li_30, li_31, li_32, li_38, li_40, li_41, li_44, li_48, li_50, li_51, li_52, li_57, li_59, li_60, li_61, li_62, li_63, li_66, li_81, li_94, li_97, li_98, li_99, li_100, li_101, li_103, li_104, li_105, li_107, li_108, li_109, li_110, li_111, li_112, li_114, li_115, li_116, li_117, li_118, li_122, li_200, li_572, li_600, li_9999, li_10000, li_12345, li_1103515245]
      · unfold dwA
        rw [if_neg (by omega), if_pos q1, if_pos q2]
        exact (h.setF hL.2.2.1 k hk6).setT (j := 1) k 0 (by omega) hk6
      · rw [w_idx (by omega), w_idx (by omega)]
    · refine ⟨up2 (up2 U (b + 1) (8 + 5 * k + 4) (nI 0)) (b + 1) (8 + 5 * k + 1) (nI (L_t L k 1)), ?_, ?_, (MF.up (by omega) (by omega)).tr (MF.up (by omega) (by omega)), ?_⟩
      · unfold dwA
        simp (disch := omega) only [q1, m_pays hn hE hi h hL hk, q2, hb, Nat.zero_ne_one, w_idx (show 8 + 5 * k + 1 ≠ 8 + 5 * k + 4 by omega), g1, letv, o_b, ↓reduceIte, e_sub, e_add, e_mul, e_ld, e_st, e_lt, e_nlt, e_le, e_nle, e_eq, e_neq, e_div, e_rem, m_lt, m_le, m_eq, m_eq2, m_ng, o_ld, true_and, and_true, Nat.one_ne_zero, Nat.zero_ne_one, Nat.reduceEqDiff, Bool.false_eq_true, not_true_eq_false, not_false_eq_true, li_0, li_1, li_2, li_3, li_4, li_5, li_6, li_7, li_8, li_9, li_10, li_11, li_12, li_13, li_14, li_15, li_16, li_20, li_23, li_25, li_30, li_31, li_32, li_38, li_40, li_41, li_44, li_48, li_50, li_51, li_52, li_57, li_59, li_60, li_61, li_62, li_63, li_66, li_81, li_94, li_97, li_98, li_99, li_100, li_101, li_103, li_104, li_105, li_107, li_108, li_109, li_110, li_111, li_112, li_114, li_115, li_116, li_117, li_118, li_122, li_200, li_572, li_600, li_9999, li_10000, li_12345, li_1103515245]
      · unfold dwA
        rw [if_neg (by omega), if_pos q1, if_neg q2]
        have e : up2 (up2 U (b + 1) (8 + 5 * k + 4) (nI 0)) (b + 1) (8 + 5 * k + 1) (nI (L_t L k 1)) (b + 1) = U (b + 1) := by
          funext i
          rw [w_at]
          split
          · rename_i q; subst q; exact g1.symm
          · rw [w_at]
            split
            · rename_i q; subst q; rw [g4, hb]
            · rfl
        rw [e]
        exact h
      · rw [w_idx (by omega), w_idx (by omega)]
  · refine ⟨U, ?_, ?_, MF.rf, rfl⟩
    · unfold dwA
      simp (disch := omega) only [q1, hb, Nat.zero_ne_one, Nat.one_ne_zero, Nat.reduceEqDiff, letv, o_b, ↓reduceIte, e_sub, e_add, e_mul, e_ld, e_st, e_lt, e_nlt, e_le, e_nle, e_eq, e_neq, e_div, e_rem, m_lt, m_le, m_eq, m_eq2, m_ng, o_ld, true_and, and_true, Nat.one_ne_zero, Nat.zero_ne_one, Nat.reduceEqDiff, Bool.false_eq_true, not_true_eq_false, not_false_eq_true, li_0, li_1, li_2, li_3, li_4, li_5, li_6, li_7, li_8, li_9, li_10, li_11, li_12, li_13, li_14, li_15, li_16, li_20, li_23, li_25, li_30, li_31, li_32, li_38, li_40, li_41, li_44, li_48, li_50, li_51, li_52, li_57, li_59, li_60, li_61, li_62, li_63, li_66, li_81, li_94, li_97, li_98, li_99, li_100, li_101, li_103, li_104, li_105, li_107, li_108, li_109, li_110, li_111, li_112, li_114, li_115, li_116, li_117, li_118, li_122, li_200, li_572, li_600, li_9999, li_10000, li_12345, li_1103515245]
    · unfold dwA
      rw [if_neg (by omega), if_neg (by omega), if_neg (by omega)]
      exact h
  · have hE' : ME (up2 (up2 U (b + 1) (8 + 5 * k + 2) (nI (min 9 (L_t L k 2 + 1)))) (b + 1) (8 + 5 * k + 1) (nI (L_t L k 1 - 6)) (b + 1)) E := hE.mf ((MF.up (by omega) (by omega)).tr (MF.up (by omega) (by omega)))
    have hs4 := sgh_le E L
    have es : irA E (L_w L) % 4 = sgh E L := rfl
    refine ⟨up2 (up2 U (b + 1) (8 + 5 * k + 2) (nI (min 9 (L_t L k 2 + 1)))) (b + 1) (8 + 5 * k + 1) (nI (L_t L k 1 - 6)), ?_, ?_, (MF.up (by omega) (by omega)).tr (MF.up (by omega) (by omega)), ?_⟩
    · unfold dwA
      by_cases q3 : sgh E L = 0
      · simp (disch := omega) only [q1, hb, Nat.zero_ne_one, g2, e_ls, w_idx (show 8 + 5 * k + 1 ≠ 8 + 5 * k + 2 by omega), g1, e_gr, w_idx (show 1 ≠ 8 + 5 * k + 1 by omega), w_idx (show 1 ≠ 8 + 5 * k + 2 by omega), h.1, m_iron hE' (show L_w L < 100 by omega), es, q3, Nat.reduceEqDiff, letv, o_b, ↓reduceIte, e_sub, e_add, e_mul, e_ld, e_st, e_lt, e_nlt, e_le, e_nle, e_eq, e_neq, e_div, e_rem, m_lt, m_le, m_eq, m_eq2, m_ng, o_ld, true_and, and_true, Nat.one_ne_zero, Nat.zero_ne_one, Nat.reduceEqDiff, Bool.false_eq_true, not_true_eq_false, not_false_eq_true, li_0, li_1, li_2, li_3, li_4, li_5, li_6, li_7, li_8, li_9, li_10, li_11, li_12, li_13, li_14, li_15, li_16, li_20, li_23, li_25, li_30, li_31, li_32, li_38, li_40, li_41, li_44, li_48, li_50, li_51, li_52, li_57, li_59, li_60, li_61, li_62, li_63, li_66, li_81, li_94, li_97, li_98, li_99, li_100, li_101, li_103, li_104, li_105, li_107, li_108, li_109, li_110, li_111, li_112, li_114, li_115, li_116, li_117, li_118, li_122, li_200, li_572, li_600, li_9999, li_10000, li_12345, li_1103515245]
      · simp (disch := omega) only [q1, hb, Nat.zero_ne_one, g2, e_ls, w_idx (show 8 + 5 * k + 1 ≠ 8 + 5 * k + 2 by omega), g1, e_gr, w_idx (show 1 ≠ 8 + 5 * k + 1 by omega), w_idx (show 1 ≠ 8 + 5 * k + 2 by omega), h.1, m_iron hE' (show L_w L < 100 by omega), es, q3, Nat.reduceEqDiff, letv, o_b, ↓reduceIte, e_sub, e_add, e_mul, e_ld, e_st, e_lt, e_nlt, e_le, e_nle, e_eq, e_neq, e_div, e_rem, m_lt, m_le, m_eq, m_eq2, m_ng, o_ld, true_and, and_true, Nat.one_ne_zero, Nat.zero_ne_one, Nat.reduceEqDiff, Bool.false_eq_true, not_true_eq_false, not_false_eq_true, li_0, li_1, li_2, li_3, li_4, li_5, li_6, li_7, li_8, li_9, li_10, li_11, li_12, li_13, li_14, li_15, li_16, li_20, li_23, li_25, li_30, li_31, li_32, li_38, li_40, li_41, li_44, li_48, li_50, li_51, li_52, li_57, li_59, li_60, li_61, li_62, li_63, li_66, li_81, li_94, li_97, li_98, li_99, li_100, li_101, li_103, li_104, li_105, li_107, li_108, li_109, li_110, li_111, li_112, li_114, li_115, li_116, li_117, li_118, li_122, li_200, li_572, li_600, li_9999, li_10000, li_12345, li_1103515245]
    · unfold dwA
      rw [if_neg (by omega), if_neg (by omega), if_pos q1]
      exact (h.setT (j := 2) k (min 9 (L_t L k 2 + 1)) (by omega) hk6).setT (j := 1) k (L_t L k 1 - 6) (by omega) hk6
    · rw [w_idx (by omega), w_idx (by omega)]
theorem m_undo_l (h : MC (U (b + 1)) L) (hL : IL L) : ∀ m x f, x + m = L_c L → m < f → lX9_isUndone_4 U b f (nI (lsF (L_f L) x) - nI 1) (nI x) = some (nI (lsF (L_f L) (L_c L)) - nI 1) := by
  have hc := hL.2.1
  intro m
  induction m with
  | zero =>
    intro x f h1 h2
    obtain ⟨f, rfl⟩ : ∃ g, f = g + 1 := ⟨f - 1, by omega⟩
    have hx : x = L_c L := by omega
    unfold lX9_isUndone_4
    simp (disch := omega) only [li_0, e_ld, o_b, h.2.1, e_le, ↓reduceIte, hx]
  | succ m ih =>
    intro x f h1 h2
    obtain ⟨f, rfl⟩ : ∃ g, f = g + 1 := ⟨f - 1, by omega⟩
    have hx : x < 6 := by omega
    have ih := ih (x + 1) f (by omega) (by omega)
    unfold lX9_isUndone_4
    rw [show lsF (L_f L) (x + 1) = if bt (L_f L) x = 1 then x + 1 else lsF (L_f L) x from rfl] at ih
    rcases bt_01 (L_f L) x with q | q
    · rw [q, if_neg (by omega)] at ih
      simp (disch := omega) only [li_0, li_1, li_4, e_ld, o_b, letv, h.2.1, e_nle, ↓reduceIte, m_its4 h hx, q, e_neq, e_add, ih]
    · rw [q, if_pos rfl, e_sub (by omega), Nat.add_sub_cancel] at ih
      simp (disch := omega) only [li_0, li_1, li_4, e_ld, o_b, letv, h.2.1, e_nle, ↓reduceIte, m_its4 h hx, q, e_add, ih]
theorem m_undo (hn : 1000 ≤ n) (h : MC (U (b + 1)) L) (hL : IL L) : ∃ U', pX9_isUndone n U b = some U' ∧ MC (U' (b + 1)) (udA L) ∧ MF b U U' ∧ U' (b + 1) 3 = U (b + 1) 3 := by
  have hc := hL.2.1
  have hl := lsF_le (L_f L) (L_c L)
  have key := m_undo_l h hL (L_c L) 0 n (by omega) (by omega)
  rw [show nI (lsF (L_f L) 0) - nI 1 = -(nI 1) from (show nI 0 - nI 1 = -(nI 1) by decide)] at key
  unfold pX9_isUndone udA
  rw [li_0, li_1, key]
  simp only [o_b]
  by_cases q : lsF (L_f L) (L_c L) = 0
  · refine ⟨U, ?_, ?_, MF.rf, rfl⟩
    · rw [q]
      simp only [m_01, ↓reduceIte]
    · rw [if_pos q]
      exact h
  · refine ⟨up2 (up2 U (b + 1) (8 + 5 * (lsF (L_f L) (L_c L) - 1) + 4) (nI 0)) (b + 1) (8 + 5 * (lsF (L_f L) (L_c L) - 1) + 1) (nI 25), ?_, ?_, (MF.up (by omega) (by omega)).tr (MF.up (by omega) (by omega)), ?_⟩
    · rw [e_sub (by omega)]
      simp (disch := omega) only [letv, o_b, ↓reduceIte, e_sub, e_add, e_mul, e_ld, e_st, e_lt, e_nlt, e_le, e_nle, e_eq, e_neq, e_div, e_rem, m_lt, m_le, m_eq, m_eq2, m_ng, o_ld, true_and, and_true, Nat.one_ne_zero, Nat.zero_ne_one, Nat.reduceEqDiff, Bool.false_eq_true, not_true_eq_false, not_false_eq_true, li_0, li_1, li_2, li_3, li_4, li_5, li_6, li_7, li_8, li_9, li_10, li_11, li_12, li_13, li_14, li_15, li_16, li_20, li_23, li_25, li_30, li_31, li_32, li_38, li_40, li_41, li_44, li_48, li_50, li_51, li_52, li_57, li_59, li_60, li_61, li_62, li_63, li_66, li_81, li_94, li_97, li_98, li_99, li_100, li_101, li_103, li_104, li_105, li_107, li_108, li_109, li_110, li_111, li_112, li_114, li_115, li_116, li_117, li_118, li_122, li_200, li_572, li_600, li_9999, li_10000, li_12345, li_1103515245]
    · rw [if_neg q]
      exact (h.clF hL.2.2.1 (lsF (L_f L) (L_c L) - 1) (by omega)).setT (j := 1) (lsF (L_f L) (L_c L) - 1) 25 (by omega) (by omega)
    · rw [w_idx (by omega), w_idx (by omega)]
theorem m_go_l (hi : IE E) (hL : IL L) : ∀ m x f {U : V2}, x + m = L_c L → m < f → ME (U (b + 1)) E → MC (U (b + 1)) (L_w L, L_c L, L_f L, blA E L x) → ∃ U', lX9_goesWith_65 b f U (nI x) = some U' ∧ MC (U' (b + 1)) (L_w L, L_c L, L_f L, blA E L (L_c L)) ∧ MF b U U' ∧ U' (b + 1) 3 = U (b + 1) 3 := by
  have hc := hL.2.1
  intro m
  induction m with
  | zero =>
    intro x f U h1 h2 hE h
    obtain ⟨f, rfl⟩ : ∃ g, f = g + 1 := ⟨f - 1, by omega⟩
    have hx : x = L_c L := by omega
    subst hx
    refine ⟨U, ?_, h, MF.rf, rfl⟩
    have h0 : U (b + 1) 0 = nI (L_c L) := h.2.1
    unfold lX9_goesWith_65
    simp (disch := omega) only [h0, letv, o_b, ↓reduceIte, e_sub, e_add, e_mul, e_ld, e_st, e_lt, e_nlt, e_le, e_nle, e_eq, e_neq, e_div, e_rem, m_lt, m_le, m_eq, m_eq2, m_ng, o_ld, true_and, and_true, Nat.one_ne_zero, Nat.zero_ne_one, Nat.reduceEqDiff, Bool.false_eq_true, not_true_eq_false, not_false_eq_true, li_0, li_1, li_2, li_3, li_4, li_5, li_6, li_7, li_8, li_9, li_10, li_11, li_12, li_13, li_14, li_15, li_16, li_20, li_23, li_25, li_30, li_31, li_32, li_38, li_40, li_41, li_44, li_48, li_50, li_51, li_52, li_57, li_59, li_60, li_61, li_62, li_63, li_66, li_81, li_94, li_97, li_98, li_99, li_100, li_101, li_103, li_104, li_105, li_107, li_108, li_109, li_110, li_111, li_112, li_114, li_115, li_116, li_117, li_118, li_122, li_200, li_572, li_600, li_9999, li_10000, li_12345, li_1103515245]
  | succ m ih =>
    intro x f U h1 h2 hE h
    obtain ⟨f, rfl⟩ : ∃ g, f = g + 1 := ⟨f - 1, by omega⟩
    have hx : x < L_c L := by omega
    have hx6 : x < 6 := by omega
    have hI := bl_IL (E := E) hL x
    obtain ⟨i0, i1, i2, i3, i4⟩ := hL.2.2.2.2 x hx6
    have h0 : U (b + 1) 0 = nI (L_c L) := h.2.1
    have t1' : pX9_its U b (nI x) (nI 1) = some (nI (L_t L x 1)) := by
      rw [m_its1 h hx6]
      show some (nI (blA E L x x 1)) = _
      rw [blA_at, if_neg (by omega)]
    have hw8 := swl_le (E := E) (L := L) hx6
    have e1 : pX9_swollen U b (nI x) = some (nI (swl E L x)) := by
      have := m_swl hE hi h hI hx
      have e2 : swl E (L_w L, L_c L, L_f L, blA E L x) x = swl E L x := by
        unfold swl
        show swA (blA E L x x 0) x _ _ - E_rp E (blA E L x x 3) / 3 = _
        rw [blA_at, if_neg (by omega), blA_at, if_neg (by omega)]
        rfl
      rw [e2] at this
      exact this
    have e3 : pX9_its U b (nI x) (nI 4) = some (nI (bt (L_f L) x)) := m_its4 h hx6
    have h' : MC (up2 U (b + 1) (8 + 5 * x + 1) (nI (nbA E L x)) (b + 1)) (L_w L, L_c L, L_f L, blA E L (x + 1)) := by
      refine (h.setT (j := 1) x (nbA E L x) (by omega) hx6).cg fun k hk j hj => ?_
      show upT (blA E L x) x 1 (nbA E L x) k j = blA E L (x + 1) k j
      rw [upT_at, blA_at, blA_at]
      by_cases q1 : j = 1
      · subst q1
        by_cases q2 : k = x
        · subst q2
          rw [if_pos ⟨rfl, rfl⟩, if_pos ⟨rfl, by omega⟩]
        · rw [if_neg (fun q => q2 q.1)]
          by_cases q3 : k < x
          · rw [if_pos ⟨rfl, q3⟩, if_pos ⟨rfl, by omega⟩]
          · rw [if_neg (by omega), if_neg (by omega)]
      · rw [if_neg (by omega), if_neg (by omega), if_neg (by omega)]
    have hcf : MF b U (up2 U (b + 1) (8 + 5 * x + 1) (nI (nbA E L x))) := MF.up (by omega) (by omega)
    obtain ⟨U', g1, g2, g3, g4⟩ := ih (x + 1) f (by omega) (by omega) (hE.mf hcf) h'
    refine ⟨U', ?_, g2, hcf.tr g3, by rw [g4, w_idx (by omega)]⟩
    unfold lX9_goesWith_65
    rcases bt_01 (L_f L) x with q | q
    · have e4 : nbA E L x = min 99 (L_t L x 1 + swl E L x) := by unfold nbA; rw [if_neg (by omega)]
      rw [e4] at g1
      simp (disch := omega) only [h0, e3, q, t1', e1, e_ls, g1, letv, o_b, ↓reduceIte, e_sub, e_add, e_mul, e_ld, e_st, e_lt, e_nlt, e_le, e_nle, e_eq, e_neq, e_div, e_rem, m_lt, m_le, m_eq, m_eq2, m_ng, o_ld, true_and, and_true, Nat.one_ne_zero, Nat.zero_ne_one, Nat.reduceEqDiff, Bool.false_eq_true, not_true_eq_false, not_false_eq_true, li_0, li_1, li_2, li_3, li_4, li_5, li_6, li_7, li_8, li_9, li_10, li_11, li_12, li_13, li_14, li_15, li_16, li_20, li_23, li_25, li_30, li_31, li_32, li_38, li_40, li_41, li_44, li_48, li_50, li_51, li_52, li_57, li_59, li_60, li_61, li_62, li_63, li_66, li_81, li_94, li_97, li_98, li_99, li_100, li_101, li_103, li_104, li_105, li_107, li_108, li_109, li_110, li_111, li_112, li_114, li_115, li_116, li_117, li_118, li_122, li_200, li_572, li_600, li_9999, li_10000, li_12345, li_1103515245]
    · have e4 : nbA E L x = 0 := by unfold nbA; rw [if_pos q]
      rw [e4] at g1
      simp (disch := omega) only [h0, e3, q, g1, letv, o_b, ↓reduceIte, e_sub, e_add, e_mul, e_ld, e_st, e_lt, e_nlt, e_le, e_nle, e_eq, e_neq, e_div, e_rem, m_lt, m_le, m_eq, m_eq2, m_ng, o_ld, true_and, and_true, Nat.one_ne_zero, Nat.zero_ne_one, Nat.reduceEqDiff, Bool.false_eq_true, not_true_eq_false, not_false_eq_true, li_0, li_1, li_2, li_3, li_4, li_5, li_6, li_7, li_8, li_9, li_10, li_11, li_12, li_13, li_14, li_15, li_16, li_20, li_23, li_25, li_30, li_31, li_32, li_38, li_40, li_41, li_44, li_48, li_50, li_51, li_52, li_57, li_59, li_60, li_61, li_62, li_63, li_66, li_81, li_94, li_97, li_98, li_99, li_100, li_101, li_103, li_104, li_105, li_107, li_108, li_109, li_110, li_111, li_112, li_114, li_115, li_116, li_117, li_118, li_122, li_200, li_572, li_600, li_9999, li_10000, li_12345, li_1103515245]
theorem m_goes (hn : 1000 ≤ n) (hE : ME (U (b + 1)) E) (hi : IE E) (h : MC (U (b + 1)) L) (hL : IL L) {t : Nat} (ht : t ≤ L_c L) : ∃ U', pX9_goesWith n U b (nI t) = some (nI (goW E L t), U') ∧ MC (U' (b + 1)) (goL E L t) ∧ MF b U U' ∧ U' (b + 1) 3 = U (b + 1) 3 + nI (goW E L t) := by
  have hc := hL.2.1
  have hs := sgh_le E L
  have hw := hL.1
  have hir := irA_le hi (L_w L)
  obtain ⟨V1, a1, a2, a3, a4⟩ : ∃ V1, ((if nI t - 1 < (0 : Int32) then some (0, U) else (pX9_its U b (nI t - 1) 4).bind fun q3 => if q3 = 0 then (pX9_will n U b (nI t - 1)).bind fun q4 => (pX9_does n U b (nI t - 1) q4).bind fun q5 => some (q5.1, q5.2) else some (0, U)) : Option (Int32 × V2)) = some (nI (toA E L t).1, V1) ∧ MC (V1 (b + 1)) (toA E L t).2 ∧ MF b U V1 ∧ V1 (b + 1) 3 = U (b + 1) 3 := by
    by_cases q : t = 0
    · subst q
      exact ⟨U, by simp only [li_0, li_1, m_01, ↓reduceIte]; rfl, h, MF.rf, rfl⟩
    · have e : toA E L t = dwA E L (t - 1) := by unfold toA; rw [if_neg q]
      rw [e]
      rcases bt_01 (L_f L) (t - 1) with q1 | q1
      · obtain ⟨V1, b1, b2, b3, b4⟩ := m_does hn hE hi h hL (k := t - 1) (by omega) q1
        refine ⟨V1, ?_, b2, b3, b4⟩
        simp (disch := omega) only [m_its4 h (show t - 1 < 6 by omega), q1, m_will hn hE hi h hL (show t - 1 < 6 by omega), b1, letv, o_b, ↓reduceIte, e_sub, e_add, e_mul, e_ld, e_st, e_lt, e_nlt, e_le, e_nle, e_eq, e_neq, e_div, e_rem, m_lt, m_le, m_eq, m_eq2, m_ng, o_ld, true_and, and_true, Nat.one_ne_zero, Nat.zero_ne_one, Nat.reduceEqDiff, Bool.false_eq_true, not_true_eq_false, not_false_eq_true, li_0, li_1, li_2, li_3, li_4, li_5, li_6, li_7, li_8, li_9, li_10, li_11, li_12, li_13, li_14, li_15, li_16, li_20, li_23, li_25, li_30, li_31, li_32, li_38, li_40, li_41, li_44, li_48, li_50, li_51, li_52, li_57, li_59, li_60, li_61, li_62, li_63, li_66, li_81, li_94, li_97, li_98, li_99, li_100, li_101, li_103, li_104, li_105, li_107, li_108, li_109, li_110, li_111, li_112, li_114, li_115, li_116, li_117, li_118, li_122, li_200, li_572, li_600, li_9999, li_10000, li_12345, li_1103515245]
      · have e2 : dwA E L (t - 1) = (0, L) := by unfold dwA; rw [if_pos q1]
        rw [e2]
        refine ⟨U, ?_, h, MF.rf, rfl⟩
        simp (disch := omega) only [m_its4 h (show t - 1 < 6 by omega), q1, letv, o_b, ↓reduceIte, e_sub, e_add, e_mul, e_ld, e_st, e_lt, e_nlt, e_le, e_nle, e_eq, e_neq, e_div, e_rem, m_lt, m_le, m_eq, m_eq2, m_ng, o_ld, true_and, and_true, Nat.one_ne_zero, Nat.zero_ne_one, Nat.reduceEqDiff, Bool.false_eq_true, not_true_eq_false, not_false_eq_true, li_0, li_1, li_2, li_3, li_4, li_5, li_6, li_7, li_8, li_9, li_10, li_11, li_12, li_13, li_14, li_15, li_16, li_20, li_23, li_25, li_30, li_31, li_32, li_38, li_40, li_41, li_44, li_48, li_50, li_51, li_52, li_57, li_59, li_60, li_61, li_62, li_63, li_66, li_81, li_94, li_97, li_98, li_99, li_100, li_101, li_103, li_104, li_105, li_107, li_108, li_109, li_110, li_111, li_112, li_114, li_115, li_116, li_117, li_118, li_122, li_200, li_572, li_600, li_9999, li_10000, li_12345, li_1103515245]
  have hE1 := hE.mf a3
  have hL1 := toA_IL (E := E) hL ht
  obtain ⟨W2, b1, b2, b3, b4⟩ : ∃ W2, ((if nI (sgh E L) = (3 : Int32) then (pX9_isUndone n V1 b).bind fun q5 => some q5 else some V1) : Option V2) = some W2 ∧ MC (W2 (b + 1)) (g2A E L t) ∧ MF b V1 W2 ∧ W2 (b + 1) 3 = V1 (b + 1) 3 := by
    unfold g2A
    by_cases q : sgh E L = 3
    · obtain ⟨W2, c1, c2, c3, c4⟩ := m_undo hn a2 hL1
      refine ⟨W2, ?_, ?_, c3, c4⟩
      · simp (disch := omega) only [q, c1, letv, o_b, ↓reduceIte, e_sub, e_add, e_mul, e_ld, e_st, e_lt, e_nlt, e_le, e_nle, e_eq, e_neq, e_div, e_rem, m_lt, m_le, m_eq, m_eq2, m_ng, o_ld, true_and, and_true, Nat.one_ne_zero, Nat.zero_ne_one, Nat.reduceEqDiff, Bool.false_eq_true, not_true_eq_false, not_false_eq_true, li_0, li_1, li_2, li_3, li_4, li_5, li_6, li_7, li_8, li_9, li_10, li_11, li_12, li_13, li_14, li_15, li_16, li_20, li_23, li_25, li_30, li_31, li_32, li_38, li_40, li_41, li_44, li_48, li_50, li_51, li_52, li_57, li_59, li_60, li_61, li_62, li_63, li_66, li_81, li_94, li_97, li_98, li_99, li_100, li_101, li_103, li_104, li_105, li_107, li_108, li_109, li_110, li_111, li_112, li_114, li_115, li_116, li_117, li_118, li_122, li_200, li_572, li_600, li_9999, li_10000, li_12345, li_1103515245]
      · rw [if_pos q]; exact c2
    · refine ⟨V1, ?_, ?_, MF.rf, rfl⟩
      · simp (disch := omega) only [q, letv, o_b, ↓reduceIte, e_sub, e_add, e_mul, e_ld, e_st, e_lt, e_nlt, e_le, e_nle, e_eq, e_neq, e_div, e_rem, m_lt, m_le, m_eq, m_eq2, m_ng, o_ld, true_and, and_true, Nat.one_ne_zero, Nat.zero_ne_one, Nat.reduceEqDiff, Bool.false_eq_true, not_true_eq_false, not_false_eq_true, li_0, li_1, li_2, li_3, li_4, li_5, li_6, li_7, li_8, li_9, li_10, li_11, li_12, li_13, li_14, li_15, li_16, li_20, li_23, li_25, li_30, li_31, li_32, li_38, li_40, li_41, li_44, li_48, li_50, li_51, li_52, li_57, li_59, li_60, li_61, li_62, li_63, li_66, li_81, li_94, li_97, li_98, li_99, li_100, li_101, li_103, li_104, li_105, li_107, li_108, li_109, li_110, li_111, li_112, li_114, li_115, li_116, li_117, li_118, li_122, li_200, li_572, li_600, li_9999, li_10000, li_12345, li_1103515245]
      · rw [if_neg q]; exact a2
  have hE2 := hE1.mf b3
  have hL2 := g2A_IL (E := E) hL ht
  obtain ⟨w2, c2⟩ := g2A_wc (E := E) (L := L) (a := t)
  obtain ⟨V3, d1, d2, d3, d4⟩ := m_go_l (b := b) hi hL2 (L_c L) 0 n (by omega) (by omega) hE2 ((show MC (W2 (b + 1)) (L_w (g2A E L t), L_c (g2A E L t), L_f (g2A E L t), L_t (g2A E L t)) from b2).cg (t' := blA E (g2A E L t) 0) fun k _ j _ => by rw [blA_at, if_neg (by omega)])
  rw [c2] at d2
  have e4 : V3 (b + 1) 1 = nI (L_w L) := by rw [d2.1]; show nI (L_w (g2A E L t)) = _; rw [w2]
  have e5 : V1 (b + 1) 1 = nI (L_w L) := by rw [a2.1, (toA_wc (E := E) (L := L) (a := t)).1]
  have e6 : pX9_ironOf V1 b (nI (L_w L)) = some (nI (irA E (L_w L))) := m_iron hE1 (by omega)
  have es : irA E (L_w L) % 4 = sgh E L := rfl
  refine ⟨up2 (up2 V3 (b + 1) 1 (nI (L_w L + 1))) (b + 1) 3 (V3 (b + 1) 3 + nI (goW E L t)), ?_, ?_, (((a3.tr b3).tr d3).tr (MF.up (by omega) (by omega))).tr (MF.up (by omega) (by omega)), ?_⟩
  · unfold pX9_goesWith
    simp only [letv]
    rw [a1]
    have e7 : jrem (nI (irA E (L_w L))) 4 = nI (sgh E L) := by rw [li_4, e_rem (by omega) (by omega), es]
    have e8 : ∀ f : Nat → Int32, ldI 572 f 1 = some (f 1) := fun f => e_ld (k := 1) (by omega) (by omega)
    have e9 : ∀ f : Nat → Int32, ldI 572 f 3 = some (f 3) := fun f => e_ld (k := 3) (by omega) (by omega)
    simp only [o_b, e8, e5, e6, e7]
    rw [b1]
    simp only [o_b, li_0]
    rw [m_flats hn b2 hL2]
    simp only [o_b]
    rw [m_size hn hL2.2.2.1]
    simp only [o_b]
    rw [d1]
    simp (disch := omega) only [li_1, li_3, o_b, e_ld, e_st, e4, e_add, w_idx]
    rfl
  · have : MC (up2 V3 (b + 1) 1 (nI (L_w L + 1)) (b + 1)) (goL E L t) := by
      obtain ⟨m1, m2, m3⟩ := d2
      refine ⟨w_same, by rw [w_idx (by omega)]; exact m2, fun k hk => ?_⟩
      rw [w_idx (by omega), w_idx (by omega), w_idx (by omega), w_idx (by omega), w_idx (by omega)]
      exact m3 k hk
    exact this.fr fun i hi => w_idx (by omega)
  · rw [w_same, d4, b4, a4]
end M1
