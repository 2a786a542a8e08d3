/-! words, as the reference tells them -/
theorem wA_el (t : List Nat) : (t = [116, 104, 105, 110, 103] ∧ wA t = 1) ∨ (t = [99, 111, 112, 112, 101, 114] ∧ wA t = 2) ∨ (t = [99, 111, 97, 116] ∧ wA t = 3) ∨ (t = [104, 97, 116] ∧ wA t = 4) ∨ (t = [108, 105, 110, 101, 110] ∧ wA t = 5) ∨ (t = [102, 105, 101, 108, 100] ∧ wA t = 6) ∨ (t = [112, 114, 101, 115, 115] ∧ wA t = 7) ∨ (t = [108, 101, 97, 118, 101] ∧ wA t = 8) ∨ (t = [102, 111, 108, 100] ∧ wA t = 9) ∨ (t = [119, 97, 115, 104] ∧ wA t = 10) ∨ (t = [98, 117, 108, 107] ∧ wA t = 11) ∨ (t = [99, 114, 101, 97, 115, 101] ∧ wA t = 12) ∨ (t = [115, 116, 101, 97, 109] ∧ wA t = 13) ∨ (t = [110, 117, 109, 98, 101, 114] ∧ wA t = 14) ∨ (t = [105, 102] ∧ wA t = 15) ∨ (t = [111, 114] ∧ wA t = 16) ∨ (t = [97, 110, 100] ∧ wA t = 17) ∨ (t = [110, 111, 116] ∧ wA t = 18) ∨ ((t ≠ [116, 104, 105, 110, 103] ∧ t ≠ [99, 111, 112, 112, 101, 114] ∧ t ≠ [99, 111, 97, 116] ∧ t ≠ [104, 97, 116] ∧ t ≠ [108, 105, 110, 101, 110] ∧ t ≠ [102, 105, 101, 108, 100] ∧ t ≠ [112, 114, 101, 115, 115] ∧ t ≠ [108, 101, 97, 118, 101] ∧ t ≠ [102, 111, 108, 100] ∧ t ≠ [119, 97, 115, 104] ∧ t ≠ [98, 117, 108, 107] ∧ t ≠ [99, 114, 101, 97, 115, 101] ∧ t ≠ [115, 116, 101, 97, 109] ∧ t ≠ [110, 117, 109, 98, 101, 114] ∧ t ≠ [105, 102] ∧ t ≠ [111, 114] ∧ t ≠ [97, 110, 100] ∧ t ≠ [110, 111, 116]) ∧ wA t = 0) := by
  by_cases h1 : t = [116, 104, 105, 110, 103]
  · exact Or.inl ⟨h1, by rw [h1]; rfl⟩
  by_cases h2 : t = [99, 111, 112, 112, 101, 114]
  · exact Or.inr (Or.inl ⟨h2, by rw [h2]; rfl⟩)
  by_cases h3 : t = [99, 111, 97, 116]
  · exact Or.inr (Or.inr (Or.inl ⟨h3, by rw [h3]; rfl⟩))
  by_cases h4 : t = [104, 97, 116]
  · exact Or.inr (Or.inr (Or.inr (Or.inl ⟨h4, by rw [h4]; rfl⟩)))
  by_cases h5 : t = [108, 105, 110, 101, 110]
  · exact Or.inr (Or.inr (Or.inr (Or.inr (Or.inl ⟨h5, by rw [h5]; rfl⟩))))
  by_cases h6 : t = [102, 105, 101, 108, 100]
  · exact Or.inr (Or.inr (Or.inr (Or.inr (Or.inr (Or.inl ⟨h6, by rw [h6]; rfl⟩)))))
  by_cases h7 : t = [112, 114, 101, 115, 115]
  · exact Or.inr (Or.inr (Or.inr (Or.inr (Or.inr (Or.inr (Or.inl ⟨h7, by rw [h7]; rfl⟩))))))
  by_cases h8 : t = [108, 101, 97, 118, 101]
  · exact Or.inr (Or.inr (Or.inr (Or.inr (Or.inr (Or.inr (Or.inr (Or.inl ⟨h8, by rw [h8]; rfl⟩)))))))
  by_cases h9 : t = [102, 111, 108, 100]
  · exact Or.inr (Or.inr (Or.inr (Or.inr (Or.inr (Or.inr (Or.inr (Or.inr (Or.inl ⟨h9, by rw [h9]; rfl⟩))))))))
  by_cases h10 : t = [119, 97, 115, 104]
  · exact Or.inr (Or.inr (Or.inr (Or.inr (Or.inr (Or.inr (Or.inr (Or.inr (Or.inr (Or.inl ⟨h10, by rw [h10]; rfl⟩)))))))))
  by_cases h11 : t = [98, 117, 108, 107]
  · exact Or.inr (Or.inr (Or.inr (Or.inr (Or.inr (Or.inr (Or.inr (Or.inr (Or.inr (Or.inr (Or.inl ⟨h11, by rw [h11]; rfl⟩))))))))))
  by_cases h12 : t = [99, 114, 101, 97, 115, 101]
  · exact Or.inr (Or.inr (Or.inr (Or.inr (Or.inr (Or.inr (Or.inr (Or.inr (Or.inr (Or.inr (Or.inr (Or.inl ⟨h12, by rw [h12]; rfl⟩)))))))))))
  by_cases h13 : t = [115, 116, 101, 97, 109]
  · exact Or.inr (Or.inr (Or.inr (Or.inr (Or.inr (Or.inr (Or.inr (Or.inr (Or.inr (Or.inr (Or.inr (Or.inr (Or.inl ⟨h13, by rw [h13]; rfl⟩))))))))))))
  by_cases h14 : t = [110, 117, 109, 98, 101, 114]
  · exact Or.inr (Or.inr (Or.inr (Or.inr (Or.inr (Or.inr (Or.inr (Or.inr (Or.inr (Or.inr (Or.inr (Or.inr (Or.inr (Or.inl ⟨h14, by rw [h14]; rfl⟩)))))))))))))
  by_cases h15 : t = [105, 102]
  · exact Or.inr (Or.inr (Or.inr (Or.inr (Or.inr (Or.inr (Or.inr (Or.inr (Or.inr (Or.inr (Or.inr (Or.inr (Or.inr (Or.inr (Or.inl ⟨h15, by rw [h15]; rfl⟩))))))))))))))
  by_cases h16 : t = [111, 114]
  · exact Or.inr (Or.inr (Or.inr (Or.inr (Or.inr (Or.inr (Or.inr (Or.inr (Or.inr (Or.inr (Or.inr (Or.inr (Or.inr (Or.inr (Or.inr (Or.inl ⟨h16, by rw [h16]; rfl⟩)))))))))))))))
  by_cases h17 : t = [97, 110, 100]
  · exact Or.inr (Or.inr (Or.inr (Or.inr (Or.inr (Or.inr (Or.inr (Or.inr (Or.inr (Or.inr (Or.inr (Or.inr (Or.inr (Or.inr (Or.inr (Or.inr (Or.inl ⟨h17, by rw [h17]; rfl⟩))))))))))))))))
  by_cases h18 : t = [110, 111, 116]
  · exact Or.inr (Or.inr (Or.inr (Or.inr (Or.inr (Or.inr (Or.inr (Or.inr (Or.inr (Or.inr (Or.inr (Or.inr (Or.inr (Or.inr (Or.inr (Or.inr (Or.inr (Or.inl ⟨h18, by rw [h18]; rfl⟩)))))))))))))))))
  exact Or.inr (Or.inr (Or.inr (Or.inr (Or.inr (Or.inr (Or.inr (Or.inr (Or.inr (Or.inr (Or.inr (Or.inr (Or.inr (Or.inr (Or.inr (Or.inr (Or.inr (Or.inr (⟨⟨h1, h2, h3, h4, h5, h6, h7, h8, h9, h10, h11, h12, h13, h14, h15, h16, h17, h18⟩, by unfold wA; rw [if_neg h1, if_neg h2, if_neg h3, if_neg h4, if_neg h5, if_neg h6, if_neg h7, if_neg h8, if_neg h9, if_neg h10, if_neg h11, if_neg h12, if_neg h13, if_neg h14, if_neg h15, if_neg h16, if_neg h17, if_neg h18]⟩))))))))))))))))))
theorem wA_15 (t : List Nat) : wA t = 15 ↔ t = [105, 102] := by
  refine ⟨fun h => ?_, fun h => by rw [h]; rfl⟩
  rcases wA_el t with ⟨r, e⟩ | ⟨r, e⟩ | ⟨r, e⟩ | ⟨r, e⟩ | ⟨r, e⟩ | ⟨r, e⟩ | ⟨r, e⟩ | ⟨r, e⟩ | ⟨r, e⟩ | ⟨r, e⟩ | ⟨r, e⟩ | ⟨r, e⟩ | ⟨r, e⟩ | ⟨r, e⟩ | ⟨r, e⟩ | ⟨r, e⟩ | ⟨r, e⟩ | ⟨r, e⟩ | ⟨⟨h1, h2, h3, h4, h5, h6, h7, h8, h9, h10, h11, h12, h13, h14, h15, h16, h17, h18⟩, e⟩
  · omega
  · omega
  · omega
  · omega
  · omega
  · omega
  · omega
  · omega
  · omega
  · omega
  · omega
  · omega
  · omega
  · omega
  · exact r
  · omega
  · omega
  · omega
  · omega
theorem wA_16 (t : List Nat) : wA t = 16 ↔ t = [111, 114] := by
  refine ⟨fun h => ?_, fun h => by rw [h]; rfl⟩
  rcases wA_el t with ⟨r, e⟩ | ⟨r, e⟩ | ⟨r, e⟩ | ⟨r, e⟩ | ⟨r, e⟩ | ⟨r, e⟩ | ⟨r, e⟩ | ⟨r, e⟩ | ⟨r, e⟩ | ⟨r, e⟩ | ⟨r, e⟩ | ⟨r, e⟩ | ⟨r, e⟩ | ⟨r, e⟩ | ⟨r, e⟩ | ⟨r, e⟩ | ⟨r, e⟩ | ⟨r, e⟩ | ⟨⟨h1, h2, h3, h4, h5, h6, h7, h8, h9, h10, h11, h12, h13, h14, h15, h16, h17, h18⟩, e⟩
  · omega
  · omega
  · omega
  · omega
  · omega
  · omega
  · omega
  · omega
  · omega
  · omega
  · omega
  · omega
  · omega
  · omega
  · omega
  · exact r
  · omega
  · omega
  · omega
theorem wA_17 (t : List Nat) : wA t = 17 ↔ t = [97, 110, 100] := by
  refine ⟨fun h => ?_, fun h => by rw [h]; rfl⟩
  rcases wA_el t with ⟨r, e⟩ | ⟨r, e⟩ | ⟨r, e⟩ | ⟨r, e⟩ | ⟨r, e⟩ | ⟨r, e⟩ | ⟨r, e⟩ | ⟨r, e⟩ | ⟨r, e⟩ | ⟨r, e⟩ | ⟨r, e⟩ | ⟨r, e⟩ | ⟨r, e⟩ | ⟨r, e⟩ | ⟨r, e⟩ | ⟨r, e⟩ | ⟨r, e⟩ | ⟨r, e⟩ | ⟨⟨h1, h2, h3, h4, h5, h6, h7, h8, h9, h10, h11, h12, h13, h14, h15, h16, h17, h18⟩, e⟩
  · omega
  · omega
  · omega
  · omega
  · omega
  · omega
  · omega
  · omega
  · omega
  · omega
  · omega
  · omega
  · omega
  · omega
  · omega
  · omega
  · exact r
  · omega
  · omega
theorem wA_18 (t : List Nat) : wA t = 18 ↔ t = [110, 111, 116] := by
  refine ⟨fun h => ?_, fun h => by rw [h]; rfl⟩
  rcases wA_el t with ⟨r, e⟩ | ⟨r, e⟩ | ⟨r, e⟩ | ⟨r, e⟩ | ⟨r, e⟩ | ⟨r, e⟩ | ⟨r, e⟩ | ⟨r, e⟩ | ⟨r, e⟩ | ⟨r, e⟩ | ⟨r, e⟩ | ⟨r, e⟩ | ⟨r, e⟩ | ⟨r, e⟩ | ⟨r, e⟩ | ⟨r, e⟩ | ⟨r, e⟩ | ⟨r, e⟩ | ⟨⟨h1, h2, h3, h4, h5, h6, h7, h8, h9, h10, h11, h12, h13, h14, h15, h16, h17, h18⟩, e⟩
  · omega
  · omega
  · omega
  · omega
  · omega
  · omega
  · omega
  · omega
  · omega
  · omega
  · omega
  · omega
  · omega
  · omega
  · omega
  · omega
  · omega
  · exact r
  · omega
def kdA (w : Nat) : Nat := if 1 ≤ w ∧ w ≤ 6 then w else 0
def doA (w : Nat) : Nat := if 7 ≤ w ∧ w ≤ 9 then w - 6 else 0
def ftA (w : Nat) : Nat := if 10 ≤ w ∧ w ≤ 14 then w - 9 else 0
theorem l_2 {t : List Nat} {a c : Nat} : (t.length = 2 ∧ t[0]? = some a ∧ t[1]? = some c) ↔ t = [a, c] := by
  constructor
  · rintro ⟨h, h0, h1⟩
    match t, h with
    | [t0, t1], _ => simp_all
  · intro h; subst h; simp
theorem l_3 {t : List Nat} {a c d : Nat} : (t.length = 3 ∧ t[0]? = some a ∧ t[1]? = some c ∧ t[2]? = some d ∧ t[3 - 1]? = some d) ↔ t = [a, c, d] := by
  constructor
  · rintro ⟨h, h0, h1, h2, h3⟩
    match t, h with
    | [t0, t1, t2], _ => simp_all
  · intro h; subst h; simp
theorem l_4 {t : List Nat} {a c d e : Nat} : (t.length = 4 ∧ t[0]? = some a ∧ t[1]? = some c ∧ t[2]? = some d ∧ t[4 - 1]? = some e) ↔ t = [a, c, d, e] := by
  constructor
  · rintro ⟨h, h0, h1, h2, h3⟩
    match t, h with
    | [t0, t1, t2, t3], _ => simp_all
  · intro h; subst h; simp
theorem l_5 {t : List Nat} {a c d x e : Nat} : ((t.length = 5 ∧ t[0]? = some a ∧ t[1]? = some c ∧ t[2]? = some d ∧ t[5 - 1]? = some e) ∧ t[3]? = some x) ↔ t = [a, c, d, x, e] := by
  constructor
  · rintro ⟨⟨h, h0, h1, h2, h3⟩, h4⟩
    match t, h with
    | [t0, t1, t2, t3, t4], _ => simp_all
  · intro h; subst h; simp
theorem l_6 {t : List Nat} {a c d x y e : Nat} : ((t.length = 6 ∧ t[0]? = some a ∧ t[1]? = some c ∧ t[2]? = some d ∧ t[6 - 1]? = some e) ∧ t[3]? = some x ∧ t[4]? = some y) ↔ t = [a, c, d, x, y, e] := by
  constructor
  · rintro ⟨⟨h, h0, h1, h2, h3⟩, h4, h5⟩
    match t, h with
    | [t0, t1, t2, t3, t4, t5], _ => simp_all
  · intro h; subst h; simp
def NmA (t : List Nat) (l a c d e : Nat) : Prop := t.length = l ∧ t[0]? = some a ∧ t[1]? = some c ∧ t[2]? = some d ∧ t[l - 1]? = some e
section X4
variable {n r b tz p : Nat} {tp : Nat → Nat} {V U : V2}
theorem tl_get (h : tkA tz tp p = 1) {j : Nat} (hj : tfA tz tp p + j < ttA tz tp p) : (tyL tz tp p)[j]? = some (tp (tfA tz tp p + j)) := by
  unfold tyL
  rw [if_pos h, tk_get, if_pos (by omega)]
theorem tl_len : (tyL tz tp p).length = if tkA tz tp p = 1 then ttA tz tp p - tfA tz tp p else 0 := by
  unfold tyL
  by_cases h : tkA tz tp p = 1
  · rw [if_pos h, if_pos h, tk_len]
  · rw [if_neg h, if_neg h]; rfl
theorem tl_wA (hw : wA (tyL tz tp p) ≠ 0) : tkA tz tp p = 1 := by
  by_cases h : tkA tz tp p = 1
  · exact h
  · exact absurd (by unfold tyL; rw [if_neg h]; rfl) hw
theorem m_name (hB : TB tz tp) (hM : TaM b tz tp U) (hp : p ≤ tz) (hT : ToM b tz tp U p) {l a c d e : Nat} {l' a' c' d' e' : Int32} (hl : l' = nI l) (ha : a' = nI a) (hc : c' = nI c) (hd : d' = nI d) (he : e' = nI e) (h3 : 3 ≤ l ∧ l ≤ 10) (hb : a < 256 ∧ c < 256 ∧ d < 256 ∧ e < 256) : (NmA (tyL tz tp p) l a c d e ∧ pX9_isName U b l' a' c' d' e' = some (nI 1)) ∨ (¬ NmA (tyL tz tp p) l a c d e ∧ pX9_isName U b l' a' c' d' e' = some (nI 0)) := by
  subst hl ha hc hd he
  obtain ⟨hz, hy⟩ := hB
  obtain ⟨b1, b2, b3, b4⟩ := hb
  obtain ⟨t7, t8, t6, -⟩ := hT
  have f1 := tf_le (tp := tp) hp
  have f2 := tt_le (tp := tp) hp
  have s3 : tkA tz tp p ≤ 3 := tc_3 _ _ _
  unfold pX9_isName
  by_cases q : tkA tz tp p = 1
  · have hs : nI (ttA tz tp p) - nI (tfA tz tp p) = nI (ttA tz tp p - tfA tz tp p) := e_sub f2.1
    by_cases ql : ttA tz tp p - tfA tz tp p = l
    · have by0 := m_byte hM ⟨hz, hy⟩ (i := tfA tz tp p) (by omega)
      have by1 := m_byte hM ⟨hz, hy⟩ (i := tfA tz tp p + 1) (by omega)
      have by2 := m_byte hM ⟨hz, hy⟩ (i := tfA tz tp p + 2) (by omega)
      have by3 := m_byte hM ⟨hz, hy⟩ (i := ttA tz tp p - 1) (by omega)
      rw [if_pos (by omega)] at by0 by1 by2 by3
      have g0 := tl_get q (j := 0) (by omega)
      have g1 := tl_get q (j := 1) (by omega)
      have g2 := tl_get q (j := 2) (by omega)
      have g3 := tl_get q (j := l - 1) (by omega)
      have y0 := hy (tfA tz tp p) (by omega)
      have y1 := hy (tfA tz tp p + 1) (by omega)
      have y2 := hy (tfA tz tp p + 2) (by omega)
      have y3 := hy (ttA tz tp p - 1) (by omega)
      rw [show tfA tz tp p + (l - 1) = ttA tz tp p - 1 by omega] at g3
      rw [Nat.add_zero] at g0
      by_cases w0 : tp (tfA tz tp p) = a
      · by_cases w1 : tp (tfA tz tp p + 1) = c
        · by_cases w2 : tp (tfA tz tp p + 2) = d
          · by_cases w3 : tp (ttA tz tp p - 1) = e
            · refine Or.inl ⟨⟨by rw [tl_len, if_pos q, ql], by rw [g0, w0], by rw [g1, w1], by rw [g2, w2], by rw [g3, w3]⟩, ?_⟩
              simp (disch := omega) only [t7, t8, t6, q, hs, ql, by0, by1, by2, by3, w0, w1, w2, w3, letv, o_b, ↓reduceIte, e_sub, e_add, e_mul, e_ld, e_st, e_lt, e_nlt, e_le, e_nle, e_eq, e_neq, e_div, e_rem, m_lt, m_le, m_eq, m_eq2, m_ng, o_ld, true_and, and_true, Nat.one_ne_zero, Nat.zero_ne_one, Nat.reduceEqDiff, Bool.false_eq_true, not_true_eq_false, not_false_eq_true, li_0, li_1, li_2, li_3, li_4, li_5, li_6, li_7, li_8, li_9, li_10, li_11, li_12, li_13, li_14, li_15, li_16, li_20, li_23, li_25, li_30, li_31, li_32, li_38, li_40, li_41, li_44, li_48, li_50, li_51, li_52, li_57, li_59, li_60, li_61, li_62, li_63, li_66, li_81, li_94, li_97, li_98, li_99, li_100, li_101, li_103, li_104, li_105, li_107, li_108, li_109, li_110, li_111, li_112, li_114, li_115, li_116, li_117, li_118, li_122, li_200, li_572, li_600, li_9999, li_10000, li_12345, li_1103515245]
            · refine Or.inr ⟨fun N => w3 (by have := N.2.2.2.2; rw [g3] at this; exact Option.some.inj this), ?_⟩
              simp (disch := omega) only [t7, t8, t6, q, hs, ql, by0, by1, by2, by3, w0, w1, w2, w3, letv, o_b, ↓reduceIte, e_sub, e_add, e_mul, e_ld, e_st, e_lt, e_nlt, e_le, e_nle, e_eq, e_neq, e_div, e_rem, m_lt, m_le, m_eq, m_eq2, m_ng, o_ld, true_and, and_true, Nat.one_ne_zero, Nat.zero_ne_one, Nat.reduceEqDiff, Bool.false_eq_true, not_true_eq_false, not_false_eq_true, li_0, li_1, li_2, li_3, li_4, li_5, li_6, li_7, li_8, li_9, li_10, li_11, li_12, li_13, li_14, li_15, li_16, li_20, li_23, li_25, li_30, li_31, li_32, li_38, li_40, li_41, li_44, li_48, li_50, li_51, li_52, li_57, li_59, li_60, li_61, li_62, li_63, li_66, li_81, li_94, li_97, li_98, li_99, li_100, li_101, li_103, li_104, li_105, li_107, li_108, li_109, li_110, li_111, li_112, li_114, li_115, li_116, li_117, li_118, li_122, li_200, li_572, li_600, li_9999, li_10000, li_12345, li_1103515245]
          · refine Or.inr ⟨fun N => w2 (by have := N.2.2.2.1; rw [g2] at this; exact Option.some.inj this), ?_⟩
            simp (disch := omega) only [t7, t8, t6, q, hs, ql, by0, by1, by2, by3, w0, w1, w2, letv, o_b, ↓reduceIte, e_sub, e_add, e_mul, e_ld, e_st, e_lt, e_nlt, e_le, e_nle, e_eq, e_neq, e_div, e_rem, m_lt, m_le, m_eq, m_eq2, m_ng, o_ld, true_and, and_true, Nat.one_ne_zero, Nat.zero_ne_one, Nat.reduceEqDiff, Bool.false_eq_true, not_true_eq_false, not_false_eq_true, li_0, li_1, li_2, li_3, li_4, li_5, li_6, li_7, li_8, li_9, li_10, li_11, li_12, li_13, li_14, li_15, li_16, li_20, li_23, li_25, li_30, li_31, li_32, li_38, li_40, li_41, li_44, li_48, li_50, li_51, li_52, li_57, li_59, li_60, li_61, li_62, li_63, li_66, li_81, li_94, li_97, li_98, li_99, li_100, li_101, li_103, li_104, li_105, li_107, li_108, li_109, li_110, li_111, li_112, li_114, li_115, li_116, li_117, li_118, li_122, li_200, li_572, li_600, li_9999, li_10000, li_12345, li_1103515245]
        · refine Or.inr ⟨fun N => w1 (by have := N.2.2.1; rw [g1] at this; exact Option.some.inj this), ?_⟩
          simp (disch := omega) only [t7, t8, t6, q, hs, ql, by0, by1, by2, by3, w0, w1, letv, o_b, ↓reduceIte, e_sub, e_add, e_mul, e_ld, e_st, e_lt, e_nlt, e_le, e_nle, e_eq, e_neq, e_div, e_rem, m_lt, m_le, m_eq, m_eq2, m_ng, o_ld, true_and, and_true, Nat.one_ne_zero, Nat.zero_ne_one, Nat.reduceEqDiff, Bool.false_eq_true, not_true_eq_false, not_false_eq_true, li_0, li_1, li_2, li_3, li_4, li_5, li_6, li_7, li_8, li_9, li_10, li_11, li_12, li_13, li_14, li_15, li_16, li_20, li_23, li_25, li_30, li_31, li_32, li_38, li_40, li_41, li_44, li_48, li_50, li_51, li_52, li_57, li_59, li_60, li_61, li_62, li_63, li_66, li_81, li_94, li_97, li_98, li_99, li_100, li_101, li_103, li_104, li_105, li_107, li_108, li_109, li_110, li_111, li_112, li_114, li_115, li_116, li_117, li_118, li_122, li_200, li_572, li_600, li_9999, li_10000, li_12345, li_1103515245]
      · refine Or.inr ⟨fun N => w0 (by have := N.2.1; rw [g0] at this; exact Option.some.inj this), ?_⟩
        simp (disch := omega) only [t7, t8, t6, q, hs, ql, by0, by1, by2, by3, w0, letv, o_b, ↓reduceIte, e_sub, e_add, e_mul, e_ld, e_st, e_lt, e_nlt, e_le, e_nle, e_eq, e_neq, e_div, e_rem, m_lt, m_le, m_eq, m_eq2, m_ng, o_ld, true_and, and_true, Nat.one_ne_zero, Nat.zero_ne_one, Nat.reduceEqDiff, Bool.false_eq_true, not_true_eq_false, not_false_eq_true, li_0, li_1, li_2, li_3, li_4, li_5, li_6, li_7, li_8, li_9, li_10, li_11, li_12, li_13, li_14, li_15, li_16, li_20, li_23, li_25, li_30, li_31, li_32, li_38, li_40, li_41, li_44, li_48, li_50, li_51, li_52, li_57, li_59, li_60, li_61, li_62, li_63, li_66, li_81, li_94, li_97, li_98, li_99, li_100, li_101, li_103, li_104, li_105, li_107, li_108, li_109, li_110, li_111, li_112, li_114, li_115, li_116, li_117, li_118, li_122, li_200, li_572, li_600, li_9999, li_10000, li_12345, li_1103515245]
    · refine Or.inr ⟨fun N => ql (by have := N.1; rw [tl_len, if_pos q] at this; exact this), ?_⟩
      simp (disch := omega) only [t7, t8, t6, q, hs, ql, letv, o_b, ↓reduceIte, e_sub, e_add, e_mul, e_ld, e_st, e_lt, e_nlt, e_le, e_nle, e_eq, e_neq, e_div, e_rem, m_lt, m_le, m_eq, m_eq2, m_ng, o_ld, true_and, and_true, Nat.one_ne_zero, Nat.zero_ne_one, Nat.reduceEqDiff, Bool.false_eq_true, not_true_eq_false, not_false_eq_true, li_0, li_1, li_2, li_3, li_4, li_5, li_6, li_7, li_8, li_9, li_10, li_11, li_12, li_13, li_14, li_15, li_16, li_20, li_23, li_25, li_30, li_31, li_32, li_38, li_40, li_41, li_44, li_48, li_50, li_51, li_52, li_57, li_59, li_60, li_61, li_62, li_63, li_66, li_81, li_94, li_97, li_98, li_99, li_100, li_101, li_103, li_104, li_105, li_107, li_108, li_109, li_110, li_111, li_112, li_114, li_115, li_116, li_117, li_118, li_122, li_200, li_572, li_600, li_9999, li_10000, li_12345, li_1103515245]
  · refine Or.inr ⟨fun N => by have := N.1; rw [tl_len, if_neg q] at this; omega, ?_⟩
    simp (disch := omega) only [t6, q, letv, o_b, ↓reduceIte, e_sub, e_add, e_mul, e_ld, e_st, e_lt, e_nlt, e_le, e_nle, e_eq, e_neq, e_div, e_rem, m_lt, m_le, m_eq, m_eq2, m_ng, o_ld, true_and, and_true, Nat.one_ne_zero, Nat.zero_ne_one, Nat.reduceEqDiff, Bool.false_eq_true, not_true_eq_false, not_false_eq_true, li_0, li_1, li_2, li_3, li_4, li_5, li_6, li_7, li_8, li_9, li_10, li_11, li_12, li_13, li_14, li_15, li_16, li_20, li_23, li_25, li_30, li_31, li_32, li_38, li_40, li_41, li_44, li_48, li_50, li_51, li_52, li_57, li_59, li_60, li_61, li_62, li_63, li_66, li_81, li_94, li_97, li_98, li_99, li_100, li_101, li_103, li_104, li_105, li_107, li_108, li_109, li_110, li_111, li_112, li_114, li_115, li_116, li_117, li_118, li_122, li_200, li_572, li_600, li_9999, li_10000, li_12345, li_1103515245]
theorem m_w3 (hB : TB tz tp) (hM : TaM b tz tp U) (hp : p ≤ tz) (hT : ToM b tz tp U p) {a c d : Nat} {l' a' c' d' e' : Int32} (hl : l' = nI 3) (ha : a' = nI a) (hc : c' = nI c) (hd : d' = nI d) (he : e' = nI d) (hb : a < 256 ∧ c < 256 ∧ d < 256) : pX9_isName U b l' a' c' d' e' = some (if tyL tz tp p = [a, c, d] then nI 1 else nI 0) := by
  rcases m_name hB hM hp hT hl ha hc hd he (by omega) ⟨hb.1, hb.2.1, hb.2.2, hb.2.2⟩ with ⟨N, e⟩ | ⟨N, e⟩
  · rw [e, if_pos (l_3.mp N)]
  · rw [e, if_neg (fun q => N (l_3.mpr q))]
theorem m_w4 (hB : TB tz tp) (hM : TaM b tz tp U) (hp : p ≤ tz) (hT : ToM b tz tp U p) {a c d e : Nat} {l' a' c' d' e' : Int32} (hl : l' = nI 4) (ha : a' = nI a) (hc : c' = nI c) (hd : d' = nI d) (he : e' = nI e) (hb : a < 256 ∧ c < 256 ∧ d < 256 ∧ e < 256) : pX9_isName U b l' a' c' d' e' = some (if tyL tz tp p = [a, c, d, e] then nI 1 else nI 0) := by
  rcases m_name hB hM hp hT hl ha hc hd he (by omega) hb with ⟨N, e⟩ | ⟨N, e⟩
  · rw [e, if_pos (l_4.mp N)]
  · rw [e, if_neg (fun q => N (l_4.mpr q))]
theorem bi_if {c : Prop} [Decidable c] {A B : Option Int32} : ((some (if c then nI 1 else nI 0)).bind fun q : Int32 => if q = 0 then B else A) = if c then A else B := by
  by_cases h : c
  · rw [if_pos h, if_pos h]; rfl
  · rw [if_neg h, if_neg h]; rfl
theorem m_w5 (hB : TB tz tp) (hM : TaM b tz tp U) (hp : p ≤ tz) (hT : ToM b tz tp U p) {A B : Option Int32} {a c d x e : Nat} {l' a' c' d' x' e' o' : Int32} (hl : l' = nI 5) (ha : a' = nI a) (hc : c' = nI c) (hd : d' = nI d) (hx : x' = nI x) (he : e' = nI e) (ho : o' = nI 3) (hb : a < 256 ∧ c < 256 ∧ d < 256 ∧ e < 256) (hx2 : x < 256) : ((pX9_isName U b l' a' c' d' e').bind fun q => if q = 0 then B else ((pX9_byteAt U b (U b 7 + o')).bind fun q16 => if q16 = x' then A else B)) = if tyL tz tp p = [a, c, d, x, e] then A else B := by
  rcases m_name hB hM hp hT hl ha hc hd he (by omega) hb with ⟨N, e⟩ | ⟨N, e⟩
  · have f1 := tf_le (tp := tp) hp
    have f2 := tt_le (tp := tp) hp
    have hz := hB.1
    have q : tkA tz tp p = 1 := by
      have := N.1
      rw [tl_len] at this
      split at this
      · assumption
      · omega
    have hlen := N.1
    rw [tl_len, if_pos q] at hlen
    have g3 := tl_get q (j := 3) (by omega)
    have b3 := m_byte hM hB (i := tfA tz tp p + 3) (by omega)
    rw [if_pos (by omega)] at b3
    have y3 := hB.2 (tfA tz tp p + 3) (by omega)
    rw [e, o_b, if_neg (show ¬ nI 1 = (0 : Int32) by decide), hT.1, ho, e_add, b3, o_b, hx]
    by_cases w : tp (tfA tz tp p + 3) = x
    · rw [if_pos (by rw [w]), if_pos (l_5.mp ⟨N, by rw [g3, w]⟩)]
    · rw [if_neg (fun z => w ((nI_eq (by omega) (by omega)).mp z)), if_neg (fun z => w (by have := (l_5.mpr z).2; rw [g3] at this; exact Option.some.inj this))]
  · rw [e, o_b, if_pos (show nI 0 = (0 : Int32) from rfl), if_neg (fun q => N (l_5.mpr q).1)]
theorem m_same (hB : TB tz tp) (hM : TaM b tz tp U) (hp : p ≤ tz) (hT : ToM b tz tp U p) {i x y w : Nat} {i' x' y' w' : Int32} (hi : i' = nI i) (hx : x' = nI x) (hy : y' = nI y) (hw : w' = nI w) (hb : x < 256 ∧ y < 256 ∧ w < 256) (q : tkA tz tp p = 1) (hlen : tfA tz tp p + i + 2 < ttA tz tp p) : ((tp (tfA tz tp p + i) = x ∧ tp (tfA tz tp p + i + 1) = y ∧ tp (tfA tz tp p + i + 2) = w) ∧ pX9_isSame U b i' x' y' w' = some (nI 1)) ∨ (¬ (tp (tfA tz tp p + i) = x ∧ tp (tfA tz tp p + i + 1) = y ∧ tp (tfA tz tp p + i + 2) = w) ∧ pX9_isSame U b i' x' y' w' = some (nI 0)) := by
  subst hi hx hy hw
  have f1 := tf_le (tp := tp) hp
  have f2 := tt_le (tp := tp) hp
  have hz := hB.1
  have by0 := m_byte hM hB (i := tfA tz tp p + i) (by omega)
  have by1 := m_byte hM hB (i := tfA tz tp p + i + 1) (by omega)
  have by2 := m_byte hM hB (i := tfA tz tp p + i + 2) (by omega)
  rw [if_pos (by omega)] at by0 by1 by2
  have y0 := hB.2 (tfA tz tp p + i) (by omega)
  have y1 := hB.2 (tfA tz tp p + i + 1) (by omega)
  have y2 := hB.2 (tfA tz tp p + i + 2) (by omega)
  unfold pX9_isSame
  by_cases w0 : tp (tfA tz tp p + i) = x
  · by_cases w1 : tp (tfA tz tp p + i + 1) = y
    · by_cases w2 : tp (tfA tz tp p + i + 2) = w
      · refine Or.inl ⟨⟨w0, w1, w2⟩, ?_⟩
        simp (disch := omega) only [hT.1, by0, by1, by2, w0, w1, w2, letv, o_b, ↓reduceIte, e_sub, e_add, e_mul, e_ld, e_st, e_lt, e_nlt, e_le, e_nle, e_eq, e_neq, e_div, e_rem, m_lt, m_le, m_eq, m_eq2, m_ng, o_ld, true_and, and_true, Nat.one_ne_zero, Nat.zero_ne_one, Nat.reduceEqDiff, Bool.false_eq_true, not_true_eq_false, not_false_eq_true, li_0, li_1, li_2, li_3, li_4, li_5, li_6, li_7, li_8, li_9, li_10, li_11, li_12, li_13, li_14, li_15, li_16, li_20, li_23, li_25, li_30, li_31, li_32, li_38, li_40, li_41, li_44, li_48, li_50, li_51, li_52, li_57, li_59, li_60, li_61, li_62, li_63, li_66, li_81, li_94, li_97, li_98, li_99, li_100, li_101, li_103, li_104, li_105, li_107, li_108, li_109, li_110, li_111, li_112, li_114, li_115, li_116, li_117, li_118, li_122, li_200, li_572, li_600, li_9999, li_10000, li_12345, li_1103515245]
      · refine Or.inr ⟨fun e => w2 e.2.2, ?_⟩
        simp (disch := omega) only [hT.1, by0, by1, by2, w0, w1, w2, letv, o_b, ↓reduceIte, e_sub, e_add, e_mul, e_ld, e_st, e_lt, e_nlt, e_le, e_nle, e_eq, e_neq, e_div, e_rem, m_lt, m_le, m_eq, m_eq2, m_ng, o_ld, true_and, and_true, Nat.one_ne_zero, Nat.zero_ne_one, Nat.reduceEqDiff, Bool.false_eq_true, not_true_eq_false, not_false_eq_true, li_0, li_1, li_2, li_3, li_4, li_5, li_6, li_7, li_8, li_9, li_10, li_11, li_12, li_13, li_14, li_15, li_16, li_20, li_23, li_25, li_30, li_31, li_32, li_38, li_40, li_41, li_44, li_48, li_50, li_51, li_52, li_57, li_59, li_60, li_61, li_62, li_63, li_66, li_81, li_94, li_97, li_98, li_99, li_100, li_101, li_103, li_104, li_105, li_107, li_108, li_109, li_110, li_111, li_112, li_114, li_115, li_116, li_117, li_118, li_122, li_200, li_572, li_600, li_9999, li_10000, li_12345, li_1103515245]
    · refine Or.inr ⟨fun e => w1 e.2.1, ?_⟩
      simp (disch := omega) only [hT.1, by0, by1, by2, w0, w1, letv, o_b, ↓reduceIte, e_sub, e_add, e_mul, e_ld, e_st, e_lt, e_nlt, e_le, e_nle, e_eq, e_neq, e_div, e_rem, m_lt, m_le, m_eq, m_eq2, m_ng, o_ld, true_and, and_true, Nat.one_ne_zero, Nat.zero_ne_one, Nat.reduceEqDiff, Bool.false_eq_true, not_true_eq_false, not_false_eq_true, li_0, li_1, li_2, li_3, li_4, li_5, li_6, li_7, li_8, li_9, li_10, li_11, li_12, li_13, li_14, li_15, li_16, li_20, li_23, li_25, li_30, li_31, li_32, li_38, li_40, li_41, li_44, li_48, li_50, li_51, li_52, li_57, li_59, li_60, li_61, li_62, li_63, li_66, li_81, li_94, li_97, li_98, li_99, li_100, li_101, li_103, li_104, li_105, li_107, li_108, li_109, li_110, li_111, li_112, li_114, li_115, li_116, li_117, li_118, li_122, li_200, li_572, li_600, li_9999, li_10000, li_12345, li_1103515245]
  · refine Or.inr ⟨fun e => w0 e.1, ?_⟩
    simp (disch := omega) only [hT.1, by0, by1, by2, w0, letv, o_b, ↓reduceIte, e_sub, e_add, e_mul, e_ld, e_st, e_lt, e_nlt, e_le, e_nle, e_eq, e_neq, e_div, e_rem, m_lt, m_le, m_eq, m_eq2, m_ng, o_ld, true_and, and_true, Nat.one_ne_zero, Nat.zero_ne_one, Nat.reduceEqDiff, Bool.false_eq_true, not_true_eq_false, not_false_eq_true, li_0, li_1, li_2, li_3, li_4, li_5, li_6, li_7, li_8, li_9, li_10, li_11, li_12, li_13, li_14, li_15, li_16, li_20, li_23, li_25, li_30, li_31, li_32, li_38, li_40, li_41, li_44, li_48, li_50, li_51, li_52, li_57, li_59, li_60, li_61, li_62, li_63, li_66, li_81, li_94, li_97, li_98, li_99, li_100, li_101, li_103, li_104, li_105, li_107, li_108, li_109, li_110, li_111, li_112, li_114, li_115, li_116, li_117, li_118, li_122, li_200, li_572, li_600, li_9999, li_10000, li_12345, li_1103515245]
theorem m_w6a (hB : TB tz tp) (hM : TaM b tz tp U) (hp : p ≤ tz) (hT : ToM b tz tp U p) {A B : Option Int32} {a c d x y e : Nat} {l' a' c' d' x' y' e' o' : Int32} (hl : l' = nI 6) (ha : a' = nI a) (hc : c' = nI c) (hd : d' = nI d) (hx : x' = nI x) (hy : y' = nI y) (he : e' = nI e) (ho : o' = nI 2) (hb : a < 256 ∧ c < 256 ∧ d < 256 ∧ e < 256) (hb2 : x < 256 ∧ y < 256) : ((pX9_isName U b l' a' c' d' e').bind fun q => if q = 0 then B else ((pX9_isSame U b o' d' x' y').bind fun q16 => if q16 = 0 then B else A)) = if tyL tz tp p = [a, c, d, x, y, e] then A else B := by
  obtain ⟨b1, b2, b3, b4⟩ := hb
  rcases m_name hB hM hp hT hl ha hc hd he (by omega) ⟨b1, b2, b3, b4⟩ with ⟨N, eN⟩ | ⟨N, eN⟩
  · have f1 := tf_le (tp := tp) hp
    have f2 := tt_le (tp := tp) hp
    have q : tkA tz tp p = 1 := by
      have := N.1
      rw [tl_len] at this
      split at this
      · assumption
      · omega
    have hlen := N.1
    rw [tl_len, if_pos q] at hlen
    have g2 := tl_get q (j := 2) (by omega)
    have g3 := tl_get q (j := 3) (by omega)
    have g4 := tl_get q (j := 4) (by omega)
    have g5 := tl_get q (j := 5) (by omega)
    have k2 : tp (tfA tz tp p + 2) = d := Option.some.inj (g2.symm.trans N.2.2.2.1)
    have k5 : tp (tfA tz tp p + 5) = e := Option.some.inj (g5.symm.trans N.2.2.2.2)
    rw [eN, o_b, if_neg (show ¬ nI 1 = (0 : Int32) by decide)]
    rcases m_same hB hM hp hT (i := 2) ho hd hx hy (by omega) q (by omega) with ⟨⟨w0, w1, w2⟩, eS⟩ | ⟨w, eS⟩
    · rw [eS, o_b, if_neg (show ¬ nI 1 = (0 : Int32) by decide), if_pos (l_6.mp ⟨N, by rw [g3]; exact congrArg some w1, by rw [g4]; exact congrArg some w2⟩)]
    · rw [eS, o_b, if_pos (show nI 0 = (0 : Int32) from rfl), if_neg (fun z => w (by
        have := (l_6.mpr z).2
        rw [g3, g4] at this
        have z3 := Option.some.inj this.1
        have z4 := Option.some.inj this.2
        exact ⟨k2, z3, z4⟩))]
  · rw [eN, o_b, if_pos (show nI 0 = (0 : Int32) from rfl), if_neg (fun q => N (l_6.mpr q).1)]
theorem m_w6b (hB : TB tz tp) (hM : TaM b tz tp U) (hp : p ≤ tz) (hT : ToM b tz tp U p) {A B : Option Int32} {a c d x y e : Nat} {l' a' c' d' x' y' e' o' : Int32} (hl : l' = nI 6) (ha : a' = nI a) (hc : c' = nI c) (hd : d' = nI d) (hx : x' = nI x) (hy : y' = nI y) (he : e' = nI e) (ho : o' = nI 3) (hb : a < 256 ∧ c < 256 ∧ d < 256 ∧ e < 256) (hb2 : x < 256 ∧ y < 256) : ((pX9_isName U b l' a' c' d' e').bind fun q => if q = 0 then B else ((pX9_isSame U b o' x' y' e').bind fun q16 => if q16 = 0 then B else A)) = if tyL tz tp p = [a, c, d, x, y, e] then A else B := by
  obtain ⟨b1, b2, b3, b4⟩ := hb
  rcases m_name hB hM hp hT hl ha hc hd he (by omega) ⟨b1, b2, b3, b4⟩ with ⟨N, eN⟩ | ⟨N, eN⟩
  · have f1 := tf_le (tp := tp) hp
    have f2 := tt_le (tp := tp) hp
    have q : tkA tz tp p = 1 := by
      have := N.1
      rw [tl_len] at this
      split at this
      · assumption
      · omega
    have hlen := N.1
    rw [tl_len, if_pos q] at hlen
    have g2 := tl_get q (j := 2) (by omega)
    have g3 := tl_get q (j := 3) (by omega)
    have g4 := tl_get q (j := 4) (by omega)
    have g5 := tl_get q (j := 5) (by omega)
    have k2 : tp (tfA tz tp p + 2) = d := Option.some.inj (g2.symm.trans N.2.2.2.1)
    have k5 : tp (tfA tz tp p + 5) = e := Option.some.inj (g5.symm.trans N.2.2.2.2)
    rw [eN, o_b, if_neg (show ¬ nI 1 = (0 : Int32) by decide)]
    rcases m_same hB hM hp hT (i := 3) ho hx hy he (by omega) q (by omega) with ⟨⟨w0, w1, w2⟩, eS⟩ | ⟨w, eS⟩
    · rw [eS, o_b, if_neg (show ¬ nI 1 = (0 : Int32) by decide), if_pos (l_6.mp ⟨N, by rw [g3]; exact congrArg some w0, by rw [g4]; exact congrArg some w1⟩)]
    · rw [eS, o_b, if_pos (show nI 0 = (0 : Int32) from rfl), if_neg (fun z => w (by
        have := (l_6.mpr z).2
        rw [g3, g4] at this
        have z3 := Option.some.inj this.1
        have z4 := Option.some.inj this.2
        exact ⟨z3, z4, k5⟩))]
  · rw [eN, o_b, if_pos (show nI 0 = (0 : Int32) from rfl), if_neg (fun q => N (l_6.mpr q).1)]
theorem m_two (hB : TB tz tp) (hM : TaM b tz tp U) (hp : p ≤ tz) (hT : ToM b tz tp U p) {a c : Nat} {a' c' : Int32} (ha : a' = nI a) (hc : c' = nI c) (hb : a < 256 ∧ c < 256) : pX9_isTwo U b a' c' = some (if tyL tz tp p = [a, c] then nI 1 else nI 0) := by
  subst ha hc
  obtain ⟨b1, b2⟩ := hb
  obtain ⟨t7, t8, t6, -⟩ := hT
  have f1 := tf_le (tp := tp) hp
  have f2 := tt_le (tp := tp) hp
  have hz := hB.1
  have s3 : tkA tz tp p ≤ 3 := tc_3 _ _ _
  unfold pX9_isTwo
  by_cases q : tkA tz tp p = 1
  · have hs : nI (ttA tz tp p) - nI (tfA tz tp p) = nI (ttA tz tp p - tfA tz tp p) := e_sub f2.1
    by_cases ql : ttA tz tp p - tfA tz tp p = 2
    · have by0 := m_byte hM hB (i := tfA tz tp p) (by omega)
      have by1 := m_byte hM hB (i := tfA tz tp p + 1) (by omega)
      rw [if_pos (by omega)] at by0 by1
      have g0 := tl_get q (j := 0) (by omega)
      have g1 := tl_get q (j := 1) (by omega)
      have y0 := hB.2 (tfA tz tp p) (by omega)
      have y1 := hB.2 (tfA tz tp p + 1) (by omega)
      rw [Nat.add_zero] at g0
      by_cases w0 : tp (tfA tz tp p) = a
      · by_cases w1 : tp (tfA tz tp p + 1) = c
        · rw [show (if tyL tz tp p = [a, c] then nI 1 else nI 0 : Int32) = nI 1 from if_pos (l_2.mp ⟨by rw [tl_len, if_pos q, ql], by rw [g0, w0], by rw [g1, w1]⟩)]
          simp (disch := omega) only [t7, t8, t6, q, hs, ql, by0, by1, w0, w1, letv, o_b, ↓reduceIte, e_sub, e_add, e_mul, e_ld, e_st, e_lt, e_nlt, e_le, e_nle, e_eq, e_neq, e_div, e_rem, m_lt, m_le, m_eq, m_eq2, m_ng, o_ld, true_and, and_true, Nat.one_ne_zero, Nat.zero_ne_one, Nat.reduceEqDiff, Bool.false_eq_true, not_true_eq_false, not_false_eq_true, li_0, li_1, li_2, li_3, li_4, li_5, li_6, li_7, li_8, li_9, li_10, li_11, li_12, li_13, li_14, li_15, li_16, li_20, li_23, li_25, li_30, li_31, li_32, li_38, li_40, li_41, li_44, li_48, li_50, li_51, li_52, li_57, li_59, li_60, li_61, li_62, li_63, li_66, li_81, li_94, li_97, li_98, li_99, li_100, li_101, li_103, li_104, li_105, li_107, li_108, li_109, li_110, li_111, li_112, li_114, li_115, li_116, li_117, li_118, li_122, li_200, li_572, li_600, li_9999, li_10000, li_12345, li_1103515245]
        · rw [show (if tyL tz tp p = [a, c] then nI 1 else nI 0 : Int32) = nI 0 from if_neg (fun z => w1 (by have := (l_2.mpr z).2.2; rw [g1] at this; exact Option.some.inj this))]
          simp (disch := omega) only [t7, t8, t6, q, hs, ql, by0, by1, w0, w1, letv, o_b, ↓reduceIte, e_sub, e_add, e_mul, e_ld, e_st, e_lt, e_nlt, e_le, e_nle, e_eq, e_neq, e_div, e_rem, m_lt, m_le, m_eq, m_eq2, m_ng, o_ld, true_and, and_true, Nat.one_ne_zero, Nat.zero_ne_one, Nat.reduceEqDiff, Bool.false_eq_true, not_true_eq_false, not_false_eq_true, li_0, li_1, li_2, li_3, li_4, li_5, li_6, li_7, li_8, li_9, li_10, li_11, li_12, li_13, li_14, li_15, li_16, li_20, li_23, li_25, li_30, li_31, li_32, li_38, li_40, li_41, li_44, li_48, li_50, li_51, li_52, li_57, li_59, li_60, li_61, li_62, li_63, li_66, li_81, li_94, li_97, li_98, li_99, li_100, li_101, li_103, li_104, li_105, li_107, li_108, li_109, li_110, li_111, li_112, li_114, li_115, li_116, li_117, li_118, li_122, li_200, li_572, li_600, li_9999, li_10000, li_12345, li_1103515245]
      · rw [show (if tyL tz tp p = [a, c] then nI 1 else nI 0 : Int32) = nI 0 from if_neg (fun z => w0 (by have := (l_2.mpr z).2.1; rw [g0] at this; exact Option.some.inj this))]
        simp (disch := omega) only [t7, t8, t6, q, hs, ql, by0, by1, w0, letv, o_b, ↓reduceIte, e_sub, e_add, e_mul, e_ld, e_st, e_lt, e_nlt, e_le, e_nle, e_eq, e_neq, e_div, e_rem, m_lt, m_le, m_eq, m_eq2, m_ng, o_ld, true_and, and_true, Nat.one_ne_zero, Nat.zero_ne_one, Nat.reduceEqDiff, Bool.false_eq_true, not_true_eq_false, not_false_eq_true, li_0, li_1, li_2, li_3, li_4, li_5, li_6, li_7, li_8, li_9, li_10, li_11, li_12, li_13, li_14, li_15, li_16, li_20, li_23, li_25, li_30, li_31, li_32, li_38, li_40, li_41, li_44, li_48, li_50, li_51, li_52, li_57, li_59, li_60, li_61, li_62, li_63, li_66, li_81, li_94, li_97, li_98, li_99, li_100, li_101, li_103, li_104, li_105, li_107, li_108, li_109, li_110, li_111, li_112, li_114, li_115, li_116, li_117, li_118, li_122, li_200, li_572, li_600, li_9999, li_10000, li_12345, li_1103515245]
    · rw [show (if tyL tz tp p = [a, c] then nI 1 else nI 0 : Int32) = nI 0 from if_neg (fun z => ql (by have := (l_2.mpr z).1; rw [tl_len, if_pos q] at this; exact this))]
      simp (disch := omega) only [t7, t8, t6, q, hs, ql, letv, o_b, ↓reduceIte, e_sub, e_add, e_mul, e_ld, e_st, e_lt, e_nlt, e_le, e_nle, e_eq, e_neq, e_div, e_rem, m_lt, m_le, m_eq, m_eq2, m_ng, o_ld, true_and, and_true, Nat.one_ne_zero, Nat.zero_ne_one, Nat.reduceEqDiff, Bool.false_eq_true, not_true_eq_false, not_false_eq_true, li_0, li_1, li_2, li_3, li_4, li_5, li_6, li_7, li_8, li_9, li_10, li_11, li_12, li_13, li_14, li_15, li_16, li_20, li_23, li_25, li_30, li_31, li_32, li_38, li_40, li_41, li_44, li_48, li_50, li_51, li_52, li_57, li_59, li_60, li_61, li_62, li_63, li_66, li_81, li_94, li_97, li_98, li_99, li_100, li_101, li_103, li_104, li_105, li_107, li_108, li_109, li_110, li_111, li_112, li_114, li_115, li_116, li_117, li_118, li_122, li_200, li_572, li_600, li_9999, li_10000, li_12345, li_1103515245]
  · rw [show (if tyL tz tp p = [a, c] then nI 1 else nI 0 : Int32) = nI 0 from if_neg (fun z => by have := (l_2.mpr z).1; rw [tl_len, if_neg q] at this; omega)]
    simp (disch := omega) only [t6, q, letv, o_b, ↓reduceIte, e_sub, e_add, e_mul, e_ld, e_st, e_lt, e_nlt, e_le, e_nle, e_eq, e_neq, e_div, e_rem, m_lt, m_le, m_eq, m_eq2, m_ng, o_ld, true_and, and_true, Nat.one_ne_zero, Nat.zero_ne_one, Nat.reduceEqDiff, Bool.false_eq_true, not_true_eq_false, not_false_eq_true, li_0, li_1, li_2, li_3, li_4, li_5, li_6, li_7, li_8, li_9, li_10, li_11, li_12, li_13, li_14, li_15, li_16, li_20, li_23, li_25, li_30, li_31, li_32, li_38, li_40, li_41, li_44, li_48, li_50, li_51, li_52, li_57, li_59, li_60, li_61, li_62, li_63, li_66, li_81, li_94, li_97, li_98, li_99, li_100, li_101, li_103, li_104, li_105, li_107, li_108, li_109, li_110, li_111, li_112, li_114, li_115, li_116, li_117, li_118, li_122, li_200, li_572, li_600, li_9999, li_10000, li_12345, li_1103515245]
theorem m_kind (hB : TB tz tp) (hM : TaM b tz tp U) (hp : p ≤ tz) (hT : ToM b tz tp U p) : pX9_kindHere U b = some (wnI (kdA (wA (tyL tz tp p)))) := by
  unfold pX9_kindHere
  simp only [letv]
  rw [m_w5 hB hM hp hT (a := 116) (c := 104) (d := 105) (x := 110) (e := 103)  (l' := 5) (a' := 116) (c' := 104) (d' := 105) (x' := 110) (e' := 103) (o' := 3) rfl rfl rfl rfl rfl rfl rfl (by decide) (by decide)]
  rw [m_w6a hB hM hp hT (a := 99) (c := 111) (d := 112) (x := 112) (y := 101) (e := 114)  (l' := 6) (a' := 99) (c' := 111) (d' := 112) (x' := 112) (y' := 101) (e' := 114) (o' := 2) rfl rfl rfl rfl rfl rfl rfl rfl (by decide) (by decide)]
  rw [m_w4 hB hM hp hT (a := 99) (c := 111) (d := 97) (e := 116)  (l' := 4) (a' := 99) (c' := 111) (d' := 97) (e' := 116) rfl rfl rfl rfl rfl (by decide), bi_if]
  rw [m_w3 hB hM hp hT (a := 104) (c := 97) (d := 116)  (l' := 3) (a' := 104) (c' := 97) (d' := 116) (e' := 116) rfl rfl rfl rfl rfl (by decide), bi_if]
  rw [m_w5 hB hM hp hT (a := 108) (c := 105) (d := 110) (x := 101) (e := 110)  (l' := 5) (a' := 108) (c' := 105) (d' := 110) (x' := 101) (e' := 110) (o' := 3) rfl rfl rfl rfl rfl rfl rfl (by decide) (by decide)]
  rw [m_w5 hB hM hp hT (a := 102) (c := 105) (d := 101) (x := 108) (e := 100)  (l' := 5) (a' := 102) (c' := 105) (d' := 101) (x' := 108) (e' := 100) (o' := 3) rfl rfl rfl rfl rfl rfl rfl (by decide) (by decide)]
  generalize tyL tz tp p = t
  rcases wA_el t with ⟨rfl, e⟩ | ⟨rfl, e⟩ | ⟨rfl, e⟩ | ⟨rfl, e⟩ | ⟨rfl, e⟩ | ⟨rfl, e⟩ | ⟨rfl, e⟩ | ⟨rfl, e⟩ | ⟨rfl, e⟩ | ⟨rfl, e⟩ | ⟨rfl, e⟩ | ⟨rfl, e⟩ | ⟨rfl, e⟩ | ⟨rfl, e⟩ | ⟨rfl, e⟩ | ⟨rfl, e⟩ | ⟨rfl, e⟩ | ⟨rfl, e⟩ | ⟨⟨h1, h2, h3, h4, h5, h6, h7, h8, h9, h10, h11, h12, h13, h14, h15, h16, h17, h18⟩, e⟩
  · rfl
  · rfl
  · rfl
  · rfl
  · rfl
  · rfl
  · rfl
  · rfl
  · rfl
  · rfl
  · rfl
  · rfl
  · rfl
  · rfl
  · rfl
  · rfl
  · rfl
  · rfl
  · rw [e, if_neg h1, if_neg h2, if_neg h3, if_neg h4, if_neg h5, if_neg h6]; rfl
theorem m_do (hB : TB tz tp) (hM : TaM b tz tp U) (hp : p ≤ tz) (hT : ToM b tz tp U p) : pX9_doHere U b = some (wnI (doA (wA (tyL tz tp p)))) := by
  unfold pX9_doHere
  simp only [letv]
  rw [m_w5 hB hM hp hT (a := 112) (c := 114) (d := 101) (x := 115) (e := 115)  (l' := 5) (a' := 112) (c' := 114) (d' := 101) (x' := 115) (e' := 115) (o' := 3) rfl rfl rfl rfl rfl rfl rfl (by decide) (by decide)]
  rw [m_w5 hB hM hp hT (a := 108) (c := 101) (d := 97) (x := 118) (e := 101)  (l' := 5) (a' := 108) (c' := 101) (d' := 97) (x' := 118) (e' := 101) (o' := 3) rfl rfl rfl rfl rfl rfl rfl (by decide) (by decide)]
  rw [m_w4 hB hM hp hT (a := 102) (c := 111) (d := 108) (e := 100)  (l' := 4) (a' := 102) (c' := 111) (d' := 108) (e' := 100) rfl rfl rfl rfl rfl (by decide), bi_if]
  generalize tyL tz tp p = t
  rcases wA_el t with ⟨rfl, e⟩ | ⟨rfl, e⟩ | ⟨rfl, e⟩ | ⟨rfl, e⟩ | ⟨rfl, e⟩ | ⟨rfl, e⟩ | ⟨rfl, e⟩ | ⟨rfl, e⟩ | ⟨rfl, e⟩ | ⟨rfl, e⟩ | ⟨rfl, e⟩ | ⟨rfl, e⟩ | ⟨rfl, e⟩ | ⟨rfl, e⟩ | ⟨rfl, e⟩ | ⟨rfl, e⟩ | ⟨rfl, e⟩ | ⟨rfl, e⟩ | ⟨⟨h1, h2, h3, h4, h5, h6, h7, h8, h9, h10, h11, h12, h13, h14, h15, h16, h17, h18⟩, e⟩
  · rfl
  · rfl
  · rfl
  · rfl
  · rfl
  · rfl
  · rfl
  · rfl
  · rfl
  · rfl
  · rfl
  · rfl
  · rfl
  · rfl
  · rfl
  · rfl
  · rfl
  · rfl
  · rw [e, if_neg h7, if_neg h8, if_neg h9]; rfl
theorem m_fact (hB : TB tz tp) (hM : TaM b tz tp U) (hp : p ≤ tz) (hT : ToM b tz tp U p) : pX9_factHere U b = some (wnI (ftA (wA (tyL tz tp p)))) := by
  unfold pX9_factHere
  simp only [letv]
  rw [m_w4 hB hM hp hT (a := 119) (c := 97) (d := 115) (e := 104)  (l' := 4) (a' := 119) (c' := 97) (d' := 115) (e' := 104) rfl rfl rfl rfl rfl (by decide), bi_if]
  rw [m_w4 hB hM hp hT (a := 98) (c := 117) (d := 108) (e := 107)  (l' := 4) (a' := 98) (c' := 117) (d' := 108) (e' := 107) rfl rfl rfl rfl rfl (by decide), bi_if]
  rw [m_w6b hB hM hp hT (a := 99) (c := 114) (d := 101) (x := 97) (y := 115) (e := 101)  (l' := 6) (a' := 99) (c' := 114) (d' := 101) (x' := 97) (y' := 115) (e' := 101) (o' := 3) rfl rfl rfl rfl rfl rfl rfl rfl (by decide) (by decide)]
  rw [m_w5 hB hM hp hT (a := 115) (c := 116) (d := 101) (x := 97) (e := 109)  (l' := 5) (a' := 115) (c' := 116) (d' := 101) (x' := 97) (e' := 109) (o' := 3) rfl rfl rfl rfl rfl rfl rfl (by decide) (by decide)]
  rw [m_w6a hB hM hp hT (a := 110) (c := 117) (d := 109) (x := 98) (y := 101) (e := 114)  (l' := 6) (a' := 110) (c' := 117) (d' := 109) (x' := 98) (y' := 101) (e' := 114) (o' := 2) rfl rfl rfl rfl rfl rfl rfl rfl (by decide) (by decide)]
  generalize tyL tz tp p = t
  rcases wA_el t with ⟨rfl, e⟩ | ⟨rfl, e⟩ | ⟨rfl, e⟩ | ⟨rfl, e⟩ | ⟨rfl, e⟩ | ⟨rfl, e⟩ | ⟨rfl, e⟩ | ⟨rfl, e⟩ | ⟨rfl, e⟩ | ⟨rfl, e⟩ | ⟨rfl, e⟩ | ⟨rfl, e⟩ | ⟨rfl, e⟩ | ⟨rfl, e⟩ | ⟨rfl, e⟩ | ⟨rfl, e⟩ | ⟨rfl, e⟩ | ⟨rfl, e⟩ | ⟨⟨h1, h2, h3, h4, h5, h6, h7, h8, h9, h10, h11, h12, h13, h14, h15, h16, h17, h18⟩, e⟩
  · rfl
  · rfl
  · rfl
  · rfl
  · rfl
  · rfl
  · rfl
  · rfl
  · rfl
  · rfl
  · rfl
  · rfl
  · rfl
  · rfl
  · rfl
  · rfl
  · rfl
  · rfl
  · rw [e, if_neg h10, if_neg h11, if_neg h12, if_neg h13, if_neg h14]; rfl
end X4
