/-! a byte of a long -/
theorem bv_by (v : BitVec 64) (s : Nat) (hs : s ≤ 56) : (v >>> s) &&& 255#64 = (v.sshiftRight s) &&& 255#64 := by
  apply BitVec.eq_of_getLsbD_eq
  intro i hi
  rw [BitVec.getLsbD_and, BitVec.getLsbD_and, BitVec.getLsbD_ushiftRight, BitVec.getLsbD_sshiftRight]
  by_cases q : i < 8
  · rw [if_pos (by omega), decide_eq_false (by omega)]
    rfl
  · have e : (255#64).getLsbD i = false := by
      rw [BitVec.getLsbD_ofNat, show (255 : Nat) = 2 ^ 8 - 1 from rfl, Nat.testBit_two_pow_sub_one, decide_eq_false q, Bool.and_false]
    rw [e, Bool.and_false, Bool.and_false]
theorem by_s : ∀ x, x < 8 → ((nI (8 * x)).toInt64.toUInt64 &&& Int64.toUInt64 63).toBitVec.toNat % 64 = 8 * x ∧ ((nI (8 * x)).toInt64 &&& 63).toBitVec.smod 64 = BitVec.ofNat 64 (8 * x) := by decide +kernel
theorem by_ok (a : Int64) {x : Nat} (hx : x < 8) : ∃ k, k < 256 ∧ ((jlushr a (nI (8 * x))) &&& 255).toInt32 = nI k ∧ ((a >>> ((nI (8 * x)).toInt64 &&& 63)) &&& 255).toInt32 = nI k := by
  obtain ⟨s1, s2⟩ := by_s x hx
  have e1 : ((jlushr a (nI (8 * x))) &&& 255).toBitVec = (a.toBitVec >>> (8 * x)) &&& 255#64 := by
    show (a.toBitVec >>> (((nI (8 * x)).toInt64.toUInt64 &&& Int64.toUInt64 63).toBitVec % 64)) &&& 255#64 = _
    rw [BitVec.ushiftRight_eq', BitVec.toNat_umod]
    rw [show (64 : BitVec 64).toNat = 64 from rfl, s1]
  have e2 : ((a >>> ((nI (8 * x)).toInt64 &&& 63)) &&& 255).toBitVec = (a.toBitVec.sshiftRight (8 * x)) &&& 255#64 := by
    show (BitVec.sshiftRight' a.toBitVec (((nI (8 * x)).toInt64 &&& 63).toBitVec.smod 64)) &&& 255#64 = _
    rw [s2, BitVec.sshiftRight_eq', BitVec.toNat_ofNat, Nat.mod_eq_of_lt (by omega)]
  have e3 : ((jlushr a (nI (8 * x))) &&& 255) = ((a >>> ((nI (8 * x)).toInt64 &&& 63)) &&& 255) := Int64.toBitVec_inj.mp (by rw [e1, e2]; exact bv_by _ _ (by omega))
  rw [← e3]
  have lt : ((a.toBitVec >>> (8 * x)) &&& 255#64).toNat < 256 := by
    rw [BitVec.toNat_and]
    exact Nat.lt_succ_of_le Nat.and_le_right
  refine ⟨((a.toBitVec >>> (8 * x)) &&& 255#64).toNat, lt, ?_, ?_⟩
  all_goals
    apply Int32.toBitVec_inj.mp
    show (((jlushr a (nI (8 * x))) &&& 255).toBitVec.signExtend 32) = BitVec.ofNat 32 _
    rw [e1, BitVec.signExtend_eq_setWidth_of_le _ (by omega)]
    apply BitVec.eq_of_toNat_eq
    rw [BitVec.toNat_setWidth, BitVec.toNat_ofNat]
section T2
variable {n z b : Nat} {V : V2} {R : R2} {G Gm : G2} {U : V2}
theorem f_l (a : Int64) {c tz : Nat} (hc : c ≤ 8) (hz : tz + c ≤ 200) : ∀ m x f f' {V1 U1 : V2} {tp : Nat → Nat}, x + m = c → m < f → m < f' → V1 (z + 65) 1 = nI (tz + x) → U1 b 5 = nI (tz + x) → (∀ i, i < tz + x → tp i < 256 ∧ V1 (z + 66) i = nI (tp i) ∧ U1 (b + 4) i = nI (tp i)) → ∃ V' U', ∃ tp' : Nat → Nat, lX5_take_18 (z + 65) a (nI c) f V1 (nI x) = some V' ∧ lX9_feed_32 b a (nI c) f' U1 (nI x) = some U' ∧ V' (z + 65) 1 = nI (tz + c) ∧ U' b 5 = nI (tz + c) ∧ (∀ i, i < tz + c → tp' i < 256 ∧ V' (z + 66) i = nI (tp' i) ∧ U' (b + 4) i = nI (tp' i)) ∧ (∀ y, y ≠ z + 65 → y ≠ z + 66 → V' y = V1 y) ∧ (∀ y, y ≠ b → y ≠ b + 4 → U' y = U1 y) ∧ ∀ k, k ≠ 5 → U' b k = U1 b k := by
  intro m
  induction m with
  | zero =>
    intro x f f' V1 U1 tp h1 h2 h3 v1 u5 hr
    obtain ⟨f, rfl⟩ : ∃ g, f = g + 1 := ⟨f - 1, by omega⟩
    obtain ⟨f', rfl⟩ : ∃ g, f' = g + 1 := ⟨f' - 1, by omega⟩
    have hx : x = c := by omega
    rw [hx] at v1 u5 hr ⊢
    refine ⟨V1, U1, tp, ?_, ?_, v1, u5, hr, fun _ _ _ => rfl, fun _ _ _ => rfl, fun _ _ => rfl⟩
    · unfold lX5_take_18
      simp (disch := omega) only [letv, o_b, ↓reduceIte, e_sub, e_add, e_mul, e_ld, e_st, e_lt, e_nlt, e_le, e_nle, e_eq, e_neq, e_div, e_rem, m_lt, m_le, m_eq, m_eq2, m_ng, o_ld, true_and, and_true, Nat.one_ne_zero, Nat.zero_ne_one, Nat.reduceEqDiff, Bool.false_eq_true, not_true_eq_false, not_false_eq_true, li_0, li_1, li_2, li_3, li_4, li_5, li_6, li_7, li_8, li_9, li_10, li_11, li_12, li_13, li_14, li_15, li_16, li_20, li_23, li_25, li_30, li_31, li_32, li_38, li_40, li_41, li_44, li_48, li_50, li_51, li_52, li_57, li_59, li_60, li_61, li_62, li_63, li_66, li_81, li_94, li_97, li_98, li_99, li_100, li_101, li_103, li_104, li_105, li_107, li_108, li_109, li_110, li_111, li_112, li_114, li_115, li_116, li_117, li_118, li_122, li_200, li_572, li_600, li_9999, li_10000, li_12345, li_1103515245]
    · unfold lX9_feed_32
      simp (disch := omega) only [letv, o_b, ↓reduceIte, e_sub, e_add, e_mul, e_ld, e_st, e_lt, e_nlt, e_le, e_nle, e_eq, e_neq, e_div, e_rem, m_lt, m_le, m_eq, m_eq2, m_ng, o_ld, true_and, and_true, Nat.one_ne_zero, Nat.zero_ne_one, Nat.reduceEqDiff, Bool.false_eq_true, not_true_eq_false, not_false_eq_true, li_0, li_1, li_2, li_3, li_4, li_5, li_6, li_7, li_8, li_9, li_10, li_11, li_12, li_13, li_14, li_15, li_16, li_20, li_23, li_25, li_30, li_31, li_32, li_38, li_40, li_41, li_44, li_48, li_50, li_51, li_52, li_57, li_59, li_60, li_61, li_62, li_63, li_66, li_81, li_94, li_97, li_98, li_99, li_100, li_101, li_103, li_104, li_105, li_107, li_108, li_109, li_110, li_111, li_112, li_114, li_115, li_116, li_117, li_118, li_122, li_200, li_572, li_600, li_9999, li_10000, li_12345, li_1103515245]
  | succ m ih =>
    intro x f f' V1 U1 tp h1 h2 h3 v1 u5 hr
    obtain ⟨f, rfl⟩ : ∃ g, f = g + 1 := ⟨f - 1, by omega⟩
    obtain ⟨f', rfl⟩ : ∃ g, f' = g + 1 := ⟨f' - 1, by omega⟩
    obtain ⟨k, k1, k2, k3⟩ := by_ok a (x := x) (by omega)
    have g1 : up2 V1 (z + 66) (tz + x) (nI k) (z + 65) 1 = nI (tz + x) := by rw [w_row (by omega)]; exact v1
    have g2 : up2 U1 (b + 4) (tz + x) (nI k) b 5 = nI (tz + x) := by rw [w_row (by omega)]; exact u5
    obtain ⟨V', U', tp', a1, a2, a3, a4, a5, a6, a7, a8⟩ := ih (x + 1) f f' (V1 := up2 (up2 V1 (z + 66) (tz + x) (nI k)) (z + 65) 1 (nI (tz + x + 1))) (U1 := up2 (up2 U1 (b + 4) (tz + x) (nI k)) b 5 (nI (tz + x + 1))) (tp := fun i => if i = tz + x then k else tp i) (by omega) (by omega) (by omega) w_same w_same (fun i hi => by
      by_cases q : i = tz + x
      · rw [w_row (x := z + 65) (y := z + 66) (by omega), w_row (x := b) (y := b + 4) (by omega), q, w_same, w_same, if_pos rfl]
        exact ⟨k1, rfl, rfl⟩
      · rw [w_row (x := z + 65) (y := z + 66) (by omega), w_row (x := b) (y := b + 4) (by omega), w_idx q, w_idx q, if_neg q]
        exact hr i (by omega))
    refine ⟨V', U', tp', ?_, ?_, a3, a4, a5, fun y h1 h2 => by rw [a6 y h1 h2, w_row h1, w_row h2], fun y h1 h2 => by rw [a7 y h1 h2, w_row h1, w_row h2], fun i hi => by rw [a8 i hi, w_idx hi, w_row (by omega)]⟩
    · unfold lX5_take_18
      rw [show z + 65 + 1 = z + 66 from rfl]
      have e8 : (8 : Int32) * nI x = nI (8 * x) := e_mul 8 x
      have k2' : ((jlushr a ((8 : Int32) * nI x)) &&& 255).toInt32 = nI k := by rw [e8]; exact k2
      rw [k2']
      simp (disch := omega) only [letv, e_nle, ↓reduceIte, v1, e_st, o_b, g1, li_1, e_add, a1]
    · unfold lX9_feed_32
      have e8 : (8 : Int32) * nI x = nI (8 * x) := e_mul 8 x
      have k3' : ((a >>> (((8 : Int32) * nI x).toInt64 &&& 63)) &&& 255).toInt32 = nI k := by rw [e8]; exact k3
      rw [k3']
      simp (disch := omega) only [letv, e_nle, ↓reduceIte, u5, e_st, o_b, g2, li_1, e_add, a2]
theorem ok_feed' (hn : 1000 ≤ n) (h : RelB z b V R G U) (a1 : Int64) (a2 : Int32) : ∃ o om, pX8_feed n V z a1 a2 = some o ∧ pX9_feed n U b a1 a2 = some om ∧ o.1 = om.1 ∧ RelB z b o.2 R G om.2 := by
  obtain ⟨hW, hN, hO⟩ := id h
  obtain ⟨⟨kp1, kp2⟩, ⟨tz, tp, t1, t2, t3, t4⟩, ⟨rr, r1, r2, r3, r4⟩, sh, sls, ⟨tn, u1, u2, u3, u4⟩, st⟩ := hO
  unfold pX8_feed pX9_feed pX5_take
  rcases wi (x := a2) (lo := 1) (hi := 8) (by omega) (by omega) with ⟨c, hc1, hc, rfl, w1, w2⟩ | ⟨w1, w2⟩
  · by_cases q : tz + c ≤ 200
    · obtain ⟨V', U', tp', c1, c2, c3, c4, c5, c6, c7, c8⟩ := f_l (z := z) (b := b) a1 hc q c 0 n n (V1 := V) (U1 := U) (by omega) (by omega) (by omega) t2 t3 t4
      refine pk (x := nI (tz + c)) (V' := V') (U' := U') ?_ ?_ rfl ⟨hW, ?_, ⟨?_, ?_⟩, ⟨tz + c, tp', q, c3, c4, c5⟩, ⟨rr, r1, by rw [c6 _ (by omega) (by omega)]; exact r2, by rw [c8 _ (by omega)]; exact r3, fun i hi => by rw [c6 _ (by omega) (by omega), c7 _ (by omega) (by omega)]; exact r4 i hi⟩, ⟨fun t ht => ?_, sh.2⟩, fun t ht => ?_, ⟨tn, u1, by rw [c6 _ (by omega) (by omega)]; exact u2, by rw [c8 _ (by omega)]; exact u3, fun i hi => by rw [c6 _ (by omega) (by omega), c7 _ (by omega) (by omega)]; exact u4 i hi⟩, st⟩
      · simp (disch := omega) only [w1, e_10, t2, q, c1, c3, letv, o_b, ↓reduceIte, e_sub, e_add, e_mul, e_ld, e_st, e_lt, e_nlt, e_le, e_nle, e_eq, e_neq, e_div, e_rem, m_lt, m_le, m_eq, m_eq2, m_ng, o_ld, true_and, and_true, Nat.one_ne_zero, Nat.zero_ne_one, Nat.reduceEqDiff, Bool.false_eq_true, not_true_eq_false, not_false_eq_true, li_0, li_1, li_2, li_3, li_4, li_5, li_6, li_7, li_8, li_9, li_10, li_11, li_12, li_13, li_14, li_15, li_16, li_20, li_23, li_25, li_30, li_31, li_32, li_38, li_40, li_41, li_44, li_48, li_50, li_51, li_52, li_57, li_59, li_60, li_61, li_62, li_63, li_66, li_81, li_94, li_97, li_98, li_99, li_100, li_101, li_103, li_104, li_105, li_107, li_108, li_109, li_110, li_111, li_112, li_114, li_115, li_116, li_117, li_118, li_122, li_200, li_572, li_600, li_9999, li_10000, li_12345, li_1103515245]
      · simp (disch := omega) only [lj_1, lj_8, w2, e_10, t3, q, c2, c4, letv, o_b, ↓reduceIte, e_sub, e_add, e_mul, e_ld, e_st, e_lt, e_nlt, e_le, e_nle, e_eq, e_neq, e_div, e_rem, m_lt, m_le, m_eq, m_eq2, m_ng, o_ld, true_and, and_true, Nat.one_ne_zero, Nat.zero_ne_one, Nat.reduceEqDiff, Bool.false_eq_true, not_true_eq_false, not_false_eq_true, li_0, li_1, li_2, li_3, li_4, li_5, li_6, li_7, li_8, li_9, li_10, li_11, li_12, li_13, li_14, li_15, li_16, li_20, li_23, li_25, li_30, li_31, li_32, li_38, li_40, li_41, li_44, li_48, li_50, li_51, li_52, li_57, li_59, li_60, li_61, li_62, li_63, li_66, li_81, li_94, li_97, li_98, li_99, li_100, li_101, li_103, li_104, li_105, li_107, li_108, li_109, li_110, li_111, li_112, li_114, li_115, li_116, li_117, li_118, li_122, li_200, li_572, li_600, li_9999, li_10000, li_12345, li_1103515245]
      · rw [c7 _ (by omega) (by omega)]
        exact hN.fr (NF.all fun x hx => c6 x (by omega) (by omega))
      · rw [c6 _ (by omega) (by omega), c8 _ (by omega)]; exact kp1
      · rw [c8 _ (by omega), c7 (b + 2) (by omega) (by omega)]
        exact kp2.imp id fun q => ⟨q.1, q.2.fr (NF.all fun x hx => c6 x (by omega) (by omega))⟩
      · rw [c7 (b + 11) (by omega) (by omega), c7 (b + 12) (by omega) (by omega), c7 (b + 13) (by omega) (by omega)]
        rcases sh.1 t ht with p | ⟨y, so, sz, q1, q2, q3, q4, q5⟩
        · exact Or.inl p
        · refine Or.inr ⟨y, so, sz, q1, q2.fr fun x hx => c6 x (by omega) (by omega), q3, q4, fun i hi => ?_⟩
          rw [c6 _ (by have := q2.1; omega) (by have := q2.1; omega)]
          exact q5 i hi
      · rw [c6 (z + 71) (by omega) (by omega), c7 (b + 14) (by omega) (by omega), c7 (b + 15) (by omega) (by omega), c7 (b + 16) (by omega) (by omega)]
        rcases sls t ht with p | p | ⟨y, so, sz, q1, q2, q3, q4⟩
        · exact Or.inl p
        · exact Or.inr (Or.inl p)
        · exact Or.inr (Or.inr ⟨y, so, sz, q1, q2, q3.fr fun x hx => c6 x (by omega) (by omega), q4⟩)
    · exact pkx (-(nI 2)) (by simp (disch := omega) only [w1, e_10, t2, q, letv, o_b, ↓reduceIte, e_sub, e_add, e_mul, e_ld, e_st, e_lt, e_nlt, e_le, e_nle, e_eq, e_neq, e_div, e_rem, m_lt, m_le, m_eq, m_eq2, m_ng, o_ld, true_and, and_true, Nat.one_ne_zero, Nat.zero_ne_one, Nat.reduceEqDiff, Bool.false_eq_true, not_true_eq_false, not_false_eq_true, li_0, li_1, li_2, li_3, li_4, li_5, li_6, li_7, li_8, li_9, li_10, li_11, li_12, li_13, li_14, li_15, li_16, li_20, li_23, li_25, li_30, li_31, li_32, li_38, li_40, li_41, li_44, li_48, li_50, li_51, li_52, li_57, li_59, li_60, li_61, li_62, li_63, li_66, li_81, li_94, li_97, li_98, li_99, li_100, li_101, li_103, li_104, li_105, li_107, li_108, li_109, li_110, li_111, li_112, li_114, li_115, li_116, li_117, li_118, li_122, li_200, li_572, li_600, li_9999, li_10000, li_12345, li_1103515245]) (by simp (disch := omega) only [lj_1, lj_8, w2, e_10, t3, q, letv, o_b, ↓reduceIte, e_sub, e_add, e_mul, e_ld, e_st, e_lt, e_nlt, e_le, e_nle, e_eq, e_neq, e_div, e_rem, m_lt, m_le, m_eq, m_eq2, m_ng, o_ld, true_and, and_true, Nat.one_ne_zero, Nat.zero_ne_one, Nat.reduceEqDiff, Bool.false_eq_true, not_true_eq_false, not_false_eq_true, li_0, li_1, li_2, li_3, li_4, li_5, li_6, li_7, li_8, li_9, li_10, li_11, li_12, li_13, li_14, li_15, li_16, li_20, li_23, li_25, li_30, li_31, li_32, li_38, li_40, li_41, li_44, li_48, li_50, li_51, li_52, li_57, li_59, li_60, li_61, li_62, li_63, li_66, li_81, li_94, li_97, li_98, li_99, li_100, li_101, li_103, li_104, li_105, li_107, li_108, li_109, li_110, li_111, li_112, li_114, li_115, li_116, li_117, li_118, li_122, li_200, li_572, li_600, li_9999, li_10000, li_12345, li_1103515245]) h
  · exact pkx (-(nI 1)) (by simp (disch := omega) only [w1, letv, o_b, ↓reduceIte, e_sub, e_add, e_mul, e_ld, e_st, e_lt, e_nlt, e_le, e_nle, e_eq, e_neq, e_div, e_rem, m_lt, m_le, m_eq, m_eq2, m_ng, o_ld, true_and, and_true, Nat.one_ne_zero, Nat.zero_ne_one, Nat.reduceEqDiff, Bool.false_eq_true, not_true_eq_false, not_false_eq_true, li_0, li_1, li_2, li_3, li_4, li_5, li_6, li_7, li_8, li_9, li_10, li_11, li_12, li_13, li_14, li_15, li_16, li_20, li_23, li_25, li_30, li_31, li_32, li_38, li_40, li_41, li_44, li_48, li_50, li_51, li_52, li_57, li_59, li_60, li_61, li_62, li_63, li_66, li_81, li_94, li_97, li_98, li_99, li_100, li_101, li_103, li_104, li_105, li_107, li_108, li_109, li_110, li_111, li_112, li_114, li_115, li_116, li_117, li_118, li_122, li_200, li_572, li_600, li_9999, li_10000, li_12345, li_1103515245]) (by simp (disch := omega) only [lj_1, lj_8, w2, letv, o_b, ↓reduceIte, e_sub, e_add, e_mul, e_ld, e_st, e_lt, e_nlt, e_le, e_nle, e_eq, e_neq, e_div, e_rem, m_lt, m_le, m_eq, m_eq2, m_ng, o_ld, true_and, and_true, Nat.one_ne_zero, Nat.zero_ne_one, Nat.reduceEqDiff, Bool.false_eq_true, not_true_eq_false, not_false_eq_true, li_0, li_1, li_2, li_3, li_4, li_5, li_6, li_7, li_8, li_9, li_10, li_11, li_12, li_13, li_14, li_15, li_16, li_20, li_23, li_25, li_30, li_31, li_32, li_38, li_40, li_41, li_44, li_48, li_50, li_51, li_52, li_57, li_59, li_60, li_61, li_62, li_63, li_66, li_81, li_94, li_97, li_98, li_99, li_100, li_101, li_103, li_104, li_105, li_107, li_108, li_109, li_110, li_111, li_112, li_114, li_115, li_116, li_117, li_118, li_122, li_200, li_572, li_600, li_9999, li_10000, li_12345, li_1103515245]) h
end T2
