/-! washes: of the laundry itself, and thought of -/
theorem pk {z b : Nat} {R : R2} {G : G2} {A B : Option (Int32 × V2)} {x y : Int32} {V' U' : V2} (h1 : A = some (x, V')) (h2 : B = some (y, U')) (h3 : x = y) (h4 : RelB z b V' R G U') : ∃ o om, A = some o ∧ B = some om ∧ o.1 = om.1 ∧ RelB z b o.2 R G om.2 := ⟨_, _, h1, h2, h3, h4⟩
theorem pkx {z b : Nat} {V : V2} {R : R2} {G : G2} {U : V2} {A B : Option (Int32 × V2)} (x : Int32) (h1 : A = some (x, V)) (h2 : B = some (x, U)) (h4 : RelB z b V R G U) : ∃ o om, A = some o ∧ B = some om ∧ o.1 = om.1 ∧ RelB z b o.2 R G om.2 := ⟨_, _, h1, h2, rfl, h4⟩
theorem m1_le {w mo : Nat} (hw : w < 1073741824) (hm : mo < 1073741824) : (nI w ≤ nI mo - nI 1) = (w + 1 ≤ mo) := by
  by_cases h : 1 ≤ mo
  · rw [e_sub h]
    by_cases q : w + 1 ≤ mo
    · rw [e_le (by omega) (by omega)]; exact (eq_true q).symm
    · rw [e_nle (by omega) (by omega)]; exact (eq_false q).symm
  · have : mo = 0 := by omega
    subst this
    rw [show (nI 0 - nI 1 : Int32) = -(nI 1) by decide, m_le (by omega) (by omega) (by omega)]
    exact (eq_false (by omega)).symm
theorem m1_gr {w mo : Nat} (hw : w < 1073741824) (hm : mo < 1073741824) : pX9_greatest (nI mo - nI 1) (nI w) = some (nI (max mo (w + 1)) - nI 1) := by
  unfold pX9_greatest
  by_cases h : 1 ≤ mo
  · rw [e_sub h]
    by_cases q : mo - 1 ≤ w
    · rw [if_pos (by rw [e_le (by omega) q]; trivial), Nat.max_eq_right (by omega), e_sub (by omega), Nat.add_sub_cancel]
    · rw [if_neg (by rw [e_nle (by omega) (by omega)]; exact id), Nat.max_eq_left (by omega), e_sub h]
  · have : mo = 0 := by omega
    subst this
    rw [show (nI 0 - nI 1 : Int32) = -(nI 1) by decide, if_pos (by rw [m_le0 (by omega) (by omega)]; trivial), Nat.max_eq_right (by omega), e_sub (by omega), Nat.add_sub_cancel]
theorem pcA_le6 (f : Nat) : pcA f ≤ 6 := by
  unfold pcA
  have h0 := bt_lt f 0
  have h1 := bt_lt f 1
  have h2 := bt_lt f 2
  have h3 := bt_lt f 3
  have h4 := bt_lt f 4
  have h5 := bt_lt f 5
  omega
theorem goW_le {E : En} {L : Ld} {a : Nat} (hL : IL L) (ha : a ≤ L_c L) : goW E L a ≤ 18 := by
  have hc := hL.2.1
  have h1 := pcA_le6 (L_f (g2A E L a))
  have h2 : (toA E L a).1 ≤ 12 := by
    unfold toA
    split
    · exact Nat.zero_le _
    · unfold dwA
      split
      · exact Nat.zero_le _
      split
      · exact pyA_le hL (by omega)
      split
      · dsimp only; split <;> omega
      · exact Nat.zero_le _
  unfold goW; omega
theorem grW_le {E : En} (hi : IE E) : ∀ m {L : Ld}, IL L → grW E m L ≤ 18 * m := by
  intro m
  induction m with
  | zero => exact fun _ => Nat.zero_le _
  | succ m ih =>
    intro L hL
    unfold grW
    split
    · omega
    · have he := hi.2.1
      have h1 := goW_le (E := E) hL (rsA_le (E := E))
      have h2 := ih (goL_IL (E := E) (a := rsA E L) hL rsA_le (by omega))
      omega
/-- on and on, till it is over or p holds -/
def itL (E : En) (p : Ld → Bool) : Nat → Ld → Ld
  | 0, L => L
  | m + 1, L => if E_en E ≤ L_w L then L else if p L = true then L else itL E p m (goL E L (rsA E L))
section Q1
variable {n z b : Nat} {G Gm : G2} {V : V2} {R : R2} {U : V2} {E : En} {L : Ld} {rn : Nat} {rp : Nat → Nat → Nat}
theorem sd_fr {V' : V2} {a : Nat} (h : CF a V V') (ha : z + 31 ≤ a ∧ a ≤ z + 60) : ∀ x, (x < z + 31 ∨ z + 64 < x) → V' x = V x := fun x hx => h x (by omega)
theorem OU.asd {U' : V2} (h : ∀ y, y ≠ b + 3 → U' y = U y) : OU b U U' := OU.all fun y _ h2 => h y h2
/-- a wash of the laundry itself, on both sides -/
theorem rl_go (hn : 1000 ≤ n) (hN : NQ G V R z (z + 1) (U (b + 1)) E L rn rp) (hw : L_w L < E_en E) {t : Nat} (ht : t ≤ L_c L) : ∃ V' U', pX8_goByNow n G V R z (nI t) = some (nI (goW E L t), V') ∧ pX9_goesWith n U b (nI t) = some (nI (goW E L t), U') ∧ NQ G V' R z (z + 1) (U' (b + 1)) E (goL E L t) rn rp ∧ OV z V V' ∧ (∀ y, y ≠ b + 1 → U' y = U y) := by
  obtain ⟨iE, iL, hw', hE, hL, mE, mC, hs, hz, pC, pM, iR⟩ := nw_parts hN
  have he := iE.2.1
  obtain ⟨V1, a1, a2, a3⟩ := c_goBy hn hE iE (ad_now z) hL iL ht
  obtain ⟨U1, b1, b2, b3, b4⟩ := m_goes hn mE iE mC iL ht
  have r1 : V1 (z + 1) = V (z + 1) := a3 _ (by omega)
  refine ⟨up2 V1 (z + 1) 2 (V1 (z + 1) 2 + nI (goW E L t)), U1, ?_, b1, ?_, ?_, b3.1⟩
  · unfold pX8_goByNow
    rw [a1]
    simp only [o_b, letv]
  · refine ⟨iE, goL_IL iL ht (by omega), by rw [goL_w]; omega, (hE.cf (ad_now z) a3).up (by omega), LC.up (show LC V1 (z + 1 + 1) _ from a2) (by omega), mE.mf b3, b2, ?_, ?_, ?_, pM.fr iR.1 fun i hi => b3.2 i (by omega), iR⟩
    · rw [w_same, r1, b4, hs]
    · rw [w_idx (by omega), r1, b3.2 4 (by omega), hz]
    · exact (pC.fr (by rw [a3 _ (by omega)]) fun x h1 h2 => a3 x (by omega)).up (by omega)
  · exact OV.all fun x hx => by rw [w_row (by omega)]; exact a3 x (by omega)
theorem ok_wash' (hn : 1000 ≤ n) (h : RelB z b V R G U) : ∃ o om, pX8_wash n G V R z = some o ∧ pX9_wash n U b = some om ∧ o.1 = om.1 ∧ RelB z b o.2 R G om.2 := by
  obtain ⟨hW, ⟨E, L, rn, rp, hN⟩, hO⟩ := id h
  obtain ⟨iE, iL, hw, hE, hL, mE, mC, hs, hz, pC, pM, iR⟩ := nw_parts hN
  unfold pX8_wash pX9_wash
  by_cases q : E_en E ≤ L_w L
  · exact pkx (-(nI 4)) (by simp (disch := omega) only [c_over hE iE hL iL, q, letv, o_b, ↓reduceIte, e_sub, e_add, e_mul, e_ld, e_st, e_lt, e_nlt, e_le, e_nle, e_eq, e_neq, e_div, e_rem, m_lt, m_le, m_eq, m_eq2, m_ng, o_ld, true_and, and_true, Nat.one_ne_zero, Nat.zero_ne_one, Nat.reduceEqDiff, Bool.false_eq_true, not_true_eq_false, not_false_eq_true, li_0, li_1, li_2, li_3, li_4, li_5, li_6, li_7, li_8, li_9, li_10, li_11, li_12, li_13, li_14, li_15, li_16, li_20, li_23, li_25, li_30, li_31, li_32, li_38, li_40, li_41, li_44, li_48, li_50, li_51, li_52, li_57, li_59, li_60, li_61, li_62, li_63, li_66, li_81, li_94, li_97, li_98, li_99, li_100, li_101, li_103, li_104, li_105, li_107, li_108, li_109, li_110, li_111, li_112, li_114, li_115, li_116, li_117, li_118, li_122, li_200, li_572, li_600, li_9999, li_10000, li_12345, li_1103515245]) (by simp (disch := omega) only [m_over mE iE mC iL, q, letv, o_b, ↓reduceIte, e_sub, e_add, e_mul, e_ld, e_st, e_lt, e_nlt, e_le, e_nle, e_eq, e_neq, e_div, e_rem, m_lt, m_le, m_eq, m_eq2, m_ng, o_ld, true_and, and_true, Nat.one_ne_zero, Nat.zero_ne_one, Nat.reduceEqDiff, Bool.false_eq_true, not_true_eq_false, not_false_eq_true, li_0, li_1, li_2, li_3, li_4, li_5, li_6, li_7, li_8, li_9, li_10, li_11, li_12, li_13, li_14, li_15, li_16, li_20, li_23, li_25, li_30, li_31, li_32, li_38, li_40, li_41, li_44, li_48, li_50, li_51, li_52, li_57, li_59, li_60, li_61, li_62, li_63, li_66, li_81, li_94, li_97, li_98, li_99, li_100, li_101, li_103, li_104, li_105, li_107, li_108, li_109, li_110, li_111, li_112, li_114, li_115, li_116, li_117, li_118, li_122, li_200, li_572, li_600, li_9999, li_10000, li_12345, li_1103515245]) h
  · obtain ⟨V', U', g1, g2, g3, g4, g5⟩ := rl_go hn hN (show L_w L < E_en E by omega) (t := rsA E L) rsA_le
    refine pk (x := nI (goW E L (rsA E L))) (V' := V') (U' := U') ?_ ?_ rfl ⟨hW, ⟨E, _, rn, rp, g3⟩, hO.fr g4 (OU.all fun y h1 _ => g5 y h1)⟩
    · simp (disch := omega) only [c_over hE iE hL iL, q, c_rest hn hE iE hL iL, g1, letv, o_b, ↓reduceIte, e_sub, e_add, e_mul, e_ld, e_st, e_lt, e_nlt, e_le, e_nle, e_eq, e_neq, e_div, e_rem, m_lt, m_le, m_eq, m_eq2, m_ng, o_ld, true_and, and_true, Nat.one_ne_zero, Nat.zero_ne_one, Nat.reduceEqDiff, Bool.false_eq_true, not_true_eq_false, not_false_eq_true, li_0, li_1, li_2, li_3, li_4, li_5, li_6, li_7, li_8, li_9, li_10, li_11, li_12, li_13, li_14, li_15, li_16, li_20, li_23, li_25, li_30, li_31, li_32, li_38, li_40, li_41, li_44, li_48, li_50, li_51, li_52, li_57, li_59, li_60, li_61, li_62, li_63, li_66, li_81, li_94, li_97, li_98, li_99, li_100, li_101, li_103, li_104, li_105, li_107, li_108, li_109, li_110, li_111, li_112, li_114, li_115, li_116, li_117, li_118, li_122, li_200, li_572, li_600, li_9999, li_10000, li_12345, li_1103515245]
    · simp (disch := omega) only [m_over mE iE mC iL, q, m_rest hn mE iE mC iL, g2, letv, o_b, ↓reduceIte, e_sub, e_add, e_mul, e_ld, e_st, e_lt, e_nlt, e_le, e_nle, e_eq, e_neq, e_div, e_rem, m_lt, m_le, m_eq, m_eq2, m_ng, o_ld, true_and, and_true, Nat.one_ne_zero, Nat.zero_ne_one, Nat.reduceEqDiff, Bool.false_eq_true, not_true_eq_false, not_false_eq_true, li_0, li_1, li_2, li_3, li_4, li_5, li_6, li_7, li_8, li_9, li_10, li_11, li_12, li_13, li_14, li_15, li_16, li_20, li_23, li_25, li_30, li_31, li_32, li_38, li_40, li_41, li_44, li_48, li_50, li_51, li_52, li_57, li_59, li_60, li_61, li_62, li_63, li_66, li_81, li_94, li_97, li_98, li_99, li_100, li_101, li_103, li_104, li_105, li_107, li_108, li_109, li_110, li_111, li_112, li_114, li_115, li_116, li_117, li_118, li_122, li_200, li_572, li_600, li_9999, li_10000, li_12345, li_1103515245]
theorem js16 (x : Int32) : ∃ v, v < 65536 ∧ jushr x 16 = nI v := by
  refine ⟨(x.toUInt32 >>> (Int32.toUInt32 16 &&& Int32.toUInt32 31)).toNat, ?_, ?_⟩
  · rw [UInt32.toNat_shiftRight, show ((Int32.toUInt32 16 &&& Int32.toUInt32 31).toNat % 32) = 16 by decide, Nat.shiftRight_eq_div_pow]
    have := UInt32.toNat_lt x.toUInt32
    omega
  · unfold jushr
    generalize x.toUInt32 >>> (Int32.toUInt32 16 &&& Int32.toUInt32 31) = u
    show u.toInt32 = Int32.ofNat u.toNat
    have : u = UInt32.ofNat u.toNat := UInt32.ofNat_toNat.symm
    conv => lhs; rw [this]
    rfl
/-- the act by chance -/
def loA (zz : Int32) (c : Nat) : Nat := (jushr zz 16).toNatClampNeg % (c + 1)
theorem loA_ok (zz : Int32) {c : Nat} (hc : c ≤ 6) : loA zz c ≤ c ∧ rmI (jushr zz 16) (nI c + 1) = some (nI (loA zz c)) := by
  obtain ⟨v, h1, h2⟩ := js16 zz
  unfold loA
  rw [h2, nI_clamp (by omega)]
  have := Nat.mod_lt v (show 0 < c + 1 by omega)
  refine ⟨by omega, ?_⟩
  unfold rmI
  rw [li_1, e_add, if_neg (by rw [li_0, e_neq (by omega) (by omega) (by omega)]; exact id), e_rem (by omega) (by omega)]
def nxL (zz : Int32) : Int32 := zz * 1103515245 + 12345
theorem nx_c (zz : Int32) : pX8_nextLot zz = some (nxL zz) := rfl
theorem nx_m (zz : Int32) : zz * 1103515245 + 12345 = nxL zz := rfl
theorem c_drawn (zz : Int32) {c : Nat} (hc : c ≤ 6) : pX8_drawn zz (nI c) = some (nI (loA zz c)) := by
  unfold pX8_drawn
  rw [(loA_ok zz hc).2]
  simp (disch := omega) only [letv, o_b, ↓reduceIte, e_sub, e_add, e_mul, e_ld, e_st, e_lt, e_nlt, e_le, e_nle, e_eq, e_neq, e_div, e_rem, m_lt, m_le, m_eq, m_eq2, m_ng, o_ld, true_and, and_true, Nat.one_ne_zero, Nat.zero_ne_one, Nat.reduceEqDiff, Bool.false_eq_true, not_true_eq_false, not_false_eq_true, li_0, li_1, li_2, li_3, li_4, li_5, li_6, li_7, li_8, li_9, li_10, li_11, li_12, li_13, li_14, li_15, li_16, li_20, li_23, li_25, li_30, li_31, li_32, li_38, li_40, li_41, li_44, li_48, li_50, li_51, li_52, li_57, li_59, li_60, li_61, li_62, li_63, li_66, li_81, li_94, li_97, li_98, li_99, li_100, li_101, li_103, li_104, li_105, li_107, li_108, li_109, li_110, li_111, li_112, li_114, li_115, li_116, li_117, li_118, li_122, li_200, li_572, li_600, li_9999, li_10000, li_12345, li_1103515245]
theorem ok_lot' (hn : 1000 ≤ n) (h : RelB z b V R G U) : ∃ o om, pX8_lot n G V R z = some o ∧ pX9_lot n U b = some om ∧ o.1 = om.1 ∧ RelB z b o.2 R G om.2 := by
  obtain ⟨hW, ⟨E, L, rn, rp, hN⟩, hO⟩ := id h
  obtain ⟨iE, iL, hw, hE, hL, mE, mC, hs, hz, pC, pM, iR⟩ := nw_parts hN
  have hc := iL.2.1
  unfold pX8_lot pX9_lot
  by_cases q : E_en E ≤ L_w L
  · exact pkx (-(nI 4)) (by simp (disch := omega) only [c_over hE iE hL iL, q, letv, o_b, ↓reduceIte, e_sub, e_add, e_mul, e_ld, e_st, e_lt, e_nlt, e_le, e_nle, e_eq, e_neq, e_div, e_rem, m_lt, m_le, m_eq, m_eq2, m_ng, o_ld, true_and, and_true, Nat.one_ne_zero, Nat.zero_ne_one, Nat.reduceEqDiff, Bool.false_eq_true, not_true_eq_false, not_false_eq_true, li_0, li_1, li_2, li_3, li_4, li_5, li_6, li_7, li_8, li_9, li_10, li_11, li_12, li_13, li_14, li_15, li_16, li_20, li_23, li_25, li_30, li_31, li_32, li_38, li_40, li_41, li_44, li_48, li_50, li_51, li_52, li_57, li_59, li_60, li_61, li_62, li_63, li_66, li_81, li_94, li_97, li_98, li_99, li_100, li_101, li_103, li_104, li_105, li_107, li_108, li_109, li_110, li_111, li_112, li_114, li_115, li_116, li_117, li_118, li_122, li_200, li_572, li_600, li_9999, li_10000, li_12345, li_1103515245]) (by simp (disch := omega) only [m_over mE iE mC iL, q, letv, o_b, ↓reduceIte, e_sub, e_add, e_mul, e_ld, e_st, e_lt, e_nlt, e_le, e_nle, e_eq, e_neq, e_div, e_rem, m_lt, m_le, m_eq, m_eq2, m_ng, o_ld, true_and, and_true, Nat.one_ne_zero, Nat.zero_ne_one, Nat.reduceEqDiff, Bool.false_eq_true, not_true_eq_false, not_false_eq_true, li_0, li_1, li_2, li_3, li_4, li_5, li_6, li_7, li_8, li_9, li_10, li_11, li_12, li_13, li_14, li_15, li_16, li_20, li_23, li_25, li_30, li_31, li_32, li_38, li_40, li_41, li_44, li_48, li_50, li_51, li_52, li_57, li_59, li_60, li_61, li_62, li_63, li_66, li_81, li_94, li_97, li_98, li_99, li_100, li_101, li_103, li_104, li_105, li_107, li_108, li_109, li_110, li_111, li_112, li_114, li_115, li_116, li_117, li_118, li_122, li_200, li_572, li_600, li_9999, li_10000, li_12345, li_1103515245]) h
  · obtain ⟨zz, hzz⟩ : ∃ zz, zz = nxL (V (z + 1) 3) := ⟨_, rfl⟩
    have e1 : pX8_nextLot (V (z + 1) 3) = some zz := by rw [hzz]; exact nx_c _
    have e2 : U (b + 1) 4 * 1103515245 + 12345 = zz := by rw [hzz, hz]; exact nx_m _
    clear hzz
    have hN2 : NQ G (up2 V (z + 1) 3 zz) R z (z + 1) (up2 U (b + 1) 4 zz (b + 1)) E L rn rp := by
      refine ⟨iE, iL, hw, hE.up (by omega), hL.up (by omega), mE.low (by omega), mC.up (by omega), ?_, ?_, pC.up (by omega), pM.up iR.1 (by omega), iR⟩
      · rw [w_idx (by omega), w_idx (by omega)]; exact hs
      · rw [w_same, w_same]
    obtain ⟨l1, l2⟩ := loA_ok zz hc
    obtain ⟨V', U', g1, g2, g3, g4, g5⟩ := rl_go hn hN2 (show L_w L < E_en E by omega) (t := loA zz (L_c L)) l1
    have f1 : V (z + 2) 1 = nI (L_c L) := hL.2.1
    have f2 := mC.2.1
    refine pk (x := nI (goW E L (loA zz (L_c L)))) (V' := V') (U' := U') ?_ ?_ rfl ⟨hW, ⟨E, _, rn, rp, g3⟩, hO.fr ?_ (OU.all fun y h1 _ => by rw [g5 y h1, w_row h1])⟩
    · have e7 : up2 V (z + 1) 3 zz (z + 2) 1 = nI (L_c L) := by rw [w_row (by omega)]; exact f1
      rw [c_over hE iE hL iL, if_neg q]
      simp only [o_b, letv, li_0, ↓reduceIte, e1, w_same, e7, c_drawn _ hc, g1]
    · unfold pX9_goesByLot
      have e6 : up2 U (b + 1) 4 zz (b + 1) 0 = nI (L_c L) := by rw [w_idx (by omega)]; exact f2
      rw [li_1] at l2
      rw [m_over mE iE mC iL, if_neg q]
      simp (disch := omega) only [o_b, li_0, li_1, li_4, e_ld, e_st, e2, w_same, e6, ↓reduceIte, l2, g2]
    · exact OV.tr (OV.all fun x hx => w_row (by omega)) g4
theorem ok_on' (hn : 1000 ≤ n) (h : RelB z b V R G U) (a1 : Int32) : ∃ o om, pX8_on n G V R z a1 = some o ∧ pX9_on n U b a1 = some om ∧ o.1 = om.1 ∧ RelB z b o.2 R G om.2 := by
  obtain ⟨hW, ⟨E, L, rn, rp, hN⟩, hO⟩ := id h
  obtain ⟨iE, iL, hw, hE, hL, mE, mC, hs, hz, pC, pM, iR⟩ := nw_parts hN
  unfold pX8_on pX9_on
  rcases wi (x := a1) (lo := 0) (hi := 16) (by omega) (by omega) with ⟨k, -, hk, rfl, w1, w2⟩ | ⟨w1, w2⟩
  · obtain ⟨V1, c1, c2, c3⟩ := c_copy (b := z + 31) (a := z + 2) hL (by omega)
    obtain ⟨V2', d1, d2, d3⟩ := c_gr hn (hE.cf (ad_tr (by omega)) c3) iE (ad_tr (a := z + 31) (by omega)) c2 iL hw hk
    obtain ⟨U', g1, g2⟩ := m_onBy hn mE iE mC iL hw hk
    have hq := sd_fr (c3.tr d3) (z := z) (by omega)
    refine pk (x := nI (grW E k L)) (V' := V2') (U' := U') ?_ ?_ rfl (h.ask (tr_NF hq) (tr_OV hq) (g2 _ (by omega)) (OU.asd g2))
    · simp (disch := omega) only [w1, e_10, c1, d1, letv, o_b, ↓reduceIte, e_sub, e_add, e_mul, e_ld, e_st, e_lt, e_nlt, e_le, e_nle, e_eq, e_neq, e_div, e_rem, m_lt, m_le, m_eq, m_eq2, m_ng, o_ld, true_and, and_true, Nat.one_ne_zero, Nat.zero_ne_one, Nat.reduceEqDiff, Bool.false_eq_true, not_true_eq_false, not_false_eq_true, li_0, li_1, li_2, li_3, li_4, li_5, li_6, li_7, li_8, li_9, li_10, li_11, li_12, li_13, li_14, li_15, li_16, li_20, li_23, li_25, li_30, li_31, li_32, li_38, li_40, li_41, li_44, li_48, li_50, li_51, li_52, li_57, li_59, li_60, li_61, li_62, li_63, li_66, li_81, li_94, li_97, li_98, li_99, li_100, li_101, li_103, li_104, li_105, li_107, li_108, li_109, li_110, li_111, li_112, li_114, li_115, li_116, li_117, li_118, li_122, li_200, li_572, li_600, li_9999, li_10000, li_12345, li_1103515245]
    · simp (disch := omega) only [lj_0, lj_16, w2, e_10, g1, letv, o_b, ↓reduceIte, e_sub, e_add, e_mul, e_ld, e_st, e_lt, e_nlt, e_le, e_nle, e_eq, e_neq, e_div, e_rem, m_lt, m_le, m_eq, m_eq2, m_ng, o_ld, true_and, and_true, Nat.one_ne_zero, Nat.zero_ne_one, Nat.reduceEqDiff, Bool.false_eq_true, not_true_eq_false, not_false_eq_true, li_0, li_1, li_2, li_3, li_4, li_5, li_6, li_7, li_8, li_9, li_10, li_11, li_12, li_13, li_14, li_15, li_16, li_20, li_23, li_25, li_30, li_31, li_32, li_38, li_40, li_41, li_44, li_48, li_50, li_51, li_52, li_57, li_59, li_60, li_61, li_62, li_63, li_66, li_81, li_94, li_97, li_98, li_99, li_100, li_101, li_103, li_104, li_105, li_107, li_108, li_109, li_110, li_111, li_112, li_114, li_115, li_116, li_117, li_118, li_122, li_200, li_572, li_600, li_9999, li_10000, li_12345, li_1103515245]
  · exact pkx (-(nI 1)) (by simp (disch := omega) only [w1, letv, o_b, ↓reduceIte, e_sub, e_add, e_mul, e_ld, e_st, e_lt, e_nlt, e_le, e_nle, e_eq, e_neq, e_div, e_rem, m_lt, m_le, m_eq, m_eq2, m_ng, o_ld, true_and, and_true, Nat.one_ne_zero, Nat.zero_ne_one, Nat.reduceEqDiff, Bool.false_eq_true, not_true_eq_false, not_false_eq_true, li_0, li_1, li_2, li_3, li_4, li_5, li_6, li_7, li_8, li_9, li_10, li_11, li_12, li_13, li_14, li_15, li_16, li_20, li_23, li_25, li_30, li_31, li_32, li_38, li_40, li_41, li_44, li_48, li_50, li_51, li_52, li_57, li_59, li_60, li_61, li_62, li_63, li_66, li_81, li_94, li_97, li_98, li_99, li_100, li_101, li_103, li_104, li_105, li_107, li_108, li_109, li_110, li_111, li_112, li_114, li_115, li_116, li_117, li_118, li_122, li_200, li_572, li_600, li_9999, li_10000, li_12345, li_1103515245]) (by simp (disch := omega) only [lj_0, lj_16, w2, letv, o_b, ↓reduceIte, e_sub, e_add, e_mul, e_ld, e_st, e_lt, e_nlt, e_le, e_nle, e_eq, e_neq, e_div, e_rem, m_lt, m_le, m_eq, m_eq2, m_ng, o_ld, true_and, and_true, Nat.one_ne_zero, Nat.zero_ne_one, Nat.reduceEqDiff, Bool.false_eq_true, not_true_eq_false, not_false_eq_true, li_0, li_1, li_2, li_3, li_4, li_5, li_6, li_7, li_8, li_9, li_10, li_11, li_12, li_13, li_14, li_15, li_16, li_20, li_23, li_25, li_30, li_31, li_32, li_38, li_40, li_41, li_44, li_48, li_50, li_51, li_52, li_57, li_59, li_60, li_61, li_62, li_63, li_66, li_81, li_94, li_97, li_98, li_99, li_100, li_101, li_103, li_104, li_105, li_107, li_108, li_109, li_110, li_111, li_112, li_114, li_115, li_116, li_117, li_118, li_122, li_200, li_572, li_600, li_9999, li_10000, li_12345, li_1103515245]) h
theorem c_left_core (hn : 1000 ≤ n) (hi : IE E) {N : Nat} (hN : N ≤ 16) : ∀ m x f {U : V2} {L : Ld}, x + m = N → m < f → ME (U (b + 1)) E → MC (U (b + 1)) L → IL L → L_w L ≤ E_en E → ∃ U', lX9_left_31 n b (nI N) f U (nI x) = some U' ∧ MC (U' (b + 1)) (grL E m L) ∧ MF b U U' := by
  have he := hi.2.1
  intro m
  induction m with
  | zero =>
    intro x f U L h1 h2 hE h hL hw
    obtain ⟨f, rfl⟩ : ∃ g, f = g + 1 := ⟨f - 1, by omega⟩
    refine ⟨U, ?_, h, MF.rf⟩
    unfold lX9_left_31
    simp (disch := omega) only [letv, o_b, ↓reduceIte, e_sub, e_add, e_mul, e_ld, e_st, e_lt, e_nlt, e_le, e_nle, e_eq, e_neq, e_div, e_rem, m_lt, m_le, m_eq, m_eq2, m_ng, o_ld, true_and, and_true, Nat.one_ne_zero, Nat.zero_ne_one, Nat.reduceEqDiff, Bool.false_eq_true, not_true_eq_false, not_false_eq_true, li_0, li_1, li_2, li_3, li_4, li_5, li_6, li_7, li_8, li_9, li_10, li_11, li_12, li_13, li_14, li_15, li_16, li_20, li_23, li_25, li_30, li_31, li_32, li_38, li_40, li_41, li_44, li_48, li_50, li_51, li_52, li_57, li_59, li_60, li_61, li_62, li_63, li_66, li_81, li_94, li_97, li_98, li_99, li_100, li_101, li_103, li_104, li_105, li_107, li_108, li_109, li_110, li_111, li_112, li_114, li_115, li_116, li_117, li_118, li_122, li_200, li_572, li_600, li_9999, li_10000, li_12345, li_1103515245]
  | succ m ih =>
    intro x f U L h1 h2 hE h hL hw
    obtain ⟨f, rfl⟩ : ∃ g, f = g + 1 := ⟨f - 1, by omega⟩
    by_cases q : E_en E ≤ L_w L
    · refine ⟨U, ?_, by unfold grL; rw [if_pos q]; exact h, MF.rf⟩
      unfold lX9_left_31
      simp (disch := omega) only [m_over hE hi h hL, q, letv, o_b, ↓reduceIte, e_sub, e_add, e_mul, e_ld, e_st, e_lt, e_nlt, e_le, e_nle, e_eq, e_neq, e_div, e_rem, m_lt, m_le, m_eq, m_eq2, m_ng, o_ld, true_and, and_true, Nat.one_ne_zero, Nat.zero_ne_one, Nat.reduceEqDiff, Bool.false_eq_true, not_true_eq_false, not_false_eq_true, li_0, li_1, li_2, li_3, li_4, li_5, li_6, li_7, li_8, li_9, li_10, li_11, li_12, li_13, li_14, li_15, li_16, li_20, li_23, li_25, li_30, li_31, li_32, li_38, li_40, li_41, li_44, li_48, li_50, li_51, li_52, li_57, li_59, li_60, li_61, li_62, li_63, li_66, li_81, li_94, li_97, li_98, li_99, li_100, li_101, li_103, li_104, li_105, li_107, li_108, li_109, li_110, li_111, li_112, li_114, li_115, li_116, li_117, li_118, li_122, li_200, li_572, li_600, li_9999, li_10000, li_12345, li_1103515245]
    · obtain ⟨V1, a1, a2, a3, -⟩ := m_goes hn hE hi h hL (t := rsA E L) rsA_le
      obtain ⟨W2, b1, b2, b3⟩ := ih (x + 1) f (by omega) (by omega) (hE.mf a3) a2 (goL_IL hL rsA_le (by omega)) (by rw [goL_w]; omega)
      refine ⟨W2, ?_, by unfold grL; rw [if_neg q]; exact b2, a3.tr b3⟩
      unfold lX9_left_31
      simp (disch := omega) only [m_over hE hi h hL, q, m_rest hn hE hi h hL, a1, b1, letv, o_b, ↓reduceIte, e_sub, e_add, e_mul, e_ld, e_st, e_lt, e_nlt, e_le, e_nle, e_eq, e_neq, e_div, e_rem, m_lt, m_le, m_eq, m_eq2, m_ng, o_ld, true_and, and_true, Nat.one_ne_zero, Nat.zero_ne_one, Nat.reduceEqDiff, Bool.false_eq_true, not_true_eq_false, not_false_eq_true, li_0, li_1, li_2, li_3, li_4, li_5, li_6, li_7, li_8, li_9, li_10, li_11, li_12, li_13, li_14, li_15, li_16, li_20, li_23, li_25, li_30, li_31, li_32, li_38, li_40, li_41, li_44, li_48, li_50, li_51, li_52, li_57, li_59, li_60, li_61, li_62, li_63, li_66, li_81, li_94, li_97, li_98, li_99, li_100, li_101, li_103, li_104, li_105, li_107, li_108, li_109, li_110, li_111, li_112, li_114, li_115, li_116, li_117, li_118, li_122, li_200, li_572, li_600, li_9999, li_10000, li_12345, li_1103515245]
/-- aside, on, back: what is asked of it in between -/
theorem m_think (hn : 1000 ≤ n) : ∃ U1, pX9_laysAside n U b (nI 0) = some U1 ∧ U1 (b + 1) = U (b + 1) ∧ (∀ y, y ≠ b + 3 → U1 y = U y) ∧ ∀ U2, MF b U1 U2 → ∃ U3, pX9_laysBack n U2 b (nI 0) = some U3 ∧ ∀ y, y ≠ b + 3 → U3 y = U y := by
  obtain ⟨U1, a1, a2, a3, a4⟩ := m_aside (n := n) (b := b) (U := U) hn (lv := 0) (by omega)
  have r1 : U1 (b + 1) = U (b + 1) := a2 _ (by omega)
  refine ⟨U1, a1, r1, a2, fun U2 b3 => ?_⟩
  obtain ⟨U3, c1, c2, c3⟩ := m_restore (n := n) (b := b) (U := U2) hn (lv := 0) (by omega) (s := U (b + 1)) (fun i hi => by rw [b3.1 _ (by omega)]; exact a4 i hi) (fun i hi => by rw [b3.2 i (by omega), r1])
  refine ⟨U3, c1, fun y hy => ?_⟩
  by_cases q : y = b + 1
  · rw [q, c3]
  · rw [c2 y q, b3.1 y q, a2 y hy]
theorem ok_left' (hn : 1000 ≤ n) (h : RelB z b V R G U) (a1 a2 : Int32) : ∃ o om, pX8_left n G V R z a1 a2 = some o ∧ pX9_left n U b a1 a2 = some om ∧ o.1 = om.1 ∧ RelB z b o.2 R G om.2 := by
  obtain ⟨hW, ⟨E, L, rn, rp, hN⟩, hO⟩ := id h
  obtain ⟨iE, iL, hw, hE, hL, mE, mC, hs, hz, pC, pM, iR⟩ := nw_parts hN
  unfold pX8_left pX9_left
  rcases wi (x := a1) (lo := 0) (hi := 16) (by omega) (by omega) with ⟨k, -, hk, rfl, w1, w2⟩ | ⟨w1, w2⟩
  · rcases wi (x := a2) (lo := 0) (hi := 1) (by omega) (by omega) with ⟨j, -, hj, rfl, w3, w4⟩ | ⟨w3, w4⟩
    · obtain ⟨V1, c1, c2, c3⟩ := c_copy (b := z + 31) (a := z + 2) hL (by omega)
      obtain ⟨V2', d1, d2, d3⟩ := c_gr hn (hE.cf (ad_tr (by omega)) c3) iE (ad_tr (a := z + 31) (by omega)) c2 iL hw hk
      obtain ⟨U1, g1, g2, g3, g4⟩ := m_think (n := n) (b := b) (U := U) hn
      obtain ⟨U2, e1, e2, e3⟩ := c_left_core (b := b) hn iE hk k 0 n (U := U1) (by omega) (by omega) (by rw [g2]; exact mE) (by rw [g2]; exact mC) iL hw
      obtain ⟨U3, f1, f2⟩ := g4 U2 e3
      obtain ⟨i1, i2, i3⟩ := grL_ok iE k iL hw
      have hq := sd_fr (c3.tr d3) (z := z) (by omega)
      rcases (show j = 0 ∨ j = 1 by omega) with rfl | rfl
      · refine pk (x := nI (bkA (grL E k L))) (V' := V2') (U' := U3) ?_ ?_ rfl (h.ask (tr_NF hq) (tr_OV hq) (f2 _ (by omega)) (OU.asd f2))
        · simp (disch := omega) only [w1, e_10, w3, c1, d1, c_bulk hn d2 i1, letv, o_b, ↓reduceIte, e_sub, e_add, e_mul, e_ld, e_st, e_lt, e_nlt, e_le, e_nle, e_eq, e_neq, e_div, e_rem, m_lt, m_le, m_eq, m_eq2, m_ng, o_ld, true_and, and_true, Nat.one_ne_zero, Nat.zero_ne_one, Nat.reduceEqDiff, Bool.false_eq_true, not_true_eq_false, not_false_eq_true, li_0, li_1, li_2, li_3, li_4, li_5, li_6, li_7, li_8, li_9, li_10, li_11, li_12, li_13, li_14, li_15, li_16, li_20, li_23, li_25, li_30, li_31, li_32, li_38, li_40, li_41, li_44, li_48, li_50, li_51, li_52, li_57, li_59, li_60, li_61, li_62, li_63, li_66, li_81, li_94, li_97, li_98, li_99, li_100, li_101, li_103, li_104, li_105, li_107, li_108, li_109, li_110, li_111, li_112, li_114, li_115, li_116, li_117, li_118, li_122, li_200, li_572, li_600, li_9999, li_10000, li_12345, li_1103515245]
        · simp (disch := omega) only [lj_0, lj_1, lj_16, w2, e_10, w4, g1, e1, m_bulk hn e2 i1, f1, letv, o_b, ↓reduceIte, e_sub, e_add, e_mul, e_ld, e_st, e_lt, e_nlt, e_le, e_nle, e_eq, e_neq, e_div, e_rem, m_lt, m_le, m_eq, m_eq2, m_ng, o_ld, true_and, and_true, Nat.one_ne_zero, Nat.zero_ne_one, Nat.reduceEqDiff, Bool.false_eq_true, not_true_eq_false, not_false_eq_true, li_0, li_1, li_2, li_3, li_4, li_5, li_6, li_7, li_8, li_9, li_10, li_11, li_12, li_13, li_14, li_15, li_16, li_20, li_23, li_25, li_30, li_31, li_32, li_38, li_40, li_41, li_44, li_48, li_50, li_51, li_52, li_57, li_59, li_60, li_61, li_62, li_63, li_66, li_81, li_94, li_97, li_98, li_99, li_100, li_101, li_103, li_104, li_105, li_107, li_108, li_109, li_110, li_111, li_112, li_114, li_115, li_116, li_117, li_118, li_122, li_200, li_572, li_600, li_9999, li_10000, li_12345, li_1103515245]
      · refine pk (x := nI (L_f (grL E k L))) (V' := V2') (U' := U3) ?_ ?_ rfl (h.ask (tr_NF hq) (tr_OV hq) (f2 _ (by omega)) (OU.asd f2))
        · simp (disch := omega) only [w1, e_10, w3, c1, d1, d2.2.2.1, letv, o_b, ↓reduceIte, e_sub, e_add, e_mul, e_ld, e_st, e_lt, e_nlt, e_le, e_nle, e_eq, e_neq, e_div, e_rem, m_lt, m_le, m_eq, m_eq2, m_ng, o_ld, true_and, and_true, Nat.one_ne_zero, Nat.zero_ne_one, Nat.reduceEqDiff, Bool.false_eq_true, not_true_eq_false, not_false_eq_true, li_0, li_1, li_2, li_3, li_4, li_5, li_6, li_7, li_8, li_9, li_10, li_11, li_12, li_13, li_14, li_15, li_16, li_20, li_23, li_25, li_30, li_31, li_32, li_38, li_40, li_41, li_44, li_48, li_50, li_51, li_52, li_57, li_59, li_60, li_61, li_62, li_63, li_66, li_81, li_94, li_97, li_98, li_99, li_100, li_101, li_103, li_104, li_105, li_107, li_108, li_109, li_110, li_111, li_112, li_114, li_115, li_116, li_117, li_118, li_122, li_200, li_572, li_600, li_9999, li_10000, li_12345, li_1103515245]
        · simp (disch := omega) only [lj_0, lj_1, lj_16, w2, e_10, w4, g1, e1, m_flats hn e2 i1, f1, letv, o_b, ↓reduceIte, e_sub, e_add, e_mul, e_ld, e_st, e_lt, e_nlt, e_le, e_nle, e_eq, e_neq, e_div, e_rem, m_lt, m_le, m_eq, m_eq2, m_ng, o_ld, true_and, and_true, Nat.one_ne_zero, Nat.zero_ne_one, Nat.reduceEqDiff, Bool.false_eq_true, not_true_eq_false, not_false_eq_true, li_0, li_1, li_2, li_3, li_4, li_5, li_6, li_7, li_8, li_9, li_10, li_11, li_12, li_13, li_14, li_15, li_16, li_20, li_23, li_25, li_30, li_31, li_32, li_38, li_40, li_41, li_44, li_48, li_50, li_51, li_52, li_57, li_59, li_60, li_61, li_62, li_63, li_66, li_81, li_94, li_97, li_98, li_99, li_100, li_101, li_103, li_104, li_105, li_107, li_108, li_109, li_110, li_111, li_112, li_114, li_115, li_116, li_117, li_118, li_122, li_200, li_572, li_600, li_9999, li_10000, li_12345, li_1103515245]
    · exact pkx (-(nI 1)) (by simp (disch := omega) only [w1, e_10, w3, letv, o_b, ↓reduceIte, e_sub, e_add, e_mul, e_ld, e_st, e_lt, e_nlt, e_le, e_nle, e_eq, e_neq, e_div, e_rem, m_lt, m_le, m_eq, m_eq2, m_ng, o_ld, true_and, and_true, Nat.one_ne_zero, Nat.zero_ne_one, Nat.reduceEqDiff, Bool.false_eq_true, not_true_eq_false, not_false_eq_true, li_0, li_1, li_2, li_3, li_4, li_5, li_6, li_7, li_8, li_9, li_10, li_11, li_12, li_13, li_14, li_15, li_16, li_20, li_23, li_25, li_30, li_31, li_32, li_38, li_40, li_41, li_44, li_48, li_50, li_51, li_52, li_57, li_59, li_60, li_61, li_62, li_63, li_66, li_81, li_94, li_97, li_98, li_99, li_100, li_101, li_103, li_104, li_105, li_107, li_108, li_109, li_110, li_111, li_112, li_114, li_115, li_116, li_117, li_118, li_122, li_200, li_572, li_600, li_9999, li_10000, li_12345, li_1103515245]) (by simp (disch := omega) only [lj_0, lj_1, lj_16, w2, e_10, w4, letv, o_b, ↓reduceIte, e_sub, e_add, e_mul, e_ld, e_st, e_lt, e_nlt, e_le, e_nle, e_eq, e_neq, e_div, e_rem, m_lt, m_le, m_eq, m_eq2, m_ng, o_ld, true_and, and_true, Nat.one_ne_zero, Nat.zero_ne_one, Nat.reduceEqDiff, Bool.false_eq_true, not_true_eq_false, not_false_eq_true, li_0, li_1, li_2, li_3, li_4, li_5, li_6, li_7, li_8, li_9, li_10, li_11, li_12, li_13, li_14, li_15, li_16, li_20, li_23, li_25, li_30, li_31, li_32, li_38, li_40, li_41, li_44, li_48, li_50, li_51, li_52, li_57, li_59, li_60, li_61, li_62, li_63, li_66, li_81, li_94, li_97, li_98, li_99, li_100, li_101, li_103, li_104, li_105, li_107, li_108, li_109, li_110, li_111, li_112, li_114, li_115, li_116, li_117, li_118, li_122, li_200, li_572, li_600, li_9999, li_10000, li_12345, li_1103515245]) h
  · exact pkx (-(nI 1)) (by simp (disch := omega) only [w1, letv, o_b, ↓reduceIte, e_sub, e_add, e_mul, e_ld, e_st, e_lt, e_nlt, e_le, e_nle, e_eq, e_neq, e_div, e_rem, m_lt, m_le, m_eq, m_eq2, m_ng, o_ld, true_and, and_true, Nat.one_ne_zero, Nat.zero_ne_one, Nat.reduceEqDiff, Bool.false_eq_true, not_true_eq_false, not_false_eq_true, li_0, li_1, li_2, li_3, li_4, li_5, li_6, li_7, li_8, li_9, li_10, li_11, li_12, li_13, li_14, li_15, li_16, li_20, li_23, li_25, li_30, li_31, li_32, li_38, li_40, li_41, li_44, li_48, li_50, li_51, li_52, li_57, li_59, li_60, li_61, li_62, li_63, li_66, li_81, li_94, li_97, li_98, li_99, li_100, li_101, li_103, li_104, li_105, li_107, li_108, li_109, li_110, li_111, li_112, li_114, li_115, li_116, li_117, li_118, li_122, li_200, li_572, li_600, li_9999, li_10000, li_12345, li_1103515245]) (by simp (disch := omega) only [lj_0, lj_16, w2, letv, o_b, ↓reduceIte, e_sub, e_add, e_mul, e_ld, e_st, e_lt, e_nlt, e_le, e_nle, e_eq, e_neq, e_div, e_rem, m_lt, m_le, m_eq, m_eq2, m_ng, o_ld, true_and, and_true, Nat.one_ne_zero, Nat.zero_ne_one, Nat.reduceEqDiff, Bool.false_eq_true, not_true_eq_false, not_false_eq_true, li_0, li_1, li_2, li_3, li_4, li_5, li_6, li_7, li_8, li_9, li_10, li_11, li_12, li_13, li_14, li_15, li_16, li_20, li_23, li_25, li_30, li_31, li_32, li_38, li_40, li_41, li_44, li_48, li_50, li_51, li_52, li_57, li_59, li_60, li_61, li_62, li_63, li_66, li_81, li_94, li_97, li_98, li_99, li_100, li_101, li_103, li_104, li_105, li_107, li_108, li_109, li_110, li_111, li_112, li_114, li_115, li_116, li_117, li_118, li_122, li_200, li_572, li_600, li_9999, li_10000, li_12345, li_1103515245]) h
end Q1
