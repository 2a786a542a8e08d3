/-! one number is set on both sides -/
def upF (f : Nat → Nat) (k v : Nat) : Nat → Nat := fun x => if x = k then v else f x
theorem upF_at {f : Nat → Nat} {k v x : Nat} : upF f k v x = if x = k then v else f x := rfl
def E_sen (E : En) (v : Nat) : En := (v, E.2)
def E_sir (E : En) (k v : Nat) : En := (E.1, upF (E_ir E) k v, E.2.2)
def E_swt (E : En) (k v : Nat) : En := (E.1, E.2.1, upF (E_wt E) k v, E.2.2.2)
def E_srp (E : En) (k v : Nat) : En := (E.1, E.2.1, E.2.2.1, upF (E_rp E) k v, E.2.2.2.2)
theorem w_ne {x : Int32} {lo hi k : Nat} (h : pX8_within x (nI lo) (nI hi) = some (nI 0)) (h1 : lo ≤ k) (h2 : k ≤ hi) (hh : hi < 2147483648) : (x = nI k) = False := eq_false fun q => by
  subst q
  unfold pX8_within at h
  simp (disch := omega) only [e_nlt, ↓reduceIte, li_1] at h
  exact absurd (Option.some.inj h) (by decide)
theorem e_10 : (nI 1 = nI 0) = False := eq_false (by decide)
theorem w_in {lo hi k : Nat} (h1 : lo ≤ k) (h2 : k ≤ hi) (hh : hi < 2147483648) : pX8_within (nI k) (nI lo) (nI hi) = some (nI 1) := by
  unfold pX8_within
  simp (disch := omega) only [letv, o_b, ↓reduceIte, e_sub, e_add, e_mul, e_ld, e_st, e_lt, e_nlt, e_le, e_nle, e_eq, e_neq, e_div, e_rem, m_lt, m_le, m_eq, m_eq2, m_ng, o_ld, true_and, and_true, Nat.one_ne_zero, Nat.zero_ne_one, Nat.reduceEqDiff, Bool.false_eq_true, not_true_eq_false, not_false_eq_true, li_0, li_1, li_2, li_3, li_4, li_5, li_6, li_7, li_8, li_9, li_10, li_11, li_12, li_13, li_14, li_15, li_16, li_20, li_23, li_25, li_30, li_31, li_32, li_38, li_40, li_41, li_44, li_48, li_50, li_51, li_52, li_57, li_59, li_60, li_61, li_62, li_63, li_66, li_81, li_94, li_97, li_98, li_99, li_100, li_101, li_103, li_104, li_105, li_107, li_108, li_109, li_110, li_111, li_112, li_114, li_115, li_116, li_117, li_118, li_122, li_200, li_572, li_600, li_9999, li_10000, li_12345, li_1103515245]
theorem i_in {lo hi k : Nat} (h1 : lo ≤ k) (h2 : k ≤ hi) (hh : hi < 2147483648) : pX9_isIn (nI k).toInt64 (lN lo) (lN hi) = some (nI 1) := by
  rcases wi (x := nI k) (lo := lo) (hi := hi) hh (by omega) with ⟨_, -, -, -, -, q⟩ | ⟨q, -⟩
  · exact q
  · rw [w_in h1 h2 hh] at q
    exact absurd (Option.some.inj q) (by decide)
theorem w_out {lo hi k : Nat} (h2 : k < lo ∨ hi < k) (hh : hi < 2147483648) (hl : lo < 2147483648) (hk : k < 2147483648) : pX8_within (nI k) (nI lo) (nI hi) = some (nI 0) ∧ pX9_isIn (nI k).toInt64 (lN lo) (lN hi) = some (nI 0) := by
  rcases wi (x := nI k) (lo := lo) (hi := hi) hh hl with ⟨j, h3, h4, h5, -, -⟩ | q
  · have := (nI_eq hk (by omega)).mp h5
    omega
  · exact q
theorem isB {x : Int32} : pX9_isBoard x = pX8_within x (nI 0) (nI 5) := by
  unfold pX9_isBoard pX8_within
  have e : ((6 : Int32) ≤ x) ↔ (nI 5 < x) := by
    rw [Int32.le_iff_toInt_le, Int32.lt_iff_toInt_lt, nI_toInt (by omega), show (6 : Int32).toInt = 6 from by decide]
    omega
  rw [show (0 : Int32) = nI 0 from rfl]
  by_cases q : x < nI 0
  · rw [if_pos q, if_pos q]
  · rw [if_neg q, if_neg q]
    by_cases q2 : nI 5 < x
    · rw [if_pos q2, if_pos (e.mpr q2)]
    · rw [if_neg q2, if_neg (fun q3 => q2 (e.mp q3))]
theorem EC.sen {G : G2} {V : V2} {R : R2} {z Y : Nat} {E : En} (h : EC G V R z Y E) (hY : Y + 9 < z + 93) (v : Nat) : EC G (up2 V Y 1 (nI v)) R z Y (E_sen E v) := by
  obtain ⟨g1, g2, g3, g4, g5⟩ := h
  refine ⟨w_same, by rw [w_idx (by omega)]; exact g2, fun i hi => by rw [w_row (by omega)]; exact g3 i hi, fun i hi => by rw [w_row (by omega), w_row (by omega)]; exact g4 i hi, fun i hi => ?_⟩
  obtain ⟨y, hy, hr⟩ := g5 i hi
  exact ⟨y, hy, hr.fr fun x hx => w_row (by omega)⟩
theorem EC.sir {G : G2} {V : V2} {R : R2} {z Y : Nat} {E : En} (h : EC G V R z Y E) (hY : Y + 9 < z + 93) (k v : Nat) : EC G (up2 V (Y + 6) k (nI v)) R z Y (E_sir E k v) := by
  obtain ⟨g1, g2, g3, g4, g5⟩ := h
  refine ⟨by rw [w_row (by omega)]; exact g1, by rw [w_row (by omega)]; exact g2, fun i hi => ?_, fun i hi => by rw [w_row (by omega), w_row (by omega)]; exact g4 i hi, fun i hi => ?_⟩
  · rw [w_at]
    show _ = nI (upF _ _ _ _)
    rw [upF_at]
    split
    · rfl
    · exact g3 i hi
  · obtain ⟨y, hy, hr⟩ := g5 i hi
    exact ⟨y, hy, hr.fr fun x hx => w_row (by omega)⟩
theorem EC.swt {G : G2} {V : V2} {R : R2} {z Y : Nat} {E : En} (h : EC G V R z Y E) (hY : Y + 9 < z + 93) (k v : Nat) : EC G (up2 V (Y + 7) k (nI v)) R z Y (E_swt E k v) := by
  obtain ⟨g1, g2, g3, g4, g5⟩ := h
  refine ⟨by rw [w_row (by omega)]; exact g1, by rw [w_row (by omega)]; exact g2, fun i hi => by rw [w_row (by omega)]; exact g3 i hi, fun i hi => ?_, fun i hi => ?_⟩
  · refine ⟨?_, by rw [w_row (by omega)]; exact (g4 i hi).2⟩
    rw [w_at]
    show _ = nI (upF _ _ _ _)
    rw [upF_at]
    split
    · rfl
    · exact (g4 i hi).1
  · obtain ⟨y, hy, hr⟩ := g5 i hi
    exact ⟨y, hy, hr.fr fun x hx => w_row (by omega)⟩
theorem EC.srp {G : G2} {V : V2} {R : R2} {z Y : Nat} {E : En} (h : EC G V R z Y E) (hY : Y + 9 < z + 93) (k v : Nat) : EC G (up2 V (Y + 8) k (nI v)) R z Y (E_srp E k v) := by
  obtain ⟨g1, g2, g3, g4, g5⟩ := h
  refine ⟨by rw [w_row (by omega)]; exact g1, by rw [w_row (by omega)]; exact g2, fun i hi => by rw [w_row (by omega)]; exact g3 i hi, fun i hi => ?_, fun i hi => ?_⟩
  · refine ⟨by rw [w_row (by omega)]; exact (g4 i hi).1, ?_⟩
    rw [w_at]
    show _ = nI (upF _ _ _ _)
    rw [upF_at]
    split
    · rfl
    · exact (g4 i hi).2
  · obtain ⟨y, hy, hr⟩ := g5 i hi
    exact ⟨y, hy, hr.fr fun x hx => w_row (by omega)⟩
theorem RuM.up {U : V2} {b i kd wl m j : Nat} {v : Int32} {g : Nat → Nat × Nat × Nat} (h : RuM (U (b + 1)) i kd wl m g) (hj : j < 66) : RuM (up2 U (b + 1) j v (b + 1)) i kd wl m g := by
  obtain ⟨bg, g1, g2, g3, g4, g5, g6⟩ := h
  refine ⟨bg, by rw [w_idx (by omega)]; exact g1, by rw [w_idx (by omega)]; exact g2, by rw [w_idx (by omega)]; exact g3, by rw [w_idx (by omega)]; exact g4, g5, fun j hj => ?_⟩
  rw [w_idx (by omega), w_idx (by omega), w_idx (by omega)]
  exact g6 j hj
theorem ME.sen {U : V2} {b : Nat} {E : En} (h : ME (U (b + 1)) E) (v : Nat) : ME (up2 U (b + 1) 2 (nI v) (b + 1)) (E_sen E v) := by
  obtain ⟨g1, g2, g3, g4, g5⟩ := h
  exact ⟨w_same, by rw [w_idx (by omega)]; exact g2, fun i hi => by rw [w_idx (by omega)]; exact g3 i hi, fun i hi => by rw [w_idx (by omega), w_idx (by omega)]; exact g4 i hi, fun i hi => (g5 i hi).up (by omega)⟩
theorem ME.sir {U : V2} {b : Nat} {E : En} (h : ME (U (b + 1)) E) (k v : Nat) (hk : k < 16) : ME (up2 U (b + 1) (50 + k) (nI v) (b + 1)) (E_sir E k v) := by
  obtain ⟨g1, g2, g3, g4, g5⟩ := h
  refine ⟨by rw [w_idx (by omega)]; exact g1, by rw [w_idx (by omega)]; exact g2, fun i hi => ?_, fun i hi => by rw [w_idx (by omega), w_idx (by omega)]; exact g4 i hi, fun i hi => (g5 i hi).up (by omega)⟩
  rw [w_at]
  show _ = nI (upF _ _ _ _)
  rw [upF_at]
  by_cases q : i = k
  · rw [if_pos (by omega), if_pos q]
  · rw [if_neg (by omega), if_neg q]
    exact g3 i hi
theorem ME.swt {U : V2} {b : Nat} {E : En} (h : ME (U (b + 1)) E) (k v : Nat) (hk : k < 6) : ME (up2 U (b + 1) (38 + k) (nI v) (b + 1)) (E_swt E k v) := by
  obtain ⟨g1, g2, g3, g4, g5⟩ := h
  refine ⟨by rw [w_idx (by omega)]; exact g1, by rw [w_idx (by omega)]; exact g2, fun i hi => by rw [w_idx (by omega)]; exact g3 i hi, fun i hi => ?_, fun i hi => (g5 i hi).up (by omega)⟩
  refine ⟨?_, by rw [w_idx (by omega)]; exact (g4 i hi).2⟩
  rw [w_at]
  show _ = nI (upF _ _ _ _)
  rw [upF_at]
  by_cases q : i = k
  · rw [if_pos (by omega), if_pos q]
  · rw [if_neg (by omega), if_neg q]
    exact (g4 i hi).1
theorem ME.srp {U : V2} {b : Nat} {E : En} (h : ME (U (b + 1)) E) (k v : Nat) (hk : k < 6) : ME (up2 U (b + 1) (44 + k) (nI v) (b + 1)) (E_srp E k v) := by
  obtain ⟨g1, g2, g3, g4, g5⟩ := h
  refine ⟨by rw [w_idx (by omega)]; exact g1, by rw [w_idx (by omega)]; exact g2, fun i hi => by rw [w_idx (by omega)]; exact g3 i hi, fun i hi => ?_, fun i hi => (g5 i hi).up (by omega)⟩
  refine ⟨by rw [w_idx (by omega)]; exact (g4 i hi).1, ?_⟩
  rw [w_at]
  show _ = nI (upF _ _ _ _)
  rw [upF_at]
  by_cases q : i = k
  · rw [if_pos (by omega), if_pos q]
  · rw [if_neg (by omega), if_neg q]
    exact (g4 i hi).2
theorem ME.low {U : V2} {b j : Nat} {v : Int32} {E : En} (h : ME (U (b + 1)) E) (hj : j < 38 ∧ j ≠ 2 ∧ j ≠ 5) : ME (up2 U (b + 1) j v (b + 1)) E := by
  obtain ⟨g1, g2, g3, g4, g5⟩ := h
  exact ⟨by rw [w_idx (by omega)]; exact g1, by rw [w_idx (by omega)]; exact g2, fun i hi => by rw [w_idx (by omega)]; exact g3 i hi, fun i hi => by rw [w_idx (by omega), w_idx (by omega)]; exact g4 i hi, fun i hi => (g5 i hi).up (by omega)⟩
theorem MC.up {U : V2} {b j : Nat} {v : Int32} {L : Ld} (h : MC (U (b + 1)) L) (hj : 2 ≤ j ∧ j < 8 ∨ 38 ≤ j) : MC (up2 U (b + 1) j v (b + 1)) L := h.fr fun i hi => w_idx (by omega)
theorem RpM.up {U : V2} {b j rn : Nat} {v : Int32} {rp : Nat → Nat → Nat} (h : RpM (U (b + 1)) rn rp) (hr : rn ≤ 6) (hj : j < 98 ∧ j ≠ 6) : RpM (up2 U (b + 1) j v (b + 1)) rn rp := h.fr hr fun i hi => w_idx (by omega)
theorem RpC.up {V : V2} {a x k rn : Nat} {v : Int32} {rp : Nat → Nat → Nat} (h : RpC V a rn rp) (hx : x < a ∨ a + 4 < x) : RpC (up2 V x k v) a rn rp := h.fr (by rw [w_row (by omega)]) fun y h1 h2 => w_row (by omega)
theorem w_at' {V : V2} {x k y j : Nat} {v : Int32} (h : y ≠ x ∨ j ≠ k) : up2 V x k v y j = V y j := by
  by_cases q : y = x
  · subst q; exact w_idx (by omega)
  · rw [w_row q]
theorem LC.up {V : V2} {a x k : Nat} {v : Int32} {L : Ld} (h : LC V a L) (hx : x < a ∨ a + 4 < x) : LC (up2 V x k v) a L := h.fr fun y h1 h2 => w_row (by omega)
theorem EC.up {G : G2} {V : V2} {R : R2} {z Y x k : Nat} {v : Int32} {E : En} (h : EC G V R z Y E) (hx : (x < Y ∨ Y < x ∧ x < Y + 6 ∨ Y + 8 < x) ∧ x < z + 93 ∨ x = Y ∧ k ≠ 1 ∧ k ≠ 8 ∧ Y < z + 93) : EC G (up2 V x k v) R z Y E := by
  refine h.fr ?_ ?_ fun y hy => w_row (by omega)
  · rw [w_at' (by omega)]
  · rw [w_at' (by omega)]
theorem IE.sen {E : En} (h : IE E) {v : Nat} (h1 : 1 ≤ v) (h2 : v ≤ 16) : IE (E_sen E v) := ⟨h1, h2, h.2.2⟩
theorem IE.sir {E : En} (h : IE E) {k v : Nat} (h1 : v ≤ 15) : IE (E_sir E k v) := by
  obtain ⟨g1, g2, g3, g4⟩ := h
  refine ⟨g1, g2, fun i hi => ?_, g4⟩
  show upF _ _ _ _ ≤ 15
  rw [upF_at]
  split
  · exact h1
  · exact g3 i hi
theorem IE.swt {E : En} (h : IE E) {k v : Nat} (h1 : v ≤ 9) : IE (E_swt E k v) := by
  obtain ⟨g1, g2, g3, g4, g5⟩ := h
  refine ⟨g1, g2, g3, fun i hi => ⟨?_, (g4 i hi).2⟩, g5⟩
  show upF _ _ _ _ ≤ 9
  rw [upF_at]
  split
  · exact h1
  · exact (g4 i hi).1
theorem IE.srp {E : En} (h : IE E) {k v : Nat} (h1 : v ≤ 9) : IE (E_srp E k v) := by
  obtain ⟨g1, g2, g3, g4, g5⟩ := h
  refine ⟨g1, g2, g3, fun i hi => ⟨(g4 i hi).1, ?_⟩, g5⟩
  show upF _ _ _ _ ≤ 9
  rw [upF_at]
  split
  · exact h1
  · exact (g4 i hi).2
