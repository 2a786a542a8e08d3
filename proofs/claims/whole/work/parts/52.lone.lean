/-! the lone thing, the liar -/
def bkS (ir : Nat → Nat) (kd bk0 : Nat) : Nat → Nat
  | 0 => bk0
  | j + 1 => min 99 (bkS ir kd bk0 j + swA kd 0 (ir j % 4) j)
def pdS (ir : Nat → Nat) (kd cr bk0 : Nat) : Nat → Nat
  | 0 => 0
  | j + 1 => pdS ir kd cr bk0 j + if ndA kd (bkS ir kd bk0 j) cr ≤ 4 * (ir j / 4) then 1 else 0
def wv (ir : Nat → Nat) (kd cr bk0 : Nat) (rp : Nat → Nat → Nat) (i : Nat) : Nat := if rp i 1 = 0 then bkS ir kd bk0 (rp i 0) else pdS ir kd cr bk0 (rp i 0)
/-- report i isn't so -/
def wgB (ir : Nat → Nat) (kd cr bk0 : Nat) (rp : Nat → Nat → Nat) (i : Nat) : Bool := !(decide (rp i 2 ≤ wv ir kd cr bk0 rp i) && decide (wv ir kd cr bk0 rp i ≤ rp i 3))
theorem bkS_le {ir : Nat → Nat} {kd bk0 : Nat} (h : bk0 ≤ 99) : ∀ j, bkS ir kd bk0 j ≤ 99
  | 0 => h
  | j + 1 => by unfold bkS; omega
theorem pdS_le {ir : Nat → Nat} {kd cr bk0 : Nat} : ∀ j, pdS ir kd cr bk0 j ≤ j
  | 0 => Nat.le_refl _
  | j + 1 => by
    have := pdS_le (ir := ir) (kd := kd) (cr := cr) (bk0 := bk0) j
    unfold pdS
    split <;> omega
def bn (c : Bool) : Nat := if c = true then 1 else 0
def w6 (p : Nat → Bool) : Nat := bn (p 0) + 2 * bn (p 1) + 4 * bn (p 2) + 8 * bn (p 3) + 16 * bn (p 4) + 32 * bn (p 5)
theorem bn_le (c : Bool) : bn c < 2 := by unfold bn; split <;> omega
theorem w6_lt (p : Nat → Bool) : w6 p < 64 := by
  have h0 := bn_le (p 0)
  have h1 := bn_le (p 1)
  have h2 := bn_le (p 2)
  have h3 := bn_le (p 3)
  have h4 := bn_le (p 4)
  have h5 := bn_le (p 5)
  unfold w6; omega
theorem w6_bt (p : Nat → Bool) : ∀ k, k < 6 → bt (w6 p) k = bn (p k) := by
  have h0 := bn_le (p 0)
  have h1 := bn_le (p 1)
  have h2 := bn_le (p 2)
  have h3 := bn_le (p 3)
  have h4 := bn_le (p 4)
  have h5 := bn_le (p 5)
  intro k hk
  unfold bt w6
  rcases (show k = 0 ∨ k = 1 ∨ k = 2 ∨ k = 3 ∨ k = 4 ∨ k = 5 by omega) with rfl | rfl | rfl | rfl | rfl | rfl
  · simp only [Nat.reducePow]; omega
  · simp only [Nat.reducePow]; omega
  · simp only [Nat.reducePow]; omega
  · simp only [Nat.reducePow]; omega
  · simp only [Nat.reducePow]; omega
  · simp only [Nat.reducePow]; omega
theorem b_orbt : ∀ f, f < 64 → ∀ g, g < 64 → ∀ k, k < 6 → bt (f ||| g) k = if bt f k = 1 ∨ bt g k = 1 then 1 else 0 := by decide +kernel
theorem b_sole : ∀ f, f < 64 → ∀ k, k < 6 → (pcA f = 1 ∧ bt f k = 1 ↔ f = 2 ^ k) := by decide +kernel
section R1
variable {n z b : Nat} {V : V2} {R : R2} {G Gm : G2} {U : V2} {E : En} {rn : Nat} {rp : Nat → Nat → Nat}
/-- those that aren't so behind just so many washes -/
theorem c_wb (hn : 1000 ≤ n) (hC : RpC V (z + 11) rn rp) (hI : IR rn rp) {w bk pd : Nat} (hb : bk ≤ 99) (hp : pd ≤ 16) : ∃ f, f < 64 ∧ pX3_wrongBehind n V (z + 11) (nI w) (nI bk) (nI pd) = some (nI f) ∧ ∀ k, k < 6 → bt f k = bn (decide (k < rn) && decide (nI (rp k 0) = nI w) && !(decide (rp k 2 ≤ (if rp k 1 = 0 then bk else pd)) && decide ((if rp k 1 = 0 then bk else pd) ≤ rp k 3))) := by
  have r6 := hI.1
  have key : ∀ m x f acc, x + m = rn → m < f → acc < 64 → (∀ k, k < 6 → x ≤ k → bt acc k = 0) → ∃ g, g < 64 ∧ lX3_wrongBehind_6 V (z + 11) (nI w) (nI bk) (nI pd) f (nI acc) (nI x) = some (nI g) ∧ ∀ k, k < 6 → bt g k = if k < x then bt acc k else bn (decide (k < rn) && decide (nI (rp k 0) = nI w) && !(decide (rp k 2 ≤ (if rp k 1 = 0 then bk else pd)) && decide ((if rp k 1 = 0 then bk else pd) ≤ rp k 3))) := by
    intro m
    induction m with
    | zero =>
      intro x f acc h1 h2 h3 h4
      obtain ⟨f, rfl⟩ : ∃ g, f = g + 1 := ⟨f - 1, by omega⟩
      refine ⟨acc, h3, ?_, fun k hk => ?_⟩
      · unfold lX3_wrongBehind_6
        simp (disch := omega) only [hC.1, letv, o_b, ↓reduceIte, e_sub, e_add, e_mul, e_ld, e_st, e_lt, e_nlt, e_le, e_nle, e_eq, e_neq, e_div, e_rem, m_lt, m_le, m_eq, m_eq2, m_ng, o_ld, true_and, and_true, Nat.one_ne_zero, Nat.zero_ne_one, Nat.reduceEqDiff, Bool.false_eq_true, not_true_eq_false, not_false_eq_true, li_0, li_1, li_2, li_3, li_4, li_5, li_6, li_7, li_8, li_9, li_10, li_11, li_12, li_13, li_14, li_15, li_16, li_20, li_23, li_25, li_30, li_31, li_32, li_38, li_40, li_41, li_44, li_48, li_50, li_51, li_52, li_57, li_59, li_60, li_61, li_62, li_63, li_66, li_81, li_94, li_97, li_98, li_99, li_100, li_101, li_103, li_104, li_105, li_107, li_108, li_109, li_110, li_111, li_112, li_114, li_115, li_116, li_117, li_118, li_122, li_200, li_572, li_600, li_9999, li_10000, li_12345, li_1103515245]
      · split
        · rfl
        · rw [h4 k hk (by omega), decide_eq_false (show ¬ k < rn by omega)]
          rfl
    | succ m ih =>
      intro x f acc h1 h2 h3 h4
      obtain ⟨f, rfl⟩ : ∃ g, f = g + 1 := ⟨f - 1, by omega⟩
      have hx : x < rn := by omega
      obtain ⟨g0, g1, g2, g3⟩ := hC.2 x hx
      obtain ⟨i0, i1, i2, i3⟩ := hI.2 x hx
      have g0' : V (z + 12) x = nI (rp x 0) := g0
      have g1' : V (z + 13) x = nI (rp x 1) := g1
      have g2' : V (z + 14) x = nI (rp x 2) := g2
      have g3' : V (z + 15) x = nI (rp x 3) := g3
      obtain ⟨vv, hvv, hvl⟩ : ∃ vv, vv = (if rp x 1 = 0 then bk else pd) ∧ vv ≤ 99 := ⟨_, rfl, by split <;> omega⟩
      have ev : (if nI (rp x 1) = (0 : Int32) then nI bk else nI pd) = nI vv := by
        rw [hvv]
        by_cases q : rp x 1 = 0
        · rw [if_pos (by rw [q]; rfl), if_pos q]
        · rw [if_neg (by rw [li_0, e_neq (by omega) (by omega) q]; exact id), if_neg q]
      have bset := b_set acc h3 x (by omega)
      have bs1 := stB_lt acc h3 x (by omega)
      have bs2 := stB_bt acc h3 x (by omega)
      -- marked or not
      obtain ⟨ac2, a1, a2, a3⟩ : ∃ ac2, ac2 < 64 ∧ (∀ k, k < 6 → bt ac2 k = if k = x then bn (decide (nI (rp x 0) = nI w) && !(decide (rp x 2 ≤ vv) && decide (vv ≤ rp x 3))) else bt acc k) ∧ lX3_wrongBehind_6 V (z + 11) (nI w) (nI bk) (nI pd) (f + 1) (nI acc) (nI x) = lX3_wrongBehind_6 V (z + 11) (nI w) (nI bk) (nI pd) f (nI ac2) (nI (x + 1)) := by
        have zero : bt acc x = 0 := h4 x (by omega) (Nat.le_refl _)
        by_cases p : nI (rp x 0) = nI w
        · by_cases p2 : rp x 2 ≤ vv ∧ vv ≤ rp x 3
          · refine ⟨acc, h3, fun k hk => ?_, ?_⟩
            · split
              · rename_i q; subst q
                rw [zero, decide_eq_true p2.1, decide_eq_true p2.2]
                simp [bn]
              · rfl
            · have ww := w_in (lo := rp x 2) (hi := rp x 3) (k := vv) p2.1 p2.2 (by omega)
              conv => lhs; unfold lX3_wrongBehind_6
              rw [show z + 11 + 1 = z + 12 from rfl, show z + 11 + 2 = z + 13 from rfl, show z + 11 + 3 = z + 14 from rfl, show z + 11 + 4 = z + 15 from rfl]
              simp (disch := omega) only [letv, hC.1, e_nle, ↓reduceIte, e_ld, g0', g1', g2', g3', o_b, ev, p, ww]
              simp (disch := omega) only [li_0, e_10, ↓reduceIte, li_1, e_add]
          · refine ⟨stB acc x, bs1, fun k hk => ?_, ?_⟩
            · rw [bs2 k hk]
              split
              · rename_i q; subst q
                have : (decide (rp k 2 ≤ vv) && decide (vv ≤ rp k 3)) = false := by
                  rw [Bool.and_eq_false_iff, decide_eq_false_iff_not, decide_eq_false_iff_not]
                  omega
                rw [decide_eq_true p, this]
                rfl
              · rfl
            · have ww := (w_out (lo := rp x 2) (hi := rp x 3) (k := vv) (by omega) (by omega) (by omega) (by omega)).1
              conv => lhs; unfold lX3_wrongBehind_6
              rw [show z + 11 + 1 = z + 12 from rfl, show z + 11 + 2 = z + 13 from rfl, show z + 11 + 3 = z + 14 from rfl, show z + 11 + 4 = z + 15 from rfl]
              simp (disch := omega) only [letv, hC.1, e_nle, ↓reduceIte, e_ld, g0', g1', g2', g3', o_b, ev, p, ww]
              simp (disch := omega) only [li_0, ↓reduceIte, li_1, li_31, bset, e_add]
        · refine ⟨acc, h3, fun k hk => ?_, ?_⟩
          · split
            · rename_i q; subst q
              rw [zero, decide_eq_false p]
              rfl
            · rfl
          · conv => lhs; unfold lX3_wrongBehind_6
            rw [show z + 11 + 1 = z + 12 from rfl, show z + 11 + 2 = z + 13 from rfl, show z + 11 + 3 = z + 14 from rfl, show z + 11 + 4 = z + 15 from rfl]
            simp (disch := omega) only [letv, hC.1, e_nle, ↓reduceIte, e_ld, g0', g1', o_b, ev, p, li_1, e_add]
      obtain ⟨g, b1, b2, b3⟩ := ih (x + 1) f ac2 (by omega) (by omega) a1 (fun k hk hl => by rw [a2 k hk, if_neg (by omega)]; exact h4 k hk (by omega))
      refine ⟨g, b1, by rw [a3]; exact b2, fun k hk => ?_⟩
      rw [b3 k hk]
      by_cases q : k < x
      · rw [if_pos (by omega), if_pos q, a2 k hk, if_neg (by omega)]
      · by_cases q2 : k = x
        · subst q2
          rw [if_pos (by omega), if_neg q, a2 k hk, if_pos rfl, decide_eq_true hx, Bool.true_and, hvv]
        · rw [if_neg (by omega), if_neg q]
  obtain ⟨g, b1, b2, b3⟩ := key rn 0 n 0 (by omega) (by omega) (by omega) (fun k hk _ => b_0 k hk)
  refine ⟨g, b1, ?_, fun k hk => by rw [b3 k hk, if_neg (by omega)]⟩
  unfold pX3_wrongBehind
  have b2' : lX3_wrongBehind_6 V (z + 11) (nI w) (nI bk) (nI pd) n 0 0 = some (nI g) := b2
  rw [b2']
  rfl
/-- all that aren't so of a lone thing -/
theorem c_wrong (hn : 1000 ≤ n) (hC : RpC V (z + 11) rn rp) (hI : IR rn rp) (hir : ∀ i, i < 16 → V (z + 7) i = nI (E_ir E i)) (iE : IE E) (hl : G.2.2.1 (z + 7) = 16) {kd cr bk0 : Nat} (k1 : 1 ≤ kd) (k5 : kd ≤ 5) (hc : cr ≤ 9) (hb : bk0 ≤ 99) : pX3_wrongOf n G V (z + 11) (nI kd) (nI cr) (nI bk0) (z + 7) = some (nI (w6 fun i => decide (i < rn) && wgB (E_ir E) kd cr bk0 rp i)) := by
  have key : ∀ m x f acc, x + m = 16 → m < f → acc < 64 → (∀ k, k < 6 → bt acc k = bn (decide (k < rn) && decide (rp k 0 < x) && wgB (E_ir E) kd cr bk0 rp k)) → lX3_wrongOf_12 n G V (z + 11) (nI kd) (nI cr) (z + 7) f (nI acc) (nI (bkS (E_ir E) kd bk0 x)) (nI (pdS (E_ir E) kd cr bk0 x)) (nI x) = some (nI (w6 fun i => decide (i < rn) && wgB (E_ir E) kd cr bk0 rp i)) := by
    intro m
    induction m with
    | zero =>
      intro x f acc h1 h2 h3 h4
      obtain ⟨f, rfl⟩ : ∃ g, f = g + 1 := ⟨f - 1, by omega⟩
      have hx : x = 16 := by omega
      have e : acc = w6 fun i => decide (i < rn) && wgB (E_ir E) kd cr bk0 rp i := b_ext _ h3 _ (w6_lt _) fun k hk => by
        rw [h4 k hk, w6_bt _ k hk]
        by_cases q : k < rn
        · have := (hI.2 k q).1
          rw [decide_eq_true (show rp k 0 < x by omega), Bool.and_true]
        · rw [decide_eq_false q]
          rfl
      rw [← e]
      unfold lX3_wrongOf_12
      rw [hl]
      simp (disch := omega) only [e_le, ↓reduceIte]
    | succ m ih =>
      intro x f acc h1 h2 h3 h4
      obtain ⟨f, rfl⟩ : ∃ g, f = g + 1 := ⟨f - 1, by omega⟩
      have hb99 := bkS_le (ir := E_ir E) (kd := kd) hb x
      have hpd := pdS_le (ir := E_ir E) (kd := kd) (cr := cr) (bk0 := bk0) x
      have hi15 := iE.2.2.1 x (by omega)
      obtain ⟨g, g1, g2, g3⟩ := c_wb (w := x) hn hC hI hb99 (show pdS (E_ir E) kd cr bk0 x ≤ 16 by omega)
      have hor := b_or acc h3 g g1
      have horl := b_orl acc h3 g g1
      have ih' := ih (x + 1) f (acc ||| g) (by omega) (by omega) horl (fun k hk => by
        rw [b_orbt acc h3 g g1 k hk, h4 k hk, g3 k hk]
        by_cases q : k < rn
        · have r15 := (hI.2 k q).1
          by_cases q2 : rp k 0 = x
          · have ew : wgB (E_ir E) kd cr bk0 rp k = !(decide (rp k 2 ≤ (if rp k 1 = 0 then bkS (E_ir E) kd bk0 x else pdS (E_ir E) kd cr bk0 x)) && decide ((if rp k 1 = 0 then bkS (E_ir E) kd bk0 x else pdS (E_ir E) kd cr bk0 x) ≤ rp k 3)) := by
              unfold wgB wv
              rw [q2]
            rw [← ew, decide_eq_true q, decide_eq_false (show ¬ rp k 0 < x by omega), decide_eq_true (show nI (rp k 0) = nI x by rw [q2]), decide_eq_true (show rp k 0 < x + 1 by omega)]
            cases wgB (E_ir E) kd cr bk0 rp k <;> simp [bn]
          · have en : ¬ nI (rp k 0) = nI x := by rw [e_neq (by omega) (by omega) q2]; exact id
            rw [decide_eq_true q, decide_eq_false en, show decide (rp k 0 < x + 1) = decide (rp k 0 < x) from by
              by_cases q3 : rp k 0 < x
              · rw [decide_eq_true q3, decide_eq_true (by omega)]
              · rw [decide_eq_false q3, decide_eq_false (by omega)]]
            cases decide (rp k 0 < x) <;> cases wgB (E_ir E) kd cr bk0 rp k <;> simp [bn]
        · rw [decide_eq_false q]
          simp [bn])
      have e1 := c_need k1 k5 hb99 hc
      have e2 := c_swell (k := 0) (sg := E_ir E x % 4) (w := x) k1 k5 (by omega) (by omega) (by omega)
      have hs8 := swA_le (kd := kd) (k := 0) (sg := E_ir E x % 4) (w := x) (by omega) (by omega)
      have hnd := ndA_le (kd := kd) hb99 hc
      have eb : bkS (E_ir E) kd bk0 (x + 1) = min 99 (bkS (E_ir E) kd bk0 x + swA kd 0 (E_ir E x % 4) x) := rfl
      have ep : pdS (E_ir E) kd cr bk0 (x + 1) = pdS (E_ir E) kd cr bk0 x + if ndA kd (bkS (E_ir E) kd bk0 x) cr ≤ 4 * (E_ir E x / 4) then 1 else 0 := rfl
      rw [eb, ep] at ih'
      unfold lX3_wrongOf_12
      rw [hl]
      have hirx := hir x (by omega)
      by_cases q : ndA kd (bkS (E_ir E) kd bk0 x) cr ≤ 4 * (E_ir E x / 4)
      · rw [if_pos q] at ih'
        have q' : ndA kd (bkS (E_ir E) kd bk0 x) cr ≤ E_ir E x / 4 * 4 := by omega
        simp (disch := omega) only [g2, hor, hirx, e1, e2, e_jmin, ih', letv, o_b, ↓reduceIte, e_sub, e_add, e_mul, e_ld, e_st, e_lt, e_nlt, e_le, e_nle, e_eq, e_neq, e_div, e_rem, m_lt, m_le, m_eq, m_eq2, m_ng, o_ld, true_and, and_true, Nat.one_ne_zero, Nat.zero_ne_one, Nat.reduceEqDiff, Bool.false_eq_true, not_true_eq_false, not_false_eq_true, li_0, li_1, li_2, li_3, li_4, li_5, li_6, li_7, li_8, li_9, li_10, li_11, li_12, li_13, li_14, li_15, li_16, li_20, li_23, li_25, li_30, li_31, li_32, li_38, li_40, li_41, li_44, li_48, li_50, li_51, li_52, li_57, li_59, li_60, li_61, li_62, li_63, li_66, li_81, li_94, li_97, li_98, li_99, li_100, li_101, li_103, li_104, li_105, li_107, li_108, li_109, li_110, li_111, li_112, li_114, li_115, li_116, li_117, li_118, li_122, li_200, li_572, li_600, li_9999, li_10000, li_12345, li_1103515245]
      · rw [if_neg q, show pdS (E_ir E) kd cr bk0 x + 0 = pdS (E_ir E) kd cr bk0 x from rfl] at ih'
        have q' : ¬ ndA kd (bkS (E_ir E) kd bk0 x) cr ≤ E_ir E x / 4 * 4 := by omega
        simp (disch := omega) only [g2, hor, hirx, e1, e2, e_jmin, ih', letv, o_b, ↓reduceIte, e_sub, e_add, e_mul, e_ld, e_st, e_lt, e_nlt, e_le, e_nle, e_eq, e_neq, e_div, e_rem, m_lt, m_le, m_eq, m_eq2, m_ng, o_ld, true_and, and_true, Nat.one_ne_zero, Nat.zero_ne_one, Nat.reduceEqDiff, Bool.false_eq_true, not_true_eq_false, not_false_eq_true, li_0, li_1, li_2, li_3, li_4, li_5, li_6, li_7, li_8, li_9, li_10, li_11, li_12, li_13, li_14, li_15, li_16, li_20, li_23, li_25, li_30, li_31, li_32, li_38, li_40, li_41, li_44, li_48, li_50, li_51, li_52, li_57, li_59, li_60, li_61, li_62, li_63, li_66, li_81, li_94, li_97, li_98, li_99, li_100, li_101, li_103, li_104, li_105, li_107, li_108, li_109, li_110, li_111, li_112, li_114, li_115, li_116, li_117, li_118, li_122, li_200, li_572, li_600, li_9999, li_10000, li_12345, li_1103515245]
  unfold pX3_wrongOf
  have k0 := key 16 0 n 0 (by omega) (by omega) (by omega) (fun k hk => by
    rw [b_0 k hk, decide_eq_false (show ¬ rp k 0 < 0 by omega)]
    simp [bn])
  have k0' : lX3_wrongOf_12 n G V (z + 11) (nI kd) (nI cr) (z + 7) n 0 (nI bk0) 0 0 = some (nI (w6 fun i => decide (i < rn) && wgB (E_ir E) kd cr bk0 rp i)) := k0
  rw [k0']
  rfl
end R1
