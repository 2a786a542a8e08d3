/-! the law's loop -/
def LawOK (n z : Nat) (Rel : RelT) : Prop := Ok_thing n z Rel ∧ Ok_thingOf n z Rel ∧ Ok_change n z Rel ∧ Ok_remake n z Rel ∧ Ok_iron n z Rel ∧ Ok_board n z Rel ∧ Ok_boardOf n z Rel ∧ Ok_ends n z Rel ∧ Ok_anew n z Rel ∧ Ok_state n z Rel ∧ Ok_feed n z Rel ∧ Ok_rules n z Rel ∧ Ok_wash n z Rel ∧ Ok_on n z Rel ∧ Ok_when n z Rel ∧ Ok_creaseFor n z Rel ∧ Ok_boardFor n z Rel ∧ Ok_fat n z Rel ∧ Ok_least n z Rel ∧ Ok_left n z Rel ∧ Ok_piles n z Rel ∧ Ok_best n z Rel ∧ Ok_ith n z Rel ∧ Ok_ways n z Rel ∧ Ok_note n z Rel ∧ Ok_bars n z Rel ∧ Ok_game n z Rel ∧ Ok_play n z Rel ∧ Ok_report n z Rel ∧ Ok_forget n z Rel ∧ Ok_lone n z Rel ∧ Ok_liar n z Rel ∧ Ok_seed n z Rel ∧ Ok_lot n z Rel ∧ Ok_times n z Rel ∧ Ok_prove n z Rel ∧ Ok_row n z Rel ∧ Ok_alterRow n z Rel ∧ Ok_judge n z Rel ∧ Ok_sheet n z Rel ∧ Ok_write n z Rel ∧ Ok_item n z Rel ∧ Ok_goAll n z Rel ∧ Ok_wouldBe n z Rel ∧ Ok_shelf n z Rel ∧ Ok_taken n z Rel ∧ Ok_act n z Rel ∧ Ok_trace n z Rel ∧ Ok_many n z Rel ∧ Ok_keep n z Rel ∧ Ok_again n z Rel
theorem gl_tc {C : Cx} {cc : ByteArray} {ow : String} {ret : Option FieldType} {pc tgt : Nat} {lv : List (Nat × Value)} {st : List Value} {X : Heap → Prop} {kc ks : Nat} (h : CxOK C cc ow ret) {x : Int32} {dflt lo hi : Int} {offs : Array Int} {len : Nat} (c : Int32) (off : Int) (hd : decode cc pc = .ok (.tableswitch dflt lo hi offs, len)) (ho : swT lo hi dflt offs c.toInt = some off) (ht : (pc : Int) + off = (tgt : Int)) (k1 : GoL C tgt lv st X kc ks) (k2 : ¬ x = c → GoL C pc lv (.int x :: st) X kc ks) : GoL C pc lv (.int x :: st) X kc ks :=
  gl_tsw (A := True) (B := True) (o := True) h c off hd ho ht (fun _ => k1) (fun q _ => k2 q) (ite_self _)
theorem sw_out {x : Int32} (h : ∀ j : Nat, j < 51 → ¬ x = nI j) : x.toInt < 0 ∨ 50 < x.toInt := by
  by_cases h0 : x.toInt < 0
  · exact Or.inl h0
  · by_cases h1 : 50 < x.toInt
    · exact Or.inr h1
    · exfalso
      refine h x.toInt.toNat (by omega) (Int32.toInt_inj.mp ?_)
      rw [nI_toInt (by omega)]
      omega
theorem lp_lt {L k : Nat} (hL : L ≤ 2560) (hk : 5 * k ≤ L) (h : ¬ Int32.ofNat L - 5 < nI (5 * k)) : 5 * k + 5 ≤ L := by
  rcases Nat.lt_or_ge L (5 * k + 5) with q | q
  · exfalso
    apply h
    rcases Nat.lt_or_ge L 5 with g | g
    · have hk0 : k = 0 := by omega
      subst hk0
      rcases (show L = 0 ∨ L = 1 ∨ L = 2 ∨ L = 3 ∨ L = 4 by omega) with rfl | rfl | rfl | rfl | rfl <;> decide
    · have e : Int32.ofNat L - 5 = nI (L - 5) := by
        have e1 : nI (L - 5) + nI 5 = nI L := by rw [nI_add, Nat.sub_add_cancel g]
        show nI L - nI 5 = _
        rw [← e1, Int32.add_sub_cancel]
      rw [e]
      exact nI_lt (by omega) (by omega)
  · exact q
theorem lp_nx (k : Nat) : nI (5 * k) + Int32.ofInt 5 = nI (5 * (k + 1)) := by
  rw [show Int32.ofInt 5 = nI 5 from by decide, nI_add, Nat.mul_succ]
theorem lp_in {k L : Nat} (j : Nat) (c : Int32) (hc : nI j = c) (h : 5 * k + 5 ≤ L) (hj : j < 5) (hL : L ≤ 2560) : vp_in (nI (5 * k) + c) L := by
  rw [← hc, nI_add]
  exact vp_in_nI (by omega) (by omega)
set_option maxHeartbeats 4000000 in
set_option maxRecDepth 100000 in
theorem law_loop {C : Cx} {Rm : R2} {b L z n : Nat} {xs : Nat → Int32} {Rel : RelT} (hC : CxOK C cL_law RL (some .boolean)) (hR : C.1.2.2.2.1 = room_1) (hA : ∀ q, C.2.2.2.1.2.2.2.1 ≤ q → AX C.2.2.1 q) (hS : Scr C b L xs) (hM : GX (mG0 z) ∧ own (mG0 z) (z + 75) 19) (hok : LawOK n z Rel) (hL4 : C.2.2.2.2 = 4) (hL : L ≤ 2560) (hend : ∀ lv X kc ks, kc ≤ 600000 → ks ≤ 7302250 → GoL C 1752 lv [.int 1] X kc ks) :
    ∀ (f k : Nat), L < 5 * (k + f) → 5 * k ≤ L → ∀ (V : V2) (R : R2) (G : G2) (U : V2), Rel V R G U → LI z (mG0 z) G → GoL C 18 [(0, .ref b), (1, .ref z), (2, .ref (z + 75)), (3, .int (nI (5 * k)))] [] (XL C.2.2.2.1 (mG0 z) Rm G V R U) (100 + 20 * k) (4000 + 3030 * k) := by
  intro f
  induction f with
  | zero => intro k h1 h2; omega
  | succ f ih =>
  intro k h1 h2 V R G U hr hI
  refine id (α := True → _) ?_ trivial
  refine gl_iload_n hC dL_law_18 (j := 3) rfl rfl ?_
  refine gl_aload_n hC dL_law_19 (j := 0) rfl rfl ?_
  refine gl_slen hC hS dL_law_20 ?_
  refine gl_iconst hC dL_law_21 ic_5 ?_
  refine gl_isub hC dL_law_22 ?_
  refine gl_gt hC dL_law_23 (fun _ => ?_) (fun hlt => ?_)
  · refine gl_iconst hC dL_law_1751 ic_1 ?_
    exact fun _ => hend _ _ _ _ (by omega) (by omega)
  have h5 := lp_lt hL h2 hlt
  have hi : vp_in (nI (5 * k) + 1) L ∧ vp_in (nI (5 * k) + 2) L ∧ vp_in (nI (5 * k) + 3) L ∧ vp_in (nI (5 * k) + 4) L := ⟨lp_in 1 1 (by decide) h5 (by omega) hL, lp_in 2 2 (by decide) h5 (by omega) hL, lp_in 3 3 (by decide) h5 (by omega) hL, lp_in 4 4 (by decide) h5 (by omega) hL⟩
  have hk : (100 + 20 * k) + 20 ≤ 600000 ∧ (4000 + 3030 * k) + 3030 ≤ 7302250 := ⟨by omega, by omega⟩
  have nx : ∀ V' R' G' U', Rel V' R' G' U' → LI z (mG0 z) G' → GoL C 1745 [(0, .ref b), (1, .ref z), (2, .ref (z + 75)), (3, .int (nI (5 * k)))] [] (XL C.2.2.2.1 (mG0 z) Rm G' V' R' U') ((100 + 20 * k) + 20) ((4000 + 3030 * k) + 3030) := by
    intro V' R' G' U' hr' hI'
    refine id (α := True → _) ?_ trivial
    refine gl_iinc hC (n0 := 4) (j := 3) (v := nI (5 * (k + 1))) (lv' := [(3, .int (nI (5 * (k + 1)))), (0, .ref b), (1, .ref z), (2, .ref (z + 75))]) dL_law_1745 rfl (lp_nx k) (by decide) hL4 rfl ?_
    refine gl_goto hC dL_law_1748 ?_
    refine gl_sub [1, 2, 3, 0] rfl ?_
    have := ih (k + 1) (by omega) (by omega) V' R' G' U' hr' hI'
    rw [show 100 + 20 * (k + 1) = (100 + 20 * k) + 20 by omega, show 4000 + 3030 * (k + 1) = (4000 + 3030 * k) + 3030 by omega] at this
    exact fun _ => this
  refine gl_aload_n hC dL_law_26 (j := 0) rfl rfl ?_
  refine gl_iload_n hC dL_law_27 (j := 3) rfl rfl ?_
  refine gl_sld hC hS (vp_in_nI (by omega) (by omega)) dL_law_28 ?_
  refine gl_bipush hC dL_law_29 bc_63 ?_
  refine gl_iand hC dL_law_31 ?_
  generalize xs (nI (5 * k)).toNatClampNeg &&& 63 = x
  intro _
  refine gl_tc hC 0 220 dL_law_32 rfl rfl (lc_thing hC hR hA hS hM hok.1 hi hr hI hk nx trivial) (fun q0 => ?_)
  refine gl_tc hC 1 273 dL_law_32 rfl rfl (lc_thingOf hC hR hA hS hM hok.2.1 hi hr hI hk nx trivial) (fun q1 => ?_)
  refine gl_tc hC 2 306 dL_law_32 rfl rfl (lc_change hC hR hA hS hM hok.2.2.1 hi hr hI hk nx trivial) (fun q2 => ?_)
  refine gl_tc hC 3 349 dL_law_32 rfl rfl (lc_remake hC hR hA hS hM hok.2.2.2.1 hi hr hI hk nx trivial) (fun q3 => ?_)
  refine gl_tc hC 4 382 dL_law_32 rfl rfl (lc_iron hC hR hA hS hM hok.2.2.2.2.1 hi hr hI hk nx trivial) (fun q4 => ?_)
  refine gl_tc hC 5 415 dL_law_32 rfl rfl (lc_board hC hR hA hS hM hok.2.2.2.2.2.1 hi hr hI hk nx trivial) (fun q5 => ?_)
  refine gl_tc hC 6 458 dL_law_32 rfl rfl (lc_boardOf hC hR hA hS hM hok.2.2.2.2.2.2.1 hi hr hI hk nx trivial) (fun q6 => ?_)
  refine gl_tc hC 7 491 dL_law_32 rfl rfl (lc_ends hC hR hA hS hM hok.2.2.2.2.2.2.2.1 hi hr hI hk nx trivial) (fun q7 => ?_)
  refine gl_tc hC 8 514 dL_law_32 rfl rfl (lc_anew hC hR hA hS hM hok.2.2.2.2.2.2.2.2.1 hi hr hI hk nx trivial) (fun q8 => ?_)
  refine gl_tc hC 9 527 dL_law_32 rfl rfl (lc_state hC hR hA hS hM hok.2.2.2.2.2.2.2.2.2.1 hi hr hI hk nx trivial) (fun q9 => ?_)
  refine gl_tc hC 10 550 dL_law_32 rfl rfl (lc_feed hC hR hA hS hM hok.2.2.2.2.2.2.2.2.2.2.1 hi hr hI hk nx trivial) (fun q10 => ?_)
  refine gl_tc hC 11 613 dL_law_32 rfl rfl (lc_rules hC hR hA hS hM hok.2.2.2.2.2.2.2.2.2.2.2.1 hi hr hI hk nx trivial) (fun q11 => ?_)
  refine gl_tc hC 12 626 dL_law_32 rfl rfl (lc_wash hC hR hA hS hM hok.2.2.2.2.2.2.2.2.2.2.2.2.1 hi hr hI hk nx trivial) (fun q12 => ?_)
  refine gl_tc hC 13 639 dL_law_32 rfl rfl (lc_on hC hR hA hS hM hok.2.2.2.2.2.2.2.2.2.2.2.2.2.1 hi hr hI hk nx trivial) (fun q13 => ?_)
  refine gl_tc hC 14 662 dL_law_32 rfl rfl (lc_when hC hR hA hS hM hok.2.2.2.2.2.2.2.2.2.2.2.2.2.2.1 hi hr hI hk nx trivial) (fun q14 => ?_)
  refine gl_tc hC 15 685 dL_law_32 rfl rfl (lc_creaseFor hC hR hA hS hM hok.2.2.2.2.2.2.2.2.2.2.2.2.2.2.2.1 hi hr hI hk nx trivial) (fun q15 => ?_)
  refine gl_tc hC 16 708 dL_law_32 rfl rfl (lc_boardFor hC hR hA hS hM hok.2.2.2.2.2.2.2.2.2.2.2.2.2.2.2.2.1 hi hr hI hk nx trivial) (fun q16 => ?_)
  refine gl_tc hC 17 731 dL_law_32 rfl rfl (lc_fat hC hR hA hS hM hok.2.2.2.2.2.2.2.2.2.2.2.2.2.2.2.2.2.1 hi hr hI hk nx trivial) (fun q17 => ?_)
  refine gl_tc hC 18 754 dL_law_32 rfl rfl (lc_least hC hR hA hS hM hok.2.2.2.2.2.2.2.2.2.2.2.2.2.2.2.2.2.2.1 hi hr hI hk nx trivial) (fun q18 => ?_)
  refine gl_tc hC 19 777 dL_law_32 rfl rfl (lc_left hC hR hA hS hM hok.2.2.2.2.2.2.2.2.2.2.2.2.2.2.2.2.2.2.2.1 hi hr hI hk nx trivial) (fun q19 => ?_)
  refine gl_tc hC 20 810 dL_law_32 rfl rfl (lc_piles hC hR hA hS hM hok.2.2.2.2.2.2.2.2.2.2.2.2.2.2.2.2.2.2.2.2.1 hi hr hI hk nx trivial) (fun q20 => ?_)
  refine gl_tc hC 21 833 dL_law_32 rfl rfl (lc_best hC hR hA hS hM hok.2.2.2.2.2.2.2.2.2.2.2.2.2.2.2.2.2.2.2.2.2.1 hi hr hI hk nx trivial) (fun q21 => ?_)
  refine gl_tc hC 22 856 dL_law_32 rfl rfl (lc_ith hC hR hA hS hM hok.2.2.2.2.2.2.2.2.2.2.2.2.2.2.2.2.2.2.2.2.2.2.1 hi hr hI hk nx trivial) (fun q22 => ?_)
  refine gl_tc hC 23 889 dL_law_32 rfl rfl (lc_ways hC hR hA hS hM hok.2.2.2.2.2.2.2.2.2.2.2.2.2.2.2.2.2.2.2.2.2.2.2.1 hi hr hI hk nx trivial) (fun q23 => ?_)
  refine gl_tc hC 24 912 dL_law_32 rfl rfl (lc_note hC hR hA hS hM hok.2.2.2.2.2.2.2.2.2.2.2.2.2.2.2.2.2.2.2.2.2.2.2.2.1 hi hr hI hk nx trivial) (fun q24 => ?_)
  refine gl_tc hC 25 945 dL_law_32 rfl rfl (lc_bars hC hR hA hS hM hok.2.2.2.2.2.2.2.2.2.2.2.2.2.2.2.2.2.2.2.2.2.2.2.2.2.1 hi hr hI hk nx trivial) (fun q25 => ?_)
  refine gl_tc hC 26 978 dL_law_32 rfl rfl (lc_game hC hR hA hS hM hok.2.2.2.2.2.2.2.2.2.2.2.2.2.2.2.2.2.2.2.2.2.2.2.2.2.2.1 hi hr hI hk nx trivial) (fun q26 => ?_)
  refine gl_tc hC 27 1001 dL_law_32 rfl rfl (lc_play hC hR hA hS hM hok.2.2.2.2.2.2.2.2.2.2.2.2.2.2.2.2.2.2.2.2.2.2.2.2.2.2.2.1 hi hr hI hk nx trivial) (fun q27 => ?_)
  refine gl_tc hC 28 1024 dL_law_32 rfl rfl (lc_report hC hR hA hS hM hok.2.2.2.2.2.2.2.2.2.2.2.2.2.2.2.2.2.2.2.2.2.2.2.2.2.2.2.2.1 hi hr hI hk nx trivial) (fun q28 => ?_)
  refine gl_tc hC 29 1077 dL_law_32 rfl rfl (lc_forget hC hR hA hS hM hok.2.2.2.2.2.2.2.2.2.2.2.2.2.2.2.2.2.2.2.2.2.2.2.2.2.2.2.2.2.1 hi hr hI hk nx trivial) (fun q29 => ?_)
  refine gl_tc hC 30 1090 dL_law_32 rfl rfl (lc_lone hC hR hA hS hM hok.2.2.2.2.2.2.2.2.2.2.2.2.2.2.2.2.2.2.2.2.2.2.2.2.2.2.2.2.2.2.1 hi hr hI hk nx trivial) (fun q30 => ?_)
  refine gl_tc hC 31 1113 dL_law_32 rfl rfl (lc_liar hC hR hA hS hM hok.2.2.2.2.2.2.2.2.2.2.2.2.2.2.2.2.2.2.2.2.2.2.2.2.2.2.2.2.2.2.2.1 hi hr hI hk nx trivial) (fun q31 => ?_)
  refine gl_tc hC 32 1126 dL_law_32 rfl rfl (lc_seed hC hR hA hS hM hok.2.2.2.2.2.2.2.2.2.2.2.2.2.2.2.2.2.2.2.2.2.2.2.2.2.2.2.2.2.2.2.2.1 hi hr hI hk nx trivial) (fun q32 => ?_)
  refine gl_tc hC 33 1149 dL_law_32 rfl rfl (lc_lot hC hR hA hS hM hok.2.2.2.2.2.2.2.2.2.2.2.2.2.2.2.2.2.2.2.2.2.2.2.2.2.2.2.2.2.2.2.2.2.1 hi hr hI hk nx trivial) (fun q33 => ?_)
  refine gl_tc hC 34 1162 dL_law_32 rfl rfl (lc_times hC hR hA hS hM hok.2.2.2.2.2.2.2.2.2.2.2.2.2.2.2.2.2.2.2.2.2.2.2.2.2.2.2.2.2.2.2.2.2.2.1 hi hr hI hk nx trivial) (fun q34 => ?_)
  refine gl_tc hC 35 1195 dL_law_32 rfl rfl (lc_prove hC hR hA hS hM hok.2.2.2.2.2.2.2.2.2.2.2.2.2.2.2.2.2.2.2.2.2.2.2.2.2.2.2.2.2.2.2.2.2.2.2.1 hi hr hI hk nx trivial) (fun q35 => ?_)
  refine gl_tc hC 36 1218 dL_law_32 rfl rfl (lc_row hC hR hA hS hM hok.2.2.2.2.2.2.2.2.2.2.2.2.2.2.2.2.2.2.2.2.2.2.2.2.2.2.2.2.2.2.2.2.2.2.2.2.1 hi hr hI hk nx trivial) (fun q36 => ?_)
  refine gl_tc hC 37 1251 dL_law_32 rfl rfl (lc_alterRow hC hR hA hS hM hok.2.2.2.2.2.2.2.2.2.2.2.2.2.2.2.2.2.2.2.2.2.2.2.2.2.2.2.2.2.2.2.2.2.2.2.2.2.1 hi hr hI hk nx trivial) (fun q37 => ?_)
  refine gl_tc hC 38 1294 dL_law_32 rfl rfl (lc_judge hC hR hA hS hM hok.2.2.2.2.2.2.2.2.2.2.2.2.2.2.2.2.2.2.2.2.2.2.2.2.2.2.2.2.2.2.2.2.2.2.2.2.2.2.1 hi hr hI hk nx trivial) (fun q38 => ?_)
  refine gl_tc hC 39 1307 dL_law_32 rfl rfl (lc_sheet hC hR hA hS hM hok.2.2.2.2.2.2.2.2.2.2.2.2.2.2.2.2.2.2.2.2.2.2.2.2.2.2.2.2.2.2.2.2.2.2.2.2.2.2.2.1 hi hr hI hk nx trivial) (fun q39 => ?_)
  refine gl_tc hC 40 1350 dL_law_32 rfl rfl (lc_write hC hR hA hS hM hok.2.2.2.2.2.2.2.2.2.2.2.2.2.2.2.2.2.2.2.2.2.2.2.2.2.2.2.2.2.2.2.2.2.2.2.2.2.2.2.2.1 hi hr hI hk nx trivial) (fun q40 => ?_)
  refine gl_tc hC 41 1393 dL_law_32 rfl rfl (lc_item hC hR hA hS hM hok.2.2.2.2.2.2.2.2.2.2.2.2.2.2.2.2.2.2.2.2.2.2.2.2.2.2.2.2.2.2.2.2.2.2.2.2.2.2.2.2.2.1 hi hr hI hk nx trivial) (fun q41 => ?_)
  refine gl_tc hC 42 1436 dL_law_32 rfl rfl (lc_goAll hC hR hA hS hM hok.2.2.2.2.2.2.2.2.2.2.2.2.2.2.2.2.2.2.2.2.2.2.2.2.2.2.2.2.2.2.2.2.2.2.2.2.2.2.2.2.2.2.1 hi hr hI hk nx trivial) (fun q42 => ?_)
  refine gl_tc hC 43 1479 dL_law_32 rfl rfl (lc_wouldBe hC hR hA hS hM hok.2.2.2.2.2.2.2.2.2.2.2.2.2.2.2.2.2.2.2.2.2.2.2.2.2.2.2.2.2.2.2.2.2.2.2.2.2.2.2.2.2.2.2.1 hi hr hI hk nx trivial) (fun q43 => ?_)
  refine gl_tc hC 44 1522 dL_law_32 rfl rfl (lc_shelf hC hR hA hS hM hok.2.2.2.2.2.2.2.2.2.2.2.2.2.2.2.2.2.2.2.2.2.2.2.2.2.2.2.2.2.2.2.2.2.2.2.2.2.2.2.2.2.2.2.2.1 hi hr hI hk nx trivial) (fun q44 => ?_)
  refine gl_tc hC 45 1565 dL_law_32 rfl rfl (lc_taken hC hR hA hS hM hok.2.2.2.2.2.2.2.2.2.2.2.2.2.2.2.2.2.2.2.2.2.2.2.2.2.2.2.2.2.2.2.2.2.2.2.2.2.2.2.2.2.2.2.2.2.1 hi hr hI hk nx trivial) (fun q45 => ?_)
  refine gl_tc hC 46 1598 dL_law_32 rfl rfl (lc_act hC hR hA hS hM hok.2.2.2.2.2.2.2.2.2.2.2.2.2.2.2.2.2.2.2.2.2.2.2.2.2.2.2.2.2.2.2.2.2.2.2.2.2.2.2.2.2.2.2.2.2.2.1 hi hr hI hk nx trivial) (fun q46 => ?_)
  refine gl_tc hC 47 1641 dL_law_32 rfl rfl (lc_trace hC hR hA hS hM hok.2.2.2.2.2.2.2.2.2.2.2.2.2.2.2.2.2.2.2.2.2.2.2.2.2.2.2.2.2.2.2.2.2.2.2.2.2.2.2.2.2.2.2.2.2.2.2.1 hi hr hI hk nx trivial) (fun q47 => ?_)
  refine gl_tc hC 48 1664 dL_law_32 rfl rfl (lc_many hC hR hA hS hM hok.2.2.2.2.2.2.2.2.2.2.2.2.2.2.2.2.2.2.2.2.2.2.2.2.2.2.2.2.2.2.2.2.2.2.2.2.2.2.2.2.2.2.2.2.2.2.2.2.1 hi hr hI hk nx trivial) (fun q48 => ?_)
  refine gl_tc hC 49 1687 dL_law_32 rfl rfl (lc_keep hC hR hA hS hM hok.2.2.2.2.2.2.2.2.2.2.2.2.2.2.2.2.2.2.2.2.2.2.2.2.2.2.2.2.2.2.2.2.2.2.2.2.2.2.2.2.2.2.2.2.2.2.2.2.2.1 hi hr hI hk nx trivial) (fun q49 => ?_)
  refine gl_tc hC 50 1700 dL_law_32 rfl rfl (lc_again hC hR hA hS hM hok.2.2.2.2.2.2.2.2.2.2.2.2.2.2.2.2.2.2.2.2.2.2.2.2.2.2.2.2.2.2.2.2.2.2.2.2.2.2.2.2.2.2.2.2.2.2.2.2.2.2 hi hr hI hk nx trivial) (fun q50 => ?_)
  refine gl_tswd (P := True) (tgt := 1745) hC dL_law_32 (sw_out fun j hj => ?_) rfl (gl_widen (kc' := (100 + 20 * k) + 20) (ks' := (4000 + 3030 * k) + 3030) (by omega) (by omega) (fun _ => nx _ _ _ _ hr hI)) trivial
  · match j, hj with
    | 0, _ => exact fun e => q0 (e.trans (by decide))
    | 1, _ => exact fun e => q1 (e.trans (by decide))
    | 2, _ => exact fun e => q2 (e.trans (by decide))
    | 3, _ => exact fun e => q3 (e.trans (by decide))
    | 4, _ => exact fun e => q4 (e.trans (by decide))
    | 5, _ => exact fun e => q5 (e.trans (by decide))
    | 6, _ => exact fun e => q6 (e.trans (by decide))
    | 7, _ => exact fun e => q7 (e.trans (by decide))
    | 8, _ => exact fun e => q8 (e.trans (by decide))
    | 9, _ => exact fun e => q9 (e.trans (by decide))
    | 10, _ => exact fun e => q10 (e.trans (by decide))
    | 11, _ => exact fun e => q11 (e.trans (by decide))
    | 12, _ => exact fun e => q12 (e.trans (by decide))
    | 13, _ => exact fun e => q13 (e.trans (by decide))
    | 14, _ => exact fun e => q14 (e.trans (by decide))
    | 15, _ => exact fun e => q15 (e.trans (by decide))
    | 16, _ => exact fun e => q16 (e.trans (by decide))
    | 17, _ => exact fun e => q17 (e.trans (by decide))
    | 18, _ => exact fun e => q18 (e.trans (by decide))
    | 19, _ => exact fun e => q19 (e.trans (by decide))
    | 20, _ => exact fun e => q20 (e.trans (by decide))
    | 21, _ => exact fun e => q21 (e.trans (by decide))
    | 22, _ => exact fun e => q22 (e.trans (by decide))
    | 23, _ => exact fun e => q23 (e.trans (by decide))
    | 24, _ => exact fun e => q24 (e.trans (by decide))
    | 25, _ => exact fun e => q25 (e.trans (by decide))
    | 26, _ => exact fun e => q26 (e.trans (by decide))
    | 27, _ => exact fun e => q27 (e.trans (by decide))
    | 28, _ => exact fun e => q28 (e.trans (by decide))
    | 29, _ => exact fun e => q29 (e.trans (by decide))
    | 30, _ => exact fun e => q30 (e.trans (by decide))
    | 31, _ => exact fun e => q31 (e.trans (by decide))
    | 32, _ => exact fun e => q32 (e.trans (by decide))
    | 33, _ => exact fun e => q33 (e.trans (by decide))
    | 34, _ => exact fun e => q34 (e.trans (by decide))
    | 35, _ => exact fun e => q35 (e.trans (by decide))
    | 36, _ => exact fun e => q36 (e.trans (by decide))
    | 37, _ => exact fun e => q37 (e.trans (by decide))
    | 38, _ => exact fun e => q38 (e.trans (by decide))
    | 39, _ => exact fun e => q39 (e.trans (by decide))
    | 40, _ => exact fun e => q40 (e.trans (by decide))
    | 41, _ => exact fun e => q41 (e.trans (by decide))
    | 42, _ => exact fun e => q42 (e.trans (by decide))
    | 43, _ => exact fun e => q43 (e.trans (by decide))
    | 44, _ => exact fun e => q44 (e.trans (by decide))
    | 45, _ => exact fun e => q45 (e.trans (by decide))
    | 46, _ => exact fun e => q46 (e.trans (by decide))
    | 47, _ => exact fun e => q47 (e.trans (by decide))
    | 48, _ => exact fun e => q48 (e.trans (by decide))
    | 49, _ => exact fun e => q49 (e.trans (by decide))
    | 50, _ => exact fun e => q50 (e.trans (by decide))
    | j + 51, h => omega

