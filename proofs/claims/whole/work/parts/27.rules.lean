/-! rules: reads what stands on the tape, at most nine rules; each makes two cells -/
theorem q_bind {α β : Type} {A : Option α} {K : α → Option β} {o : β} {X : Prop} (h : ∀ x, K x = some o → X) : A.bind K = some o → X := by
  cases A with
  | none => exact fun z => nomatch z
  | some x => exact h x
theorem q_if {β : Type} {c : Prop} [Decidable c] {A B : Option β} {o : β} {X : Prop} (h1 : A = some o → X) (h2 : B = some o → X) : (if c then A else B) = some o → X := by
  by_cases h : c
  · rw [if_pos h]; exact h1
  · rw [if_neg h]; exact h2
theorem q_none {β : Type} {o : β} {X : Prop} : (none : Option β) = some o → X := fun z => nomatch z
theorem nw2_gx {G : G2} {t m ci : Nat} (hG : GX G) (hW : WfG G) (hc : ∀ k, k < nfs ci → ¬ offT ci k = 0 → offT ci k = 1 ∧ kTt ci k = 1 ∧ lTt ci k = 0) : GX (finG (nwG (nwG G t 0) 1 m) G.2.2.2 (ci + 10)) := by
  intro x cj hx hcj k hk ho
  have hmem : x ∈ (G.1 ++ [G.2.2.2]) ++ [G.2.2.2 + 1] := hx.1
  have hkd : va_up (va_up (va_up G.2.1 G.2.2.2 t) (G.2.2.2 + 1) 1) G.2.2.2 (ci + 10) x = cj + 10 := hx.2
  rcases List.mem_append.mp hmem with hm | hm
  · rcases List.mem_append.mp hm with hm | hm
    · have hlt := hW x hm
      rw [va_up_ne _ _ (by omega), va_up_ne _ _ (by omega), va_up_ne _ _ (by omega)] at hkd
      obtain ⟨h1, h2⟩ := hG x cj ⟨hm, hkd⟩ hcj k hk ho
      exact ⟨nw2_old (b := 0) hW h1, fun q => (nw2_len hW h1).trans (h2 q)⟩
    · have hxe : x = G.2.2.2 := List.mem_singleton.mp hm
      subst hxe
      rw [va_up_self] at hkd
      have : cj = ci := by omega
      subst this
      obtain ⟨e1, e2, e3⟩ := hc k hk ho
      rw [e1, e2]
      refine ⟨⟨List.mem_append_right _ (List.mem_singleton.mpr rfl), ?_⟩, fun q => absurd e3 q⟩
      show va_up (va_up (va_up G.2.1 G.2.2.2 t) (G.2.2.2 + 1) 1) G.2.2.2 (cj + 10) (G.2.2.2 + 1) = 1
      rw [va_up_ne _ _ (by omega), va_up_self]
  · have hxe : x = G.2.2.2 + 1 := List.mem_singleton.mp hm
    subst hxe
    rw [va_up_ne _ _ (by omega), va_up_self] at hkd
    omega
theorem gx_ru {G : G2} {m : Nat} (hG : GX G) (hW : WfG G) : GX (ruG G m) := nw2_gx (ci := 4) hG hW (by decide)
theorem gx_sh {G : G2} {m : Nat} (hG : GX G) (hW : WfG G) : GX (shG G m) := nw2_gx (ci := 7) hG hW (by decide)
theorem ge_ru {G : G2} {m : Nat} : GE G (ruG G m) := ge_fin (ge_nw (ge_nw (GE.rf G)))
theorem ge_sh {G : G2} {m : Nat} : GE G (shG G m) := ge_fin (ge_nw (ge_nw (GE.rf G)))
theorem nw2_wf {G : G2} {t m c : Nat} (hW : WfG G) : WfG (finG (nwG (nwG G t 0) 1 m) G.2.2.2 c) := by
  intro x hx
  have hmem : x ∈ (G.1 ++ [G.2.2.2]) ++ [G.2.2.2 + 1] := hx
  show x < G.2.2.2 + 1 + 1
  rcases List.mem_append.mp hmem with hm | hm
  · rcases List.mem_append.mp hm with hm | hm
    · have := hW x hm; omega
    · have := List.mem_singleton.mp hm; omega
  · have := List.mem_singleton.mp hm; omega
/-- what making leaves of G -/
def GS (G G' : G2) : Prop := GE G G' ∧ (WfG G → WfG G' ∧ (GX G → GX G') ∧ ∀ x t, own G x t → own G' x t)
theorem GS.rf (G : G2) : GS G G := ⟨GE.rf G, fun w => ⟨w, fun h => h, fun _ _ q => q⟩⟩
theorem GS.tr {A B C : G2} (h : GS A B) (h2 : GS B C) : GS A C := ⟨h.1.tr h2.1, fun w => by
  obtain ⟨w1, g1, o1⟩ := h.2 w
  obtain ⟨w2, g2, o2⟩ := h2.2 w1
  exact ⟨w2, fun q => g2 (g1 q), fun x t q => o2 x t (o1 x t q)⟩⟩
theorem gs_ru (G : G2) (m : Nat) : GS G (ruG G m) := ⟨ge_ru, fun hW => ⟨nw2_wf hW, fun hG => gx_ru hG hW, fun _ _ q => ru_old hW q⟩⟩
theorem gs_sh (G : G2) (m : Nat) : GS G (shG G m) := ⟨ge_sh, fun hW => ⟨nw2_wf hW, fun hG => gx_sh hG hW, fun _ _ q => sh_old hW q⟩⟩
set_option maxHeartbeats 4000000 in
theorem rr_G {n : Nat} {G : G2} {V : V2} {R : R2} {b : Nat} {o : Int32 × V2 × R2 × G2} : pX5_readRule n G V R b = some o → GS G o.2.2.2 := by
  unfold pX5_readRule
  simp only [letv]
  repeat' first
    | refine q_none
    | refine q_bind (fun _ => ?_)
    | refine q_if ?_ ?_
    | (intro e; cases e; first | exact GS.rf _ | exact gs_ru _ _)
def lX8_rules_11 (n b : Nat) : Nat → V2 → R2 → G2 → Int32 → Int32 → Option (V2 × R2 × G2 × Int32)
  | 0, _, _, _, _, _ => none
  | f + 1, U, S, G, s, i =>
    if (8 : Int32) < i then (some (U, S, G, s))
    else (if s = 0 then (some (U, S, G, s))
    else ((pX5_isAtEnd U (b + 65)).bind fun q =>
    if q = 0 then ((pX5_readRule n G U S (b + 65)).bind fun q2 =>
    letv (i + 1) fun j =>
    lX8_rules_11 n b f q2.2.1 q2.2.2.1 q2.2.2.2 q2.1 j)
    else (some (U, S, G, s))))
def pX8_rules (n : Nat) (G : G2) (V : V2) (R : R2) (b : Nat) : Option (Int32 × V2 × R2 × G2) :=
  (pX5_begin n V (b + 65)).bind fun q1 =>
  (lX8_rules_11 n b 10 q1 R G 1 0).bind fun w =>
  (pX5_useUp w.1 (b + 65)).bind fun q2 =>
  if w.2.2.2 = 0 then ((pX5_place q2 (b + 65)).bind fun q3 =>
  some ((-100) - q3, q2, w.2.1, w.2.2.1))
  else ((pX1_takeRules n w.2.2.1 q2 w.2.1 (b + 1) (b + 65 + 3) (q2 (b + 65) 9)).bind fun q4 =>
  some (q4.1 (b + 1) 8, q4.1, q4.2, w.2.2.1))
set_option maxHeartbeats 4000000 in
set_option maxRecDepth 100000 in
theorem wX8_rules_11 {C : Cx} {n b : Nat} (hC : CxOK C cX8_rules RX8 (some .int)) (hL : C.2.2.2.2 = 3) (hR : C.1.2.2.2.1 = rmN 34 20 3030) {w : V2 × R2 × G2 × Int32}
    (hX : ∀ kc ks, kc ≤ 20 → ks ≤ 3030 → GX w.2.2.1 → own w.2.2.1 b 18 → Go C 45 [(0, .ref b), (1, .int w.2.2.2)] [] w.1 w.2.1 w.2.2.1 kc ks) :
    ∀ (f : Nat) (U : V2) (S : R2) (G : G2) (s i : Int32) (kc ks : Nat), kc + 2 * f ≤ 20 → ks + 303 * f ≤ 3030 → GX G → own G b 18 → lX8_rules_11 n b f U S G s i = some w → Go C 11 [(0, .ref b), (1, .int s), (2, .int i)] [] U S G kc ks := by
  intro f
  induction f with
  | zero => intro _ _ _ _ _ _ _ _ _ _ _ hf; exact absurd hf (by unfold lX8_rules_11; exact fun z => nomatch z)
  | succ f ih =>
    intro U S G s i kc ks hkc hks hG h_b
    unfold lX8_rules_11
    refine g_iload_n hC dX8_rules_11 (j := 2) rfl rfl ?_
    refine g_bipush hC dX8_rules_12 bc_8 ?_
    refine g_icmp_gt hC dX8_rules_14 ?_ ?_
    · refine g_sub [0, 1] rfl ?_
      intro e; cases e; exact hX kc ks (by omega) (by omega) hG h_b
    refine g_iload_n hC dX8_rules_17 (j := 1) rfl rfl ?_
    refine g_if_eq hC dX8_rules_18 ?_ ?_
    · refine g_sub [0, 1] rfl ?_
      intro e; cases e; exact hX kc ks (by omega) (by omega) hG h_b
    refine g_aload_n hC dX8_rules_21 (j := 0) rfl rfl ?_
    refine g_getR hC fr_8_5 h_b (b := b + 65) rfl dX8_rules_22 flX8_40 ?_
    refine g_callV_i hC hR ⟨by omega, by omega⟩ mwX5_isAtEnd miX5_isAtEnd (ci := 5) rfl (gx_8_5 hG h_b) (Nat.le_of_ble_eq_true rfl) mlX8_179 (fun _ hq => kX5_isAtEnd hG (gx_8_5 hG h_b) hq) (Nat.le_of_ble_eq_true rfl) rfl (st := []) rfl (Nat.le_of_ble_eq_true rfl) dX8_rules_25 (fun q => ?_)
    refine g_if_ne hC dX8_rules_28 ?_ ?_
    · refine g_aload_n hC dX8_rules_31 (j := 0) rfl rfl ?_
      refine g_getR hC fr_8_5 h_b (b := b + 65) rfl dX8_rules_32 flX8_40 ?_
      refine g_wf (fun hW => ?_)
      intro hf
      cases hA : pX5_readRule n G U S (b + 65) with
      | none => rw [hA] at hf; cases hf
      | some q2 =>
        rw [hA] at hf
        have hK : lX8_rules_11 n b f q2.2.1 q2.2.2.1 q2.2.2.2 q2.1 (i + 1) = some w := hf
        have hgs := rr_G hA
        obtain ⟨-, hGf, hown⟩ := hgs.2 hW
        have hG2 := hGf hG
        refine g_runV hC hR ⟨by omega, by omega⟩ mwX5_readRule miX5_readRule (ci := 5) rfl (gx_8_5 hG h_b) (Nat.le_of_ble_eq_true rfl) mlX8_183 (kX5_readRule hG (gx_8_5 hG h_b) hA) (Nat.le_of_ble_eq_true rfl) rfl (st := []) rfl (Nat.le_of_ble_eq_true rfl) rfl hgs.1 dX8_rules_35 ?_
        revert hK
        refine g_istore_n hC (n0 := 3) (lv' := [(1, .int q2.1), (0, .ref b), (2, .int i)]) dX8_rules_38 rfl (Nat.le_of_ble_eq_true rfl) hL rfl ?_
        refine g_iinc hC (n0 := 3) (j := 2) (v := i + 1) (lv' := [(2, .int (i + 1)), (1, .int q2.1), (0, .ref b)]) dX8_rules_39 rfl (by rw [ic_1]) (Nat.le_of_ble_eq_true rfl) hL rfl ?_
        refine g_goto hC dX8_rules_42 ?_
        refine g_sub [2, 1, 0] rfl ?_
        exact ih q2.2.1 q2.2.2.1 q2.2.2.2 q2.1 (i + 1) (kc + 2) (ks + 303) (by omega) (by omega) hG2 (hown _ _ h_b)
    · refine g_sub [0, 1] rfl ?_
      intro e; cases e; exact hX kc ks (by omega) (by omega) hG h_b
set_option maxHeartbeats 4000000 in
set_option maxRecDepth 100000 in
theorem kX8_rules {l : Launch} {D : Dx} {G : G2} {V : V2} {R : R2} {n : Nat} {b : Nat} (hG : GX G) (h_b : own G b 18) {o : Int32 × V2 × R2 × G2} (hf : pX8_rules n G V R b = some o) : Con l yX8_rules cX8_rules 3 (some .int) (rmN 34 20 3030) D G V R [.ref b] (some (.int o.1), o.2.1, o.2.2.1, o.2.2.2, 20, 3030) := by
  refine Con.mk RX8 (by decide) rfl (Nat.le_of_ble_eq_true rfl) (fun C _ hR hT _ _ hL hC hnm => ?_)
  revert hf
  unfold pX8_rules
  refine g_aload_n hC dX8_rules_0 (j := 0) rfl rfl ?_
  refine g_getR hC fr_8_5 h_b (b := b + 65) rfl dX8_rules_1 flX8_40 ?_
  refine g_callV_vV hC hR ⟨Nat.zero_le _, Nat.zero_le _⟩ mwX5_begin miX5_begin (ci := 5) rfl (gx_8_5 hG h_b) (Nat.le_of_ble_eq_true rfl) mlX8_176 (fun _ hq => kX5_begin hG (gx_8_5 hG h_b) hq) (Nat.le_of_ble_eq_true rfl) rfl (st := []) rfl (Nat.le_of_ble_eq_true rfl) dX8_rules_4 (fun q1 => ?_)
  refine g_iconst hC dX8_rules_7 ic_1 ?_
  refine g_istore_n hC (n0 := 3) (lv' := [(1, .int 1), (0, .ref b)]) dX8_rules_8 rfl (Nat.le_of_ble_eq_true rfl) hL rfl ?_
  refine g_iconst hC dX8_rules_9 ic_0 ?_
  refine g_istore_n hC (n0 := 3) (lv' := [(2, .int 0), (1, .int 1), (0, .ref b)]) dX8_rules_10 rfl (Nat.le_of_ble_eq_true rfl) hL rfl ?_
  refine g_sub [2, 1, 0] rfl ?_
  refine g_bind (J := fun w => ∀ kc ks, kc ≤ 20 → ks ≤ 3030 → GX w.2.2.1 → own w.2.2.1 b 18 → Go C 45 [(0, .ref b), (1, .int w.2.2.2)] [] w.1 w.2.1 w.2.2.1 kc ks) (fun w hJ => wX8_rules_11 hC hL hR hJ 10 q1 R G 1 0 0 0 (by omega) (by omega) hG h_b) (fun w hK kc ks hkc hks hG h_b => ?_)
  revert hK
  refine g_aload_n hC dX8_rules_45 (j := 0) rfl rfl ?_
  refine g_getR hC fr_8_5 h_b (b := b + 65) rfl dX8_rules_46 flX8_40 ?_
  refine g_callV_vV hC hR ⟨hkc, hks⟩ mwX5_useUp miX5_useUp (ci := 5) rfl (gx_8_5 hG h_b) (Nat.le_of_ble_eq_true rfl) mlX8_186 (fun _ hq => kX5_useUp hG (gx_8_5 hG h_b) hq) (Nat.le_of_ble_eq_true rfl) rfl (st := []) rfl (Nat.le_of_ble_eq_true rfl) dX8_rules_49 (fun q2 => ?_)
  refine g_iload_n hC dX8_rules_52 (j := 1) rfl rfl ?_
  refine g_if_ne hC dX8_rules_53 ?_ ?_
  · refine g_bipush hC dX8_rules_56 bc_m100 ?_
    refine g_aload_n hC dX8_rules_58 (j := 0) rfl rfl ?_
    refine g_getR hC fr_8_5 h_b (b := b + 65) rfl dX8_rules_59 flX8_40 ?_
    refine g_callV_i hC hR ⟨hkc, hks⟩ mwX5_place miX5_place (ci := 5) rfl (gx_8_5 hG h_b) (Nat.le_of_ble_eq_true rfl) mlX8_189 (fun _ hq => kX5_place hG (gx_8_5 hG h_b) hq) (Nat.le_of_ble_eq_true rfl) rfl (st := [.int (-100)]) rfl (Nat.le_of_ble_eq_true rfl) dX8_rules_62 (fun q3 => ?_)
    refine g_isub hC dX8_rules_65 ?_
    exact g_iret_iG hC hT hkc hks dX8_rules_66
  · refine g_aload_n hC dX8_rules_67 (j := 0) rfl rfl ?_
    refine g_getR hC fr_8_0 h_b (b := b + 1) rfl dX8_rules_68 flX8_10 ?_
    refine g_aload_n hC dX8_rules_71 (j := 0) rfl rfl ?_
    refine g_getR hC fr_8_5 h_b (b := b + 65) rfl dX8_rules_72 flX8_40 ?_
    refine g_getR hC fr_5_8 (gx_8_5 hG h_b) (b := b + 65 + 3) rfl dX8_rules_75 flX8_192 ?_
    refine g_aload_n hC dX8_rules_78 (j := 0) rfl rfl ?_
    refine g_getR hC fr_8_5 h_b (b := b + 65) rfl dX8_rules_79 flX8_40 ?_
    refine g_getI hC fi_5_9 (gx_8_5 hG h_b) dX8_rules_82 flX8_196 ?_
    refine g_callV_vR hC hR ⟨hkc, hks⟩ mwX1_takeRules miX1_takeRules (ci := 1) rfl (gx_8_0 hG h_b) (Nat.le_of_ble_eq_true rfl) mlX8_197 (fun _ hq => kX1_takeRules hG (gx_8_0 hG h_b) (gx_5_8 hG (gx_8_5 hG h_b)) hq) (Nat.le_of_ble_eq_true rfl) rfl (st := []) rfl (Nat.le_of_ble_eq_true rfl) dX8_rules_85 (fun q4 => ?_)
    refine g_aload_n hC dX8_rules_88 (j := 0) rfl rfl ?_
    refine g_getR hC fr_8_0 h_b (b := b + 1) rfl dX8_rules_89 flX8_10 ?_
    refine g_getI hC fi_1_8 (gx_8_0 hG h_b) dX8_rules_92 flX8_201 ?_
    exact g_iret_iG hC hT hkc hks dX8_rules_95
theorem ll_G {n b : Nat} {w : V2 × R2 × G2 × Int32} : ∀ (f : Nat) (U : V2) (S : R2) (G : G2) (s i : Int32), lX8_rules_11 n b f U S G s i = some w → GS G w.2.2.1 := by
  intro f
  induction f with
  | zero => intro _ _ _ _ _ hf; exact absurd hf (by unfold lX8_rules_11; exact fun z => nomatch z)
  | succ f ih =>
    intro U S G s i
    unfold lX8_rules_11
    refine q_if (fun e => by cases e; exact GS.rf _) ?_
    refine q_if (fun e => by cases e; exact GS.rf _) ?_
    refine q_bind (fun q => ?_)
    refine q_if ?_ (fun e => by cases e; exact GS.rf _)
    intro hf
    cases hA : pX5_readRule n G U S (b + 65) with
    | none => rw [hA] at hf; cases hf
    | some q2 =>
      rw [hA] at hf
      exact (rr_G hA).tr (ih _ _ _ _ _ hf)
theorem rules_G {n : Nat} {G : G2} {V : V2} {R : R2} {b : Nat} {o : Int32 × V2 × R2 × G2} : pX8_rules n G V R b = some o → GS G o.2.2.2 := by
  unfold pX8_rules
  refine q_bind (fun q1 => ?_)
  intro hf
  cases hA : lX8_rules_11 n b 10 q1 R G 1 0 with
  | none => rw [hA] at hf; cases hf
  | some w =>
    rw [hA, Option.bind_some] at hf
    have hg := ll_G _ _ _ _ _ _ hA
    revert hf
    refine q_bind (fun q2 => ?_)
    refine q_if ?_ ?_
    · refine q_bind (fun q3 => ?_)
      intro e; rw [← Option.some.inj e]; exact hg
    · refine q_bind (fun q4 => ?_)
      intro e; rw [← Option.some.inj e]; exact hg
set_option maxHeartbeats 4000000 in
theorem sheet_G {G : G2} {V : V2} {R : R2} {b : Nat} {a1 a2 a3 : Int32} {o : Int32 × V2 × R2 × G2} : pX8_sheet G V R b a1 a2 a3 = some o → GS G o.2.2.2 := by
  unfold pX8_sheet
  try simp only [letv]
  repeat' first
    | refine q_none
    | refine q_bind (fun _ => ?_)
    | refine q_if ?_ ?_
    | (intro e; cases e; first | exact GS.rf _ | exact gs_sh _ _)
