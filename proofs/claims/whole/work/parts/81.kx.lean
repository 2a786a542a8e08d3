/-! what the Statement gives of the start, as the walks want it -/
theorem fl_mem {b : Nat} {s : State} (h : (Jvm.Cond.and given_1 narrow_1).before #[Value.ref b] s = true) : ∀ c ∈ flatC (Jvm.Cond.and given_1 narrow_1), c.before #[Value.ref b] s = true := flat_of_before _ h
set_option maxRecDepth 100000 in
theorem mm_a0 : Cond.arrayOf (Term.static "IronedFlat" "ABOVE" "[I") .int ∈ flatC (Jvm.Cond.and given_1 narrow_1) := by decide +kernel
set_option maxRecDepth 100000 in
theorem mm_a1 : Cond.eq (.length (Term.static "IronedFlat" "ABOVE" "[I")) (.int (Int32.ofNat 6)) ∈ flatC (Jvm.Cond.and given_1 narrow_1) := by decide +kernel
set_option maxRecDepth 100000 in
theorem mm_a2 : ∀ j, j < 6 → Cond.eq (.elem (Term.static "IronedFlat" "ABOVE" "[I") (.int (Int32.ofNat j))) (.int (abvT.getD j 0)) ∈ flatC (Jvm.Cond.and given_1 narrow_1) := by decide +kernel
set_option maxRecDepth 100000 in
theorem mm_b0 : Cond.arrayOf (Term.static "IronedFlat$Actor" "BODY" "[I") .int ∈ flatC (Jvm.Cond.and given_1 narrow_1) := by decide +kernel
set_option maxRecDepth 100000 in
theorem mm_b1 : Cond.eq (.length (Term.static "IronedFlat$Actor" "BODY" "[I")) (.int (Int32.ofNat 24)) ∈ flatC (Jvm.Cond.and given_1 narrow_1) := by decide +kernel
set_option maxRecDepth 100000 in
theorem mm_b2 : ∀ j, j < 24 → Cond.eq (.elem (Term.static "IronedFlat$Actor" "BODY" "[I") (.int (Int32.ofNat j))) (.int (bodT.getD j 0)) ∈ flatC (Jvm.Cond.and given_1 narrow_1) := by decide +kernel
set_option maxRecDepth 100000 in
theorem mm_c : Cond.eq (.static "java/lang/String" "COMPACT_STRINGS" "Z") (.int 1) ∈ flatC (Jvm.Cond.and given_1 narrow_1) := by decide +kernel
set_option maxRecDepth 100000 in
theorem mm_d : Cond.isRef (.static "jdk/internal/util/Preconditions" "SIOOBE_FORMATTER" "Ljava/util/function/BiFunction;") ∈ flatC (Jvm.Cond.and given_1 narrow_1) := by decide +kernel
set_option maxRecDepth 100000 in
theorem mm_s0 : Cond.exactly (.string "IronedFlat$RuleReader" 59) "java/lang/String" ∈ flatC (Jvm.Cond.and given_1 narrow_1) := by decide +kernel
set_option maxRecDepth 100000 in
theorem mm_s1 : Cond.eq (.field (.string "IronedFlat$RuleReader" 59) "java/lang/String" "coder" "B") (.int 0) ∈ flatC (Jvm.Cond.and given_1 narrow_1) := by decide +kernel
set_option maxRecDepth 100000 in
theorem mm_s2 : Cond.arrayOf (Term.field (Term.string "IronedFlat$RuleReader" 59) "java/lang/String" "value" "[B") .byte ∈ flatC (Jvm.Cond.and given_1 narrow_1) := by decide +kernel
set_option maxRecDepth 100000 in
theorem mm_s3 : Cond.eq (.length (Term.field (Term.string "IronedFlat$RuleReader" 59) "java/lang/String" "value" "[B")) (.int (Int32.ofNat 94)) ∈ flatC (Jvm.Cond.and given_1 narrow_1) := by decide +kernel
set_option maxRecDepth 100000 in
theorem mm_s4 : ∀ j, j < 94 → Cond.eq (.elem (Term.field (Term.string "IronedFlat$RuleReader" 59) "java/lang/String" "value" "[B") (.int (Int32.ofNat j))) (.int (wrdT.getD j 0)) ∈ flatC (Jvm.Cond.and given_1 narrow_1) := by decide +kernel
theorem ls_a : Cond.laysStatic "IronedFlat" "ABOVE" "[I" ∈ lw_tbl := tb2 (List.mem_of_getElem? (i := 162) rfl)
theorem ls_b : Cond.laysStatic "IronedFlat$Actor" "BODY" "[I" ∈ lw_tbl := tb4 (List.mem_of_getElem? (i := 235) rfl)
theorem ls_c : Cond.laysStatic "java/lang/String" "COMPACT_STRINGS" "Z" ∈ lw_tbl := tb3 (List.mem_of_getElem? (i := 17) rfl)
theorem ls_d : Cond.laysStatic "jdk/internal/util/Preconditions" "SIOOBE_FORMATTER" "Ljava/util/function/BiFunction;" ∈ lw_tbl := tb3 (List.mem_of_getElem? (i := 33) rfl)
theorem ls_s : Cond.stringRef "IronedFlat$RuleReader" 59 wrdS ∈ lw_tbl := tb3 (List.mem_of_getElem? (i := 7) rfl)
theorem in_c : Cond.initialized "java/lang/String" ∈ lw_tbl := tb1 (List.mem_of_getElem? (i := 12) rfl)
theorem in_d : Cond.initialized "jdk/internal/util/Preconditions" ∈ lw_tbl := tb1 (List.mem_of_getElem? (i := 14) rfl)
theorem lw_gd_t {w : Cond} (h : w ∈ lw_gd) : w ∈ lw_tbl := (List.mem_filter.mp h).1
/-- the classes -/
theorem kx_cls {b : Nat} {s : State} (hts : ∀ w ∈ lw_tbl, w.before #[Value.ref b] s = true) : ∃ (dC : Nat → ClassId) (dI : Nat → Nat → Nat), ∀ (k : Nat) (q : vw_C), vwCl[k]? = some q → u_Kn s q.1 q.2.1 q.2.2 (dC k) (dI k) := by
  have ht : ∀ w ∈ lw_gd, w.before #[Value.ref b] s = true := fun w hw => hts w (lw_gd_t hw)
  obtain ⟨c0, i0, h0⟩ := u_known (C := RX0) (T := TX0) (N := 6) (n := 6) ht iwX0 (ht _ iqX0)
  obtain ⟨c1, i1, h1⟩ := u_known (C := RX1) (T := TX1) (N := 10) (n := 10) ht iwX1 (ht _ iqX1)
  obtain ⟨c2, i2, h2⟩ := u_known (C := RX2) (T := TX2) (N := 7) (n := 7) ht iwX2 (ht _ iqX2)
  obtain ⟨c3, i3, h3⟩ := u_known (C := RX3) (T := TX3) (N := 10) (n := 10) ht iwX3 (ht _ iqX3)
  obtain ⟨c4, i4, h4⟩ := u_known (C := RX4) (T := TX4) (N := 3) (n := 3) ht iwX4 (ht _ iqX4)
  obtain ⟨c5, i5, h5⟩ := u_known (C := RX5) (T := TX5) (N := 10) (n := 10) ht iwX5 (ht _ iqX5)
  obtain ⟨c6, i6, h6⟩ := u_known (C := RX6) (T := TX6) (N := 10) (n := 10) ht iwX6 (ht _ iqX6)
  obtain ⟨c7, i7, h7⟩ := u_known (C := RX7) (T := TX7) (N := 2) (n := 2) ht iwX7 (ht _ iqX7)
  obtain ⟨c8, i8, h8⟩ := u_known (C := RX8) (T := TX8) (N := 12) (n := 12) ht iwX8 (ht _ iqX8)
  obtain ⟨c9, i9, h9⟩ := u_known (C := RX9) (T := TX9) (N := 40) (n := 40) ht iwX9 (ht _ iqX9)
  refine ⟨fun k => match k with | 0 => c0 | 1 => c1 | 2 => c2 | 3 => c3 | 4 => c4 | 5 => c5 | 6 => c6 | 7 => c7 | 8 => c8 | _ => c9, fun k => match k with | 0 => i0 | 1 => i1 | 2 => i2 | 3 => i3 | 4 => i4 | 5 => i5 | 6 => i6 | 7 => i7 | 8 => i8 | _ => i9, fun k q hq => ?_⟩
  match k, hq with
  | 0, hq => cases hq; exact h0
  | 1, hq => cases hq; exact h1
  | 2, hq => cases hq; exact h2
  | 3, hq => cases hq; exact h3
  | 4, hq => cases hq; exact h4
  | 5, hq => cases hq; exact h5
  | 6, hq => cases hq; exact h6
  | 7, hq => cases hq; exact h7
  | 8, hq => cases hq; exact h8
  | 9, hq => cases hq; exact h9
  | k + 10, hq => simp [vwCl] at hq
/-- the arrays' classes -/
theorem kx_arr {b : Nat} {s : State} (hts : ∀ w ∈ lw_tbl, w.before #[Value.ref b] s = true) : ∃ aC : Nat → ClassId, ∀ (k : Nat) (q : ClassId × FieldType), ([(aC 1, .int), (aC 2, .object "IronedFlat$Rule"), (aC 3, .object "IronedFlat$SheetRow"), (aC 4, .object "IronedFlat$Load")] : List (ClassId × FieldType))[k]? = some q → ArrOfT s q.1 q.2 ∧ va_RA s q.1 q.2 := by
  obtain ⟨c1, k1, p1, a1, a2, a3⟩ := Cond.arrayClass_spec (hts _ (lw_gd_t ac_i))
  obtain ⟨p2, c2, k2, b1, b2, b3, b4, b5⟩ := Cond.arrayOver_spec (hts _ ao_2)
  obtain ⟨p3, c3, k3, d1, d2, d3, d4, d5⟩ := Cond.arrayOver_spec (hts _ ao_3)
  obtain ⟨p4, c4, k4, e1, e2, e3, e4, e5⟩ := Cond.arrayOver_spec (hts _ ao_4)
  refine ⟨fun t => match t with | 1 => c1 | 2 => c2 | 3 => c3 | _ => c4, fun k q hq => ?_⟩
  match k, hq with
  | 0, hq => cases hq; exact ⟨fun n z => ⟨fun k h => (by cases h), k1, a2, p1, a3⟩, a1⟩
  | 1, hq => cases hq; exact ⟨fun n z => ⟨fun k h => (by cases h), k2, b3, p2, b4⟩, k2, p2, b3, b4, b1, b5⟩
  | 2, hq => cases hq; exact ⟨fun n z => ⟨fun k h => (by cases h), k3, d3, p3, d4⟩, k3, p3, d3, d4, d1, d5⟩
  | 3, hq => cases hq; exact ⟨fun n z => ⟨fun k h => (by cases h), k4, e3, p4, e4⟩, k4, p4, e3, e4, e1, e5⟩
  | k + 4, hq => simp at hq
theorem kx_start {b : Nat} {s : State} (hts : ∀ w ∈ lw_tbl, w.before #[Value.ref b] s = true) (hgv : (Jvm.Cond.and given_1 narrow_1).before #[Value.ref b] s = true) : ∃ D : Dx, D.2.2.2.1 = s.heap.size ∧ Kx D s := by
  have hs := fl_mem hgv
  have hA : ∀ a : Nat, a < s.heap.size → ¬ (fun q : Nat => s.heap.size ≤ q) a := fun a h => Nat.not_le.mpr h
  obtain ⟨dC, dI, hc⟩ := kx_cls hts
  obtain ⟨aC, ha⟩ := kx_arr hts
  obtain ⟨tA, eA, TA⟩ := va_Tof (tm := .static "IronedFlat" "ABOVE" "[I") (ty := .int) (N := 6) (f := fun j => .int (abvT.getD j 0)) (A := fun q : Nat => s.heap.size ≤ q) (by decide) (hs _ mm_a0) (va_eqt (hs _ mm_a1)) (fun j hj => va_eqt (hs _ (mm_a2 j hj))) hA
  obtain ⟨tB, eB, TB'⟩ := va_Tof (tm := .static "IronedFlat$Actor" "BODY" "[I") (ty := .int) (N := 24) (f := fun j => .int (bodT.getD j 0)) (A := fun q : Nat => s.heap.size ≤ q) (by decide) (hs _ mm_b0) (va_eqt (hs _ mm_b1)) (fun j hj => va_eqt (hs _ (mm_b2 j hj))) hA
  obtain ⟨adK, adV, hS, hE⟩ := vk_Sof (args := #[Value.ref b]) (s := s) (N := 1) (tm := fun _ => .string "IronedFlat$RuleReader" 59) (len := [94]) (byt := [wrdT]) (A := fun q : Nat => s.heap.size ≤ q) (fun i hi => by
      have : i = 0 := by omega
      subst this
      decide) (fun _ _ => hs _ mm_s0) (fun _ _ => hs _ mm_s1) (fun _ _ => hs _ mm_s2) (fun i hi => by
      have : i = 0 := by omega
      subst this
      exact hs _ mm_s3) (fun i hi j hj => by
      have : i = 0 := by omega
      subst this
      exact hs _ (mm_s4 j hj)) (fun i j hi hj hij => absurd (show i = j by omega) hij) hA
  obtain ⟨s1, s2, s3, s4⟩ := hS.1 0 (by decide)
  refine ⟨(dC, dI, aC, s.heap.size, fun k => match k with | 0 => tA | 1 => tB | 2 => adK 0 | _ => adV 0), rfl, ⟨hc, ha⟩, ⟨?_, TA, ?_, TB', ?_, ?_, s1, s2, s3, s4⟩, fun a i x h hm => va_Nw.of rfl (hts _ hm), vk_R.of (hts _ ls_s) (hE 0 (by decide)), fun c hm => va_AO.of (hts _ hm)⟩
  · exact va_Zref (hts _ ls_a) (hts _ (lw_gd_t inX8)) eA hA
  · exact va_Zref (hts _ ls_b) (hts _ (lw_gd_t inX0)) eB hA
  · exact va_Zof (hts _ ls_c) (hts _ in_c) (va_eqt (hs _ mm_c)) hA
  · exact va_Zqof (hts _ ls_d) (hts _ in_d) (hs _ mm_d) hA
