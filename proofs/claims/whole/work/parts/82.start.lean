/-! from the law's entry to its end -/
/-- both worlds, parted -/
theorem be_part {D : Dx} {V : V2} {R : R2} {z : Nat} {H : Heap} (h : Wd D (gX9_init (nwG (gC0 z) 39 0) (z + 75)) V R H) : XL D (mG0 z) R (mG (gC0 z) (z + 93)) V R V H := by
  rw [gj_x] at h
  have hA : (xtG z (kT8 ++ kT9) (lT8 ++ lT9)).1 = (List.range 75).map (fun j => z + j) ++ (List.range 18).map (fun j => z + 75 + j) := by
    show (List.range 93).map (fun j => z + j) = _
    rw [show (93 : Nat) = 75 + 18 from rfl, List.range_add, List.map_append, List.map_map]
    congr 1
  have e8 : ∀ (L : List Nat) (L' : List Nat) (j : Nat), j < L.length → (L ++ L').getD j 0 = L.getD j 0 := fun L L' j hj => by
    rw [List.getD_eq_getElem?_getD, List.getD_eq_getElem?_getD, List.getElem?_append_left hj]
  have e9 : ∀ (L : List Nat) (L' : List Nat) (j : Nat), (L ++ L').getD (L.length + j) 0 = L'.getD j 0 := fun L L' j => by
    rw [List.getD_eq_getElem?_getD, List.getD_eq_getElem?_getD, List.getElem?_append_right (by omega), Nat.add_sub_cancel_left]
  have h : Wd D ((List.range 75).map (fun j => z + j) ++ (List.range 18).map (fun j => z + 75 + j), (xtG z (kT8 ++ kT9) (lT8 ++ lT9)).2.1, (xtG z (kT8 ++ kT9) (lT8 ++ lT9)).2.2.1, z + 93) V R H := by
    rw [← hA]; exact h
  constructor
  · have h1 := wd_left h
    have := wd_congr (kd' := (xtG z kT8 lT8).2.1) (ln' := (xtG z kT8 lT8).2.2.1) (V' := V) (R' := R) h1 (fun x hx => by
      obtain ⟨j, hj, rfl⟩ := List.mem_map.mp hx
      have hj := List.mem_range.mp hj
      refine ⟨?_, ?_, rfl, rfl⟩
      · rw [(xt_at (K := kT8) (M := lT8)).1, (xt_at (K := kT8 ++ kT9) (M := lT8 ++ lT9)).1]
        exact (e8 kT8 kT9 j hj).symm
      · rw [(xt_at (K := kT8) (M := lT8)).2, (xt_at (K := kT8 ++ kT9) (M := lT8 ++ lT9)).2]
        exact (e8 lT8 lT9 j hj).symm)
    rw [gC_x]
    exact this
  · have h1 := wd_right h
    have := wd_congr (kd' := (xtG (z + 75) kT9 lT9).2.1) (ln' := (xtG (z + 75) kT9 lT9).2.2.1) (V' := V) (R' := R) h1 (fun x hx => by
      obtain ⟨j, hj, rfl⟩ := List.mem_map.mp hx
      have hj := List.mem_range.mp hj
      refine ⟨?_, ?_, rfl, rfl⟩
      · rw [(xt_at (K := kT9) (M := lT9)).1, Nat.add_assoc, (xt_at (K := kT8 ++ kT9) (M := lT8 ++ lT9)).1]
        exact (e9 kT8 kT9 j).symm
      · rw [(xt_at (K := kT9) (M := lT9)).2, Nat.add_assoc, (xt_at (K := kT8 ++ kT9) (M := lT8 ++ lT9)).2]
        exact (e9 lT8 lT9 j).symm)
    rw [mG_x]
    exact this
set_option maxHeartbeats 4000000 in
set_option maxRecDepth 100000 in
theorem whole_start {p : Program} {e : Env} {s : State} {m : MethodId} {below : List Frame} {meth : Method} {c : Code} (l : Launch) (hflags : l.flags = flags0) {b L : Nat} {xs : Nat → Int32} (hL : L ≤ 2560) (C0 : lw_At p s m meth c b L xs) : W p l e room_1 s m #[Value.ref b] below meth c s.heap [] 0 0 (lw_Z below #[Value.ref b] s) (entryFrame m ([Value.ref b] : List Value).toArray 4) := by
  obtain ⟨hx, hb, hr, hml, hown, hts, hX, hbl, hlocks, hgv⟩ := id C0
  obtain ⟨D, hD1, hK⟩ := kx_start hts hgv
  obtain ⟨z, hz⟩ : ∃ z, z = s.heap.size := ⟨_, rfl⟩
  obtain ⟨C, hCd⟩ : ∃ C : Cx, C = ((p, l, e, room_1, s, m, #[Value.ref b], below, meth, c), (none, (fun _ _ => 0), (fun _ _ => none), ([], (fun _ => 0), (fun _ => 0), z), 0, 0), ([], (fun _ => 0), (fun _ => 0), z), D, 4) := ⟨_, rfl⟩
  have cD : C.2.2.2.1 = D := by rw [hCd]
  have cG : C.2.2.1 = ([], (fun _ => 0), (fun _ => 0), z) := by rw [hCd]
  have hR : C.1.2.2.2.1 = room_1 := by rw [hCd]
  have hL4 : C.2.2.2.2 = 4 := by rw [hCd]
  have hA : ∀ q, C.2.2.2.1.2.2.2.1 ≤ q → AX C.2.2.1 q := fun q hq => by
    rw [cD, hD1, ← hz] at hq
    rw [cG]
    exact Or.inr hq
  have hC : CxOK C cL_law RL (some .boolean) := by
    rw [hCd]
    exact ⟨hx, hb, hml, hown, fun w hw => hts w (lw_gd_t hw), hK, hr, hlocks, fun q hq => by
      rcases hq with hq | hq
      · cases hq
      · show D.2.2.2.1 ≤ q
        rw [hD1, ← hz]
        exact hq⟩
  have hS : Scr C b L xs := by
    rw [hCd]
    refine ⟨hX, hbl, fun q => ?_⟩
    rcases q with q | q
    · cases q
    · have q : z ≤ b := q
      omega
  have hend : ∀ lv X kc ks, kc ≤ 600000 → ks ≤ 7302250 → GoL C 1752 lv [.int 1] X kc ks := by
    intro lv X kc ks h1 h2 H locs ls _ _ h3 _
    have h3' : ∀ q ∈ locs, s.heap.size ≤ q.base := fun q hq => by
      have := h3.2.2 q hq
      rw [cG] at this
      rcases this with t | t
      · cases t
      · rw [← hz]; exact t
    rw [hCd]
    exact va_forget h3' (W.widen h1 h2 (lw_ret hx hb hr hlocks (by decide +kernel)))
  have main : GoL C 0 [(0, .ref b)] [] (Wd C.2.2.2.1 ([], (fun _ => 0), (fun _ => 0), z) (fun _ _ => 0) (fun _ _ => none)) 0 0 := by
    refine id (α := True → _) ?_ trivial
    refine gl_new hC hR fn_8 (by omega) (by omega) dL_law_0 klL_7 (a0 := z) rfl ?_
    refine gl_dup hC dL_law_3 rfl ?_
    refine gl_runI (av := []) hC hR hA ⟨by omega, by omega⟩ mwX8_init rfl miX8_init mlL_9 (kX8_init (L := [z]) (V := zV (fun _ _ => 0) z) (R := zR (fun _ _ => none) z) (b := z) ⟨List.mem_singleton.mpr rfl, va_up_self _ _ _⟩) (by omega) rfl rfl (Nat.le_of_ble_eq_true rfl) rfl rfl dL_law_4 ?_
    refine gl_astore_n hC (n0 := 4) (lv' := [(1, .ref z), (0, .ref b)]) dL_law_7 rfl (by decide) hL4 rfl ?_
    have hn8 : (gC0 z).2.2.2 = z + 75 := by rw [gC_x]; rfl
    refine gl_have (Y := Wd C.2.2.2.1 (gC0 z) (vX8_init (zV (fun _ _ => 0) z) z) (rX8_init (zR (fun _ _ => none) z) z)) (fun H h => h) ?_
    refine gl_new hC hR fn_9 (by omega) (by omega) dL_law_8 klL_10 (a0 := z + 75) hn8 ?_
    refine gl_dup hC dL_law_11 rfl ?_
    have e9 : nwG (gC0 z) (9 + 30) 0 = ((gC0 z).1 ++ [(gC0 z).2.2.2], va_up (gC0 z).2.1 (gC0 z).2.2.2 39, va_up (gC0 z).2.2.1 (gC0 z).2.2.2 0, z + 75 + 1) := by
      show ((gC0 z).1 ++ [(gC0 z).2.2.2], va_up (gC0 z).2.1 (gC0 z).2.2.2 39, va_up (gC0 z).2.2.1 (gC0 z).2.2.2 0, (gC0 z).2.2.2 + 1) = _
      rw [hn8]
    have ho9 : own ((gC0 z).1 ++ [(gC0 z).2.2.2], va_up (gC0 z).2.1 (gC0 z).2.2.2 39, va_up (gC0 z).2.2.1 (gC0 z).2.2.2 0, z + 75 + 1) (z + 75) 39 := by
      rw [hn8]
      exact ⟨List.mem_append_right _ (List.mem_singleton.mpr rfl), va_up_self _ _ _⟩
    rw [e9]
    refine gl_runI (av := []) hC hR hA ⟨by omega, by omega⟩ mwX9_init rfl miX9_init mlL_12 (kX9_init (V := zV (vX8_init (zV (fun _ _ => 0) z) z) (z + 75)) (R := zR (rX8_init (zR (fun _ _ => none) z) z) (z + 75)) ho9) (by omega) rfl rfl (Nat.le_of_ble_eq_true rfl) rfl rfl dL_law_12 ?_
    refine gl_have (Y := XL C.2.2.2.1 (mG0 z) (beR (fun _ _ => none) z) (mG (gC0 z) (z + 93)) (beV (fun _ _ => 0) z) (beR (fun _ _ => none) z) (beV (fun _ _ => 0) z)) (fun H h => by
      have h : Wd C.2.2.2.1 (gX9_init ((gC0 z).1 ++ [(gC0 z).2.2.2], va_up (gC0 z).2.1 (gC0 z).2.2.2 39, va_up (gC0 z).2.2.1 (gC0 z).2.2.2 0, z + 75 + 1) (z + 75)) (beV (fun _ _ => 0) z) (beR (fun _ _ => none) z) H := h
      rw [← e9] at h
      exact be_part h) ?_
    refine gl_astore_n hC (n0 := 4) (lv' := [(2, .ref (z + 75)), (1, .ref z), (0, .ref b)]) dL_law_15 rfl (by decide) hL4 rfl ?_
    refine gl_iconst hC dL_law_16 (v := 0) (by decide) ?_
    refine gl_istore_n hC (n0 := 4) (lv' := [(3, .int 0), (2, .ref (z + 75)), (1, .ref z), (0, .ref b)]) dL_law_17 rfl (by decide) hL4 rfl ?_
    refine gl_sub [3, 2, 1, 0] rfl ?_
    refine gl_widen (kc' := 100) (ks' := 4000) (by omega) (by omega) ?_
    have := law_loop (Rm := beR (fun _ _ => none) z) hC hR hA hS ⟨gx9 z, own9 z⟩ (law_ok (n := 1000) (z := z) (Nat.le_refl _)) hL4 hL hend (L + 1) 0 (by omega) (by omega) (beV (fun _ _ => 0) z) (beR (fun _ _ => none) z) (mG (gC0 z) (z + 93)) (beV (fun _ _ => 0) z) (rel0 z) (li0 z)
    exact fun _ => this
  have hl := lv_entry ([.ref b]) (n := 4) (Nat.le_of_ble_eq_true rfl)
  rw [lg_entry_eq]
  generalize (lg_sl ([.ref b]) ++ List.replicate (4 - (lg_sl ([.ref b])).length) Slot.unset).toArray = ls at hl ⊢
  have hl : lv_has ls 4 [(0, .ref b)] := hl
  have hW0 : Wd D ([], (fun _ => 0), (fun _ => 0), z) (fun _ _ => 0) (fun _ _ => none) s.heap := ⟨fun k q h => by simp [wsW, va_pl] at h, ⟨fun i j p q h => by simp [wsW, va_pl] at h, fun k q h => by simp [wsW, va_pl] at h⟩, hz.symm, by rw [hD1, ← hz]; exact Nat.le_refl _⟩
  have := main s.heap [] ls trivial (by rw [cD]; exact hW0) (by rw [hCd]; exact va_S.rf) (by rw [hL4]; exact hl)
  rw [hCd] at this
  exact this
