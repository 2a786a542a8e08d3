/-! the cells that the constructors leave: kinds and lengths in two rows -/
def xtG (z : Nat) (K M : List Nat) : G2 := ((List.range K.length).map (fun j => z + j), (fun x => if z ≤ x then K.getD (x - z) 0 else 0), (fun x => if z ≤ x then M.getD (x - z) 0 else 0), z + K.length)
theorem up_row {z t : Nat} {K : List Nat} : va_up (fun x => if z ≤ x then K.getD (x - z) 0 else 0) (z + K.length) t = fun x => if z ≤ x then (K ++ [t]).getD (x - z) 0 else 0 := by
  funext x
  unfold va_up
  by_cases h : x = z + K.length
  · rw [if_pos h, if_pos (by omega), h, Nat.add_sub_cancel_left]
    simp [List.getD_eq_getElem?_getD]
  · rw [if_neg h]
    dsimp only
    by_cases g : z ≤ x
    · rw [if_pos g, if_pos g]
      by_cases q : x - z < K.length
      · simp [List.getD_eq_getElem?_getD, List.getElem?_append_left q]
      · have : K.length + 1 ≤ x - z := by omega
        rw [List.getD_eq_getElem?_getD, List.getD_eq_getElem?_getD, List.getElem?_eq_none (by omega), List.getElem?_eq_none (by simp; omega)]
    · rw [if_neg g, if_neg g]
theorem nw_ext {z t m : Nat} {K M : List Nat} (h : K.length = M.length) : nwG (xtG z K M) t m = xtG z (K ++ [t]) (M ++ [m]) := by
  unfold nwG xtG
  dsimp only
  rw [up_row (K := K), h, up_row (K := M)]
  simp [List.range_succ, h, Nat.add_assoc]
theorem fin_row {z t r : Nat} {K S : List Nat} : va_up (fun x => if z ≤ x then (K ++ r :: S).getD (x - z) 0 else 0) (z + K.length) t = fun x => if z ≤ x then (K ++ t :: S).getD (x - z) 0 else 0 := by
  funext x
  unfold va_up
  by_cases h : x = z + K.length
  · rw [if_pos h, if_pos (by omega), h, Nat.add_sub_cancel_left]
    simp [List.getD_eq_getElem?_getD]
  · rw [if_neg h]
    dsimp only
    by_cases g : z ≤ x
    · rw [if_pos g, if_pos g]
      by_cases q : x - z < K.length
      · simp [List.getD_eq_getElem?_getD, List.getElem?_append_left q]
      · obtain ⟨e, he⟩ : ∃ e, x - z - K.length = e + 1 := ⟨x - z - K.length - 1, by omega⟩
        rw [List.getD_eq_getElem?_getD, List.getD_eq_getElem?_getD, List.getElem?_append_right (by omega), List.getElem?_append_right (by omega), he]
        rfl
    · rw [if_neg g, if_neg g]
theorem fin_ext {z b t r : Nat} {K S M : List Nat} (hb : b = z + K.length) : finG (xtG z (K ++ r :: S) M) b t = xtG z (K ++ t :: S) M := by
  subst hb
  unfold finG xtG
  dsimp only
  rw [fin_row]
  simp
section XG
variable {z b r : Nat} {K M : List Nat}
theorem x2e (h : K.length + 1 = M.length) (hb : b = z + K.length) : gX2_init (xtG z (K ++ [r]) M) b = xtG z (K ++ [12, 1, 1, 1, 1]) (M ++ [6, 6, 6, 6]) := by
  unfold gX2_init
  rw [nw_ext, nw_ext, nw_ext, nw_ext]
  · simp only [List.append_assoc, List.cons_append, List.nil_append]
    rw [fin_ext hb]
  all_goals (simp; omega)
theorem x3e (h : K.length + 1 = M.length) (hb : b = z + K.length) : gX3_init (xtG z (K ++ [r]) M) b = xtG z (K ++ [13, 1, 1, 1, 1]) (M ++ [6, 6, 6, 6]) := by
  unfold gX3_init
  rw [nw_ext, nw_ext, nw_ext, nw_ext]
  · simp only [List.append_assoc, List.cons_append, List.nil_append]
    rw [fin_ext hb]
  all_goals (simp; omega)
theorem x0e (h : K.length + 1 = M.length) (hb : b = z + K.length) : gX0_init (xtG z (K ++ [r]) M) b = xtG z (K ++ [10, 1]) (M ++ [30]) := by
  unfold gX0_init
  rw [nw_ext]
  · simp only [List.append_assoc, List.cons_append, List.nil_append]
    rw [fin_ext hb]
  all_goals (simp; omega)
theorem x5e (h : K.length + 1 = M.length) (hb : b = z + K.length) : gX5_init (xtG z (K ++ [r]) M) b = xtG z (K ++ [15, 1, 1, 2]) (M ++ [200, 300, 8]) := by
  unfold gX5_init
  rw [nw_ext, nw_ext, nw_ext]
  · simp only [List.append_assoc, List.cons_append, List.nil_append]
    rw [fin_ext hb]
  all_goals (simp; omega)
theorem x1e (h : K.length + 1 = M.length) (hb : b = z + K.length) : gX1_init (xtG z (K ++ [r]) M) b = xtG z (K ++ [11, 12, 1, 1, 1, 1, 1, 1, 1, 2, 13, 1, 1, 1, 1]) (M ++ [0, 6, 6, 6, 6, 16, 6, 6, 8, 0, 6, 6, 6, 6]) := by
  unfold gX1_init
  rw [nw_ext, x2e, nw_ext, nw_ext, nw_ext, nw_ext, nw_ext, x3e]
  · simp only [List.append_assoc, List.cons_append, List.nil_append]
    rw [fin_ext hb]
  all_goals (simp; omega)
theorem x6e (h : K.length + 1 = M.length) (hb : b = z + K.length) : gX6_init (xtG z (K ++ [r]) M) b = xtG z (K ++ [16, 4, 1, 1, 12, 1, 1, 1, 1, 12, 1, 1, 1, 1, 12, 1, 1, 1, 1, 12, 1, 1, 1, 1, 12, 1, 1, 1, 1]) (M ++ [5, 4, 4, 0, 6, 6, 6, 6, 0, 6, 6, 6, 6, 0, 6, 6, 6, 6, 0, 6, 6, 6, 6, 0, 6, 6, 6, 6]) := by
  unfold gX6_init
  rw [nw_ext, nw_ext, nw_ext, nw_ext, x2e, nw_ext, x2e, nw_ext, x2e, nw_ext, x2e, nw_ext, x2e]
  · simp only [List.append_assoc, List.cons_append, List.nil_append]
    rw [fin_ext hb]
  all_goals (simp; omega)
theorem x8e (h : K.length + 1 = M.length) (hb : b = z + K.length) : gX8_init (xtG z (K ++ [r]) M) b = xtG z (K ++ [18, 11, 12, 1, 1, 1, 1, 1, 1, 1, 2, 13, 1, 1, 1, 1, 11, 12, 1, 1, 1, 1, 1, 1, 1, 2, 13, 1, 1, 1, 1, 12, 1, 1, 1, 1, 16, 4, 1, 1, 12, 1, 1, 1, 1, 12, 1, 1, 1, 1, 12, 1, 1, 1, 1, 12, 1, 1, 1, 1, 12, 1, 1, 1, 1, 15, 1, 1, 2, 1, 3, 1, 3, 10, 1]) (M ++ [0, 0, 6, 6, 6, 6, 16, 6, 6, 8, 0, 6, 6, 6, 6, 0, 0, 6, 6, 6, 6, 16, 6, 6, 8, 0, 6, 6, 6, 6, 0, 6, 6, 6, 6, 0, 5, 4, 4, 0, 6, 6, 6, 6, 0, 6, 6, 6, 6, 0, 6, 6, 6, 6, 0, 6, 6, 6, 6, 0, 6, 6, 6, 6, 0, 200, 300, 8, 12, 4, 4, 4, 0, 30]) := by
  unfold gX8_init
  rw [nw_ext, x1e, nw_ext, x1e, nw_ext, x2e, nw_ext, x6e, nw_ext, x5e, nw_ext, nw_ext, nw_ext, nw_ext, nw_ext, x0e]
  · simp only [List.append_assoc, List.cons_append, List.nil_append]
    rw [fin_ext hb]
  all_goals (simp; omega)
theorem x9e (h : K.length + 1 = M.length) (hb : b = z + K.length) : gX9_init (xtG z (K ++ [r]) M) b = xtG z (K ++ [19, 1, 1, 1, 1, 1, 1, 1, 1, 1, 1, 1, 1, 1, 1, 1, 1, 1]) (M ++ [572, 572, 190, 200, 572, 4, 4, 16, 16, 12, 4, 4, 160, 4, 4, 4, 30]) := by
  unfold gX9_init
  rw [nw_ext, nw_ext, nw_ext, nw_ext, nw_ext, nw_ext, nw_ext, nw_ext, nw_ext, nw_ext, nw_ext, nw_ext, nw_ext, nw_ext, nw_ext, nw_ext, nw_ext]
  · simp only [List.append_assoc, List.cons_append, List.nil_append]
    rw [fin_ext hb]
  all_goals (simp; omega)
end XG
def gC0 (z : Nat) : G2 := gX8_init (nwG ([], (fun _ => 0), (fun _ => 0), z) 38 0) z
def kT8 : List Nat := [18, 11, 12, 1, 1, 1, 1, 1, 1, 1, 2, 13, 1, 1, 1, 1, 11, 12, 1, 1, 1, 1, 1, 1, 1, 2, 13, 1, 1, 1, 1, 12, 1, 1, 1, 1, 16, 4, 1, 1, 12, 1, 1, 1, 1, 12, 1, 1, 1, 1, 12, 1, 1, 1, 1, 12, 1, 1, 1, 1, 12, 1, 1, 1, 1, 15, 1, 1, 2, 1, 3, 1, 3, 10, 1]
def lT8 : List Nat := [0, 0, 0, 6, 6, 6, 6, 16, 6, 6, 8, 0, 6, 6, 6, 6, 0, 0, 6, 6, 6, 6, 16, 6, 6, 8, 0, 6, 6, 6, 6, 0, 6, 6, 6, 6, 0, 5, 4, 4, 0, 6, 6, 6, 6, 0, 6, 6, 6, 6, 0, 6, 6, 6, 6, 0, 6, 6, 6, 6, 0, 6, 6, 6, 6, 0, 200, 300, 8, 12, 4, 4, 4, 0, 30]
def kT9 : List Nat := [19, 1, 1, 1, 1, 1, 1, 1, 1, 1, 1, 1, 1, 1, 1, 1, 1, 1]
def lT9 : List Nat := [0, 572, 572, 190, 200, 572, 4, 4, 16, 16, 12, 4, 4, 160, 4, 4, 4, 30]
theorem xt_0 (z : Nat) : (([] : List Nat), (fun _ : Nat => 0), (fun _ : Nat => 0), z) = xtG z [] [] := by
  unfold xtG
  simp
theorem gC_x (z : Nat) : gC0 z = xtG z kT8 lT8 := by
  unfold gC0
  rw [xt_0, nw_ext (K := []) (M := []) rfl, x8e (K := []) (M := [] ++ [0]) (b := z) rfl rfl]
  rfl
theorem mG_x (z : Nat) : mG0 z = xtG (z + 75) kT9 lT9 := by
  unfold mG0
  rw [xt_0, nw_ext (K := []) (M := []) rfl, x9e (K := []) (M := [] ++ [0]) (b := z + 75) rfl rfl]
  rfl
theorem gj_x (z : Nat) : gX9_init (nwG (gC0 z) 39 0) (z + 75) = xtG z (kT8 ++ kT9) (lT8 ++ lT9) := by
  rw [gC_x, nw_ext (K := kT8) (M := lT8) rfl, x9e (K := kT8) (M := lT8 ++ [0]) (b := z + 75) rfl rfl]
  rfl
theorem xt_at {z j : Nat} {K M : List Nat} : (xtG z K M).2.1 (z + j) = K.getD j 0 ∧ (xtG z K M).2.2.1 (z + j) = M.getD j 0 := by
  unfold xtG
  dsimp only
  rw [if_pos (by omega), if_pos (by omega), Nat.add_sub_cancel_left]
  exact ⟨rfl, rfl⟩
theorem xt_mem {z x : Nat} {K M : List Nat} : x ∈ (xtG z K M).1 ↔ ∃ j, j < K.length ∧ x = z + j := by
  unfold xtG
  simp only [List.mem_map, List.mem_range]
  exact ⟨fun ⟨j, h, e⟩ => ⟨j, h, e.symm⟩, fun ⟨j, h, e⟩ => ⟨j, h, e.symm⟩⟩
/-- parts lie behind their objects -/
def gqB (K M : List Nat) : Bool := (List.range K.length).all fun j => decide (K.getD j 0 < 10) || (List.range (nfs (K.getD j 0 - 10))).all fun k => decide (offT (K.getD j 0 - 10) k = 0) || (decide (j + offT (K.getD j 0 - 10) k < K.length) && (decide (K.getD (j + offT (K.getD j 0 - 10) k) 0 = kTt (K.getD j 0 - 10) k) && (decide (lTt (K.getD j 0 - 10) k = 0) || decide (M.getD (j + offT (K.getD j 0 - 10) k) 0 = lTt (K.getD j 0 - 10) k))))
theorem gx_of {z : Nat} {K M : List Nat} (h : gqB K M = true) : GX (xtG z K M) := by
  intro x ci hx hci k hk ho
  obtain ⟨j, hj, rfl⟩ := xt_mem.mp hx.1
  have hk0 : K.getD j 0 = ci + 10 := (xt_at (M := M)).1.symm.trans hx.2
  unfold gqB at h
  have h1 := List.all_eq_true.mp h j (List.mem_range.mpr hj)
  rw [hk0, Nat.add_sub_cancel, Bool.or_eq_true] at h1
  rcases h1 with h1 | h1
  · have := of_decide_eq_true h1; omega
  have h2 := List.all_eq_true.mp h1 k (List.mem_range.mpr hk)
  rw [Bool.or_eq_true, Bool.and_eq_true, Bool.and_eq_true, Bool.or_eq_true] at h2
  rcases h2 with h2 | ⟨h2, h3, h4⟩
  · exact absurd (of_decide_eq_true h2) ho
  have h2 := of_decide_eq_true h2
  have h3 := of_decide_eq_true h3
  rw [Nat.add_assoc]
  refine ⟨⟨xt_mem.mpr ⟨_, h2, rfl⟩, (xt_at (M := M)).1.trans h3⟩, fun q => ?_⟩
  rcases h4 with h4 | h4
  · exact absurd (of_decide_eq_true h4) q
  · exact (xt_at (K := K)).2.trans (of_decide_eq_true h4)
theorem gq8 : gqB kT8 lT8 = true := by decide +kernel
theorem gq9 : gqB kT9 lT9 = true := by decide +kernel
theorem own8 (z : Nat) : own (mG (gC0 z) (z + 93)) z 18 := by
  rw [gC_x]
  exact ⟨(xt_mem (K := kT8) (M := lT8)).mpr ⟨0, by decide, rfl⟩, (xt_at (z := z) (j := 0) (K := kT8) (M := lT8)).1⟩
theorem own9 (z : Nat) : own (mG0 z) (z + 75) 19 := by
  rw [mG_x]
  exact ⟨(xt_mem (K := kT9) (M := lT9)).mpr ⟨0, by decide, rfl⟩, (xt_at (z := z + 75) (j := 0) (K := kT9) (M := lT9)).1⟩
theorem gx9 (z : Nat) : GX (mG0 z) := by rw [mG_x]; exact gx_of gq9
theorem gx8 (z : Nat) : GX (mG (gC0 z) (z + 93)) := by
  have := gx_of (z := z) gq8
  rw [gC_x]
  exact this
theorem li0 (z : Nat) : LI z (mG0 z) (mG (gC0 z) (z + 93)) := ⟨gx8 z, own8 z, fun x h1 h2 => by
  rw [mG_x] at h1
  have h2 : x ∈ (gC0 z).1 := h2
  rw [gC_x] at h2
  obtain ⟨j, hj, rfl⟩ := xt_mem.mp h1
  obtain ⟨i, hi, e⟩ := xt_mem.mp h2
  have : kT8.length = 75 := rfl
  omega⟩
/-- a world by what it holds -/
theorem wd_congr {D : Dx} {A : List Nat} {kd ln kd' ln' : Nat → Nat} {n : Nat} {V V' : V2} {R R' : R2} {H : Heap} (h : Wd D (A, kd, ln, n) V R H) (hc : ∀ x, x ∈ A → kd' x = kd x ∧ ln' x = ln x ∧ V' x = V x ∧ R' x = R x) : Wd D (A, kd', ln', n) V' R' H := by
  obtain ⟨hP, hD, h3, h4⟩ := h
  have e : wsW D (A, kd', ln', n) V' R' = wsW D (A, kd, ln, n) V R := by
    show List.map _ A = List.map _ A
    refine List.map_congr_left fun x hx => ?_
    obtain ⟨e1, e2, e3, e4⟩ := hc x hx
    show (x, cellE D (A, kd', ln', n) V' R' x) = (x, cellE D (A, kd, ln, n) V R x)
    rw [cellE_congrG (G := (A, kd, ln, n)) (G' := (A, kd', ln', n)) e1 e2 e3 e4]
  exact ⟨by rw [e]; exact hP, by rw [e]; exact hD, h3, h4⟩
