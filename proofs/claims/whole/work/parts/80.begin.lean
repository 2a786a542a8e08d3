/-! the numbers that the constructors leave: the relation holds at the start -/
section BG
variable {z b : Nat} {V : V2} {R : R2}
theorem zV_ne {a x : Nat} (h : x ≠ a) : zV V a x = V x := va_up_ne _ _ h
theorem zV_at {a : Nat} : zV V a a = fun _ => 0 := va_up_self _ _ _
theorem zR_ne {a x : Nat} (h : x ≠ a) : zR R a x = R x := va_up_ne _ _ h
theorem zR_at {a : Nat} : zR R a a = fun _ => none := va_up_self _ _ _
theorem fV_ne {a m x : Nat} {v : Int32} (h : x ≠ a) : fillV V a m v x = V x := va_up_ne _ _ h
theorem fV_at {a m j : Nat} {v : Int32} (h : j < m) : fillV V a m v a j = v := by
  unfold fillV
  rw [va_up_self, if_pos h]
theorem fX2 {x : Nat} (h : x < b ∨ b + 4 < x) : vX2_init V b x = V x := by
  unfold vX2_init
  simp (disch := omega) only [zV_ne, w_row]
theorem fX3 {x : Nat} (h : x < b ∨ b + 4 < x) : vX3_init V b x = V x := by
  unfold vX3_init
  simp (disch := omega) only [zV_ne, w_row]
theorem fX0 {x : Nat} (h : x < b ∨ b + 1 < x) : vX0_init V b x = V x := by
  unfold vX0_init
  simp (disch := omega) only [zV_ne, w_row]
theorem fX5 {x : Nat} (h : x < b ∨ b + 2 < x) : vX5_init V b x = V x := by
  unfold vX5_init
  simp (disch := omega) only [zV_ne, w_row]
theorem fX6 {x : Nat} (h : x < b ∨ b + 28 < x) : vX6_init V b x = V x := by
  unfold vX6_init
  simp (disch := omega) only [zV_ne, w_row, fX2]
theorem fX1 {x : Nat} (h : x < b ∨ b + 14 < x) : vX1_init V b x = V x := by
  unfold vX1_init
  simp (disch := omega) only [zV_ne, w_row, fX2, fX3, fV_ne]
theorem qX2 : vX2_init V b b 0 = 0 ∧ vX2_init V b b 1 = 0 ∧ vX2_init V b b 2 = 0 ∧ ∀ x k, b < x → x ≤ b + 4 → vX2_init V b x k = 0 := by
  unfold vX2_init
  refine ⟨?_, ?_, ?_, fun x k h1 h2 => ?_⟩
  · simp (disch := omega) only [zV_ne, w_idx, w_same]
  · simp (disch := omega) only [zV_ne, w_idx, w_same]
  · simp (disch := omega) only [zV_ne, w_idx, w_same]
  · rcases (show x = b + 1 ∨ x = b + 2 ∨ x = b + 3 ∨ x = b + 4 by omega) with rfl | rfl | rfl | rfl
    · simp (disch := omega) only [zV_ne, zV_at]
    · simp (disch := omega) only [zV_ne, zV_at]
    · simp (disch := omega) only [zV_ne, zV_at]
    · simp (disch := omega) only [zV_ne, zV_at]
theorem qX3 : vX3_init V b b 0 = 0 := by
  unfold vX3_init
  simp (disch := omega) only [zV_ne, w_idx, w_same]
theorem qX1 : vX1_init V b b 1 = 12 ∧ vX1_init V b b 2 = 0 ∧ vX1_init V b b 3 = 1 ∧ vX1_init V b b 8 = 0 ∧ (vX1_init V b (b + 1) 0 = 0 ∧ vX1_init V b (b + 1) 1 = 0 ∧ vX1_init V b (b + 1) 2 = 0) ∧ (∀ x k, b + 2 ≤ x → x ≤ b + 5 → vX1_init V b x k = 0) ∧ (∀ k, k < 16 → vX1_init V b (b + 6) k = 9) ∧ (∀ k, vX1_init V b (b + 7) k = 0) ∧ (∀ k, vX1_init V b (b + 8) k = 0) ∧ vX1_init V b (b + 10) 0 = 0 := by
  unfold vX1_init
  refine ⟨?_, ?_, ?_, ?_, ⟨?_, ?_, ?_⟩, fun x k h1 h2 => ?_, fun k hk => ?_, fun k => ?_, fun k => ?_, ?_⟩
  · simp (disch := omega) only [fV_ne, fX3, zV_ne, w_idx, w_same]
  · simp (disch := omega) only [fV_ne, fX3, zV_ne, w_idx, w_same]
  · simp (disch := omega) only [fV_ne, fX3, zV_ne, w_idx, w_same]
  · simp (disch := omega) only [fV_ne, fX3, zV_ne, w_idx, w_same]
  · simp (disch := omega) only [fV_ne, fX3, zV_ne, w_row, qX2]
  · simp (disch := omega) only [fV_ne, fX3, zV_ne, w_row, qX2]
  · simp (disch := omega) only [fV_ne, fX3, zV_ne, w_row, qX2]
  · simp (disch := omega) only [fV_ne, fX3, zV_ne, w_row]
    exact qX2.2.2.2 x k (by omega) (by omega)
  · exact fV_at hk
  · simp (disch := omega) only [fV_ne, fX3, zV_ne, w_row, zV_at]
  · simp (disch := omega) only [fV_ne, fX3, zV_ne, w_row, zV_at]
  · simp (disch := omega) only [fV_ne, qX3]
theorem v8_f : vX8_init V z z 2 = 0 ∧ vX8_init V z z 7 = 0 ∧ (∀ x, z + 1 ≤ x → x ≤ z + 15 → ∀ W : V2, W = vX1_init (zV V (z + 1)) (z + 1) → vX8_init V z x = W x) ∧ vX8_init V z (z + 65) 1 = 0 ∧ (∀ k, vX8_init V z (z + 69) k = 0) ∧ (∀ k, k < 4 → vX8_init V z (z + 71) k = -1) ∧ vX8_init V z (z + 73) 1 = 0 := by
  unfold vX8_init
  refine ⟨?_, ?_, fun x h1 h2 W hW => ?_, ?_, fun k => ?_, fun k hk => ?_, ?_⟩
  · simp (disch := omega) only [fV_ne, fX0, zV_ne, w_idx, fX5, fX6, fX2, w_same]
  · simp (disch := omega) only [fV_ne, fX0, zV_ne, w_same]
  · rw [hW]
    simp (disch := omega) only [fV_ne, fX0, zV_ne, w_row, fX5, fX6, fX2, fX1]
  · simp (disch := omega) only [fV_ne, fX0, zV_ne, w_row]
    unfold vX5_init
    simp (disch := omega) only [zV_ne, w_idx, w_same]
  · simp (disch := omega) only [fV_ne, fX0, zV_ne, w_row, zV_at]
  · exact fV_at hk
  · rw [fV_ne (by omega)]
    unfold vX0_init
    simp (disch := omega) only [zV_ne, w_idx, w_same]
theorem r2_f {x : Nat} (h : x ≠ b) : rX2_init R b x = R x := by
  unfold rX2_init
  simp (disch := omega) only [w_row]
theorem r3_f {x : Nat} (h : x ≠ b) : rX3_init R b x = R x := by
  unfold rX3_init
  simp (disch := omega) only [w_row]
theorem r0_f {x : Nat} (h : x ≠ b) : rX0_init R b x = R x := by
  unfold rX0_init
  simp (disch := omega) only [w_row]
theorem r5_f {x : Nat} (h : x ≠ b) (h3 : x ≠ b + 3) : rX5_init R b x = R x := by
  unfold rX5_init
  simp (disch := omega) only [w_row, zR_ne]
theorem r6_f {x : Nat} (h : x < b ∨ b + 28 < x) : rX6_init R b x = R x := by
  unfold rX6_init
  simp (disch := omega) only [w_row, zR_ne, r2_f]
theorem r6_q : rX6_init R b (b + 1) 0 = some (b + 4) ∧ rX6_init R b (b + 1) 1 = some (b + 9) ∧ rX6_init R b (b + 1) 2 = some (b + 14) ∧ rX6_init R b (b + 1) 3 = some (b + 19) ∧ rX6_init R b (b + 1) 4 = some (b + 24) := by
  unfold rX6_init
  refine ⟨?_, ?_, ?_, ?_, ?_⟩
  · simp (disch := omega) only [w_idx, zR_ne, r2_f, w_same]
  · simp (disch := omega) only [w_idx, zR_ne, r2_f, w_same]
  · simp (disch := omega) only [w_idx, zR_ne, r2_f, w_same]
  · simp (disch := omega) only [w_idx, zR_ne, r2_f, w_same]
  · simp (disch := omega) only [w_idx, zR_ne, r2_f, w_same]
theorem r8_f : (∀ k, rX8_init R z (z + 70) k = none) ∧ (∀ k, rX8_init R z (z + 72) k = none) ∧ ∀ k, k < 5 → rX8_init R z (z + 37) k = some (z + 40 + 5 * k) := by
  unfold rX8_init
  refine ⟨fun k => ?_, fun k => ?_, fun k hk => ?_⟩
  · simp (disch := omega) only [w_row, r0_f, zR_ne, zR_at]
  · simp (disch := omega) only [w_row, r0_f, zR_ne, zR_at]
  · obtain ⟨a0, a1, a2, a3, a4⟩ := r6_q (b := z + 36) (R := zR (up2 (rX2_init (zR (up2 (rX1_init (zR (up2 (rX1_init (zR R (z + 1)) (z + 1)) z 0 (some (z + 1))) (z + 16)) (z + 16)) z 1 (some (z + 16))) (z + 31)) (z + 31)) z 3 (some (z + 31))) (z + 36))
    simp (disch := omega) only [w_row, r0_f, zR_ne, r5_f]
    rcases (show k = 0 ∨ k = 1 ∨ k = 2 ∨ k = 3 ∨ k = 4 by omega) with rfl | rfl | rfl | rfl | rfl
    · exact a0
    · exact a1
    · exact a2
    · exact a3
    · exact a4
theorem v9_f {x : Nat} (h : x < b + 1) : vX9_init V b x = V x := by
  unfold vX9_init
  simp (disch := omega) only [w_row, zV_ne]
theorem v9_z {i : Nat} (h : i ≠ 2 ∧ i ≠ 4 ∧ (i < 50 ∨ 65 < i)) : vX9_init V b (b + 1) i = 0 := by
  unfold vX9_init
  simp (disch := omega) only [w_idx, w_row, zV_ne, zV_at]
theorem v9_2 : vX9_init V b (b + 1) 2 = 12 ∧ vX9_init V b (b + 1) 4 = 1 := by
  unfold vX9_init
  constructor
  · simp (disch := omega) only [w_idx, w_same]
  · simp (disch := omega) only [w_idx, w_same]
theorem v9_9 {i : Nat} (h : i < 16) : vX9_init V b (b + 1) (50 + i) = 9 := by
  unfold vX9_init
  rcases (show i = 0 ∨ i = 1 ∨ i = 2 ∨ i = 3 ∨ i = 4 ∨ i = 5 ∨ i = 6 ∨ i = 7 ∨ i = 8 ∨ i = 9 ∨ i = 10 ∨ i = 11 ∨ i = 12 ∨ i = 13 ∨ i = 14 ∨ i = 15 by omega) with rfl | rfl | rfl | rfl | rfl | rfl | rfl | rfl | rfl | rfl | rfl | rfl | rfl | rfl | rfl | rfl <;> simp (disch := omega) only [w_idx, w_same, Nat.reduceAdd]
theorem v9_r : (∀ i, vX9_init V b (b + 10) i = 0) ∧ (∀ t, t < 4 → vX9_init V b (b + 11) t = -1) ∧ ∀ t, vX9_init V b (b + 14) t = 0 := by
  unfold vX9_init
  refine ⟨fun i => ?_, fun t ht => ?_, fun t => ?_⟩
  · simp (disch := omega) only [w_row, zV_ne, zV_at]
  · rcases (show t = 0 ∨ t = 1 ∨ t = 2 ∨ t = 3 by omega) with rfl | rfl | rfl | rfl <;> simp (disch := omega) only [w_row, zV_ne, w_idx, w_same]
  · simp (disch := omega) only [w_row, zV_ne, zV_at]
theorem r9_f {x : Nat} (h : x ≠ b) : rX9_init R b x = R x := by
  unfold rX9_init
  simp (disch := omega) only [w_row]
/-- all of both -/
def beV (V : V2) (z : Nat) : V2 := vX9_init (zV (vX8_init (zV V z) z) (z + 75)) (z + 75)
def beR (R : R2) (z : Nat) : R2 := rX9_init (zR (rX8_init (zR R z) z) (z + 75)) (z + 75)
theorem be_c {x : Nat} (h : x < z + 75) : beV V z x = vX8_init (zV V z) z x := by
  unfold beV
  rw [v9_f (by omega), zV_ne (by omega)]
theorem be_r {x : Nat} (h : x < z + 75) : beR R z x = rX8_init (zR R z) z x := by
  unfold beR
  rw [r9_f (by omega), zR_ne (by omega)]
theorem be_u (k : Nat) : beV V z (z + 75) k = 0 := by
  unfold beV
  rw [v9_f (by omega), zV_at]
theorem rel0 (z : Nat) : RelB z (z + 75) (beV V z) (beR R z) (mG (gC0 z) (z + 93)) (beV V z) := by
  obtain ⟨a1, a2, a3, a4, a5, a6, a7⟩ := v8_f (V := zV V z) (z := z)
  obtain ⟨q1, q2, q3, q4, ⟨q5, q6, q7⟩, q8, q9, q10, q11, q12⟩ := qX1 (V := zV (zV V z) (z + 1)) (b := z + 1)
  have hc : ∀ x, z + 1 ≤ x → x ≤ z + 15 → beV V z x = vX1_init (zV (zV V z) (z + 1)) (z + 1) x := fun x h1 h2 => (be_c (by omega)).trans (a3 x h1 h2 _ rfl)
  obtain ⟨r1, r2, r3⟩ := r8_f (R := zR R z) (z := z)
  have u2 : beV V z (z + 75 + 1) 2 = 12 := v9_2.1
  have u4 : beV V z (z + 75 + 1) 4 = 1 := v9_2.2
  have u0 : ∀ i, i ≠ 2 ∧ i ≠ 4 ∧ (i < 50 ∨ 65 < i) → beV V z (z + 75 + 1) i = 0 := fun i h => v9_z h
  refine ⟨⟨fun x hx => ?_, Nat.le_refl _⟩, ⟨(12, (fun _ => 9), (fun _ => 0), (fun _ => 0), 0, (fun _ => 0), (fun _ => 0), (fun _ => 0), (fun _ _ => (0, 0, 0))), (0, 0, 0, fun _ _ => 0), 0, fun _ _ => 0, ⟨by decide, by decide, fun _ _ => show (9 : Nat) ≤ 15 by decide, fun _ _ => ⟨Nat.zero_le _, Nat.zero_le _⟩, Nat.zero_le _, fun i hi => absurd hi (Nat.not_lt_zero i)⟩, ⟨by decide, by decide, by decide, fun k hk _ => b_0 k hk, fun k hk => ⟨Nat.zero_le _, fun h => absurd h (Nat.not_lt_zero k), Nat.zero_le _, Nat.zero_le _, Nat.zero_le _⟩⟩, Nat.zero_le _, ⟨?_, ?_, fun i hi => ?_, fun i hi => ⟨?_, ?_⟩, fun i hi => absurd hi (Nat.not_lt_zero i)⟩, ⟨?_, ?_, ?_, fun k hk => ⟨?_, ?_, ?_, ?_⟩⟩, ⟨u2, u0 5 (by omega), fun i hi => v9_9 hi, fun i hi => ⟨u0 _ (by omega), u0 _ (by omega)⟩, fun i hi => absurd hi (Nat.not_lt_zero i)⟩, ⟨u0 1 (by omega), u0 0 (by omega), fun k hk => ⟨u0 _ (by omega), u0 _ (by omega), u0 _ (by omega), u0 _ (by omega), ?_⟩⟩, ?_, ?_, ⟨?_, fun i hi => absurd hi (Nat.not_lt_zero i)⟩, ⟨u0 6 (by omega), fun i hi => absurd hi (Nat.not_lt_zero i)⟩, Nat.zero_le _, fun i hi => absurd hi (Nat.not_lt_zero i)⟩, ⟨?_, Or.inl (be_u 2)⟩, ⟨0, fun _ => 0, Nat.zero_le _, ?_, be_u 5, fun i hi => absurd hi (Nat.not_lt_zero i)⟩, ⟨0, Nat.zero_le _, ?_, be_u 27, fun i hi => ?_⟩, ⟨fun t ht => Or.inl ⟨?_, v9_r.2.1 t ht⟩, fun t t' y ht ht' e e' => ?_⟩, fun h hh => Or.inl ⟨?_, ?_, v9_r.2.2 h⟩, ⟨0, Nat.zero_le _, ?_, be_u 35, fun i hi => absurd hi (Nat.not_lt_zero i)⟩, fun k hk => ⟨?_, ?_⟩⟩
  · have hx : x ∈ (gC0 z).1 := hx
    rw [gC_x] at hx
    obtain ⟨j, hj, rfl⟩ := xt_mem.mp hx
    have : kT8.length = 75 := rfl
    show z + j < z + 93
    omega
  · rw [hc _ (by omega) (by omega)]; exact q1
  · rw [hc _ (by omega) (by omega)]; exact q4
  · rw [hc _ (by omega) (by omega)]; exact q9 i hi
  · rw [hc _ (by omega) (by omega)]; exact q10 i
  · rw [hc _ (by omega) (by omega)]; exact q11 i
  · rw [hc _ (by omega) (by omega)]; exact q5
  · rw [hc _ (by omega) (by omega)]; exact q6
  · rw [hc _ (by omega) (by omega)]; exact q7
  · rw [hc _ (by omega) (by omega)]; exact q8 _ _ (by omega) (by omega)
  · rw [hc _ (by omega) (by omega)]; exact q8 _ _ (by omega) (by omega)
  · rw [hc _ (by omega) (by omega)]; exact q8 _ _ (by omega) (by omega)
  · rw [hc _ (by omega) (by omega)]; exact q8 _ _ (by omega) (by omega)
  · rw [b_0 k hk]; exact u0 _ (by omega)
  · rw [hc _ (by omega) (by omega), q2]; exact (u0 3 (by omega)).symm
  · rw [hc _ (by omega) (by omega), q3]; exact u4.symm
  · rw [hc _ (by omega) (by omega)]; exact q12
  · rw [be_c (by omega), a1]; exact (be_u 2).symm
  · rw [be_c (by omega)]; exact a4
  · rw [be_c (by omega)]; exact a2
  · rw [be_c (by omega), a5]; exact (v9_r.1 i).symm
  · rw [be_r (by omega)]; exact r1 t
  · rw [be_r (by omega), r1 t] at e; cases e
  · rw [be_c (by omega)]; exact a6 h hh
  · rw [be_r (by omega)]; exact r2 h
  · rw [be_c (by omega)]; exact a7
  · rw [be_r (by omega)]; exact r3 k hk
  · refine ownB_of ?_
    rw [gC_x]
    refine ⟨(xt_mem (K := kT8) (M := lT8)).mpr ⟨40 + 5 * k, ?_, by omega⟩, ?_⟩
    · have : kT8.length = 75 := rfl
      omega
    · show (xtG z kT8 lT8).2.1 (z + 40 + 5 * k) = 12
      rw [Nat.add_assoc, (xt_at (K := kT8) (M := lT8)).1]
      rcases (show k = 0 ∨ k = 1 ∨ k = 2 ∨ k = 3 ∨ k = 4 by omega) with rfl | rfl | rfl | rfl | rfl <;> rfl
end BG
