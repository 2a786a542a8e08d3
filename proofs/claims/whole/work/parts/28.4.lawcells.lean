/-! the cells that the constructors leave -/
def gC0 (z : Nat) : G2 := gX8_init (nwG ([], (fun _ => 0), (fun _ => 0), z) 38 0) z
def kT8 : List Nat := [18, 11, 12, 1, 1, 1, 1, 1, 1, 1, 2, 13, 1, 1, 1, 1, 11, 12, 1, 1, 1, 1, 1, 1, 1, 2, 13, 1, 1, 1, 1, 12, 1, 1, 1, 1, 16, 4, 1, 1, 12, 1, 1, 1, 1, 12, 1, 1, 1, 1, 12, 1, 1, 1, 1, 12, 1, 1, 1, 1, 12, 1, 1, 1, 1, 15, 1, 1, 2, 1, 3, 1, 3, 10, 1]
def lT8 : List Nat := [0, 0, 0, 6, 6, 6, 6, 16, 6, 6, 8, 0, 6, 6, 6, 6, 0, 0, 6, 6, 6, 6, 16, 6, 6, 8, 0, 6, 6, 6, 6, 0, 6, 6, 6, 6, 0, 5, 4, 4, 0, 6, 6, 6, 6, 0, 6, 6, 6, 6, 0, 6, 6, 6, 6, 0, 6, 6, 6, 6, 0, 6, 6, 6, 6, 0, 200, 300, 8, 12, 4, 4, 4, 0, 30]
theorem gl8 (z : Nat) : (gC0 z).1 = (List.range 75).map (fun j => z + j) := rfl
theorem gn8 (z : Nat) : (gC0 z).2.2.2 = z + 75 := rfl
set_option maxHeartbeats 4000000 in
theorem gk8 (z j : Nat) (hj : j < 75) : (gC0 z).2.1 (z + j) = kT8.getD j 0 ∧ (gC0 z).2.2.1 (z + j) = lT8.getD j 0 := by
  unfold gC0
  match j, hj with
  | 0, _ => simp [kT8, lT8, gX8_init, gX0_init, gX1_init, gX2_init, gX3_init, gX5_init, gX6_init, gX9_init, nwG, finG, va_up, Nat.add_assoc]
  | 1, _ => simp [kT8, lT8, gX8_init, gX0_init, gX1_init, gX2_init, gX3_init, gX5_init, gX6_init, gX9_init, nwG, finG, va_up, Nat.add_assoc]
  | 2, _ => simp [kT8, lT8, gX8_init, gX0_init, gX1_init, gX2_init, gX3_init, gX5_init, gX6_init, gX9_init, nwG, finG, va_up, Nat.add_assoc]
  | 3, _ => simp [kT8, lT8, gX8_init, gX0_init, gX1_init, gX2_init, gX3_init, gX5_init, gX6_init, gX9_init, nwG, finG, va_up, Nat.add_assoc]
  | 4, _ => simp [kT8, lT8, gX8_init, gX0_init, gX1_init, gX2_init, gX3_init, gX5_init, gX6_init, gX9_init, nwG, finG, va_up, Nat.add_assoc]
  | 5, _ => simp [kT8, lT8, gX8_init, gX0_init, gX1_init, gX2_init, gX3_init, gX5_init, gX6_init, gX9_init, nwG, finG, va_up, Nat.add_assoc]
  | 6, _ => simp [kT8, lT8, gX8_init, gX0_init, gX1_init, gX2_init, gX3_init, gX5_init, gX6_init, gX9_init, nwG, finG, va_up, Nat.add_assoc]
  | 7, _ => simp [kT8, lT8, gX8_init, gX0_init, gX1_init, gX2_init, gX3_init, gX5_init, gX6_init, gX9_init, nwG, finG, va_up, Nat.add_assoc]
  | 8, _ => simp [kT8, lT8, gX8_init, gX0_init, gX1_init, gX2_init, gX3_init, gX5_init, gX6_init, gX9_init, nwG, finG, va_up, Nat.add_assoc]
  | 9, _ => simp [kT8, lT8, gX8_init, gX0_init, gX1_init, gX2_init, gX3_init, gX5_init, gX6_init, gX9_init, nwG, finG, va_up, Nat.add_assoc]
  | 10, _ => simp [kT8, lT8, gX8_init, gX0_init, gX1_init, gX2_init, gX3_init, gX5_init, gX6_init, gX9_init, nwG, finG, va_up, Nat.add_assoc]
  | 11, _ => simp [kT8, lT8, gX8_init, gX0_init, gX1_init, gX2_init, gX3_init, gX5_init, gX6_init, gX9_init, nwG, finG, va_up, Nat.add_assoc]
  | 12, _ => simp [kT8, lT8, gX8_init, gX0_init, gX1_init, gX2_init, gX3_init, gX5_init, gX6_init, gX9_init, nwG, finG, va_up, Nat.add_assoc]
  | 13, _ => simp [kT8, lT8, gX8_init, gX0_init, gX1_init, gX2_init, gX3_init, gX5_init, gX6_init, gX9_init, nwG, finG, va_up, Nat.add_assoc]
  | 14, _ => simp [kT8, lT8, gX8_init, gX0_init, gX1_init, gX2_init, gX3_init, gX5_init, gX6_init, gX9_init, nwG, finG, va_up, Nat.add_assoc]
  | 15, _ => simp [kT8, lT8, gX8_init, gX0_init, gX1_init, gX2_init, gX3_init, gX5_init, gX6_init, gX9_init, nwG, finG, va_up, Nat.add_assoc]
  | 16, _ => simp [kT8, lT8, gX8_init, gX0_init, gX1_init, gX2_init, gX3_init, gX5_init, gX6_init, gX9_init, nwG, finG, va_up, Nat.add_assoc]
  | 17, _ => simp [kT8, lT8, gX8_init, gX0_init, gX1_init, gX2_init, gX3_init, gX5_init, gX6_init, gX9_init, nwG, finG, va_up, Nat.add_assoc]
  | 18, _ => simp [kT8, lT8, gX8_init, gX0_init, gX1_init, gX2_init, gX3_init, gX5_init, gX6_init, gX9_init, nwG, finG, va_up, Nat.add_assoc]
  | 19, _ => simp [kT8, lT8, gX8_init, gX0_init, gX1_init, gX2_init, gX3_init, gX5_init, gX6_init, gX9_init, nwG, finG, va_up, Nat.add_assoc]
  | 20, _ => simp [kT8, lT8, gX8_init, gX0_init, gX1_init, gX2_init, gX3_init, gX5_init, gX6_init, gX9_init, nwG, finG, va_up, Nat.add_assoc]
  | 21, _ => simp [kT8, lT8, gX8_init, gX0_init, gX1_init, gX2_init, gX3_init, gX5_init, gX6_init, gX9_init, nwG, finG, va_up, Nat.add_assoc]
  | 22, _ => simp [kT8, lT8, gX8_init, gX0_init, gX1_init, gX2_init, gX3_init, gX5_init, gX6_init, gX9_init, nwG, finG, va_up, Nat.add_assoc]
  | 23, _ => simp [kT8, lT8, gX8_init, gX0_init, gX1_init, gX2_init, gX3_init, gX5_init, gX6_init, gX9_init, nwG, finG, va_up, Nat.add_assoc]
  | 24, _ => simp [kT8, lT8, gX8_init, gX0_init, gX1_init, gX2_init, gX3_init, gX5_init, gX6_init, gX9_init, nwG, finG, va_up, Nat.add_assoc]
  | 25, _ => simp [kT8, lT8, gX8_init, gX0_init, gX1_init, gX2_init, gX3_init, gX5_init, gX6_init, gX9_init, nwG, finG, va_up, Nat.add_assoc]
  | 26, _ => simp [kT8, lT8, gX8_init, gX0_init, gX1_init, gX2_init, gX3_init, gX5_init, gX6_init, gX9_init, nwG, finG, va_up, Nat.add_assoc]
  | 27, _ => simp [kT8, lT8, gX8_init, gX0_init, gX1_init, gX2_init, gX3_init, gX5_init, gX6_init, gX9_init, nwG, finG, va_up, Nat.add_assoc]
  | 28, _ => simp [kT8, lT8, gX8_init, gX0_init, gX1_init, gX2_init, gX3_init, gX5_init, gX6_init, gX9_init, nwG, finG, va_up, Nat.add_assoc]
  | 29, _ => simp [kT8, lT8, gX8_init, gX0_init, gX1_init, gX2_init, gX3_init, gX5_init, gX6_init, gX9_init, nwG, finG, va_up, Nat.add_assoc]
  | 30, _ => simp [kT8, lT8, gX8_init, gX0_init, gX1_init, gX2_init, gX3_init, gX5_init, gX6_init, gX9_init, nwG, finG, va_up, Nat.add_assoc]
  | 31, _ => simp [kT8, lT8, gX8_init, gX0_init, gX1_init, gX2_init, gX3_init, gX5_init, gX6_init, gX9_init, nwG, finG, va_up, Nat.add_assoc]
  | 32, _ => simp [kT8, lT8, gX8_init, gX0_init, gX1_init, gX2_init, gX3_init, gX5_init, gX6_init, gX9_init, nwG, finG, va_up, Nat.add_assoc]
  | 33, _ => simp [kT8, lT8, gX8_init, gX0_init, gX1_init, gX2_init, gX3_init, gX5_init, gX6_init, gX9_init, nwG, finG, va_up, Nat.add_assoc]
  | 34, _ => simp [kT8, lT8, gX8_init, gX0_init, gX1_init, gX2_init, gX3_init, gX5_init, gX6_init, gX9_init, nwG, finG, va_up, Nat.add_assoc]
  | 35, _ => simp [kT8, lT8, gX8_init, gX0_init, gX1_init, gX2_init, gX3_init, gX5_init, gX6_init, gX9_init, nwG, finG, va_up, Nat.add_assoc]
  | 36, _ => simp [kT8, lT8, gX8_init, gX0_init, gX1_init, gX2_init, gX3_init, gX5_init, gX6_init, gX9_init, nwG, finG, va_up, Nat.add_assoc]
  | 37, _ => simp [kT8, lT8, gX8_init, gX0_init, gX1_init, gX2_init, gX3_init, gX5_init, gX6_init, gX9_init, nwG, finG, va_up, Nat.add_assoc]
  | 38, _ => simp [kT8, lT8, gX8_init, gX0_init, gX1_init, gX2_init, gX3_init, gX5_init, gX6_init, gX9_init, nwG, finG, va_up, Nat.add_assoc]
  | 39, _ => simp [kT8, lT8, gX8_init, gX0_init, gX1_init, gX2_init, gX3_init, gX5_init, gX6_init, gX9_init, nwG, finG, va_up, Nat.add_assoc]
  | 40, _ => simp [kT8, lT8, gX8_init, gX0_init, gX1_init, gX2_init, gX3_init, gX5_init, gX6_init, gX9_init, nwG, finG, va_up, Nat.add_assoc]
  | 41, _ => simp [kT8, lT8, gX8_init, gX0_init, gX1_init, gX2_init, gX3_init, gX5_init, gX6_init, gX9_init, nwG, finG, va_up, Nat.add_assoc]
  | 42, _ => simp [kT8, lT8, gX8_init, gX0_init, gX1_init, gX2_init, gX3_init, gX5_init, gX6_init, gX9_init, nwG, finG, va_up, Nat.add_assoc]
  | 43, _ => simp [kT8, lT8, gX8_init, gX0_init, gX1_init, gX2_init, gX3_init, gX5_init, gX6_init, gX9_init, nwG, finG, va_up, Nat.add_assoc]
  | 44, _ => simp [kT8, lT8, gX8_init, gX0_init, gX1_init, gX2_init, gX3_init, gX5_init, gX6_init, gX9_init, nwG, finG, va_up, Nat.add_assoc]
  | 45, _ => simp [kT8, lT8, gX8_init, gX0_init, gX1_init, gX2_init, gX3_init, gX5_init, gX6_init, gX9_init, nwG, finG, va_up, Nat.add_assoc]
  | 46, _ => simp [kT8, lT8, gX8_init, gX0_init, gX1_init, gX2_init, gX3_init, gX5_init, gX6_init, gX9_init, nwG, finG, va_up, Nat.add_assoc]
  | 47, _ => simp [kT8, lT8, gX8_init, gX0_init, gX1_init, gX2_init, gX3_init, gX5_init, gX6_init, gX9_init, nwG, finG, va_up, Nat.add_assoc]
  | 48, _ => simp [kT8, lT8, gX8_init, gX0_init, gX1_init, gX2_init, gX3_init, gX5_init, gX6_init, gX9_init, nwG, finG, va_up, Nat.add_assoc]
  | 49, _ => simp [kT8, lT8, gX8_init, gX0_init, gX1_init, gX2_init, gX3_init, gX5_init, gX6_init, gX9_init, nwG, finG, va_up, Nat.add_assoc]
  | 50, _ => simp [kT8, lT8, gX8_init, gX0_init, gX1_init, gX2_init, gX3_init, gX5_init, gX6_init, gX9_init, nwG, finG, va_up, Nat.add_assoc]
  | 51, _ => simp [kT8, lT8, gX8_init, gX0_init, gX1_init, gX2_init, gX3_init, gX5_init, gX6_init, gX9_init, nwG, finG, va_up, Nat.add_assoc]
  | 52, _ => simp [kT8, lT8, gX8_init, gX0_init, gX1_init, gX2_init, gX3_init, gX5_init, gX6_init, gX9_init, nwG, finG, va_up, Nat.add_assoc]
  | 53, _ => simp [kT8, lT8, gX8_init, gX0_init, gX1_init, gX2_init, gX3_init, gX5_init, gX6_init, gX9_init, nwG, finG, va_up, Nat.add_assoc]
  | 54, _ => simp [kT8, lT8, gX8_init, gX0_init, gX1_init, gX2_init, gX3_init, gX5_init, gX6_init, gX9_init, nwG, finG, va_up, Nat.add_assoc]
  | 55, _ => simp [kT8, lT8, gX8_init, gX0_init, gX1_init, gX2_init, gX3_init, gX5_init, gX6_init, gX9_init, nwG, finG, va_up, Nat.add_assoc]
  | 56, _ => simp [kT8, lT8, gX8_init, gX0_init, gX1_init, gX2_init, gX3_init, gX5_init, gX6_init, gX9_init, nwG, finG, va_up, Nat.add_assoc]
  | 57, _ => simp [kT8, lT8, gX8_init, gX0_init, gX1_init, gX2_init, gX3_init, gX5_init, gX6_init, gX9_init, nwG, finG, va_up, Nat.add_assoc]
  | 58, _ => simp [kT8, lT8, gX8_init, gX0_init, gX1_init, gX2_init, gX3_init, gX5_init, gX6_init, gX9_init, nwG, finG, va_up, Nat.add_assoc]
  | 59, _ => simp [kT8, lT8, gX8_init, gX0_init, gX1_init, gX2_init, gX3_init, gX5_init, gX6_init, gX9_init, nwG, finG, va_up, Nat.add_assoc]
  | 60, _ => simp [kT8, lT8, gX8_init, gX0_init, gX1_init, gX2_init, gX3_init, gX5_init, gX6_init, gX9_init, nwG, finG, va_up, Nat.add_assoc]
  | 61, _ => simp [kT8, lT8, gX8_init, gX0_init, gX1_init, gX2_init, gX3_init, gX5_init, gX6_init, gX9_init, nwG, finG, va_up, Nat.add_assoc]
  | 62, _ => simp [kT8, lT8, gX8_init, gX0_init, gX1_init, gX2_init, gX3_init, gX5_init, gX6_init, gX9_init, nwG, finG, va_up, Nat.add_assoc]
  | 63, _ => simp [kT8, lT8, gX8_init, gX0_init, gX1_init, gX2_init, gX3_init, gX5_init, gX6_init, gX9_init, nwG, finG, va_up, Nat.add_assoc]
  | 64, _ => simp [kT8, lT8, gX8_init, gX0_init, gX1_init, gX2_init, gX3_init, gX5_init, gX6_init, gX9_init, nwG, finG, va_up, Nat.add_assoc]
  | 65, _ => simp [kT8, lT8, gX8_init, gX0_init, gX1_init, gX2_init, gX3_init, gX5_init, gX6_init, gX9_init, nwG, finG, va_up, Nat.add_assoc]
  | 66, _ => simp [kT8, lT8, gX8_init, gX0_init, gX1_init, gX2_init, gX3_init, gX5_init, gX6_init, gX9_init, nwG, finG, va_up, Nat.add_assoc]
  | 67, _ => simp [kT8, lT8, gX8_init, gX0_init, gX1_init, gX2_init, gX3_init, gX5_init, gX6_init, gX9_init, nwG, finG, va_up, Nat.add_assoc]
  | 68, _ => simp [kT8, lT8, gX8_init, gX0_init, gX1_init, gX2_init, gX3_init, gX5_init, gX6_init, gX9_init, nwG, finG, va_up, Nat.add_assoc]
  | 69, _ => simp [kT8, lT8, gX8_init, gX0_init, gX1_init, gX2_init, gX3_init, gX5_init, gX6_init, gX9_init, nwG, finG, va_up, Nat.add_assoc]
  | 70, _ => simp [kT8, lT8, gX8_init, gX0_init, gX1_init, gX2_init, gX3_init, gX5_init, gX6_init, gX9_init, nwG, finG, va_up, Nat.add_assoc]
  | 71, _ => simp [kT8, lT8, gX8_init, gX0_init, gX1_init, gX2_init, gX3_init, gX5_init, gX6_init, gX9_init, nwG, finG, va_up, Nat.add_assoc]
  | 72, _ => simp [kT8, lT8, gX8_init, gX0_init, gX1_init, gX2_init, gX3_init, gX5_init, gX6_init, gX9_init, nwG, finG, va_up, Nat.add_assoc]
  | 73, _ => simp [kT8, lT8, gX8_init, gX0_init, gX1_init, gX2_init, gX3_init, gX5_init, gX6_init, gX9_init, nwG, finG, va_up, Nat.add_assoc]
  | 74, _ => simp [kT8, lT8, gX8_init, gX0_init, gX1_init, gX2_init, gX3_init, gX5_init, gX6_init, gX9_init, nwG, finG, va_up, Nat.add_assoc]
  | j + 75, h => omega
theorem gq8 : ∀ j, j < 75 → ∀ ci, ci < 10 → kT8.getD j 0 = ci + 10 → ∀ k, k < nfs ci → ¬ offT ci k = 0 → j + offT ci k < 75 ∧ kT8.getD (j + offT ci k) 0 = kTt ci k ∧ (¬ lTt ci k = 0 → lT8.getD (j + offT ci k) 0 = lTt ci k) := by decide +kernel
theorem gx8 (z : Nat) : GX (gC0 z) := by
  intro x ci hx hci k hk ho
  have hm := hx.1
  rw [gl8] at hm
  obtain ⟨j, hj, rfl⟩ := List.mem_map.mp hm
  have hj := List.mem_range.mp hj
  have hk0 := hx.2
  rw [(gk8 z j hj).1] at hk0
  obtain ⟨h1, h2, h3⟩ := gq8 j hj ci hci hk0 k hk ho
  rw [Nat.add_assoc]
  exact ⟨⟨by rw [gl8]; exact List.mem_map.mpr ⟨_, List.mem_range.mpr h1, rfl⟩, by rw [(gk8 z _ h1).1]; exact h2⟩, fun q => by rw [(gk8 z _ h1).2]; exact h3 q⟩
def kT9 : List Nat := [19, 1, 1, 1, 1, 1, 1, 1, 1, 1, 1, 1, 1, 1, 1, 1, 1, 1]
def lT9 : List Nat := [0, 572, 572, 190, 200, 572, 4, 4, 16, 16, 12, 4, 4, 160, 4, 4, 4, 30]
theorem gl9 (z : Nat) : (mG0 z).1 = (List.range 18).map (fun j => z + 75 + j) := rfl
theorem gn9 (z : Nat) : (mG0 z).2.2.2 = z + 75 + 18 := rfl
set_option maxHeartbeats 4000000 in
theorem gk9 (z j : Nat) (hj : j < 18) : (mG0 z).2.1 (z + 75 + j) = kT9.getD j 0 ∧ (mG0 z).2.2.1 (z + 75 + j) = lT9.getD j 0 := by
  unfold mG0
  match j, hj with
  | 0, _ => simp [kT9, lT9, gX8_init, gX0_init, gX1_init, gX2_init, gX3_init, gX5_init, gX6_init, gX9_init, nwG, finG, va_up, Nat.add_assoc]
  | 1, _ => simp [kT9, lT9, gX8_init, gX0_init, gX1_init, gX2_init, gX3_init, gX5_init, gX6_init, gX9_init, nwG, finG, va_up, Nat.add_assoc]
  | 2, _ => simp [kT9, lT9, gX8_init, gX0_init, gX1_init, gX2_init, gX3_init, gX5_init, gX6_init, gX9_init, nwG, finG, va_up, Nat.add_assoc]
  | 3, _ => simp [kT9, lT9, gX8_init, gX0_init, gX1_init, gX2_init, gX3_init, gX5_init, gX6_init, gX9_init, nwG, finG, va_up, Nat.add_assoc]
  | 4, _ => simp [kT9, lT9, gX8_init, gX0_init, gX1_init, gX2_init, gX3_init, gX5_init, gX6_init, gX9_init, nwG, finG, va_up, Nat.add_assoc]
  | 5, _ => simp [kT9, lT9, gX8_init, gX0_init, gX1_init, gX2_init, gX3_init, gX5_init, gX6_init, gX9_init, nwG, finG, va_up, Nat.add_assoc]
  | 6, _ => simp [kT9, lT9, gX8_init, gX0_init, gX1_init, gX2_init, gX3_init, gX5_init, gX6_init, gX9_init, nwG, finG, va_up, Nat.add_assoc]
  | 7, _ => simp [kT9, lT9, gX8_init, gX0_init, gX1_init, gX2_init, gX3_init, gX5_init, gX6_init, gX9_init, nwG, finG, va_up, Nat.add_assoc]
  | 8, _ => simp [kT9, lT9, gX8_init, gX0_init, gX1_init, gX2_init, gX3_init, gX5_init, gX6_init, gX9_init, nwG, finG, va_up, Nat.add_assoc]
  | 9, _ => simp [kT9, lT9, gX8_init, gX0_init, gX1_init, gX2_init, gX3_init, gX5_init, gX6_init, gX9_init, nwG, finG, va_up, Nat.add_assoc]
  | 10, _ => simp [kT9, lT9, gX8_init, gX0_init, gX1_init, gX2_init, gX3_init, gX5_init, gX6_init, gX9_init, nwG, finG, va_up, Nat.add_assoc]
  | 11, _ => simp [kT9, lT9, gX8_init, gX0_init, gX1_init, gX2_init, gX3_init, gX5_init, gX6_init, gX9_init, nwG, finG, va_up, Nat.add_assoc]
  | 12, _ => simp [kT9, lT9, gX8_init, gX0_init, gX1_init, gX2_init, gX3_init, gX5_init, gX6_init, gX9_init, nwG, finG, va_up, Nat.add_assoc]
  | 13, _ => simp [kT9, lT9, gX8_init, gX0_init, gX1_init, gX2_init, gX3_init, gX5_init, gX6_init, gX9_init, nwG, finG, va_up, Nat.add_assoc]
  | 14, _ => simp [kT9, lT9, gX8_init, gX0_init, gX1_init, gX2_init, gX3_init, gX5_init, gX6_init, gX9_init, nwG, finG, va_up, Nat.add_assoc]
  | 15, _ => simp [kT9, lT9, gX8_init, gX0_init, gX1_init, gX2_init, gX3_init, gX5_init, gX6_init, gX9_init, nwG, finG, va_up, Nat.add_assoc]
  | 16, _ => simp [kT9, lT9, gX8_init, gX0_init, gX1_init, gX2_init, gX3_init, gX5_init, gX6_init, gX9_init, nwG, finG, va_up, Nat.add_assoc]
  | 17, _ => simp [kT9, lT9, gX8_init, gX0_init, gX1_init, gX2_init, gX3_init, gX5_init, gX6_init, gX9_init, nwG, finG, va_up, Nat.add_assoc]
  | j + 18, h => omega
theorem gq9 : ∀ j, j < 18 → ∀ ci, ci < 10 → kT9.getD j 0 = ci + 10 → ∀ k, k < nfs ci → ¬ offT ci k = 0 → j + offT ci k < 18 ∧ kT9.getD (j + offT ci k) 0 = kTt ci k ∧ (¬ lTt ci k = 0 → lT9.getD (j + offT ci k) 0 = lTt ci k) := by decide +kernel
theorem gx9 (z : Nat) : GX (mG0 z) := by
  intro x ci hx hci k hk ho
  have hm := hx.1
  rw [gl9] at hm
  obtain ⟨j, hj, rfl⟩ := List.mem_map.mp hm
  have hj := List.mem_range.mp hj
  have hk0 := hx.2
  rw [(gk9 z j hj).1] at hk0
  obtain ⟨h1, h2, h3⟩ := gq9 j hj ci hci hk0 k hk ho
  rw [Nat.add_assoc]
  exact ⟨⟨by rw [gl9]; exact List.mem_map.mpr ⟨_, List.mem_range.mpr h1, rfl⟩, by rw [(gk9 z _ h1).1]; exact h2⟩, fun q => by rw [(gk9 z _ h1).2]; exact h3 q⟩
theorem own8 (z : Nat) : own (gC0 z) z 18 := ⟨by rw [gl8]; exact List.mem_map.mpr ⟨0, List.mem_range.mpr (by decide), rfl⟩, (gk8 z 0 (by decide)).1⟩
theorem own9 (z : Nat) : own (mG0 z) (z + 75) 19 := ⟨by rw [gl9]; exact List.mem_map.mpr ⟨0, List.mem_range.mpr (by decide), rfl⟩, (gk9 z 0 (by decide)).1⟩
theorem li0 (z : Nat) : LI z (mG0 z) (mG (gC0 z) (z + 93)) := ⟨gx8 z, own8 z, fun x h1 h2 => by
  rw [gl9] at h1
  have h2 : x ∈ (gC0 z).1 := h2
  rw [gl8] at h2
  obtain ⟨j, hj, rfl⟩ := List.mem_map.mp h1
  obtain ⟨i, hi, e⟩ := List.mem_map.mp h2
  have := List.mem_range.mp hi
  omega⟩
/-- a world by what it holds -/
theorem wd_congr {D : Dx} {A : List Nat} {kd ln kd' ln' : Nat → Nat} {n : Nat} {V V' : V2} {R R' : R2} {H : Heap} (h : Wd D (A, kd, ln, n) V R H) (hc : ∀ x, x ∈ A → kd' x = kd x ∧ ln' x = ln x ∧ V' x = V x ∧ R' x = R x) : Wd D (A, kd', ln', n) V' R' H := by
  obtain ⟨hP, hD, h3, h4⟩ := h
  have e : wsW D (A, kd', ln', n) V' R' = wsW D (A, kd, ln, n) V R := by
    show List.map _ A = List.map _ A
    refine List.map_congr_left fun x hx => ?_
    obtain ⟨e1, e2, e3, e4⟩ := hc x hx
    show (x, cellE D (A, kd', ln', n) V' R' x) = (x, cellE D (A, kd, ln, n) V R x)
    rw [cellE_congrG (G := (A, kd, ln, n)) (G' := (A, kd', ln', n)) e1 e2 e3 e4]
  exact ⟨by rw [e]; exact hP, by rw [e]; exact hD, h3, h4⟩
