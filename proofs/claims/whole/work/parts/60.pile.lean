/-! piles: what is close, and close to that -/
theorem b_63 : ∀ f, f < 64 → 63 ^^^ f < 64 := by decide +kernel
theorem b_63b : ∀ f, f < 64 → ∀ k, k < 6 → bt (63 ^^^ f) k = 1 - bt f k := by decide +kernel
theorem b_pcs : ∀ f, f < 64 → ∀ g, g < 64 → (∀ k, k < 6 → bt f k ≤ bt g k) → f = g ∨ pcA f < pcA g := fun f hf g hg h => by
  have h0 := h 0 (by omega)
  have h1 := h 1 (by omega)
  have h2 := h 2 (by omega)
  have h3 := h 3 (by omega)
  have h4 := h 4 (by omega)
  have h5 := h 5 (by omega)
  by_cases q : f = g
  · exact Or.inl q
  · right
    unfold pcA
    by_cases q2 : bt f 0 = bt g 0 ∧ bt f 1 = bt g 1 ∧ bt f 2 = bt g 2 ∧ bt f 3 = bt g 3 ∧ bt f 4 = bt g 4 ∧ bt f 5 = bt g 5
    · obtain ⟨a0, a1, a2, a3, a4, a5⟩ := q2
      refine absurd (b_ext f hf g hg fun k hk => ?_) q
      rcases (show k = 0 ∨ k = 1 ∨ k = 2 ∨ k = 3 ∨ k = 4 ∨ k = 5 by omega) with rfl | rfl | rfl | rfl | rfl | rfl
      · exact a0
      · exact a1
      · exact a2
      · exact a3
      · exact a4
      · exact a5
    · omega
def nearL (L : Ld) (x y : Nat) : Prop := bt (L_f L) x = 0 ∧ bt (L_f L) y = 0 ∧ (L_t L x 3 = L_t L y 3 ∨ L_t L x 2 = L_t L y 2)
theorem nearL_s {L : Ld} {x y : Nat} (h : nearL L x y) : nearL L y x := ⟨h.2.1, h.1, h.2.2.elim (fun q => Or.inl q.symm) fun q => Or.inr q.symm⟩
def clo (L : Ld) (h : Nat) : Prop := ∀ x y, x < L_c L → y < L_c L → bt h x = 1 → nearL L x y → bt h y = 1
def sub (f g : Nat) : Prop := ∀ k, k < 6 → bt f k = 1 → bt g k = 1
def inP (L : Ld) (f : Nat) : Prop := f < 64 ∧ ∀ k, k < 6 → bt f k = 1 → k < L_c L ∧ bt (L_f L) k = 0
/-- what a pass makes -/
def PS (L : Ld) (f g : Nat) : Prop := inP L g ∧ sub f g ∧ (∀ h, clo L h → sub f h → sub g h) ∧ (g = f → clo L f)
def Pile (L : Ld) (a f : Nat) : Prop := inP L f ∧ bt f a = 1 ∧ clo L f ∧ ∀ h, clo L h → bt h a = 1 → sub f h
theorem sub_eq {f g : Nat} (hf : f < 64) (hg : g < 64) (h1 : sub f g) (h2 : sub g f) : f = g := b_ext f hf g hg fun k hk => by
  have a := h1 k hk
  have c := h2 k hk
  have := bt_01 f k
  have := bt_01 g k
  omega
theorem Pile.eq {L : Ld} {a f g : Nat} (h : Pile L a f) (h2 : Pile L a g) : f = g := sub_eq h.1.1 h2.1.1 (h.2.2.2 g h2.2.2.1 h2.2.1) (h2.2.2.2 f h.2.2.1 h.2.1)
theorem clo_c {L : Ld} {f : Nat} (iL : IL L) (hf : f < 64) (h : clo L f) : clo L (63 ^^^ f) := fun x y hx hy h1 h2 => by
  have hc := iL.2.1
  rw [b_63b f hf _ (by omega)] at h1 ⊢
  have h01 := bt_01 f y
  rcases h01 with q | q
  · omega
  · have := h y x hy hx q (nearL_s h2)
    omega
/-- two piles that share a thing are one -/
theorem Pile.mem {L : Ld} {x y f g k : Nat} (iL : IL L) (hf : Pile L x f) (hg : Pile L y g) (hy : y < L_c L) (hk : k < 6) (k1 : bt f k = 1) (k2 : bt g k = 1) : bt f y = 1 := by
  have hc := iL.2.1
  rcases bt_01 f y with q | q
  · have h1 := hg.2.2.2 (63 ^^^ f) (clo_c iL hf.1.1 hf.2.2.1) (by rw [b_63b f hf.1.1 _ (by omega)]; omega) k hk k2
    rw [b_63b f hf.1.1 _ hk] at h1
    omega
  · exact q
/-- passes -/
def PSm (L : Ld) (m f g : Nat) : Prop := inP L g ∧ sub f g ∧ (∀ h, clo L h → sub f h → sub g h) ∧ (clo L g ∨ pcA f + m ≤ pcA g)
theorem PSm.z {L : Ld} {f : Nat} (h : inP L f) : PSm L 0 f f := ⟨h, fun _ _ h => h, fun _ _ h => h, Or.inr (Nat.le_refl _)⟩
theorem PSm.s {L : Ld} {m f g g' : Nat} (h : PSm L m f g) (h2 : PS L g g') : PSm L (m + 1) f g' := by
  obtain ⟨a1, a2, a3, a4⟩ := h
  obtain ⟨b1, b2, b3, b4⟩ := h2
  refine ⟨b1, fun k hk q => b2 k hk (a2 k hk q), fun h hc hs => b3 h hc (a3 h hc hs), ?_⟩
  rcases a4 with q | q
  · have : g = g' := sub_eq a1.1 b1.1 b2 (b3 g q fun _ _ h => h)
    exact Or.inl (this ▸ q)
  · rcases b_pcs g a1.1 g' b1.1 (fun k hk => by
      have := b2 k hk
      have := bt_01 g k
      have := bt_01 g' k
      omega) with p | p
    · exact Or.inl (p ▸ b4 p.symm)
    · exact Or.inr (by omega)
theorem inP_c {L : Ld} {f : Nat} (iL : IL L) (h : inP L f) : pcA f ≤ L_c L := by
  have hc := iL.2.1
  have key : ∀ k, k < 6 → bt f k ≤ if k < L_c L then 1 else 0 := fun k hk => by
    have h01 := bt_01 f k
    by_cases q : bt f k = 1
    · rw [if_pos (h.2 k hk q).1]; omega
    · omega
  have h0 := key 0 (by omega)
  have h1 := key 1 (by omega)
  have h2 := key 2 (by omega)
  have h3 := key 3 (by omega)
  have h4 := key 4 (by omega)
  have h5 := key 5 (by omega)
  unfold pcA
  split at h0 <;> split at h1 <;> split at h2 <;> split at h3 <;> split at h4 <;> split at h5 <;> omega
theorem PSm.fin {L : Ld} {m a g : Nat} (iL : IL L) (ha : a < 6) (h : PSm L m (2 ^ a) g) (hm : L_c L ≤ m) : Pile L a g := by
  obtain ⟨a1, a2, a3, a4⟩ := h
  have p1 : ∀ a, a < 6 → pcA (2 ^ a) = 1 := by decide +kernel
  refine ⟨a1, a2 a ha (by rw [b_pow a ha a ha, if_pos rfl]), ?_, fun h hc hh => a3 h hc fun k hk q => ?_⟩
  · rcases a4 with q | q
    · exact q
    · have := inP_c iL a1
      rw [p1 a ha] at q
      omega
  · rw [b_pow a ha k hk] at q
    by_cases p : k = a
    · rw [p]; exact hh
    · rw [if_neg p] at q
      exact absurd q (by decide)
