/-! how many, the first of them, those that one report stands against -/
def cn (P : Nat → Bool) : Nat → Nat
  | 0 => 0
  | j + 1 => cn P j + bn (P j)
def fsP (P : Nat → Bool) : Nat → Nat
  | 0 => 0
  | j + 1 => if P j = true ∧ cn P j = 0 then j else fsP P j
def sl (W : Nat → Nat) : Nat → Nat
  | 0 => 0
  | j + 1 => if pcA (W j) = 1 then sl W j ||| W j else sl W j
def fit (sk wg : Nat → Bool) : Nat → Bool
  | 0 => true
  | x + 1 => fit sk wg x && (sk x || !wg x)
theorem cn_le {P : Nat → Bool} : ∀ m, cn P m ≤ m
  | 0 => Nat.le_refl _
  | m + 1 => by
    have := cn_le (P := P) m
    have := bn_le (P m)
    unfold cn; omega
theorem cn_0 {P : Nat → Bool} : ∀ m, cn P m = 0 ↔ ∀ j, j < m → P j = false
  | 0 => ⟨fun _ j hj => by omega, fun _ => rfl⟩
  | m + 1 => by
    have ih := cn_0 (P := P) m
    unfold cn
    constructor
    · intro h j hj
      by_cases q : j = m
      · rw [q]
        cases e : P m
        · rfl
        · rw [e] at h
          simp [bn] at h
      · exact ih.mp (by omega) j (by omega)
    · intro h
      rw [ih.mpr fun j hj => h j (by omega), h m (by omega)]
      rfl
theorem fs_lt {P : Nat → Bool} : ∀ m, m ≤ 500 → fsP P m < 500
  | 0, _ => by unfold fsP; omega
  | m + 1, h => by
    have := fs_lt (P := P) m (by omega)
    unfold fsP
    split <;> omega
theorem sl_lt {W : Nat → Nat} (hW : ∀ j, W j < 64) : ∀ m, sl W m < 64
  | 0 => by unfold sl; omega
  | m + 1 => by
    unfold sl
    split
    · exact b_orl _ (sl_lt hW m) _ (hW m)
    · exact sl_lt hW m
theorem b_pow : ∀ r, r < 6 → ∀ k, k < 6 → bt (2 ^ r) k = if k = r then 1 else 0 := by decide +kernel
theorem b_only : ∀ f, f < 64 → ∀ r, r < 6 → f ≠ 0 → (∀ k, k < 6 → k ≠ r → bt f k = 0) → f = 2 ^ r := fun f hf r hr h0 h => by
  obtain ⟨k, k1, k2, -⟩ := b_fs f hf h0
  have hk : k = r := by
    by_cases q : k = r
    · exact q
    · have := h k k1 q
      omega
  rw [hk] at k2
  refine b_ext f hf _ (by have : ∀ r, r < 6 → 2 ^ r < 64 := by decide
                          exact this r hr) fun j hj => ?_
  rw [b_pow r hr j hj]
  by_cases q : j = r
  · rw [if_pos q, q, k2]
  · rw [if_neg q, h j hj q]
theorem sl_bt {W : Nat → Nat} (hW : ∀ j, W j < 64) {k : Nat} (hk : k < 6) : ∀ m, bt (sl W m) k = 1 ↔ ∃ j, j < m ∧ W j = 2 ^ k
  | 0 => by
    unfold sl
    rw [b_0 k hk]
    exact ⟨fun h => absurd h (by decide), fun ⟨j, hj, _⟩ => by omega⟩
  | m + 1 => by
    have ih := sl_bt hW hk m
    have hs := sl_lt hW m
    unfold sl
    by_cases q : pcA (W m) = 1
    · rw [if_pos q, b_orbt _ hs _ (hW m) k hk]
      have e := b_sole _ (hW m) k hk
      constructor
      · intro h
        by_cases p : bt (sl W m) k = 1
        · obtain ⟨j, h1, h2⟩ := ih.mp p
          exact ⟨j, by omega, h2⟩
        · by_cases p2 : bt (W m) k = 1
          · exact ⟨m, by omega, e.mp ⟨q, p2⟩⟩
          · rw [if_neg (fun h => h.elim p p2)] at h
            exact absurd h (by decide)
      · rintro ⟨j, h1, h2⟩
        by_cases p : j = m
        · rw [if_pos (Or.inr (e.mpr (p ▸ h2)).2)]
        · rw [if_pos (Or.inl (ih.mpr ⟨j, by omega, h2⟩))]
    · rw [if_neg q, ih]
      constructor
      · rintro ⟨j, h1, h2⟩
        exact ⟨j, by omega, h2⟩
      · rintro ⟨j, h1, h2⟩
        by_cases p : j = m
        · exact absurd ((b_sole _ (hW m) k hk).mpr (p ▸ h2)).1 q
        · exact ⟨j, by omega, h2⟩
theorem fit_iff {sk wg : Nat → Bool} : ∀ m, fit sk wg m = true ↔ ∀ i, i < m → sk i = true ∨ wg i = false
  | 0 => ⟨fun _ i hi => by omega, fun _ => rfl⟩
  | m + 1 => by
    have ih := fit_iff (sk := sk) (wg := wg) m
    unfold fit
    rw [Bool.and_eq_true, ih, Bool.or_eq_true, Bool.not_eq_true']
    constructor
    · intro h i hi
      by_cases q : i = m
      · rw [q]; exact h.2
      · exact h.1 i (by omega)
    · intro h
      exact ⟨fun i hi => h i (by omega), h m (by omega)⟩
/-- what isn't so of the j-th lone thing -/
def Wq (ir : Nat → Nat) (rn : Nat) (rp : Nat → Nat → Nat) (j : Nat) : Nat := w6 fun i => decide (i < rn) && wgB ir (1 + j / 100) (j / 10 % 10) (j % 10 * 9) rp i
def Pq (ir : Nat → Nat) (rn : Nat) (rp : Nat → Nat → Nat) (j : Nat) : Bool := decide (Wq ir rn rp j = 0)
def Mq (ir : Nat → Nat) (rn : Nat) (rp : Nat → Nat → Nat) (x : Int32) (j : Nat) : Bool := fit (fun i => decide (nI i = x)) (wgB ir (1 + j / 100) (j / 10 % 10) (j % 10 * 9) rp) rn
theorem Wq_bt {ir : Nat → Nat} {rn : Nat} {rp : Nat → Nat → Nat} {j k : Nat} (hk : k < 6) : bt (Wq ir rn rp j) k = bn (decide (k < rn) && wgB ir (1 + j / 100) (j / 10 % 10) (j % 10 * 9) rp k) := w6_bt _ k hk
theorem Wq_0 {ir : Nat → Nat} {rn : Nat} {rp : Nat → Nat → Nat} {j : Nat} (hr : rn ≤ 6) : Wq ir rn rp j = 0 ↔ ∀ i, i < rn → wgB ir (1 + j / 100) (j / 10 % 10) (j % 10 * 9) rp i = false := by
  constructor
  · intro h i hi
    have := Wq_bt (ir := ir) (rn := rn) (rp := rp) (j := j) (k := i) (by omega)
    rw [h, b_0 i (by omega), decide_eq_true hi, Bool.true_and] at this
    cases e : wgB ir (1 + j / 100) (j / 10 % 10) (j % 10 * 9) rp i
    · rfl
    · rw [e] at this
      exact absurd this (by decide)
  · intro h
    refine b_ext (Wq ir rn rp j) (w6_lt _) 0 (by omega) fun k hk => ?_
    rw [Wq_bt hk, b_0 k hk]
    by_cases q : k < rn
    · rw [h k q, Bool.and_false]; rfl
    · rw [decide_eq_false q]; rfl
theorem Mq_m {ir : Nat → Nat} {rn : Nat} {rp : Nat → Nat → Nat} (hr : rn ≤ 6) : Mq ir rn rp (-(nI 1)) = Pq ir rn rp := funext fun j => by
  have h1 := fit_iff (sk := fun i => decide (nI i = -(nI 1))) (wg := wgB ir (1 + j / 100) (j / 10 % 10) (j % 10 * 9) rp) rn
  have h2 := Wq_0 (ir := ir) (rn := rn) (rp := rp) (j := j) hr
  unfold Mq Pq
  rw [Bool.eq_iff_iff, h1, decide_eq_true_iff, h2]
  constructor
  · intro h i hi
    rcases h i hi with q | q
    · rw [decide_eq_true_iff] at q
      exact absurd q (by rw [m_eq (a := i) (b := 1) (by omega) (by omega) (by omega)]; exact id)
    · exact q
  · intro h i hi
    exact Or.inr (h i hi)
theorem Mq_r {ir : Nat → Nat} {rn r : Nat} {rp : Nat → Nat → Nat} (hr : rn ≤ 6) (hrn : r < rn) (h0 : ∀ j, j < 500 → Wq ir rn rp j ≠ 0) : cn (Mq ir rn rp (nI r)) 500 = 0 ↔ bt (sl (Wq ir rn rp) 500) r = 0 := by
  have hW : ∀ j, Wq ir rn rp j < 64 := fun j => w6_lt _
  have hb := sl_bt hW (k := r) (by omega) 500
  have h01 := bt_01 (sl (Wq ir rn rp) 500) r
  have key : ∀ j, j < 500 → (Mq ir rn rp (nI r) j = true ↔ Wq ir rn rp j = 2 ^ r) := fun j hj => by
    unfold Mq
    rw [fit_iff]
    constructor
    · intro h
      refine b_only _ (hW j) r (by omega) (h0 j hj) fun k hk hkr => ?_
      rw [Wq_bt hk]
      by_cases q : k < rn
      · rcases h k q with p | p
        · rw [decide_eq_true_iff, nI_eq (by omega) (by omega)] at p
          exact absurd p hkr
        · rw [p, Bool.and_false]; rfl
      · rw [decide_eq_false q]; rfl
    · intro h i hi
      by_cases q : i = r
      · exact Or.inl (by rw [decide_eq_true_iff, q])
      · have := Wq_bt (ir := ir) (rn := rn) (rp := rp) (j := j) (k := i) (by omega)
        rw [h, b_pow r (by omega) i (by omega), if_neg q, decide_eq_true hi, Bool.true_and] at this
        cases e : wgB ir (1 + j / 100) (j / 10 % 10) (j % 10 * 9) rp i
        · exact Or.inr rfl
        · rw [e] at this
          exact absurd this (by decide)
  rw [cn_0]
  constructor
  · intro h
    rcases h01 with p | p
    · exact p
    · obtain ⟨j, h1, h2⟩ := hb.mp p
      have := h j h1
      rw [(key j h1).mpr h2] at this
      exact absurd this (by decide)
  · intro h j hj
    cases e : Mq ir rn rp (nI r) j
    · rfl
    · have := hb.mpr ⟨j, hj, (key j hj).mp e⟩
      omega
