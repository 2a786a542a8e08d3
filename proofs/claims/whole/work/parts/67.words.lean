/-! words of the rules -/
def wA (t : List Nat) : Nat := if t = [116, 104, 105, 110, 103] then 1 else if t = [99, 111, 112, 112, 101, 114] then 2 else if t = [99, 111, 97, 116] then 3 else if t = [104, 97, 116] then 4 else if t = [108, 105, 110, 101, 110] then 5 else if t = [102, 105, 101, 108, 100] then 6 else if t = [112, 114, 101, 115, 115] then 7 else if t = [108, 101, 97, 118, 101] then 8 else if t = [102, 111, 108, 100] then 9 else if t = [119, 97, 115, 104] then 10 else if t = [98, 117, 108, 107] then 11 else if t = [99, 114, 101, 97, 115, 101] then 12 else if t = [115, 116, 101, 97, 109] then 13 else if t = [110, 117, 109, 98, 101, 114] then 14 else if t = [105, 102] then 15 else if t = [111, 114] then 16 else if t = [97, 110, 100] then 17 else if t = [110, 111, 116] then 18 else 0
def txN : List Nat := [116, 104, 105, 110, 103, 32, 99, 111, 112, 112, 101, 114, 32, 99, 111, 97, 116, 32, 104, 97, 116, 32, 108, 105, 110, 101, 110, 32, 102, 105, 101, 108, 100, 32, 112, 114, 101, 115, 115, 32, 108, 101, 97, 118, 101, 32, 102, 111, 108, 100, 32, 119, 97, 115, 104, 32, 98, 117, 108, 107, 32, 99, 114, 101, 97, 115, 101, 32, 115, 116, 101, 97, 109, 32, 110, 117, 109, 98, 101, 114, 32, 105, 102, 32, 111, 114, 32, 97, 110, 100, 32, 110, 111, 116]
/-- how the words are gone through: a word's number k, one more than how many bytes were alike so far (0: no more) -/
def plA (t : List Nat) : Nat → Nat → List Nat → Nat
  | k, s, [] => if s = t.length + 1 then k + 1 else 0
  | k, s, c :: w => if c = 32 then (if s = t.length + 1 then k + 1 else plA t (k + 1) 1 w) else plA t k (if s ≠ 0 ∧ t[s - 1]? = some c then s + 1 else 0) w
theorem pl_d {t : List Nat} {k : Nat} {r : List Nat} : ∀ w : List Nat, (∀ c, c ∈ w → c ≠ 32) → plA t k 0 (w ++ 32 :: r) = plA t (k + 1) 1 r
  | [], _ => by
    show plA t k 0 (32 :: r) = _
    rw [plA, if_pos rfl, if_neg (by omega)]
  | c :: w, h => by
    show plA t k 0 (c :: (w ++ 32 :: r)) = _
    have := pl_d (t := t) (k := k) (r := r) w fun x hx => h x (List.mem_cons_of_mem _ hx)
    rw [plA, if_neg (h c (List.mem_cons_self ..)), if_neg (fun q => q.1 rfl)]
    exact this
theorem pl_w {t : List Nat} {k : Nat} {r : List Nat} : ∀ (w : List Nat) (j : Nat), j ≤ t.length → (∀ c, c ∈ w → c ≠ 32) → plA t k (j + 1) (w ++ 32 :: r) = if t.drop j = w then k + 1 else plA t (k + 1) 1 r
  | [], j, hj, _ => by
    show plA t k (j + 1) (32 :: r) = _
    rw [plA, if_pos rfl]
    by_cases q : j = t.length
    · rw [if_pos (by omega), if_pos (by rw [q]; exact List.drop_length)]
    · rw [if_neg (by omega), if_neg (fun e => q (by have := congrArg List.length e; rw [List.length_drop, List.length_nil] at this; omega))]
  | c :: w, j, hj, h => by
    show plA t k (j + 1) (c :: (w ++ 32 :: r)) = _
    have h2 : ∀ x, x ∈ w → x ≠ 32 := fun x hx => h x (List.mem_cons_of_mem _ hx)
    rw [plA, if_neg (h c (List.mem_cons_self ..)), Nat.add_sub_cancel]
    by_cases q : t[j]? = some c
    · obtain ⟨hl, e⟩ := List.getElem?_eq_some_iff.mp q
      have d : t.drop j = c :: t.drop (j + 1) := by rw [List.drop_eq_getElem_cons hl, e]
      rw [if_pos ⟨by omega, q⟩, pl_w w (j + 1) (by omega) h2, d]
      by_cases g : t.drop (j + 1) = w
      · rw [if_pos g, if_pos (by rw [g])]
      · rw [if_neg g, if_neg (fun e => g (List.cons.inj e).2)]
    · rw [if_neg (fun e => q e.2), pl_d w h2, if_neg (fun e => q (by
        have hl : j < t.length := by
          rcases Nat.lt_or_ge j t.length with g | g
          · exact g
          · rw [List.drop_of_length_le g] at e; exact absurd e (by simp)
        rw [List.drop_eq_getElem_cons hl] at e
        rw [List.getElem?_eq_getElem hl, (List.cons.inj e).1]))]
theorem pl_d0 {t : List Nat} {k : Nat} : ∀ w : List Nat, (∀ c, c ∈ w → c ≠ 32) → plA t k 0 w = 0
  | [], _ => by rw [plA, if_neg (by omega)]
  | c :: w, h => by
    rw [plA, if_neg (h c (List.mem_cons_self ..)), if_neg (fun q => q.1 rfl)]
    exact pl_d0 w fun x hx => h x (List.mem_cons_of_mem _ hx)
theorem pl_e {t : List Nat} {k : Nat} : ∀ (w : List Nat) (j : Nat), j ≤ t.length → (∀ c, c ∈ w → c ≠ 32) → plA t k (j + 1) w = if t.drop j = w then k + 1 else 0
  | [], j, hj, _ => by
    rw [plA]
    by_cases q : j = t.length
    · rw [if_pos (by omega), if_pos (by rw [q]; exact List.drop_length)]
    · rw [if_neg (by omega), if_neg (fun e => q (by have := congrArg List.length e; rw [List.length_drop, List.length_nil] at this; omega))]
  | c :: w, j, hj, h => by
    have h2 : ∀ x, x ∈ w → x ≠ 32 := fun x hx => h x (List.mem_cons_of_mem _ hx)
    rw [plA, if_neg (h c (List.mem_cons_self ..)), Nat.add_sub_cancel]
    by_cases q : t[j]? = some c
    · obtain ⟨hl, e⟩ := List.getElem?_eq_some_iff.mp q
      have d : t.drop j = c :: t.drop (j + 1) := by rw [List.drop_eq_getElem_cons hl, e]
      rw [if_pos ⟨by omega, q⟩, pl_e w (j + 1) (by omega) h2, d]
      by_cases g : t.drop (j + 1) = w
      · rw [if_pos g, if_pos (by rw [g])]
      · rw [if_neg g, if_neg (fun e => g (List.cons.inj e).2)]
    · rw [if_neg (fun e => q e.2), pl_d0 w h2, if_neg (fun e => q (by
        have hl : j < t.length := by
          rcases Nat.lt_or_ge j t.length with g | g
          · exact g
          · rw [List.drop_of_length_le g] at e; exact absurd e (by simp)
        rw [List.drop_eq_getElem_cons hl] at e
        rw [List.getElem?_eq_getElem hl, (List.cons.inj e).1]))]
theorem pl_w0 {t : List Nat} {k : Nat} {r w : List Nat} (h : ∀ c, c ∈ w → c ≠ 32) : plA t k 1 (w ++ 32 :: r) = if t = w then k + 1 else plA t (k + 1) 1 r := by
  have := pl_w (t := t) (k := k) (r := r) w 0 (Nat.zero_le _) h
  rw [List.drop_zero] at this
  exact this
theorem pl_e0 {t : List Nat} {k : Nat} {w : List Nat} (h : ∀ c, c ∈ w → c ≠ 32) : plA t k 1 w = if t = w then k + 1 else 0 := by
  have := pl_e (t := t) (k := k) w 0 (Nat.zero_le _) h
  rw [List.drop_zero] at this
  exact this
theorem pl_all (t : List Nat) : plA t 0 1 txN = wA t := by
  rw [show txN = [116, 104, 105, 110, 103] ++ 32 :: ([99, 111, 112, 112, 101, 114] ++ 32 :: ([99, 111, 97, 116] ++ 32 :: ([104, 97, 116] ++ 32 :: ([108, 105, 110, 101, 110] ++ 32 :: ([102, 105, 101, 108, 100] ++ 32 :: ([112, 114, 101, 115, 115] ++ 32 :: ([108, 101, 97, 118, 101] ++ 32 :: ([102, 111, 108, 100] ++ 32 :: ([119, 97, 115, 104] ++ 32 :: ([98, 117, 108, 107] ++ 32 :: ([99, 114, 101, 97, 115, 101] ++ 32 :: ([115, 116, 101, 97, 109] ++ 32 :: ([110, 117, 109, 98, 101, 114] ++ 32 :: ([105, 102] ++ 32 :: ([111, 114] ++ 32 :: ([97, 110, 100] ++ 32 :: ([110, 111, 116]))))))))))))))))) from rfl]
  rw [pl_w0 (w := [116, 104, 105, 110, 103]) (by decide)]
  rw [pl_w0 (w := [99, 111, 112, 112, 101, 114]) (by decide)]
  rw [pl_w0 (w := [99, 111, 97, 116]) (by decide)]
  rw [pl_w0 (w := [104, 97, 116]) (by decide)]
  rw [pl_w0 (w := [108, 105, 110, 101, 110]) (by decide)]
  rw [pl_w0 (w := [102, 105, 101, 108, 100]) (by decide)]
  rw [pl_w0 (w := [112, 114, 101, 115, 115]) (by decide)]
  rw [pl_w0 (w := [108, 101, 97, 118, 101]) (by decide)]
  rw [pl_w0 (w := [102, 111, 108, 100]) (by decide)]
  rw [pl_w0 (w := [119, 97, 115, 104]) (by decide)]
  rw [pl_w0 (w := [98, 117, 108, 107]) (by decide)]
  rw [pl_w0 (w := [99, 114, 101, 97, 115, 101]) (by decide)]
  rw [pl_w0 (w := [115, 116, 101, 97, 109]) (by decide)]
  rw [pl_w0 (w := [110, 117, 109, 98, 101, 114]) (by decide)]
  rw [pl_w0 (w := [105, 102]) (by decide)]
  rw [pl_w0 (w := [111, 114]) (by decide)]
  rw [pl_w0 (w := [97, 110, 100]) (by decide)]
  rw [pl_e0 (w := [110, 111, 116]) (by decide)]
  rfl
theorem tx_at : ∀ i, i < 94 → wrdT.getD i 0 = nI (txN.getD i 0) ∧ txN.getD i 0 < 256 := by decide +kernel
theorem tx_len : txN.length = 94 := rfl
theorem it_le {c : Prop} [Decidable c] {a b N : Nat} (h1 : a ≤ N) (h2 : b ≤ N) : (if c then a else b) ≤ N := by
  by_cases h : c
  · rw [if_pos h]; exact h1
  · rw [if_neg h]; exact h2
theorem wA_le (t : List Nat) : wA t ≤ 18 := it_le (by decide) (it_le (by decide) (it_le (by decide) (it_le (by decide) (it_le (by decide) (it_le (by decide) (it_le (by decide) (it_le (by decide) (it_le (by decide) (it_le (by decide) (it_le (by decide) (it_le (by decide) (it_le (by decide) (it_le (by decide) (it_le (by decide) (it_le (by decide) (it_le (by decide) (it_le (by decide) (Nat.zero_le _))))))))))))))))))
