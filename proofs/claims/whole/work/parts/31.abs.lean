/-! the laundry in numbers: a load (wash, count, flat ones, things), what it goes by (end, irons, weights, ropes, rules) -/
abbrev Ld : Type := Nat × Nat × Nat × (Nat → Nat → Nat)
abbrev Rl : Type := Nat × (Nat → Nat) × (Nat → Nat) × (Nat → Nat) × (Nat → Nat → Nat × Nat × Nat)
abbrev En : Type := Nat × (Nat → Nat) × (Nat → Nat) × (Nat → Nat) × Rl
abbrev L_w (L : Ld) : Nat := L.1
abbrev L_c (L : Ld) : Nat := L.2.1
abbrev L_f (L : Ld) : Nat := L.2.2.1
abbrev L_t (L : Ld) : Nat → Nat → Nat := L.2.2.2
abbrev E_en (E : En) : Nat := E.1
abbrev E_ir (E : En) : Nat → Nat := E.2.1
abbrev E_wt (E : En) : Nat → Nat := E.2.2.1
abbrev E_rp (E : En) : Nat → Nat := E.2.2.2.1
abbrev E_rc (E : En) : Nat := E.2.2.2.2.1
abbrev E_rk (E : En) : Nat → Nat := E.2.2.2.2.2.1
abbrev E_rw (E : En) : Nat → Nat := E.2.2.2.2.2.2.1
abbrev E_rm (E : En) : Nat → Nat := E.2.2.2.2.2.2.2.1
abbrev E_rs (E : En) : Nat → Nat → Nat × Nat × Nat := E.2.2.2.2.2.2.2.2
/-- how deep a condition's stack is: never above nine -/
def dpA (op d : Nat) : Nat := if op < 3 then d + 1 else if op = 5 then d else d - 1
def prB (g : Nat → Nat × Nat × Nat) : Nat → Nat → Nat → Prop
  | _, _, 0 => True
  | d, j, m + 1 => (g j).1 ≤ 5 ∧ (g j).2.1 ≤ 10004 ∧ (g j).2.2 ≤ 10004 ∧ dpA (g j).1 d ≤ 9 ∧ prB g (dpA (g j).1 d) (j + 1) m
def IL (L : Ld) : Prop := L_w L ≤ 16 ∧ L_c L ≤ 6 ∧ L_f L < 64 ∧ (∀ k, k < 6 → L_c L ≤ k → bt (L_f L) k = 0) ∧ ∀ k, k < 6 → L_t L k 0 ≤ 5 ∧ (k < L_c L → 1 ≤ L_t L k 0) ∧ L_t L k 1 ≤ 99 ∧ L_t L k 2 ≤ 9 ∧ L_t L k 3 ≤ 5
def IE (E : En) : Prop := 1 ≤ E_en E ∧ E_en E ≤ 16 ∧ (∀ k, k < 16 → E_ir E k ≤ 15) ∧ (∀ k, k < 6 → E_wt E k ≤ 9 ∧ E_rp E k ≤ 9) ∧ E_rc E ≤ 8 ∧ ∀ i, i < E_rc E → E_rk E i ≤ 5 ∧ E_rw E i ≤ 2 ∧ E_rm E i ≤ 100 ∧ prB (E_rs E i) 0 0 (E_rm E i)
def irA (E : En) (w : Nat) : Nat := if w < 16 then E_ir E w else 0
def stm (E : En) (L : Ld) : Nat := irA E (L_w L) / 4
def sgh (E : En) (L : Ld) : Nat := irA E (L_w L) % 4
def swA (kd k sg w : Nat) : Nat := if kd = 1 then 0 else if kd = 2 then 2 * (1 + sg) else if kd = 3 then 2 * (1 + sg) - 3 else if kd = 4 then w % 3 else w % 3 + k
def swl (E : En) (L : Ld) (k : Nat) : Nat := swA (L_t L k 0) k (sgh E L) (L_w L) - E_rp E (L_t L k 3) / 3
def ndA (kd bk cr : Nat) : Nat := if kd = 1 then 30 else if kd = 2 then bk / 6 + cr + 4 else if kd = 3 then (bk / 6 + cr + 4) / 2 + 1 else if kd = 4 then (bk / 6 + cr) / 2 else (bk / 6 + cr) / 2 + cr / 2
def flo (L : Ld) (bd : Nat) : Nat := smA (fun k => if bt (L_f L) k = 1 ∧ L_t L k 3 = bd then 1 else 0) 0 (L_c L)
def prs (E : En) (L : Ld) (k st : Nat) : Nat := 4 * st + E_wt E (L_t L k 3) + 2 * flo L (L_t L k 3)
def ndL (L : Ld) (k : Nat) : Nat := ndA (L_t L k 0) (L_t L k 1) (L_t L k 2)
def pyA (E : En) (L : Ld) (k st : Nat) : Nat := if bt (L_f L) k = 0 ∧ ndL L k ≤ prs E L k st then 4 + L_t L k 1 / 12 else 0
def unA (kd a : Nat) : Bool := decide (a = 0 ∨ kd = a ∨ (a = 2 ∧ kd = 3) ∨ (a = 4 ∧ kd = 5))
def fcA (E : En) (L : Ld) (k v : Nat) : Nat := if v = 10000 then L_w L else if v = 10001 then L_t L k 1 else if v = 10002 then L_t L k 2 else if v = 10003 then stm E L else if v = 10004 then k else v
def cpA (op a b : Nat) : Nat := if op = 0 then (if a < b then 1 else 0) else if op = 1 then (if a = b then 1 else 0) else (if b < a then 1 else 0)
def ntT (st : Nat) : Nat := if st % 2 = 1 then st - 1 else st + 1
def anT (st : Nat) : Nat := if st % 2 = 1 then st / 2 else st / 2 - st / 2 % 2
def orT (st : Nat) : Nat := if st % 2 = 1 then st / 2 + 1 - st / 2 % 2 else st / 2
def spA (E : En) (L : Ld) (k : Nat) (q : Nat × Nat × Nat) (st : Nat) : Nat := if q.1 < 3 then 2 * st + cpA q.1 (fcA E L k q.2.1) (fcA E L k q.2.2) else if q.1 = 3 then anT st else if q.1 = 4 then orT st else ntT st
def rnA (E : En) (L : Ld) (k : Nat) (g : Nat → Nat × Nat × Nat) : Nat → Nat → Nat → Nat
  | st, _, 0 => st
  | st, j, m + 1 => rnA E L k g (spA E L k (g j) st) (j + 1) m
def hlA (E : En) (L : Ld) (k i : Nat) : Bool := decide (rnA E L k (E_rs E i) 1 0 (E_rm E i) % 2 = 1)
def tlA (E : En) (L : Ld) (k i : Nat) : Bool := unA (L_t L k 0) (E_rk E i) && hlA E L k i
def wlR (E : En) (r : Nat) : Nat := if r = 0 then 0 else E_rw E (r - 1)
def wlA (E : En) (L : Ld) (k : Nat) : Nat := wlR E (fsA (tlA E L k) 0 (E_rc E))
def myA (E : En) (L : Ld) (k : Nat) : Bool := decide (0 < pyA E L k (stm E L) ∧ wlA E L k = 0)
def rsA (E : En) (L : Ld) : Nat := fsA (myA E L) 0 (L_c L)
def ovA (E : En) (L : Ld) : Prop := E_en E ≤ L_w L
def upT (t : Nat → Nat → Nat) (k j v : Nat) : Nat → Nat → Nat := fun x y => if x = k ∧ y = j then v else t x y
def dwA (E : En) (L : Ld) (k : Nat) : Nat × Ld :=
  if bt (L_f L) k = 1 then (0, L)
  else if wlA E L k = 0 then (pyA E L k (stm E L), if 0 < pyA E L k (stm E L) then (L_w L, L_c L, stB (L_f L) k, upT (L_t L) k 1 0) else L)
  else if wlA E L k = 2 then ((if sgh E L = 0 then 1 else 0), (L_w L, L_c L, L_f L, upT (upT (L_t L) k 2 (min 9 (L_t L k 2 + 1))) k 1 (L_t L k 1 - 6)))
  else (0, L)
/-- one more than the last flat one's number, else 0 -/
def lsF (f : Nat) : Nat → Nat
  | 0 => 0
  | c + 1 => if bt f c = 1 then c + 1 else lsF f c
def udA (L : Ld) : Ld := if lsF (L_f L) (L_c L) = 0 then L else (L_w L, L_c L, clB (L_f L) (lsF (L_f L) (L_c L) - 1), upT (L_t L) (lsF (L_f L) (L_c L) - 1) 1 25)
def nbA (E : En) (L : Ld) (x : Nat) : Nat := if bt (L_f L) x = 1 then 0 else min 99 (L_t L x 1 + swl E L x)
def blA (E : En) (L : Ld) (m : Nat) : Nat → Nat → Nat := fun x y => if y = 1 ∧ x < m then nbA E L x else L_t L x y
def toA (E : En) (L : Ld) (a : Nat) : Nat × Ld := if a = 0 then (0, L) else dwA E L (a - 1)
def g2A (E : En) (L : Ld) (a : Nat) : Ld := if sgh E L = 3 then udA (toA E L a).2 else (toA E L a).2
def goW (E : En) (L : Ld) (a : Nat) : Nat := (toA E L a).1 + pcA (L_f (g2A E L a))
def goL (E : En) (L : Ld) (a : Nat) : Ld := (L_w L + 1, L_c L, L_f (g2A E L a), blA E (g2A E L a) (L_c L))
def bkA (L : Ld) : Nat := smA (fun k => L_t L k 1) 0 (L_c L)
/-! small facts -/
theorem irA_le {E : En} (h : IE E) (w : Nat) : irA E w ≤ 15 := by
  unfold irA
  split
  · exact h.2.2.1 w (by assumption)
  · omega
theorem stm_le {E : En} {L : Ld} (h : IE E) : stm E L ≤ 3 := by
  have := irA_le h (L_w L)
  unfold stm; omega
theorem sgh_le (E : En) (L : Ld) : sgh E L ≤ 3 := by unfold sgh; omega
theorem swA_le {kd k sg w : Nat} (hk : k < 6) (hs : sg ≤ 3) : swA kd k sg w ≤ 8 := by
  unfold swA
  split
  · omega
  split
  · omega
  split
  · omega
  split <;> omega
theorem swl_le {E : En} {L : Ld} {k : Nat} (hk : k < 6) : swl E L k ≤ 8 := by
  have := swA_le (kd := L_t L k 0) (w := L_w L) hk (sgh_le E L)
  unfold swl; omega
theorem ndA_le {kd bk cr : Nat} (h1 : bk ≤ 99) (h2 : cr ≤ 9) : ndA kd bk cr ≤ 100 := by
  unfold ndA
  split
  · omega
  split
  · omega
  split
  · omega
  split <;> omega
theorem flo_le {L : Ld} (hL : IL L) (bd : Nat) : flo L bd ≤ 6 := by
  have h1 := smA_le (g := fun k => if bt (L_f L) k = 1 ∧ L_t L k 3 = bd then 1 else 0) (B := 1) (L_c L) 0 (fun k _ _ => by split <;> omega)
  have := hL.2.1
  unfold flo; omega
theorem prs_le {E : En} {L : Ld} (hE : IE E) (hL : IL L) {k st : Nat} (hk : k < 6) (hs : st ≤ 3) : prs E L k st ≤ 100 := by
  have h1 := flo_le hL (L_t L k 3)
  have h2 := (hE.2.2.2.1 (L_t L k 3) (by have := (hL.2.2.2.2 k hk).2.2.2.2; omega)).1
  unfold prs; omega
theorem pyA_le {E : En} {L : Ld} (hL : IL L) {k st : Nat} (hk : k < 6) : pyA E L k st ≤ 12 := by
  have := (hL.2.2.2.2 k hk).2.2.1
  unfold pyA
  split <;> omega
theorem ntT_lt {st B : Nat} (h : st < 2 * B) : ntT st < 2 * B := by unfold ntT; split <;> omega
theorem anT_lt {st B : Nat} (h : st < 2 * B) : anT st < B := by unfold anT; split <;> omega
theorem orT_lt {st B : Nat} (h : st < 2 * (2 * B)) : orT st < 2 * B := by unfold orT; split <;> omega
theorem cpA_le (op a b : Nat) : cpA op a b ≤ 1 := by
  unfold cpA
  split
  · split <;> omega
  split <;> split <;> omega
theorem spA_lt {E : En} {L : Ld} {k : Nat} {q : Nat × Nat × Nat} {st d : Nat} (ho : q.1 ≤ 5) (hs : st < 2 ^ (d + 1)) : spA E L k q st < 2 ^ (dpA q.1 d + 1) := by
  have h2 := cpA_le q.1 (fcA E L k q.2.1) (fcA E L k q.2.2)
  have e1 : ∀ n : Nat, 2 ^ (n + 1) = 2 * 2 ^ n := fun n => by rw [Nat.pow_succ, Nat.mul_comm]
  rcases (show q.1 < 3 ∨ q.1 = 3 ∨ q.1 = 4 ∨ q.1 = 5 by omega) with h | h | h | h
  · unfold spA dpA
    rw [if_pos h, if_pos h, e1 (d + 1)]
    omega
  · unfold spA dpA
    rw [if_neg (by omega), if_pos h, if_neg (by omega), if_neg (by omega)]
    match d, hs with
    | 0, hs => exact Nat.lt_of_lt_of_le (anT_lt (B := 1) (by simpa using hs)) (by decide)
    | d + 1, hs =>
      rw [e1 (d + 1)] at hs
      exact anT_lt hs
  · unfold spA dpA
    rw [if_neg (by omega), if_neg (by omega), if_pos h, if_neg (by omega), if_neg (by omega)]
    match d, hs with
    | 0, hs =>
      have : st < 2 := by simpa using hs
      show orT st < 2
      unfold orT
      split <;> omega
    | d + 1, hs =>
      show orT st < 2 ^ (d + 1)
      rw [e1 (d + 1), e1 d] at hs
      rw [e1 d]
      exact orT_lt hs
  · unfold spA dpA
    rw [if_neg (by omega), if_neg (by omega), if_neg (by omega), if_neg (by omega), if_pos h]
    rw [e1 d] at hs ⊢
    exact ntT_lt hs
