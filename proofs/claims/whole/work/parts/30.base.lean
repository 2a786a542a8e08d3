/-! numbers by their names: rules by which the pure functions are evaluated -/
theorem li_0 : (0 : Int32) = nI 0 := rfl
theorem li_1 : (1 : Int32) = nI 1 := rfl
theorem li_2 : (2 : Int32) = nI 2 := rfl
theorem li_3 : (3 : Int32) = nI 3 := rfl
theorem li_4 : (4 : Int32) = nI 4 := rfl
theorem li_5 : (5 : Int32) = nI 5 := rfl
theorem li_6 : (6 : Int32) = nI 6 := rfl
theorem li_7 : (7 : Int32) = nI 7 := rfl
theorem li_8 : (8 : Int32) = nI 8 := rfl
theorem li_9 : (9 : Int32) = nI 9 := rfl
theorem li_10 : (10 : Int32) = nI 10 := rfl
theorem li_11 : (11 : Int32) = nI 11 := rfl
theorem li_12 : (12 : Int32) = nI 12 := rfl
theorem li_13 : (13 : Int32) = nI 13 := rfl
theorem li_14 : (14 : Int32) = nI 14 := rfl
theorem li_15 : (15 : Int32) = nI 15 := rfl
theorem li_16 : (16 : Int32) = nI 16 := rfl
theorem li_20 : (20 : Int32) = nI 20 := rfl
theorem li_23 : (23 : Int32) = nI 23 := rfl
theorem li_25 : (25 : Int32) = nI 25 := rfl
theorem li_30 : (30 : Int32) = nI 30 := rfl
theorem li_31 : (31 : Int32) = nI 31 := rfl
theorem li_32 : (32 : Int32) = nI 32 := rfl
theorem li_38 : (38 : Int32) = nI 38 := rfl
theorem li_40 : (40 : Int32) = nI 40 := rfl
theorem li_41 : (41 : Int32) = nI 41 := rfl
theorem li_44 : (44 : Int32) = nI 44 := rfl
theorem li_48 : (48 : Int32) = nI 48 := rfl
theorem li_50 : (50 : Int32) = nI 50 := rfl
theorem li_51 : (51 : Int32) = nI 51 := rfl
theorem li_52 : (52 : Int32) = nI 52 := rfl
theorem li_57 : (57 : Int32) = nI 57 := rfl
theorem li_59 : (59 : Int32) = nI 59 := rfl
theorem li_60 : (60 : Int32) = nI 60 := rfl
theorem li_61 : (61 : Int32) = nI 61 := rfl
theorem li_62 : (62 : Int32) = nI 62 := rfl
theorem li_63 : (63 : Int32) = nI 63 := rfl
theorem li_66 : (66 : Int32) = nI 66 := rfl
theorem li_81 : (81 : Int32) = nI 81 := rfl
theorem li_94 : (94 : Int32) = nI 94 := rfl
theorem li_97 : (97 : Int32) = nI 97 := rfl
theorem li_98 : (98 : Int32) = nI 98 := rfl
theorem li_99 : (99 : Int32) = nI 99 := rfl
theorem li_100 : (100 : Int32) = nI 100 := rfl
theorem li_101 : (101 : Int32) = nI 101 := rfl
theorem li_103 : (103 : Int32) = nI 103 := rfl
theorem li_104 : (104 : Int32) = nI 104 := rfl
theorem li_105 : (105 : Int32) = nI 105 := rfl
theorem li_107 : (107 : Int32) = nI 107 := rfl
theorem li_108 : (108 : Int32) = nI 108 := rfl
theorem li_109 : (109 : Int32) = nI 109 := rfl
theorem li_110 : (110 : Int32) = nI 110 := rfl
theorem li_111 : (111 : Int32) = nI 111 := rfl
theorem li_112 : (112 : Int32) = nI 112 := rfl
theorem li_114 : (114 : Int32) = nI 114 := rfl
theorem li_115 : (115 : Int32) = nI 115 := rfl
theorem li_116 : (116 : Int32) = nI 116 := rfl
theorem li_117 : (117 : Int32) = nI 117 := rfl
theorem li_118 : (118 : Int32) = nI 118 := rfl
theorem li_122 : (122 : Int32) = nI 122 := rfl
theorem li_200 : (200 : Int32) = nI 200 := rfl
theorem li_572 : (572 : Int32) = nI 572 := rfl
theorem li_600 : (600 : Int32) = nI 600 := rfl
theorem li_9999 : (9999 : Int32) = nI 9999 := rfl
theorem li_10000 : (10000 : Int32) = nI 10000 := rfl
theorem li_12345 : (12345 : Int32) = nI 12345 := rfl
theorem li_1103515245 : (1103515245 : Int32) = nI 1103515245 := rfl
theorem lj_0 : (0 : Int64) = lN 0 := rfl
theorem lj_1 : (1 : Int64) = lN 1 := rfl
theorem lj_2 : (2 : Int64) = lN 2 := rfl
theorem lj_3 : (3 : Int64) = lN 3 := rfl
theorem lj_4 : (4 : Int64) = lN 4 := rfl
theorem lj_5 : (5 : Int64) = lN 5 := rfl
theorem lj_6 : (6 : Int64) = lN 6 := rfl
theorem lj_7 : (7 : Int64) = lN 7 := rfl
theorem lj_8 : (8 : Int64) = lN 8 := rfl
theorem lj_9 : (9 : Int64) = lN 9 := rfl
theorem lj_10 : (10 : Int64) = lN 10 := rfl
theorem lj_11 : (11 : Int64) = lN 11 := rfl
theorem lj_12 : (12 : Int64) = lN 12 := rfl
theorem lj_13 : (13 : Int64) = lN 13 := rfl
theorem lj_14 : (14 : Int64) = lN 14 := rfl
theorem lj_15 : (15 : Int64) = lN 15 := rfl
theorem lj_16 : (16 : Int64) = lN 16 := rfl
theorem lj_20 : (20 : Int64) = lN 20 := rfl
theorem lj_23 : (23 : Int64) = lN 23 := rfl
theorem lj_25 : (25 : Int64) = lN 25 := rfl
theorem lj_30 : (30 : Int64) = lN 30 := rfl
theorem lj_31 : (31 : Int64) = lN 31 := rfl
theorem lj_32 : (32 : Int64) = lN 32 := rfl
theorem lj_38 : (38 : Int64) = lN 38 := rfl
theorem lj_40 : (40 : Int64) = lN 40 := rfl
theorem lj_41 : (41 : Int64) = lN 41 := rfl
theorem lj_44 : (44 : Int64) = lN 44 := rfl
theorem lj_48 : (48 : Int64) = lN 48 := rfl
theorem lj_50 : (50 : Int64) = lN 50 := rfl
theorem lj_51 : (51 : Int64) = lN 51 := rfl
theorem lj_52 : (52 : Int64) = lN 52 := rfl
theorem lj_57 : (57 : Int64) = lN 57 := rfl
theorem lj_59 : (59 : Int64) = lN 59 := rfl
theorem lj_60 : (60 : Int64) = lN 60 := rfl
theorem lj_61 : (61 : Int64) = lN 61 := rfl
theorem lj_62 : (62 : Int64) = lN 62 := rfl
theorem lj_63 : (63 : Int64) = lN 63 := rfl
theorem lj_66 : (66 : Int64) = lN 66 := rfl
theorem lj_81 : (81 : Int64) = lN 81 := rfl
theorem lj_94 : (94 : Int64) = lN 94 := rfl
theorem lj_97 : (97 : Int64) = lN 97 := rfl
theorem lj_98 : (98 : Int64) = lN 98 := rfl
theorem lj_99 : (99 : Int64) = lN 99 := rfl
theorem lj_100 : (100 : Int64) = lN 100 := rfl
theorem lj_101 : (101 : Int64) = lN 101 := rfl
theorem lj_103 : (103 : Int64) = lN 103 := rfl
theorem lj_104 : (104 : Int64) = lN 104 := rfl
theorem lj_105 : (105 : Int64) = lN 105 := rfl
theorem lj_107 : (107 : Int64) = lN 107 := rfl
theorem lj_108 : (108 : Int64) = lN 108 := rfl
theorem lj_109 : (109 : Int64) = lN 109 := rfl
theorem lj_110 : (110 : Int64) = lN 110 := rfl
theorem lj_111 : (111 : Int64) = lN 111 := rfl
theorem lj_112 : (112 : Int64) = lN 112 := rfl
theorem lj_114 : (114 : Int64) = lN 114 := rfl
theorem lj_115 : (115 : Int64) = lN 115 := rfl
theorem lj_116 : (116 : Int64) = lN 116 := rfl
theorem lj_117 : (117 : Int64) = lN 117 := rfl
theorem lj_118 : (118 : Int64) = lN 118 := rfl
theorem lj_122 : (122 : Int64) = lN 122 := rfl
theorem lj_200 : (200 : Int64) = lN 200 := rfl
theorem lj_572 : (572 : Int64) = lN 572 := rfl
theorem lj_600 : (600 : Int64) = lN 600 := rfl
theorem o_b {α β : Type} {a : α} {f : α → Option β} : (some a).bind f = f a := rfl
theorem e_add (a b : Nat) : nI a + nI b = nI (a + b) := nI_add a b
theorem e_mul (a b : Nat) : nI a * nI b = nI (a * b) := (Int32.ofNat_mul a b).symm
theorem e_sub {a b : Nat} (h : b ≤ a) : nI a - nI b = nI (a - b) := (Int32.ofNat_sub a b h).symm
theorem e_lt {a b : Nat} (hb : b < 2147483648) (h : a < b) : (nI a < nI b) = True := eq_true (nI_lt h hb)
theorem e_nlt {a b : Nat} (ha : a < 2147483648) (h : b ≤ a) : (nI a < nI b) = False := eq_false (nI_nlt h ha)
theorem e_le {a b : Nat} (hb : b < 2147483648) (h : a ≤ b) : (nI a ≤ nI b) = True := eq_true (nI_le h hb)
theorem e_nle {a b : Nat} (ha : a < 2147483648) (h : b < a) : (nI a ≤ nI b) = False := eq_false (nI_ge h ha)
theorem e_eq {a b : Nat} (h : a = b) : (nI a = nI b) = True := by rw [h]; exact eq_self _
theorem e_neq {a b : Nat} (ha : a < 2147483648) (hb : b < 2147483648) (h : a ≠ b) : (nI a = nI b) = False := eq_false fun q => h ((nI_eq ha hb).mp q)
theorem e_div {a b : Nat} (ha : a < 2147483648) (hb : b < 2147483648) : nI a / nI b = nI (a / b) := (Int32.ofNat_div ha hb).symm
theorem e_rem {a b : Nat} (ha : a < 2147483648) (hb : b < 2147483648) : jrem (nI a) (nI b) = nI (a % b) := by
  unfold jrem
  have h1 : a / b * b ≤ a := Nat.div_mul_le_self a b
  rw [e_div ha hb, e_mul, e_sub h1]
  congr 1
  have := Nat.div_add_mod' a b
  omega
theorem m_toInt {b : Nat} (hb : b < 2147483648) : (-(nI b)).toInt = -(b : Int) := by
  have := Int32.neg_ofNat (n := b)
  show (-(Int32.ofNat b)).toInt = _
  rw [this, Int32.toInt_ofInt_of_le (by omega) (by omega)]
theorem m_lt {a b : Nat} (ha : a < 2147483648) (hb : b < 2147483648) (h : 0 < b) : (-(nI b) < nI a) = True := eq_true (by rw [Int32.lt_iff_toInt_lt, m_toInt hb, nI_toInt ha]; omega)
theorem m_le {a b : Nat} (ha : a < 2147483648) (hb : b < 2147483648) (h : 0 < b) : (nI a ≤ -(nI b)) = False := eq_false (by rw [Int32.le_iff_toInt_le, m_toInt hb, nI_toInt ha]; omega)
theorem m_ng {b : Nat} (hb : b < 2147483648) (h : 0 < b) : (-(nI b) < nI 0) = True := eq_true (by rw [Int32.lt_iff_toInt_lt, m_toInt hb, nI_toInt (by omega)]; omega)
theorem m_ngl {a b : Nat} (ha : a < 2147483648) (hb : b < 2147483648) (h : 0 < b) : (nI a < -(nI b)) = False := eq_false (by rw [Int32.lt_iff_toInt_lt, m_toInt hb, nI_toInt ha]; omega)
theorem m_le0 {a b : Nat} (ha : a < 2147483648) (hb : b < 2147483648) : (-(nI b) ≤ nI a) = True := eq_true (by rw [Int32.le_iff_toInt_le, m_toInt hb, nI_toInt ha]; omega)
theorem m_eq {a b : Nat} (ha : a < 2147483648) (hb : b < 2147483648) (h : 0 < b) : (nI a = -(nI b)) = False := eq_false fun q => by
  have := congrArg Int32.toInt q
  rw [m_toInt hb, nI_toInt ha] at this
  omega
theorem m_eq2 {a b : Nat} (ha : a < 2147483648) (hb : b < 2147483648) (h : 0 < b) : (-(nI b) = nI a) = False := eq_false fun q => by
  have := congrArg Int32.toInt q
  rw [m_toInt hb, nI_toInt ha] at this
  omega
theorem e_inb {n k : Nat} (hn : n < 2147483648) (hk : k < n) : inb (nI k) n = true := decide_eq_true (nI_in hk hn)
theorem e_ld {n k : Nat} {f : Nat → Int32} (hn : n < 2147483648) (hk : k < n) : ldI n f (nI k) = some (f k) := by
  unfold ldI; rw [if_pos (e_inb hn hk), nI_clamp (by omega)]
theorem e_st {n k x : Nat} {V : V2} {v : Int32} (hn : n < 2147483648) (hk : k < n) : stI n V x (nI k) v = some (up2 V x k v) := by
  unfold stI; rw [if_pos (e_inb hn hk), nI_clamp (by omega)]
theorem o_ld {n k : Nat} {f : Nat → Option Nat} (hn : n < 2147483648) (hk : k < n) : ldR n f (nI k) = some (f k) := by
  unfold ldR; rw [if_pos (e_inb hn hk), nI_clamp (by omega)]
theorem o_st {n k x : Nat} {R : R2} {v : Option Nat} (hn : n < 2147483648) (hk : k < n) : stR n R x (nI k) v = some (up2 R x k v) := by
  unfold stR; rw [if_pos (e_inb hn hk), nI_clamp (by omega)]
theorem w_same {α : Type} {V : Nat → Nat → α} {x k : Nat} {v : α} : up2 V x k v x k = v := by unfold up2; rw [va_up_self, va_up_self]
theorem w_idx {α : Type} {V : Nat → Nat → α} {x k j : Nat} {v : α} (h : j ≠ k) : up2 V x k v x j = V x j := by unfold up2; rw [va_up_self, va_up_ne _ _ h]
theorem w_row {α : Type} {V : Nat → Nat → α} {x k y : Nat} {v : α} (h : y ≠ x) : up2 V x k v y = V y := by unfold up2; rw [va_up_ne _ _ h]
theorem w_at {α : Type} {V : Nat → Nat → α} {x k j : Nat} {v : α} : up2 V x k v x j = if j = k then v else V x j := by
  by_cases h : j = k
  · subst h; rw [w_same, if_pos rfl]
  · rw [w_idx h, if_neg h]
theorem va_at' {α : Type} {f : Nat → α} {k j : Nat} {v : α} : va_up f k v j = if j = k then v else f j := rfl
theorem w_va {α : Type} {V : Nat → Nat → α} {x k : Nat} {s : Nat → α} {v : α} : up2 (va_up V x s) x k v = va_up V x (va_up s k v) := by
  funext y j
  unfold up2 va_up
  by_cases h : y = x
  · simp [h]
  · simp [h]
theorem va_va {α : Type} {V : Nat → α} {x : Nat} {s t : α} : va_up (va_up V x s) x t = va_up V x t := by
  funext y
  unfold va_up
  by_cases h : y = x <;> simp [h]
theorem va_id {α : Type} {V : Nat → α} {x : Nat} : va_up V x (V x) = V := by
  funext y
  unfold va_up
  by_cases h : y = x <;> simp [h]
theorem e_jmax {a b : Nat} (ha : a < 1073741824) (hb : b < 1073741824) : jmax (nI 0) (nI a - nI b) = nI (a - b) := by
  unfold jmax
  by_cases h : b ≤ a
  · rw [e_sub h]
    by_cases h0 : 0 < a - b
    · rw [if_pos (by rw [e_lt (by omega) h0]; trivial)]
    · rw [if_neg (by rw [e_nlt (by omega) (by omega)]; exact id), show a - b = 0 by omega]
  · have e : nI a - nI b = -(nI (b - a)) := by
      rw [← e_sub (a := b) (b := a) (by omega), Int32.neg_sub]
    rw [e, if_neg (by rw [m_ngl (by omega) (by omega) (by omega)]; exact id), show a - b = 0 by omega]
theorem e_jmax2 {a : Nat} (ha : a < 1073741824) : jmax (nI 0) (nI a) = nI a := by
  have := e_jmax (a := a) (b := 0) ha (by omega)
  rw [e_sub (by omega), Nat.sub_zero] at this
  exact this
theorem e_jmin {a b : Nat} (ha : a < 2147483648) (hb : b < 2147483648) : jmin (nI a) (nI b) = nI (min a b) := by
  unfold jmin
  by_cases h : b < a
  · rw [if_pos (by rw [e_lt ha h]; trivial), Nat.min_eq_right (by omega)]
  · rw [if_neg (by rw [e_nlt hb (by omega)]; exact id), Nat.min_eq_left (by omega)]
theorem e_gr {a b : Nat} (ha : a < 1073741824) (hb : b < 1073741824) : pX9_greatest (nI 0) (nI a - nI b) = some (nI (a - b)) := by
  unfold pX9_greatest
  by_cases h : b ≤ a
  · rw [e_sub h]
    rw [if_pos (by rw [e_le (by omega) (by omega)]; trivial)]
  · have e : nI a - nI b = -(nI (b - a)) := by
      rw [← e_sub (a := b) (b := a) (by omega), Int32.neg_sub]
    rw [e, if_neg (by rw [m_le (by omega) (by omega) (by omega)]; exact id), show a - b = 0 by omega]
theorem e_gr2 {a b : Nat} (ha : a < 2147483648) (hb : b < 2147483648) : pX9_greatest (nI a) (nI b) = some (nI (max a b)) := by
  unfold pX9_greatest
  by_cases h : a ≤ b
  · rw [if_pos (by rw [e_le (by omega) h]; trivial), Nat.max_eq_right h]
  · rw [if_neg (by rw [e_nle (by omega) (by omega)]; exact id), Nat.max_eq_left (by omega)]
theorem e_ls {a b : Nat} (ha : a < 2147483648) (hb : b < 2147483648) : pX9_lesser (nI a) (nI b) = some (nI (min a b)) := by
  unfold pX9_lesser
  by_cases h : b ≤ a
  · rw [if_pos (by rw [e_le (by omega) h]; trivial), Nat.min_eq_right h]
  · rw [if_neg (by rw [e_nle (by omega) (by omega)]; exact id), Nat.min_eq_left (by omega)]
/-! bits of sets of six -/
def bt (f k : Nat) : Nat := f / 2 ^ k % 2
def stB (f k : Nat) : Nat := if bt f k = 1 then f else f + 2 ^ k
def clB (f k : Nat) : Nat := if bt f k = 1 then f - 2 ^ k else f
def pcA (f : Nat) : Nat := bt f 0 + bt f 1 + bt f 2 + bt f 3 + bt f 4 + bt f 5
def lwB (f : Nat) : Nat := f &&& (f - 1)
theorem bt_01 (f k : Nat) : bt f k = 0 ∨ bt f k = 1 := by unfold bt; omega
theorem bt_lt (f k : Nat) : bt f k < 2 := by unfold bt; omega
theorem b_flat : ∀ f, f < 64 → ∀ k, k < 6 → (nI f >>> (nI k &&& nI 31)) &&& nI 1 = nI (bt f k) := by decide +kernel
theorem b_set : ∀ f, f < 64 → ∀ k, k < 6 → nI f ||| (nI 1 <<< (nI k &&& nI 31)) = nI (stB f k) := by decide +kernel
theorem b_clr : ∀ f, f < 64 → ∀ k, k < 6 → nI f &&& ((nI 1 <<< (nI k &&& nI 31)) ^^^ (-(nI 1))) = nI (clB f k) := by decide +kernel
theorem b_cnt : ∀ f, f < 64 → pJ6_bitCount_0f7a4 (nI f) = some (nI (pcA f)) := by decide +kernel
theorem b_ntz : ∀ f, f < 64 → ∀ k, k < 6 → bt f k = 1 → (∀ j, j < k → bt f j = 0) → pJ6_numberOfTrailingZeros_0f7a4 (nI f) = some (nI k) := by decide +kernel
theorem b_one : ∀ k, k < 6 → nI 1 <<< (nI k &&& nI 31) = nI (2 ^ k) := by decide +kernel
theorem b_orz : ∀ f, f < 64 → ∀ x, x < 6 → nI (f % 2 ^ x) ||| (nI (bt f x) <<< (nI x &&& nI 31)) = nI (f % 2 ^ (x + 1)) := by decide +kernel
theorem b_low : ∀ f, f < 64 → f ≠ 0 → nI f &&& (nI f - nI 1) = nI (lwB f) ∧ pcA (lwB f) + 1 = pcA f ∧ lwB f < 64 := by decide +kernel
theorem b_or : ∀ f, f < 64 → ∀ g, g < 64 → nI f ||| nI g = nI (f ||| g) := by decide +kernel
theorem b_and : ∀ f, f < 64 → ∀ g, g < 64 → nI f &&& nI g = nI (f &&& g) := by decide +kernel
theorem b_orl : ∀ f, f < 64 → ∀ g, g < 64 → f ||| g < 64 := by decide +kernel
theorem b_sub : ∀ f, f < 64 → ∀ g, g < 64 → (nI g &&& (nI f ^^^ (-(nI 1))) = nI 0 ↔ nI f &&& nI g = nI g) := by decide +kernel
theorem b_ext : ∀ f, f < 64 → ∀ g, g < 64 → (∀ k, k < 6 → bt f k = bt g k) → f = g := by decide +kernel
theorem b_0 : ∀ k, k < 6 → bt 0 k = 0 := by decide
theorem stB_lt : ∀ f, f < 64 → ∀ k, k < 6 → stB f k < 64 := by decide +kernel
theorem clB_lt : ∀ f, f < 64 → ∀ k, k < 6 → clB f k < 64 := by decide +kernel
theorem stB_bt : ∀ f, f < 64 → ∀ k, k < 6 → ∀ j, j < 6 → bt (stB f k) j = if j = k then 1 else bt f j := by decide +kernel
theorem clB_bt : ∀ f, f < 64 → ∀ k, k < 6 → ∀ j, j < 6 → bt (clB f k) j = if j = k then 0 else bt f j := by decide +kernel
theorem pcA_le : ∀ f, f < 64 → pcA f ≤ 6 := by decide +kernel
theorem mod_all : ∀ f, f < 64 → ∀ c, c ≤ 6 → (∀ k, k < 6 → c ≤ k → bt f k = 0) → f % 2 ^ c = f := by decide +kernel
/-! sums and first ones -/
def smA (g : Nat → Nat) : Nat → Nat → Nat
  | _, 0 => 0
  | x, m + 1 => g x + smA g (x + 1) m
theorem smA_le {g : Nat → Nat} {B : Nat} : ∀ m x, (∀ k, x ≤ k → k < x + m → g k ≤ B) → smA g x m ≤ B * m
  | 0, _, _ => Nat.zero_le _
  | m + 1, x, h => by
    have h1 := h x (Nat.le_refl _) (by omega)
    have h2 := smA_le m (x + 1) fun k hk hl => h k (by omega) (by omega)
    unfold smA
    rw [Nat.mul_succ]; omega
theorem smA_congr {g g' : Nat → Nat} : ∀ m x, (∀ k, x ≤ k → k < x + m → g k = g' k) → smA g x m = smA g' x m
  | 0, _, _ => rfl
  | m + 1, x, h => by
    unfold smA
    rw [h x (Nat.le_refl _) (by omega), smA_congr m (x + 1) fun k hk hl => h k (by omega) (by omega)]
theorem smA_mul {g : Nat → Nat} {a : Nat} : ∀ m x, smA (fun k => a * g k) x m = a * smA g x m
  | 0, _ => rfl
  | m + 1, x => by
    unfold smA
    rw [smA_mul m (x + 1), Nat.mul_add]
/-- one more than the first place where it is so, else 0 -/
def fsA (p : Nat → Bool) : Nat → Nat → Nat
  | _, 0 => 0
  | x, m + 1 => if p x = true then x + 1 else fsA p (x + 1) m
theorem fsA_le {p : Nat → Bool} : ∀ m x, fsA p x m ≤ x + m
  | 0, _ => Nat.zero_le _
  | m + 1, x => by
    unfold fsA
    have := fsA_le (p := p) m (x + 1)
    split <;> omega
/-! what is told from outside -/
theorem wi {x : Int32} {lo hi : Nat} (hh : hi < 2147483648) (hl : lo < 2147483648) : (∃ k, lo ≤ k ∧ k ≤ hi ∧ x = nI k ∧ pX8_within x (nI lo) (nI hi) = some (nI 1) ∧ pX9_isIn x.toInt64 (lN lo) (lN hi) = some (nI 1)) ∨ (pX8_within x (nI lo) (nI hi) = some (nI 0) ∧ pX9_isIn x.toInt64 (lN lo) (lN hi) = some (nI 0)) := by
  have e1 : ∀ n, n < 2147483648 → ((lg_cmp x.toInt64 (lN n) < 0) ↔ x.toInt < n) := fun n hn => by
    rw [lg_cmp_lt, Int64.lt_iff_toInt_lt, Int32.toInt_toInt64, lN_toInt hn]
  have e2 : ∀ n, n < 2147483648 → ((0 < lg_cmp x.toInt64 (lN n)) ↔ (n : Int) < x.toInt) := fun n hn => by
    rw [lg_cmp_gt, Int64.lt_iff_toInt_lt, Int32.toInt_toInt64, lN_toInt hn]
  have e3 : ∀ n, n < 2147483648 → ((x < nI n) ↔ x.toInt < n) := fun n hn => by rw [Int32.lt_iff_toInt_lt, nI_toInt hn]
  have e4 : ∀ n, n < 2147483648 → ((nI n < x) ↔ (n : Int) < x.toInt) := fun n hn => by rw [Int32.lt_iff_toInt_lt, nI_toInt hn]
  unfold pX8_within pX9_isIn
  by_cases h1 : x.toInt < lo
  · right
    rw [if_pos ((e3 _ hl).mpr h1), if_pos ((e1 _ hl).mpr h1)]
    exact ⟨rfl, rfl⟩
  · rw [if_neg (fun q => h1 ((e3 _ hl).mp q)), if_neg (fun q => h1 ((e1 _ hl).mp q))]
    by_cases h2 : (hi : Int) < x.toInt
    · right
      rw [if_pos ((e4 _ hh).mpr h2), if_pos ((e2 _ hh).mpr h2)]
      exact ⟨rfl, rfl⟩
    · left
      rw [if_neg (fun q => h2 ((e4 _ hh).mp q)), if_neg (fun q => h2 ((e2 _ hh).mp q))]
      refine ⟨x.toInt.toNat, by omega, by omega, ?_, rfl, rfl⟩
      apply Int32.toInt_inj.mp
      rw [nI_toInt (by omega)]
      omega
/-- .. from 0 to one less than so many -/
theorem wc {x : Int32} {c : Nat} (hc : c < 2147483648) : (∃ k, k < c ∧ x = nI k ∧ pX8_within x (nI 0) (nI c - nI 1) = some (nI 1)) ∨ (pX8_within x (nI 0) (nI c - nI 1) = some (nI 0) ∧ (x < nI 0 ∨ ¬ x < nI 0 ∧ nI c ≤ x)) := by
  have e3 : ∀ n, n < 2147483648 → ((x < nI n) ↔ x.toInt < n) := fun n hn => by rw [Int32.lt_iff_toInt_lt, nI_toInt hn]
  have e5 : (nI c - nI 1).toInt = (c : Int) - 1 := by
    by_cases h : 1 ≤ c
    · rw [e_sub h, nI_toInt (by omega)]; omega
    · have : c = 0 := by omega
      subst this; decide
  have e4 : ((nI c - nI 1 < x) ↔ (c : Int) - 1 < x.toInt) := by rw [Int32.lt_iff_toInt_lt, e5]
  have e6 : (nI c ≤ x) ↔ (c : Int) ≤ x.toInt := by rw [Int32.le_iff_toInt_le, nI_toInt hc]
  unfold pX8_within
  by_cases h1 : x.toInt < (0 : Nat)
  · right
    rw [if_pos ((e3 0 (by omega)).mpr h1)]
    exact ⟨rfl, Or.inl ((e3 0 (by omega)).mpr h1)⟩
  · rw [if_neg (fun q => h1 ((e3 0 (by omega)).mp q))]
    by_cases h2 : (c : Int) - 1 < x.toInt
    · right
      rw [if_pos (e4.mpr h2)]
      exact ⟨rfl, Or.inr ⟨fun q => h1 ((e3 0 (by omega)).mp q), e6.mpr (by omega)⟩⟩
    · left
      rw [if_neg (fun q => h2 (e4.mp q))]
      refine ⟨x.toInt.toNat, by omega, ?_, rfl⟩
      apply Int32.toInt_inj.mp
      rw [nI_toInt (by omega)]
      omega
