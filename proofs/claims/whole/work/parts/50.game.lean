/-! games -/
section P4
variable {n z b : Nat} {G Gm : G2} {R : R2}
/-- what a game may write -/
def GF (z : Nat) (V V' : V2) (d : Nat) : Prop := (∀ x, (x < z + 36 ∨ z + 37 ≤ x ∧ x < z + 40 + 5 * (d + 1) ∨ z + 64 < x) → V' x = V x) ∧ ∀ k, k ≠ 9 → V' (z + 36) k = V (z + 36) k
def GG (b : Nat) (U U' : V2) (d : Nat) : Prop := (∀ y, y ≠ b → y ≠ b + 3 → U' y = U y) ∧ (∀ k, k ≠ 21 → U' b k = U b k) ∧ ∀ i, i < 38 * d → U' (b + 3) i = U (b + 3) i
theorem GF.rf {V : V2} {d : Nat} : GF z V V d := ⟨fun _ _ => rfl, fun _ _ => rfl⟩
theorem GF.tr {V V' V'' : V2} {d : Nat} (h : GF z V V' d) (h2 : GF z V' V'' d) : GF z V V'' d := ⟨fun x hx => (h2.1 x hx).trans (h.1 x hx), fun k hk => (h2.2 k hk).trans (h.2 k hk)⟩
theorem p_game (hn : 1000 ≤ n) (hR : ST z G R) {E : En} (iE : IE E) {len nn w0 : Nat} (hl : len ≤ 4) (hnn : nn ≤ 4) (hln : len ≤ nn) (hend : len = nn ∨ E_en E ≤ w0 + len) (hlen : ∀ d, d < len → w0 + d < E_en E) :
    ∀ m d D D' {V U : V2} {L : Ld}, d + m = len → m < D → m < D' → V (z + 36) 4 = nI len → EC G V R z (z + 1) E → LC V (z + 40 + 5 * d) L → ME (U (b + 1)) E → MC (U (b + 1)) L → IL L → L_w L = w0 + d →
    ∃ v V' U', pX6_valueFrom D n G V R (z + 36) (z + 1) (nI d) = some (v, V') ∧ pX9_valueFrom D' n U b (nI d) (nI nn) = some (v, U') ∧ GF z V V' d ∧ GG b U U' d ∧ U' (b + 1) = U (b + 1) ∧ (d = 0 → 0 < m → V' (z + 36) 9 = U' b 21) ∧ (0 < d → V' (z + 36) 9 = V (z + 36) 9) := by
  intro m
  induction m with
  | zero =>
    intro d D D' V U L h1 h2 h3 s6 hE hL mE mC iL hw
    obtain ⟨D, rfl⟩ : ∃ g, D = g + 1 := ⟨D - 1, by omega⟩
    obtain ⟨D', rfl⟩ : ∃ g, D' = g + 1 := ⟨D' - 1, by omega⟩
    have hd : d = len := by omega
    subst hd
    refine ⟨nI 0, V, U, ?_, ?_, GF.rf, ⟨fun _ _ _ => rfl, fun _ _ => rfl, fun _ _ => rfl⟩, rfl, fun _ q => absurd q (by omega), fun _ => rfl⟩
    · show fX6_valueFrom (pX6_valueFrom D) n G V R (z + 36) (z + 1) (nI d) = _
      unfold fX6_valueFrom
      simp (disch := omega) only [s6, e_nlt, ↓reduceIte, li_0]
    · show fX9_valueFrom (pX9_valueFrom D') n U b (nI d) (nI nn) = _
      unfold fX9_valueFrom
      by_cases q : d = nn
      · simp (disch := omega) only [e_eq, ↓reduceIte, li_0]
      · have q2 : E_en E ≤ L_w L := by omega
        simp (disch := omega) only [e_neq, ↓reduceIte, li_0, m_over mE iE mC iL, q2, o_b, e_10]
  | succ m ih =>
    intro d D D' V U L h1 h2 h3 s6 hE hL mE mC iL hw
    obtain ⟨D, rfl⟩ : ∃ g, D = g + 1 := ⟨D - 1, by omega⟩
    obtain ⟨D', rfl⟩ : ∃ g, D' = g + 1 := ⟨D' - 1, by omega⟩
    have hd : d < len := by omega
    have hc := iL.2.1
    have hov := hlen d hd
    have he := iE.2.1
    obtain ⟨U1, g1, g2, g3, g4⟩ := m_aside (n := n) (b := b) (U := U) hn (lv := d) (by omega)
    obtain ⟨jj, hjj, ejj⟩ : ∃ jj : Int32, (jj = 0 ↔ ¬ jrem (nI d) 2 = 0) ∧ (if jrem (nI d) 2 = 0 then (1 : Int32) else 0) = jj := by
      refine ⟨_, ?_, rfl⟩
      by_cases q : jrem (nI d) 2 = 0
      · rw [if_pos q]; simp [q]
      · rw [if_neg q]; simp [q]
    have loop : ∀ k x f f' {V1 U1 : V2} {va fi : Int32}, x + k = L_c L + 1 → k < f → k < f' → GF z V V1 d → GG b U U1 d → U1 (b + 1) = U (b + 1) → AS b d U1 (U (b + 1)) → (x = 0 → fi = -(nI 1)) → (0 < x → ¬ fi < 0 ∧ (d = 0 → V1 (z + 36) 9 = fi)) → (0 < d → V1 (z + 36) 9 = V (z + 36) 9) → ∃ v w V' U', lX6_valueFrom_46 (pX6_valueFrom D) n G R (z + 36) (z + 1) (nI d) (z + 40 + 5 * d) (z + 40 + 5 * (d + 1)) jj f V1 va (nI x) = some (V', v) ∧ lX9_valueFrom_27 (pX9_valueFrom D') n b (nI d) (nI nn) f' U1 va fi (nI x) = some (U', v, w) ∧ GF z V V' d ∧ GG b U U' d ∧ U' (b + 1) = U (b + 1) ∧ (d = 0 → V' (z + 36) 9 = w) ∧ (0 < d → V' (z + 36) 9 = V (z + 36) 9) := by
      intro k
      induction k with
      | zero =>
        intro x f f' V1 U1 va fi k1 k2 k3 kF kG ku kA kf0 kf1 k9
        obtain ⟨f, rfl⟩ : ∃ g, f = g + 1 := ⟨f - 1, by omega⟩
        obtain ⟨f', rfl⟩ : ∃ g, f' = g + 1 := ⟨f' - 1, by omega⟩
        have t1 : V1 (z + 40 + 5 * d) 1 = nI (L_c L) := by rw [kF.1 _ (by omega)]; exact hL.2.1
        have t2 : U1 (b + 1) 0 = nI (L_c L) := by rw [ku]; exact mC.2.1
        refine ⟨va, fi, V1, U1, ?_, ?_, kF, kG, ku, (kf1 (by omega)).2, k9⟩
        · unfold lX6_valueFrom_46
          simp (disch := omega) only [t1, e_lt, ↓reduceIte]
        · unfold lX9_valueFrom_27
          simp (disch := omega) only [li_0, e_ld, o_b, t2, e_lt, ↓reduceIte]
      | succ k ihk =>
        intro x f f' V1 U1 va fi k1 k2 k3 kF kG ku kA kf0 kf1 k9
        obtain ⟨f, rfl⟩ : ∃ g, f = g + 1 := ⟨f - 1, by omega⟩
        obtain ⟨f', rfl⟩ : ∃ g, f' = g + 1 := ⟨f' - 1, by omega⟩
        have hx : x ≤ L_c L := by omega
        have t1 : V1 (z + 40 + 5 * d) 1 = nI (L_c L) := by rw [kF.1 _ (by omega)]; exact hL.2.1
        have t2 : U1 (b + 1) 0 = nI (L_c L) := by rw [ku]; exact mC.2.1
        have kE : EC G V1 R z (z + 1) E := hE.fr (by rw [kF.1 _ (by omega)]) (by rw [kF.1 _ (by omega)]) fun y hy => kF.1 y (by omega)
        have kL : LC V1 (z + 40 + 5 * d) L := hL.fr fun y h1 h2 => kF.1 y (by omega)
        obtain ⟨W1, W2, w1, w2, w3, w4, w5, w6⟩ := p_step (d := d) (t := x) hn (by omega) kE iE kL iL hx (W := fun Q => Q) (fun Q y hy => rfl)
        have w4' : ∀ y, (y < z + 40 + 5 * (d + 1) ∨ z + 40 + 5 * (d + 1) + 4 < y) → W2 y = V1 y := fun y hy => by
          by_cases q : y = z + 38
          · rw [q, w5, w6]
          · exact w4 y q hy
        have mE1 : ME (U1 (b + 1)) E := by rw [ku]; exact mE
        have mC1 : MC (U1 (b + 1)) L := by rw [ku]; exact mC
        obtain ⟨Y2, y1, y2, y3, -⟩ := m_goes hn mE1 iE mC1 iL hx
        have iL' := goL_IL (E := E) (a := x) iL hx (by omega)
        obtain ⟨v3, V3, U3, b1, b2, b3, b4, b5, -, b7⟩ := ih (d + 1) D D' (V := W2) (U := Y2) (L := goL E L x) (by omega) (by omega) (by omega) (by rw [w4' _ (by omega), kF.2 _ (by omega)]; exact s6) (kE.fr (by rw [w4' _ (by omega)]) (by rw [w4' _ (by omega)]) fun y hy => w4' y (by omega)) w3 (mE1.mf y3) y2 iL' (by rw [goL_w]; omega)
        have as3 : AS b d U3 (U (b + 1)) := fun i hi => by
          rw [b4.2.2 _ (by omega), y3.1 _ (by omega)]
          exact kA i hi
        obtain ⟨U4, c1, c2, c3⟩ := m_restore (n := n) (b := b) (U := U3) hn (lv := d) (by omega) as3 (fun i hi => by rw [b5, y3.2 i (by omega), ku])
        have GF3 : GF z V V3 d := ⟨fun y hy => by
          rw [b3.1 y (by omega), w4' y (by omega)]
          exact kF.1 y hy, fun i hi => by rw [b3.2 i hi, w4' _ (by omega)]; exact kF.2 i hi⟩
        have n9 : V3 (z + 36) 9 = V1 (z + 36) 9 := by rw [b7 (by omega), w4' _ (by omega)]
        have GG4 : GG b U U4 d := by
          refine ⟨fun y e1 e2 => ?_, fun i hi => ?_, fun i hi => ?_⟩
          · by_cases q : y = b + 1
            · rw [q, c3]
            · rw [c2 y q, b4.1 y e1 e2, y3.1 y q, kG.1 y e1 e2]
          · rw [c2 _ (by omega), b4.2.1 i hi, y3.1 _ (by omega), kG.2.1 i hi]
          · rw [c2 _ (by omega), b4.2.2 i (by omega), y3.1 _ (by omega), kG.2.2 i hi]
        have as4 : AS b d U4 (U (b + 1)) := fun i hi => by rw [c2 _ (by omega)]; exact as3 i hi
        obtain ⟨vv, hvv⟩ : ∃ vv, vv = nI (goW E L x) + v3 := ⟨_, rfl⟩
        -- it is taken
        have take : ∃ v w V' U', (if nI d = 0 then letv (up2 V3 (z + 36) 9 (nI x)) fun U18 => letv (nI x + 1) fun x19 => lX6_valueFrom_46 (pX6_valueFrom D) n G R (z + 36) (z + 1) (nI d) (z + 40 + 5 * d) (z + 40 + 5 * (d + 1)) jj f U18 vv x19 else letv (nI x + 1) fun x20 => lX6_valueFrom_46 (pX6_valueFrom D) n G R (z + 36) (z + 1) (nI d) (z + 40 + 5 * d) (z + 40 + 5 * (d + 1)) jj f V3 vv x20) = some (V', v) ∧ lX9_valueFrom_27 (pX9_valueFrom D') n b (nI d) (nI nn) f' U4 vv (nI x) (nI x + 1) = some (U', v, w) ∧ GF z V V' d ∧ GG b U U' d ∧ U' (b + 1) = U (b + 1) ∧ (d = 0 → V' (z + 36) 9 = w) ∧ (0 < d → V' (z + 36) 9 = V (z + 36) 9) := by
          by_cases q : d = 0
          · have q' : (nI d = (0 : Int32)) := by rw [q]; rfl
            rw [if_pos q']
            obtain ⟨v, w, V', U', e1, e2, e3⟩ := ihk (x + 1) f f' (V1 := up2 V3 (z + 36) 9 (nI x)) (U1 := U4) (va := vv) (fi := nI x) (by omega) (by omega) (by omega) (GF3.tr ⟨fun y hy => w_row (by omega), fun i hi => w_idx hi⟩) GG4 c3 as4 (fun q => absurd q (by omega)) (fun _ => ⟨by rw [li_0, e_nlt (by omega) (by omega)]; exact id, fun _ => w_same⟩) (fun q2 => absurd q2 (by omega))
            refine ⟨v, w, V', U', ?_, ?_, e3⟩
            · simp only [letv, li_1, e_add]
              exact e1
            · rw [li_1, e_add]
              exact e2
          · have q' : ¬ (nI d = (0 : Int32)) := by rw [li_0, e_neq (by omega) (by omega) q]; exact id
            rw [if_neg q']
            obtain ⟨v, w, V', U', e1, e2, e3⟩ := ihk (x + 1) f f' (V1 := V3) (U1 := U4) (va := vv) (fi := nI x) (by omega) (by omega) (by omega) GF3 GG4 c3 as4 (fun q => absurd q (by omega)) (fun _ => ⟨by rw [li_0, e_nlt (by omega) (by omega)]; exact id, fun q2 => absurd q2 q⟩) (fun q2 => by rw [n9]; exact k9 q2)
            refine ⟨v, w, V', U', ?_, ?_, e3⟩
            · simp only [letv, li_1, e_add]
              exact e1
            · rw [li_1, e_add]
              exact e2
        -- it is left
        have leave : 0 < x → ∃ v w V' U', lX6_valueFrom_46 (pX6_valueFrom D) n G R (z + 36) (z + 1) (nI d) (z + 40 + 5 * d) (z + 40 + 5 * (d + 1)) jj f V3 va (nI x + 1) = some (V', v) ∧ lX9_valueFrom_27 (pX9_valueFrom D') n b (nI d) (nI nn) f' U4 va fi (nI x + 1) = some (U', v, w) ∧ GF z V V' d ∧ GG b U U' d ∧ U' (b + 1) = U (b + 1) ∧ (d = 0 → V' (z + 36) 9 = w) ∧ (0 < d → V' (z + 36) 9 = V (z + 36) 9) := fun hx0 => by
          obtain ⟨v, w, V', U', e1, e2, e3⟩ := ihk (x + 1) f f' (V1 := V3) (U1 := U4) (va := va) (fi := fi) (by omega) (by omega) (by omega) GF3 GG4 c3 as4 (fun q => absurd q (by omega)) (fun _ => ⟨(kf1 hx0).1, fun q2 => by rw [n9]; exact (kf1 hx0).2 q2⟩) (fun q2 => by rw [n9]; exact k9 q2)
          refine ⟨v, w, V', U', ?_, ?_, e3⟩
          · rw [li_1, e_add]
            exact e1
          · rw [li_1, e_add]
            exact e2
        by_cases x0 : x = 0
        · obtain ⟨v, w, V', U', e1, e2, e3⟩ := take
          refine ⟨v, w, V', U', ?_, ?_, e3⟩
          · rw [← e1, hvv]
            conv => lhs; unfold lX6_valueFrom_46
            have z0 : (nI x = (0 : Int32)) := by rw [x0]; rfl
            have t3 : (nI (L_c L) < nI x) = False := e_nlt (by omega) (by omega)
            have w2' : pX1_goBy n G W1 R (z + 1) (z + 40 + 5 * (d + 1)) (nI x) = some (nI (goW E L x), W2) := w2
            have b1' : pX6_valueFrom D n G W2 R (z + 36) (z + 1) (nI d + 1) = some (v3, V3) := by rw [li_1, e_add]; exact b1
            simp only [t1, t3, ↓reduceIte, w1, o_b, w2', b1', letv]
            rw [if_pos z0]
          · rw [← e2, hvv]
            conv => lhs; unfold lX9_valueFrom_27
            have t3 : (nI (L_c L) < nI x) = False := e_nlt (by omega) (by omega)
            have b2' : pX9_valueFrom D' n Y2 b (nI d + 1) (nI nn) = some (v3, U3) := by rw [li_1, e_add]; exact b2
            have fi0 : (fi < (0 : Int32)) := by rw [kf0 x0]; decide
            have ld0 : ldI 572 (U1 (b + 1)) 0 = some (nI (L_c L)) := by rw [li_0, e_ld (by omega) (by omega), t2]
            simp only [ld0, o_b, t3, ↓reduceIte, y1, b2', letv, c1, fi0]
        · have xn : ¬ (nI x = (0 : Int32)) := by rw [li_0, e_neq (by omega) (by omega) x0]; exact id
          have fin := (kf1 (by omega)).1
          have t3 : (nI (L_c L) < nI x) = False := e_nlt (by omega) (by omega)
          have w2' : pX1_goBy n G W1 R (z + 1) (z + 40 + 5 * (d + 1)) (nI x) = some (nI (goW E L x), W2) := w2
          have b1' : pX6_valueFrom D n G W2 R (z + 36) (z + 1) (nI d + 1) = some (v3, V3) := by rw [li_1, e_add]; exact b1
          have b2' : pX9_valueFrom D' n Y2 b (nI d + 1) (nI nn) = some (v3, U3) := by rw [li_1, e_add]; exact b2
          have ld0 : ldI 572 (U1 (b + 1)) 0 = some (nI (L_c L)) := by rw [li_0, e_ld (by omega) (by omega), t2]
          by_cases pj : jrem (nI d) 2 = 0
          · have pj' : ¬ jj = 0 := fun q => (hjj.mp q) pj
            by_cases pv : nI (goW E L x) + v3 ≤ va
            · obtain ⟨v, w, V', U', e1, e2, e3⟩ := leave (by omega)
              refine ⟨v, w, V', U', ?_, ?_, e3⟩
              · rw [← e1]
                conv => lhs; unfold lX6_valueFrom_46
                simp only [t1, t3, ↓reduceIte, w1, o_b, w2', b1', letv, xn, pj', pv]
              · rw [← e2]
                conv => lhs; unfold lX9_valueFrom_27
                simp only [ld0, o_b, t3, ↓reduceIte, y1, b2', letv, c1, fin, pj, pv]
            · obtain ⟨v, w, V', U', e1, e2, e3⟩ := take
              refine ⟨v, w, V', U', ?_, ?_, e3⟩
              · rw [← e1, hvv]
                conv => lhs; unfold lX6_valueFrom_46
                simp only [t1, t3, ↓reduceIte, w1, o_b, w2', b1', letv, xn, pj', pv]
              · rw [← e2, hvv]
                conv => lhs; unfold lX9_valueFrom_27
                simp only [ld0, o_b, t3, ↓reduceIte, y1, b2', letv, c1, fin, pj, pv]
          · have pj' : jj = 0 := hjj.mpr pj
            by_cases pv : va ≤ nI (goW E L x) + v3
            · obtain ⟨v, w, V', U', e1, e2, e3⟩ := leave (by omega)
              refine ⟨v, w, V', U', ?_, ?_, e3⟩
              · rw [← e1]
                conv => lhs; unfold lX6_valueFrom_46
                simp only [t1, t3, ↓reduceIte, w1, o_b, w2', b1', letv, xn, pj', pv]
              · rw [← e2]
                conv => lhs; unfold lX9_valueFrom_27
                simp only [ld0, o_b, t3, ↓reduceIte, y1, b2', letv, c1, fin, pj, pv]
            · obtain ⟨v, w, V', U', e1, e2, e3⟩ := take
              refine ⟨v, w, V', U', ?_, ?_, e3⟩
              · rw [← e1, hvv]
                conv => lhs; unfold lX6_valueFrom_46
                simp only [t1, t3, ↓reduceIte, w1, o_b, w2', b1', letv, xn, pj', pv]
              · rw [← e2, hvv]
                conv => lhs; unfold lX9_valueFrom_27
                simp only [ld0, o_b, t3, ↓reduceIte, y1, b2', letv, c1, fin, pj, pv]
    obtain ⟨v, w, V', U', l1, l2, l3, l4, l5, l6, l7⟩ := loop (L_c L + 1) 0 n n (V1 := V) (U1 := U1) (va := 0) (fi := -1) (by omega) (by omega) (by omega) GF.rf ⟨fun y e1 e2 => g2 y e2, fun k hk => by rw [g2 _ (by omega)], fun i hi => g3 i (by omega)⟩ (g2 _ (by omega)) g4 (fun _ => rfl) (fun q => absurd q (by omega)) (fun _ => rfl)
    refine ⟨v, V', up2 U' b 21 w, ?_, ?_, l3, ⟨fun y e1 e2 => by rw [w_row e1]; exact l4.1 y e1 e2, fun k hk => by rw [w_idx hk]; exact l4.2.1 k hk, fun i hi => by rw [w_row (by omega)]; exact l4.2.2 i hi⟩, by rw [w_row (by omega)]; exact l5, fun q _ => by rw [w_same]; exact l6 q, l7⟩
    · show fX6_valueFrom (pX6_valueFrom D) n G V R (z + 36) (z + 1) (nI d) = _
      unfold fX6_valueFrom
      obtain ⟨r1, r2⟩ := hR d (by omega)
      obtain ⟨r3, r4⟩ := hR (d + 1) (by omega)
      have r1' : R (z + 36 + 1) d = some (z + 40 + 5 * d) := r1
      have r3' : R (z + 36 + 1) (d + 1) = some (z + 40 + 5 * (d + 1)) := r3
      have lt : (nI d < nI len) = True := e_lt (by omega) hd
      have a1 : nI d + 1 = nI (d + 1) := by rw [li_1, e_add]
      have l1' : lX6_valueFrom_46 (pX6_valueFrom D) n G R (z + 36) (z + 1) (nI d) (z + 40 + 5 * d) (z + 40 + 5 * (d + 1)) jj n V 0 0 = some (V', v) := l1
      simp (disch := omega) only [s6, lt, ↓reduceIte, o_ld, o_b, r1', ocase, r2, a1, r3', r4, letv, ejj, l1']
    · show fX9_valueFrom (pX9_valueFrom D') n U b (nI d) (nI nn) = _
      unfold fX9_valueFrom
      have q2 : ¬ E_en E ≤ L_w L := by omega
      rw [m_over mE iE mC iL, if_neg q2]
      have q3 : (nI d = nI nn) = False := e_neq (by omega) (by omega) (by omega)
      have l2' : lX9_valueFrom_27 (pX9_valueFrom D') n b (nI d) (nI nn) n U1 0 (-1) 0 = some (U', v, w) := l2
      have z0 : (nI 0 = (0 : Int32)) := rfl
      simp only [letv, q3, ↓reduceIte, o_b, z0, g1, l2']
end P4
section P5
variable {n z b : Nat} {V : V2} {R : R2} {G Gm : G2} {U : V2}
theorem bothG (hn : 1000 ≤ n) (h : RelB z b V R G U) {nn : Nat} (hnn : nn ≤ 4) (hn1 : 1 ≤ nn) : ∃ v V' U', pX6_gameOf n G V R (z + 36) (z + 1) (nI nn) = some (v, V') ∧ pX9_valueFrom 6 n U b (nI 0) (nI nn) = some (v, U') ∧ (∀ x, (x < z + 31 ∨ z + 64 < x) → V' x = V x) ∧ U' (b + 1) = U (b + 1) ∧ OU b U U' ∧ (∀ E L rn rp, NQ G V R z (z + 1) (U (b + 1)) E L rn rp → L_w L < E_en E → V' (z + 36) 9 = U' b 21) := by
  obtain ⟨hW, ⟨E, L, rn, rp, hN⟩, hO⟩ := id h
  obtain ⟨iE, iL, hw, hE, hL, mE, mC, hs, hz, pC, pM, iR⟩ := nw_parts hN
  have hR := hO.2.2.2.2.2.2
  have he := iE.2.1
  obtain ⟨V1, c1, c2, c3, c4⟩ := c_begin hE iE hL iL hw hnn hR
  obtain ⟨len, hlen⟩ : ∃ len, len = min nn (E_en E - L_w L) := ⟨_, rfl⟩
  rw [← hlen] at c3
  have va : ∀ x, x ≠ z + 36 → up2 V1 (z + 36) 9 (nI 0) x = V1 x := fun x hx => w_row hx
  have hE1 : EC G (up2 V1 (z + 36) 9 (nI 0)) R z (z + 1) E := hE.fr (by rw [va _ (by omega), c4 _ (by omega) (by omega)]) (by rw [va _ (by omega), c4 _ (by omega) (by omega)]) fun x hx => by rw [va _ (by omega), c4 _ (by omega) (by omega)]
  have hL1 : LC (up2 V1 (z + 36) 9 (nI 0)) (z + 40 + 5 * 0) L := (show LC V1 (z + 40 + 5 * 0) L from c2).fr fun x h1 h2 => va x (by omega)
  obtain ⟨v, V', U', a1, a2, a3, a4, a5, a6, a7⟩ := p_game (n := n) (b := b) (len := len) (nn := nn) (w0 := L_w L) hn hR iE (by omega) hnn (by omega) (by omega) (fun d hd => by omega) len 0 6 6 (V := up2 V1 (z + 36) 9 (nI 0)) (U := U) (L := L) (by omega) (by omega) (by omega) (by rw [w_idx (by omega)]; exact c3) hE1 hL1 mE mC iL rfl
  refine ⟨v, V', U', ?_, a2, fun x hx => ?_, a5, ?_, fun E' L' rn' rp' hN' hlt => ?_⟩
  · unfold pX6_gameOf
    have a1' : pX6_valueFrom 6 n G (up2 V1 (z + 36) 9 (nI 0)) R (z + 36) (z + 1) (nI 0) = some (v, V') := a1
    simp only [c1, o_b, letv, li_0, a1']
  · rw [a3.1 x (by omega), va x (by omega), c4 x (by omega) (by omega)]
  · exact ⟨a4.2.1 _ (by omega), a4.2.1 _ (by omega), a4.2.1 _ (by omega), a4.2.1 _ (by omega), fun y hy => a4.1 y (by omega) (by omega)⟩
  · obtain ⟨iE', iL', -, hE', hL', -⟩ := nw_parts hN'
    have e1 : E_en E' = E_en E := (nI_eq (by have := iE'.2.1; omega) (by omega)).mp (hE'.1.symm.trans hE.1)
    have e2 : L_w L' = L_w L := (nI_eq (by have := iL'.1; omega) (by have := iL.1; omega)).mp (hL'.1.symm.trans hL.1)
    exact a6 rfl (by omega)
theorem ok_game' (hn : 1000 ≤ n) (h : RelB z b V R G U) (a1 : Int32) : ∃ o om, pX8_game n G V R z a1 = some o ∧ pX9_game n U b a1 = some om ∧ o.1 = om.1 ∧ RelB z b o.2 R G om.2 := by
  unfold pX8_game pX9_game
  rcases wi (x := a1) (lo := 1) (hi := 4) (by omega) (by omega) with ⟨nn, hn1, hnn, rfl, w1, w2⟩ | ⟨w1, w2⟩
  · obtain ⟨v, V', U', c1, c2, c3, c4, c5, c6⟩ := bothG hn h hnn hn1
    exact pk (x := v) (by simp (disch := omega) only [w1, e_10, c1, letv, o_b, ↓reduceIte, e_sub, e_add, e_mul, e_ld, e_st, e_lt, e_nlt, e_le, e_nle, e_eq, e_neq, e_div, e_rem, m_lt, m_le, m_eq, m_eq2, m_ng, o_ld, true_and, and_true, Nat.one_ne_zero, Nat.zero_ne_one, Nat.reduceEqDiff, Bool.false_eq_true, not_true_eq_false, not_false_eq_true, li_0, li_1, li_2, li_3, li_4, li_5, li_6, li_7, li_8, li_9, li_10, li_11, li_12, li_13, li_14, li_15, li_16, li_20, li_23, li_25, li_30, li_31, li_32, li_38, li_40, li_41, li_44, li_48, li_50, li_51, li_52, li_57, li_59, li_60, li_61, li_62, li_63, li_66, li_81, li_94, li_97, li_98, li_99, li_100, li_101, li_103, li_104, li_105, li_107, li_108, li_109, li_110, li_111, li_112, li_114, li_115, li_116, li_117, li_118, li_122, li_200, li_572, li_600, li_9999, li_10000, li_12345, li_1103515245]) (by simp (disch := omega) only [lj_1, lj_4, w2, e_10, c2, letv, o_b, ↓reduceIte, e_sub, e_add, e_mul, e_ld, e_st, e_lt, e_nlt, e_le, e_nle, e_eq, e_neq, e_div, e_rem, m_lt, m_le, m_eq, m_eq2, m_ng, o_ld, true_and, and_true, Nat.one_ne_zero, Nat.zero_ne_one, Nat.reduceEqDiff, Bool.false_eq_true, not_true_eq_false, not_false_eq_true, li_0, li_1, li_2, li_3, li_4, li_5, li_6, li_7, li_8, li_9, li_10, li_11, li_12, li_13, li_14, li_15, li_16, li_20, li_23, li_25, li_30, li_31, li_32, li_38, li_40, li_41, li_44, li_48, li_50, li_51, li_52, li_57, li_59, li_60, li_61, li_62, li_63, li_66, li_81, li_94, li_97, li_98, li_99, li_100, li_101, li_103, li_104, li_105, li_107, li_108, li_109, li_110, li_111, li_112, li_114, li_115, li_116, li_117, li_118, li_122, li_200, li_572, li_600, li_9999, li_10000, li_12345, li_1103515245]) rfl (h.ask (tr_NF c3) (tr_OV c3) c4 c5)
  · exact pkx (-(nI 1)) (by simp (disch := omega) only [w1, letv, o_b, ↓reduceIte, e_sub, e_add, e_mul, e_ld, e_st, e_lt, e_nlt, e_le, e_nle, e_eq, e_neq, e_div, e_rem, m_lt, m_le, m_eq, m_eq2, m_ng, o_ld, true_and, and_true, Nat.one_ne_zero, Nat.zero_ne_one, Nat.reduceEqDiff, Bool.false_eq_true, not_true_eq_false, not_false_eq_true, li_0, li_1, li_2, li_3, li_4, li_5, li_6, li_7, li_8, li_9, li_10, li_11, li_12, li_13, li_14, li_15, li_16, li_20, li_23, li_25, li_30, li_31, li_32, li_38, li_40, li_41, li_44, li_48, li_50, li_51, li_52, li_57, li_59, li_60, li_61, li_62, li_63, li_66, li_81, li_94, li_97, li_98, li_99, li_100, li_101, li_103, li_104, li_105, li_107, li_108, li_109, li_110, li_111, li_112, li_114, li_115, li_116, li_117, li_118, li_122, li_200, li_572, li_600, li_9999, li_10000, li_12345, li_1103515245]) (by simp (disch := omega) only [lj_1, lj_4, w2, letv, o_b, ↓reduceIte, e_sub, e_add, e_mul, e_ld, e_st, e_lt, e_nlt, e_le, e_nle, e_eq, e_neq, e_div, e_rem, m_lt, m_le, m_eq, m_eq2, m_ng, o_ld, true_and, and_true, Nat.one_ne_zero, Nat.zero_ne_one, Nat.reduceEqDiff, Bool.false_eq_true, not_true_eq_false, not_false_eq_true, li_0, li_1, li_2, li_3, li_4, li_5, li_6, li_7, li_8, li_9, li_10, li_11, li_12, li_13, li_14, li_15, li_16, li_20, li_23, li_25, li_30, li_31, li_32, li_38, li_40, li_41, li_44, li_48, li_50, li_51, li_52, li_57, li_59, li_60, li_61, li_62, li_63, li_66, li_81, li_94, li_97, li_98, li_99, li_100, li_101, li_103, li_104, li_105, li_107, li_108, li_109, li_110, li_111, li_112, li_114, li_115, li_116, li_117, li_118, li_122, li_200, li_572, li_600, li_9999, li_10000, li_12345, li_1103515245]) h
theorem ok_play' (hn : 1000 ≤ n) (h : RelB z b V R G U) (a1 : Int32) : ∃ o om, pX8_play n G V R z a1 = some o ∧ pX9_play n U b a1 = some om ∧ o.1 = om.1 ∧ RelB z b o.2 R G om.2 := by
  obtain ⟨hW, ⟨E, L, rn, rp, hN⟩, hO⟩ := id h
  obtain ⟨iE, iL, hw, hE, hL, mE, mC, hs, hz, pC, pM, iR⟩ := nw_parts hN
  unfold pX8_play pX9_play
  rcases wi (x := a1) (lo := 1) (hi := 4) (by omega) (by omega) with ⟨nn, hn1, hnn, rfl, w1, w2⟩ | ⟨w1, w2⟩
  · by_cases q : E_en E ≤ L_w L
    · exact pkx (-(nI 3)) (by simp (disch := omega) only [w1, e_10, c_over hE iE hL iL, q, letv, o_b, ↓reduceIte, e_sub, e_add, e_mul, e_ld, e_st, e_lt, e_nlt, e_le, e_nle, e_eq, e_neq, e_div, e_rem, m_lt, m_le, m_eq, m_eq2, m_ng, o_ld, true_and, and_true, Nat.one_ne_zero, Nat.zero_ne_one, Nat.reduceEqDiff, Bool.false_eq_true, not_true_eq_false, not_false_eq_true, li_0, li_1, li_2, li_3, li_4, li_5, li_6, li_7, li_8, li_9, li_10, li_11, li_12, li_13, li_14, li_15, li_16, li_20, li_23, li_25, li_30, li_31, li_32, li_38, li_40, li_41, li_44, li_48, li_50, li_51, li_52, li_57, li_59, li_60, li_61, li_62, li_63, li_66, li_81, li_94, li_97, li_98, li_99, li_100, li_101, li_103, li_104, li_105, li_107, li_108, li_109, li_110, li_111, li_112, li_114, li_115, li_116, li_117, li_118, li_122, li_200, li_572, li_600, li_9999, li_10000, li_12345, li_1103515245]) (by simp (disch := omega) only [lj_1, lj_4, w2, e_10, m_over mE iE mC iL, q, letv, o_b, ↓reduceIte, e_sub, e_add, e_mul, e_ld, e_st, e_lt, e_nlt, e_le, e_nle, e_eq, e_neq, e_div, e_rem, m_lt, m_le, m_eq, m_eq2, m_ng, o_ld, true_and, and_true, Nat.one_ne_zero, Nat.zero_ne_one, Nat.reduceEqDiff, Bool.false_eq_true, not_true_eq_false, not_false_eq_true, li_0, li_1, li_2, li_3, li_4, li_5, li_6, li_7, li_8, li_9, li_10, li_11, li_12, li_13, li_14, li_15, li_16, li_20, li_23, li_25, li_30, li_31, li_32, li_38, li_40, li_41, li_44, li_48, li_50, li_51, li_52, li_57, li_59, li_60, li_61, li_62, li_63, li_66, li_81, li_94, li_97, li_98, li_99, li_100, li_101, li_103, li_104, li_105, li_107, li_108, li_109, li_110, li_111, li_112, li_114, li_115, li_116, li_117, li_118, li_122, li_200, li_572, li_600, li_9999, li_10000, li_12345, li_1103515245]) h
    · obtain ⟨v, V', U', c1, c2, c3, c4, c5, c6⟩ := bothG hn h hnn hn1
      exact pk (by simp (disch := omega) only [w1, e_10, c_over hE iE hL iL, q, c1, letv, o_b, ↓reduceIte, e_sub, e_add, e_mul, e_ld, e_st, e_lt, e_nlt, e_le, e_nle, e_eq, e_neq, e_div, e_rem, m_lt, m_le, m_eq, m_eq2, m_ng, o_ld, true_and, and_true, Nat.one_ne_zero, Nat.zero_ne_one, Nat.reduceEqDiff, Bool.false_eq_true, not_true_eq_false, not_false_eq_true, li_0, li_1, li_2, li_3, li_4, li_5, li_6, li_7, li_8, li_9, li_10, li_11, li_12, li_13, li_14, li_15, li_16, li_20, li_23, li_25, li_30, li_31, li_32, li_38, li_40, li_41, li_44, li_48, li_50, li_51, li_52, li_57, li_59, li_60, li_61, li_62, li_63, li_66, li_81, li_94, li_97, li_98, li_99, li_100, li_101, li_103, li_104, li_105, li_107, li_108, li_109, li_110, li_111, li_112, li_114, li_115, li_116, li_117, li_118, li_122, li_200, li_572, li_600, li_9999, li_10000, li_12345, li_1103515245]) (by simp (disch := omega) only [lj_1, lj_4, w2, e_10, m_over mE iE mC iL, q, c2, letv, o_b, ↓reduceIte, e_sub, e_add, e_mul, e_ld, e_st, e_lt, e_nlt, e_le, e_nle, e_eq, e_neq, e_div, e_rem, m_lt, m_le, m_eq, m_eq2, m_ng, o_ld, true_and, and_true, Nat.one_ne_zero, Nat.zero_ne_one, Nat.reduceEqDiff, Bool.false_eq_true, not_true_eq_false, not_false_eq_true, li_0, li_1, li_2, li_3, li_4, li_5, li_6, li_7, li_8, li_9, li_10, li_11, li_12, li_13, li_14, li_15, li_16, li_20, li_23, li_25, li_30, li_31, li_32, li_38, li_40, li_41, li_44, li_48, li_50, li_51, li_52, li_57, li_59, li_60, li_61, li_62, li_63, li_66, li_81, li_94, li_97, li_98, li_99, li_100, li_101, li_103, li_104, li_105, li_107, li_108, li_109, li_110, li_111, li_112, li_114, li_115, li_116, li_117, li_118, li_122, li_200, li_572, li_600, li_9999, li_10000, li_12345, li_1103515245]) (c6 E L rn rp hN (by omega)) (h.ask (tr_NF c3) (tr_OV c3) c4 c5)
  · exact pkx (-(nI 1)) (by simp (disch := omega) only [w1, letv, o_b, ↓reduceIte, e_sub, e_add, e_mul, e_ld, e_st, e_lt, e_nlt, e_le, e_nle, e_eq, e_neq, e_div, e_rem, m_lt, m_le, m_eq, m_eq2, m_ng, o_ld, true_and, and_true, Nat.one_ne_zero, Nat.zero_ne_one, Nat.reduceEqDiff, Bool.false_eq_true, not_true_eq_false, not_false_eq_true, li_0, li_1, li_2, li_3, li_4, li_5, li_6, li_7, li_8, li_9, li_10, li_11, li_12, li_13, li_14, li_15, li_16, li_20, li_23, li_25, li_30, li_31, li_32, li_38, li_40, li_41, li_44, li_48, li_50, li_51, li_52, li_57, li_59, li_60, li_61, li_62, li_63, li_66, li_81, li_94, li_97, li_98, li_99, li_100, li_101, li_103, li_104, li_105, li_107, li_108, li_109, li_110, li_111, li_112, li_114, li_115, li_116, li_117, li_118, li_122, li_200, li_572, li_600, li_9999, li_10000, li_12345, li_1103515245]) (by simp (disch := omega) only [lj_1, lj_4, w2, letv, o_b, ↓reduceIte, e_sub, e_add, e_mul, e_ld, e_st, e_lt, e_nlt, e_le, e_nle, e_eq, e_neq, e_div, e_rem, m_lt, m_le, m_eq, m_eq2, m_ng, o_ld, true_and, and_true, Nat.one_ne_zero, Nat.zero_ne_one, Nat.reduceEqDiff, Bool.false_eq_true, not_true_eq_false, not_false_eq_true, li_0, li_1, li_2, li_3, li_4, li_5, li_6, li_7, li_8, li_9, li_10, li_11, li_12, li_13, li_14, li_15, li_16, li_20, li_23, li_25, li_30, li_31, li_32, li_38, li_40, li_41, li_44, li_48, li_50, li_51, li_52, li_57, li_59, li_60, li_61, li_62, li_63, li_66, li_81, li_94, li_97, li_98, li_99, li_100, li_101, li_103, li_104, li_105, li_107, li_108, li_109, li_110, li_111, li_112, li_114, li_115, li_116, li_117, li_118, li_122, li_200, li_572, li_600, li_9999, li_10000, li_12345, li_1103515245]) h
end P5
