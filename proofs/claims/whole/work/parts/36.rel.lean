/-! what holds between the class's world and the reference's -/
def RpC (V : V2) (a rn : Nat) (rp : Nat → Nat → Nat) : Prop := V a 0 = nI rn ∧ ∀ i, i < rn → V (a + 1) i = nI (rp i 0) ∧ V (a + 2) i = nI (rp i 1) ∧ V (a + 3) i = nI (rp i 2) ∧ V (a + 4) i = nI (rp i 3)
def RpM (s : Nat → Int32) (rn : Nat) (rp : Nat → Nat → Nat) : Prop := s 6 = nI rn ∧ ∀ i, i < rn → s (98 + 4 * i) = nI (rp i 0) ∧ s (98 + 4 * i + 1) = nI (rp i 1) ∧ s (98 + 4 * i + 2) = nI (rp i 2) ∧ s (98 + 4 * i + 3) = nI (rp i 3)
def IR (rn : Nat) (rp : Nat → Nat → Nat) : Prop := rn ≤ 6 ∧ ∀ i, i < rn → rp i 0 ≤ 15 ∧ rp i 1 ≤ 1 ∧ rp i 2 ≤ 99 ∧ rp i 3 ≤ 99
def NQ (G : G2) (V : V2) (R : R2) (z Y : Nat) (s : Nat → Int32) (E : En) (L : Ld) (rn : Nat) (rp : Nat → Nat → Nat) : Prop := IE E ∧ IL L ∧ L_w L ≤ E_en E ∧ EC G V R z Y E ∧ LC V (Y + 1) L ∧ ME s E ∧ MC s L ∧ V Y 2 = s 3 ∧ V Y 3 = s 4 ∧ RpC V (Y + 10) rn rp ∧ RpM s rn rp ∧ IR rn rp
def NR (G : G2) (V : V2) (R : R2) (z Y : Nat) (s : Nat → Int32) : Prop := ∃ E L rn rp, NQ G V R z Y s E L rn rp
def KP (z b : Nat) (G : G2) (V : V2) (R : R2) (U : V2) : Prop := V z 2 = U b 2 ∧ (U b 2 = nI 0 ∨ U b 2 = nI 1 ∧ NR G V R z (z + 16) (U (b + 2)))
def TP (z b : Nat) (V U : V2) : Prop := ∃ (tz : Nat) (tp : Nat → Nat), tz ≤ 200 ∧ V (z + 65) 1 = nI tz ∧ U b 5 = nI tz ∧ ∀ i, i < tz → tp i < 256 ∧ V (z + 66) i = nI (tp i) ∧ U (b + 4) i = nI (tp i)
def RW (z b : Nat) (V U : V2) : Prop := ∃ rn, rn ≤ 4 ∧ V z 7 = nI rn ∧ U b 27 = nI rn ∧ ∀ i, i < 12 → V (z + 69) i = U (b + 10) i
def ShR (G : G2) (V : V2) (z y so sz : Nat) : Prop := z + 93 ≤ y ∧ ownB G y 17 = true ∧ V y 0 = nI so ∧ so ≤ 4 ∧ G.2.2.1 (y + 1) = sz ∧ sz ≤ 40
def SHs (z b : Nat) (G : G2) (V : V2) (R : R2) (U : V2) : Prop := (∀ t, t < 4 → (R (z + 70) t = none ∧ U (b + 11) t = -(nI 1)) ∨ ∃ y so sz, R (z + 70) t = some y ∧ ShR G V z y so sz ∧ U (b + 11) t = nI so ∧ U (b + 12) t = nI sz ∧ ∀ i, i < sz → V (y + 1) i = U (b + 13) (40 * t + i)) ∧ ∀ t t' y, t < 4 → t' < 4 → R (z + 70) t = some y → R (z + 70) t' = some y → t = t'
def SLs (z b : Nat) (G : G2) (V : V2) (R : R2) (U : V2) : Prop := ∀ h, h < 4 → (V (z + 71) h = -(nI 1) ∧ R (z + 72) h = none ∧ U (b + 14) h = nI 0) ∨ (∃ k, k < 6 ∧ V (z + 71) h = nI k ∧ R (z + 72) h = none ∧ U (b + 14) h = nI 1 ∧ U (b + 15) h = nI k) ∨ ∃ y so sz, V (z + 71) h = -(nI 1) ∧ R (z + 72) h = some y ∧ ShR G V z y so sz ∧ U (b + 14) h = nI 2 ∧ U (b + 15) h = nI so ∧ U (b + 16) h = nI sz
def TR (z b : Nat) (V U : V2) : Prop := ∃ rn, rn ≤ 30 ∧ V (z + 73) 1 = nI rn ∧ U b 35 = nI rn ∧ ∀ i, i < rn → V (z + 74) i = U (b + 17) i
def ST (z : Nat) (G : G2) (R : R2) : Prop := ∀ k, k < 5 → R (z + 37) k = some (z + 40 + 5 * k) ∧ ownB G (z + 40 + 5 * k) 12 = true
def OT (z b : Nat) (G : G2) (V : V2) (R : R2) (U : V2) : Prop := KP z b G V R U ∧ TP z b V U ∧ RW z b V U ∧ SHs z b G V R U ∧ SLs z b G V R U ∧ TR z b V U ∧ ST z G R
def RelB (z b : Nat) : RelT := fun V R G U => (WfG G ∧ z + 93 ≤ G.2.2.2) ∧ NR G V R z (z + 1) (U (b + 1)) ∧ OT z b G V R U
/-! frames -/
theorem RpC.fr {V V' : V2} {a rn : Nat} {rp : Nat → Nat → Nat} (h : RpC V a rn rp) (h0 : V' a 0 = V a 0) (hV : ∀ x, a + 1 ≤ x → x ≤ a + 4 → V' x = V x) : RpC V' a rn rp := by
  obtain ⟨h1, h2⟩ := h
  refine ⟨h0.trans h1, fun i hi => ?_⟩
  rw [hV _ (by omega) (by omega), hV _ (by omega) (by omega), hV _ (by omega) (by omega), hV _ (by omega) (by omega)]
  exact h2 i hi
theorem RpM.fr {s s' : Nat → Int32} {rn : Nat} {rp : Nat → Nat → Nat} (h : RpM s rn rp) (hn : rn ≤ 6) (hs : ∀ i, i = 6 ∨ 98 ≤ i ∧ i < 122 → s' i = s i) : RpM s' rn rp := by
  obtain ⟨h1, h2⟩ := h
  refine ⟨by rw [hs _ (by omega)]; exact h1, fun i hi => ?_⟩
  rw [hs _ (by omega), hs _ (by omega), hs _ (by omega), hs _ (by omega)]
  exact h2 i hi
/-- what a laundry at Y rests on -/
def NF (z Y : Nat) (V V' : V2) : Prop := V' Y 1 = V Y 1 ∧ V' Y 2 = V Y 2 ∧ V' Y 3 = V Y 3 ∧ V' Y 8 = V Y 8 ∧ V' (Y + 10) 0 = V (Y + 10) 0 ∧ ∀ x, (Y + 1 ≤ x ∧ x ≤ Y + 8 ∨ Y + 11 ≤ x ∧ x ≤ Y + 14 ∨ z + 93 ≤ x) → V' x = V x
theorem NQ.fr {G : G2} {V V' : V2} {R : R2} {z Y : Nat} {s : Nat → Int32} {E : En} {L : Ld} {rn : Nat} {rp : Nat → Nat → Nat} (h : NQ G V R z Y s E L rn rp) (hV : NF z Y V V') : NQ G V' R z Y s E L rn rp := by
  obtain ⟨h1, h2, h3, h4, h5, h6, h7, h8, h9, h10, h11, h12⟩ := h
  obtain ⟨f1, f2, f3, f4, f5, f6⟩ := hV
  exact ⟨h1, h2, h3, h4.fr f1 f4 fun x hx => f6 x (by omega), h5.fr fun x hx hy => f6 x (by omega), h6, h7, f2.trans h8, f3.trans h9, h10.fr f5 fun x hx hy => f6 x (by omega), h11, h12⟩
theorem NR.fr {G : G2} {V V' : V2} {R : R2} {z Y : Nat} {s : Nat → Int32} (h : NR G V R z Y s) (hV : NF z Y V V') : NR G V' R z Y s := by
  obtain ⟨E, L, rn, rp, h⟩ := h
  exact ⟨E, L, rn, rp, h.fr hV⟩
theorem NF.all {z Y : Nat} {V V' : V2} (h : ∀ x, (Y ≤ x ∧ x ≤ Y + 14 ∨ z + 93 ≤ x) → V' x = V x) : NF z Y V V' := by
  have h0 := h Y (by omega)
  exact ⟨by rw [h0], by rw [h0], by rw [h0], by rw [h0], by rw [h (Y + 10) (by omega)], fun x hx => h x (by omega)⟩
theorem ShR.fr {G : G2} {V V' : V2} {z y so sz : Nat} (h : ShR G V z y so sz) (hV : ∀ x, z + 93 ≤ x → V' x = V x) : ShR G V' z y so sz := by
  obtain ⟨h1, h2, h3, h4⟩ := h
  exact ⟨h1, h2, by rw [hV y h1]; exact h3, h4⟩
/-- what the rest hangs on, in the class's world and in the reference's -/
def OV (z : Nat) (V V' : V2) : Prop := V' z 2 = V z 2 ∧ V' z 7 = V z 7 ∧ V' (z + 65) 1 = V (z + 65) 1 ∧ V' (z + 73) 1 = V (z + 73) 1 ∧ ∀ x, (z + 16 ≤ x ∧ x ≤ z + 30 ∨ x = z + 66 ∨ x = z + 69 ∨ x = z + 71 ∨ x = z + 74 ∨ z + 93 ≤ x) → V' x = V x
def OU (b : Nat) (U U' : V2) : Prop := U' b 2 = U b 2 ∧ U' b 5 = U b 5 ∧ U' b 27 = U b 27 ∧ U' b 35 = U b 35 ∧ ∀ y, (y = b + 2 ∨ y = b + 4 ∨ b + 10 ≤ y ∧ y ≤ b + 17) → U' y = U y
theorem OV.rf {z : Nat} {V : V2} : OV z V V := ⟨rfl, rfl, rfl, rfl, fun _ _ => rfl⟩
theorem OU.rf {b : Nat} {U : V2} : OU b U U := ⟨rfl, rfl, rfl, rfl, fun _ _ => rfl⟩
theorem OV.all {z : Nat} {V V' : V2} (h : ∀ x, (x = z ∨ z + 16 ≤ x ∧ x ≤ z + 30 ∨ z + 65 ≤ x ∧ (x ≤ z + 66 ∨ z + 69 ≤ x)) → V' x = V x) : OV z V V' := ⟨by rw [h z (by omega)], by rw [h z (by omega)], by rw [h _ (by omega)], by rw [h _ (by omega)], fun x hx => h x (by omega)⟩
theorem OU.all {b : Nat} {U U' : V2} (h : ∀ y, y ≠ b + 1 → y ≠ b + 3 → U' y = U y) : OU b U U' := ⟨by rw [h b (by omega) (by omega)], by rw [h b (by omega) (by omega)], by rw [h b (by omega) (by omega)], by rw [h b (by omega) (by omega)], fun y hy => h y (by omega) (by omega)⟩
theorem OV.tr {z : Nat} {V V' V'' : V2} (h : OV z V V') (h2 : OV z V' V'') : OV z V V'' := ⟨h2.1.trans h.1, h2.2.1.trans h.2.1, h2.2.2.1.trans h.2.2.1, h2.2.2.2.1.trans h.2.2.2.1, fun x hx => (h2.2.2.2.2 x hx).trans (h.2.2.2.2 x hx)⟩
theorem OU.tr {b : Nat} {U U' U'' : V2} (h : OU b U U') (h2 : OU b U' U'') : OU b U U'' := ⟨h2.1.trans h.1, h2.2.1.trans h.2.1, h2.2.2.1.trans h.2.2.1, h2.2.2.2.1.trans h.2.2.2.1, fun x hx => (h2.2.2.2.2 x hx).trans (h.2.2.2.2 x hx)⟩
theorem KP.fr {z b : Nat} {G : G2} {V V' : V2} {R : R2} {U U' : V2} (h : KP z b G V R U) (hV : OV z V V') (hU : OU b U U') : KP z b G V' R U' := by
  obtain ⟨h1, h2⟩ := h
  obtain ⟨v1, v2, v3, v4, v5⟩ := hV
  obtain ⟨u1, u2, u3, u4, u5⟩ := hU
  refine ⟨by rw [v1, u1]; exact h1, ?_⟩
  rw [u1, u5 _ (Or.inl rfl)]
  exact h2.imp id fun q => ⟨q.1, q.2.fr (NF.all fun x hx => v5 x (by omega))⟩
theorem TP.fr {z b : Nat} {V V' U U' : V2} (h : TP z b V U) (hV : OV z V V') (hU : OU b U U') : TP z b V' U' := by
  obtain ⟨tz, tp, h1, h2, h3, h4⟩ := h
  obtain ⟨v1, v2, v3, v4, v5⟩ := hV
  obtain ⟨u1, u2, u3, u4, u5⟩ := hU
  refine ⟨tz, tp, h1, v3.trans h2, u2.trans h3, fun i hi => ?_⟩
  rw [v5 (z + 66) (by omega), u5 (b + 4) (by omega)]
  exact h4 i hi
theorem RW.fr {z b : Nat} {V V' U U' : V2} (h : RW z b V U) (hV : OV z V V') (hU : OU b U U') : RW z b V' U' := by
  obtain ⟨rn, h1, h2, h3, h4⟩ := h
  obtain ⟨v1, v2, v3, v4, v5⟩ := hV
  obtain ⟨u1, u2, u3, u4, u5⟩ := hU
  refine ⟨rn, h1, v2.trans h2, u3.trans h3, fun i hi => ?_⟩
  rw [v5 (z + 69) (by omega), u5 (b + 10) (by omega)]
  exact h4 i hi
theorem SHs.fr {z b : Nat} {G : G2} {V V' : V2} {R : R2} {U U' : V2} (h : SHs z b G V R U) (hV : OV z V V') (hU : OU b U U') : SHs z b G V' R U' := by
  obtain ⟨v1, v2, v3, v4, v5⟩ := hV
  obtain ⟨u1, u2, u3, u4, u5⟩ := hU
  refine ⟨fun t ht => ?_, h.2⟩
  rw [u5 (b + 11) (by omega), u5 (b + 12) (by omega), u5 (b + 13) (by omega)]
  rcases h.1 t ht with q | ⟨y, so, sz, q1, q2, q3, q4, q5⟩
  · exact Or.inl q
  · refine Or.inr ⟨y, so, sz, q1, q2.fr fun x hx => v5 x (by omega), q3, q4, fun i hi => ?_⟩
    rw [v5 (y + 1) (by have := q2.1; omega)]
    exact q5 i hi
theorem SLs.fr {z b : Nat} {G : G2} {V V' : V2} {R : R2} {U U' : V2} (h : SLs z b G V R U) (hV : OV z V V') (hU : OU b U U') : SLs z b G V' R U' := by
  obtain ⟨v1, v2, v3, v4, v5⟩ := hV
  obtain ⟨u1, u2, u3, u4, u5⟩ := hU
  intro t ht
  rw [u5 (b + 14) (by omega), u5 (b + 15) (by omega), u5 (b + 16) (by omega), v5 (z + 71) (by omega)]
  rcases h t ht with q | q | ⟨y, so, sz, q1, q2, q3, q4⟩
  · exact Or.inl q
  · exact Or.inr (Or.inl q)
  · exact Or.inr (Or.inr ⟨y, so, sz, q1, q2, q3.fr fun x hx => v5 x (by omega), q4⟩)
theorem TR.fr {z b : Nat} {V V' U U' : V2} (h : TR z b V U) (hV : OV z V V') (hU : OU b U U') : TR z b V' U' := by
  obtain ⟨rn, h1, h2, h3, h4⟩ := h
  obtain ⟨v1, v2, v3, v4, v5⟩ := hV
  obtain ⟨u1, u2, u3, u4, u5⟩ := hU
  refine ⟨rn, h1, v4.trans h2, u4.trans h3, fun i hi => ?_⟩
  rw [v5 (z + 74) (by omega), u5 (b + 17) (by omega)]
  exact h4 i hi
theorem OT.fr {z b : Nat} {G : G2} {V V' : V2} {R : R2} {U U' : V2} (h : OT z b G V R U) (hV : OV z V V') (hU : OU b U U') : OT z b G V' R U' := by
  obtain ⟨h1, h2, h3, h4, h5, h6, h7⟩ := h
  exact ⟨h1.fr hV hU, h2.fr hV hU, h3.fr hV hU, h4.fr hV hU, h5.fr hV hU, h6.fr hV hU, h7⟩
/-- asked, and no more: only rows that nothing rests on are written -/
theorem RelB.ask {z b : Nat} {G : G2} {V V' : V2} {R : R2} {U U' : V2} (h : RelB z b V R G U) (hV : NF z (z + 1) V V') (hV2 : OV z V V') (hU : U' (b + 1) = U (b + 1)) (hU2 : OU b U U') : RelB z b V' R G U' := by
  obtain ⟨h1, h2, h3⟩ := h
  refine ⟨h1, ?_, h3.fr hV2 hU2⟩
  rw [hU]
  exact h2.fr hV
/-- a trial's rows -/
theorem tr_NF {z : Nat} {V V' : V2} (h : ∀ x, (x < z + 31 ∨ z + 64 < x) → V' x = V x) : NF z (z + 1) V V' := NF.all fun x hx => h x (by omega)
theorem tr_OV {z : Nat} {V V' : V2} (h : ∀ x, (x < z + 31 ∨ z + 64 < x) → V' x = V x) : OV z V V' := OV.all fun x hx => h x (by omega)
/-- a wash of the laundry itself -/
theorem ad_now (z : Nat) : AD z (z + 1) (z + 2) := ⟨Or.inl ⟨by omega, by omega⟩, by omega, by omega⟩
theorem ad_tr {z a : Nat} (h : z + 31 ≤ a ∧ a ≤ z + 60) : AD z (z + 1) a := ⟨Or.inr (by omega), by omega, by omega⟩
/-! what is known of lengths -/
theorem lg_of {z : Nat} {G Gm : G2} (h : LI z Gm G) : G.2.2.1 (z + 3) = 6 ∧ G.2.2.1 (z + 4) = 6 ∧ G.2.2.1 (z + 5) = 6 ∧ G.2.2.1 (z + 6) = 6 ∧ G.2.2.1 (z + 7) = 16 ∧ G.2.2.1 (z + 8) = 6 ∧ G.2.2.1 (z + 9) = 6 ∧ G.2.2.1 (z + 10) = 8 ∧ G.2.2.1 (z + 25) = 8 ∧ G.2.2.1 (z + 68) = 8 := by
  obtain ⟨hG, ho, -⟩ := h
  have o1 : own G (z + 1) 11 := (hG z 8 ho (by omega) 0 (by decide) (by decide)).1
  have o2 : own G (z + 1 + 1) 12 := (hG (z + 1) 1 o1 (by omega) 0 (by decide) (by decide)).1
  have o16 : own G (z + 16) 11 := (hG z 8 ho (by omega) 1 (by decide) (by decide)).1
  have o65 : own G (z + 65) 15 := (hG z 8 ho (by omega) 5 (by decide) (by decide)).1
  exact ⟨(hG _ 2 o2 (by omega) 3 (by decide) (by decide)).2 (by decide), (hG _ 2 o2 (by omega) 4 (by decide) (by decide)).2 (by decide), (hG _ 2 o2 (by omega) 5 (by decide) (by decide)).2 (by decide), (hG _ 2 o2 (by omega) 6 (by decide) (by decide)).2 (by decide), (hG _ 1 o1 (by omega) 4 (by decide) (by decide)).2 (by decide), (hG _ 1 o1 (by omega) 5 (by decide) (by decide)).2 (by decide), (hG _ 1 o1 (by omega) 6 (by decide) (by decide)).2 (by decide), (hG _ 1 o1 (by omega) 7 (by decide) (by decide)).2 (by decide), (hG _ 1 o16 (by omega) 7 (by decide) (by decide)).2 (by decide), (hG _ 5 o65 (by omega) 8 (by decide) (by decide)).2 (by decide)⟩
