/-! piles are answered alike -/
section Q5
variable {n z b : Nat} {V : V2} {R : R2} {G Gm : G2} {U : V2}
theorem ok_piles' (hn : 1000 ≤ n) (h : RelB z b V R G U) (a1 : Int32) : ∃ o om, pX8_piles n V z a1 = some o ∧ pX9_piles n U b a1 = some om ∧ o = om ∧ RelB z b V R G U := by
  obtain ⟨hW, ⟨E, L, rn, rp, hN⟩, hO⟩ := id h
  obtain ⟨iE, iL, hw, hE, hL, mE, mC, hs, hz, pC, pM, iR⟩ := nw_parts hN
  have hc := iL.2.1
  have n10 : (nI 1 = (0 : Int32)) = False := e_10
  have n00 : (nI 0 = (0 : Int32)) = True := eq_true rfl
  unfold pX8_piles pX9_piles
  by_cases q : a1 = -1
  · have q' : (a1 = (-1 : Int32)) = True := eq_true q
    have lt : (a1 < (0 : Int32)) = True := eq_true (by rw [q]; decide)
    obtain ⟨o, o1, o2⟩ := cnt_l (n := n) (z := z) (b := b) (V := V) (U := U) (L := L) hn hL mC iL (L_c L) 0 n n 0 0 (by omega) (by omega) (by omega) (by omega) (fun y g hy => by omega) (fun k hk hb => by rw [b_0 k hk] at hb; exact absurd hb (by decide))
    have o1' : lX8_howManyPiles_6 n V z n 0 0 0 = some o := o1
    have o2' : lX9_piles_29 n U b n 0 0 = some o := o2
    refine pkq o ?_ ?_ h
    · unfold pX8_howManyPiles
      simp only [q', ↓reduceIte, o1', o_b]
    · simp only [letv, q', lt, ↓reduceIte, o2', o_b]
  · have q' : (a1 = (-1 : Int32)) = False := eq_false q
    rcases isT (b := b) hL mC iL a1 with ⟨k, k1, k2, rfl, w1, w2⟩ | ⟨w1, w2⟩
    · have lt : (nI k < (0 : Int32)) = False := e_nlt (b := 0) (by omega) (by omega)
      rcases c_pile hn hL iL k1 with ⟨f1, p1⟩ | ⟨f1, g, p1, hg⟩
      · rcases m_pile hn mC iL k1 with ⟨-, p2⟩ | ⟨f2, -⟩
        · refine pkq (nI 0) ?_ ?_ h
          · simp only [q', ↓reduceIte, w1, o_b, n10, p1]
          · simp only [letv, q', ↓reduceIte, w2, o_b, n10, lt, p2]
        · omega
      · rcases m_pile hn mC iL k1 with ⟨f2, -⟩ | ⟨-, g', p2, hg'⟩
        · omega
        · rw [hg'.eq hg] at p2
          refine pkq (nI g) ?_ ?_ h
          · simp only [q', ↓reduceIte, w1, o_b, n10, p1]
          · simp only [letv, q', ↓reduceIte, w2, o_b, n10, lt, p2]
    · refine pkq (-1) ?_ ?_ h
      · simp only [q', ↓reduceIte, w1, o_b, n00]
      · simp only [letv, q', ↓reduceIte, w2, o_b, n00]
end Q5
