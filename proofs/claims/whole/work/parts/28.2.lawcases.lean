/-! the law's cases: what each wants of both classes' methods -/
abbrev RelT : Type := V2 → R2 → G2 → V2 → Prop
/-- what the walk keeps of the class's world -/
def LI (z : Nat) (Gm G : G2) : Prop := GX G ∧ own G z 18 ∧ ∀ x, x ∈ Gm.1 → x ∉ G.1
theorem LI.grow {z n : Nat} {Gm G G' : G2} (h : LI z Gm G) (hg : GS G G') (hW : WfG G) (hm : ∀ x, x ∈ Gm.1 → x < G.2.2.2) : LI z Gm G' := by
  obtain ⟨-, g, o⟩ := hg.2 hW
  refine ⟨g h.1, o _ _ h.2.1, fun x hx hq => ?_⟩
  rcases hg.1.2 x hq with q | q
  · exact h.2.2 x hx q
  · have := hm x hx; omega
/-- the reference's cells as its constructor leaves them -/
def mG0 (z : Nat) : G2 := gX9_init (nwG ([], (fun _ => 0), (fun _ => 0), z + 75) 39 0) (z + 75)
theorem gl_callC {C : Cx} {cc : ByteArray} {ow : String} {ret : Option FieldType} {pc pc' : Nat} {lv : List (Nat × Value)} {st st0 : List Value} {kc ks : Nat} {P : Prop} {y : MethodName} {bytes : ByteArray} {nL n n' index mc ms : Nat} {rt : Option FieldType} {av : List Value} {G Gm G' : G2} {V U V' : V2} {R Rm R' : R2} {a : Int32} {Cn : String} {Tn : u_T} {Nn b ci : Nat} (h : CxOK C cc ow ret) (hR : C.1.2.2.2.1 = room_1) (hA : ∀ q, C.2.2.2.1.2.2.2.1 ≤ q → AX C.2.2.1 q) (hcs : kc + mc ≤ 600000 ∧ ks + ms ≤ 7302250) (mw : Mw y bytes nL rt n) (hs : Mi Cn y) (hc : vwCl[ci]? = some (Cn, Tn, Nn)) (ho : own G b (ci + 10)) (hcn : ci < 20) (hl : Cond.methodLink ow index y ∈ lw_gd) (hM : Con C.1.2.1 y bytes nL rt (rmN n' mc ms) C.2.2.2.1 G V R (.ref b :: av) (some (.int a), V', R', G', mc, ms)) (hn : n' ≤ 1000) (ha : av.length = n) (hst : st0 = av.reverse ++ .ref b :: st) (hw : (st.map fun v => v.category).sum ≤ 8) (hge : GE G G') (hdj : ∀ x, x ∈ Gm.1 → x ∉ G.1) (hd : Dc cc pc (.invokevirtual index) 3 pc')
    (kk : P → GoL C pc' lv (.int a :: st) (XL C.2.2.2.1 Gm Rm G' V' R' U) (kc + mc) (ks + ms)) : P → GoL C pc lv st0 (XL C.2.2.2.1 Gm Rm G V R U) kc ks :=
  gl_runC (T := (some (.int a), V', R', G', mc, ms)) h hR hA hcs mw hs hc ho hcn hl hM hn ha hst hw rfl hge hdj hd kk
def Ok_thing (n z : Nat) (Rel : RelT) : Prop := ∀ (V : V2) (R : R2) (G : G2) (U : V2), Rel V R G U → LI z (mG0 z) G → ∀ (a1 : Int32) (a2 : Int32) (a3 : Int32) (a4 : Int32), ∃ o om, pX8_thing V z a1 a2 a3 a4 = some o ∧ pX9_thing U (z + 75) a1 a2 a3 a4 = some om ∧ o.1 = om.1 ∧ Rel o.2 R G om.2
def Ok_thingOf (n z : Nat) (Rel : RelT) : Prop := ∀ (V : V2) (R : R2) (G : G2) (U : V2), Rel V R G U → LI z (mG0 z) G → ∀ (a1 : Int32) (a2 : Int32), ∃ o om, pX8_thingOf n G V R z a1 a2 = some o ∧ pX9_thingOf n U (z + 75) a1 a2 = some om ∧ o = om ∧ Rel V R G U
def Ok_change (n z : Nat) (Rel : RelT) : Prop := ∀ (V : V2) (R : R2) (G : G2) (U : V2), Rel V R G U → LI z (mG0 z) G → ∀ (a1 : Int32) (a2 : Int32) (a3 : Int32), ∃ o om, pX8_change G V z a1 a2 a3 = some o ∧ pX9_change U (z + 75) a1 a2 a3 = some om ∧ o.1 = om.1 ∧ Rel o.2 R G om.2
def Ok_remake (n z : Nat) (Rel : RelT) : Prop := ∀ (V : V2) (R : R2) (G : G2) (U : V2), Rel V R G U → LI z (mG0 z) G → ∀ (a1 : Int32) (a2 : Int32), ∃ o om, pX8_remake G V z a1 a2 = some o ∧ pX9_remake U (z + 75) a1 a2 = some om ∧ o.1 = om.1 ∧ Rel o.2 R G om.2
def Ok_iron (n z : Nat) (Rel : RelT) : Prop := ∀ (V : V2) (R : R2) (G : G2) (U : V2), Rel V R G U → LI z (mG0 z) G → ∀ (a1 : Int32) (a2 : Int32), ∃ o om, pX8_iron G V z a1 a2 = some o ∧ pX9_iron U (z + 75) a1 a2 = some om ∧ o.1 = om.1 ∧ Rel o.2 R G om.2
def Ok_board (n z : Nat) (Rel : RelT) : Prop := ∀ (V : V2) (R : R2) (G : G2) (U : V2), Rel V R G U → LI z (mG0 z) G → ∀ (a1 : Int32) (a2 : Int32) (a3 : Int32), ∃ o om, pX8_board G V z a1 a2 a3 = some o ∧ pX9_board U (z + 75) a1 a2 a3 = some om ∧ o.1 = om.1 ∧ Rel o.2 R G om.2
def Ok_boardOf (n z : Nat) (Rel : RelT) : Prop := ∀ (V : V2) (R : R2) (G : G2) (U : V2), Rel V R G U → LI z (mG0 z) G → ∀ (a1 : Int32) (a2 : Int32), ∃ o om, pX8_boardOf V z a1 a2 = some o ∧ pX9_boardOf U (z + 75) a1 a2 = some om ∧ o = om ∧ Rel V R G U
def Ok_ends (n z : Nat) (Rel : RelT) : Prop := ∀ (V : V2) (R : R2) (G : G2) (U : V2), Rel V R G U → LI z (mG0 z) G → ∀ (a1 : Int32), ∃ o om, pX8_ends V z a1 = some o ∧ pX9_ends U (z + 75) a1 = some om ∧ o.1 = om.1 ∧ Rel o.2 R G om.2
def Ok_anew (n z : Nat) (Rel : RelT) : Prop := ∀ (V : V2) (R : R2) (G : G2) (U : V2), Rel V R G U → LI z (mG0 z) G → ∃ o om, pX8_anew V z = some o ∧ pX9_anew n U (z + 75) = some om ∧ o.1 = om.1 ∧ Rel o.2 R G om.2
def Ok_state (n z : Nat) (Rel : RelT) : Prop := ∀ (V : V2) (R : R2) (G : G2) (U : V2), Rel V R G U → LI z (mG0 z) G → ∀ (a1 : Int32), ∃ o om, pX8_state n V z a1 = some o ∧ pX9_state n U (z + 75) a1 = some om ∧ o = om ∧ Rel V R G U
def Ok_feed (n z : Nat) (Rel : RelT) : Prop := ∀ (V : V2) (R : R2) (G : G2) (U : V2), Rel V R G U → LI z (mG0 z) G → ∀ (a1 : Int64) (a2 : Int32), ∃ o om, pX8_feed n V z a1 a2 = some o ∧ pX9_feed n U (z + 75) a1 a2 = some om ∧ o.1 = om.1 ∧ Rel o.2 R G om.2
def Ok_rules (n z : Nat) (Rel : RelT) : Prop := ∀ (V : V2) (R : R2) (G : G2) (U : V2), Rel V R G U → LI z (mG0 z) G → ∃ o om, pX8_rules n G V R z = some o ∧ pX9_rules n U (z + 75) = some om ∧ o.1 = om.1 ∧ Rel o.2.1 o.2.2.1 o.2.2.2 om.2
def Ok_wash (n z : Nat) (Rel : RelT) : Prop := ∀ (V : V2) (R : R2) (G : G2) (U : V2), Rel V R G U → LI z (mG0 z) G → ∃ o om, pX8_wash n G V R z = some o ∧ pX9_wash n U (z + 75) = some om ∧ o.1 = om.1 ∧ Rel o.2 R G om.2
def Ok_on (n z : Nat) (Rel : RelT) : Prop := ∀ (V : V2) (R : R2) (G : G2) (U : V2), Rel V R G U → LI z (mG0 z) G → ∀ (a1 : Int32), ∃ o om, pX8_on n G V R z a1 = some o ∧ pX9_on n U (z + 75) a1 = some om ∧ o.1 = om.1 ∧ Rel o.2 R G om.2
def Ok_when (n z : Nat) (Rel : RelT) : Prop := ∀ (V : V2) (R : R2) (G : G2) (U : V2), Rel V R G U → LI z (mG0 z) G → ∀ (a1 : Int32), ∃ o om, pX8_when n G V R z a1 = some o ∧ pX9_when n U (z + 75) a1 = some om ∧ o.1 = om.1 ∧ Rel o.2 R G om.2
def Ok_creaseFor (n z : Nat) (Rel : RelT) : Prop := ∀ (V : V2) (R : R2) (G : G2) (U : V2), Rel V R G U → LI z (mG0 z) G → ∀ (a1 : Int32), ∃ o om, pX8_creaseFor n G V R z a1 = some o ∧ pX9_creaseFor n U (z + 75) a1 = some om ∧ o.1 = om.1 ∧ Rel o.2 R G om.2
def Ok_boardFor (n z : Nat) (Rel : RelT) : Prop := ∀ (V : V2) (R : R2) (G : G2) (U : V2), Rel V R G U → LI z (mG0 z) G → ∀ (a1 : Int32), ∃ o om, pX8_boardFor n G V R z a1 = some o ∧ pX9_boardFor n U (z + 75) a1 = some om ∧ o.1 = om.1 ∧ Rel o.2 R G om.2
def Ok_fat (n z : Nat) (Rel : RelT) : Prop := ∀ (V : V2) (R : R2) (G : G2) (U : V2), Rel V R G U → LI z (mG0 z) G → ∀ (a1 : Int32), ∃ o om, pX8_fat n G V R z a1 = some o ∧ pX9_fat n U (z + 75) a1 = some om ∧ o.1 = om.1 ∧ Rel o.2 R G om.2
def Ok_least (n z : Nat) (Rel : RelT) : Prop := ∀ (V : V2) (R : R2) (G : G2) (U : V2), Rel V R G U → LI z (mG0 z) G → ∀ (a1 : Int32), ∃ o om, pX8_least n V z a1 = some o ∧ pX9_least n U (z + 75) a1 = some om ∧ o = om ∧ Rel V R G U
def Ok_left (n z : Nat) (Rel : RelT) : Prop := ∀ (V : V2) (R : R2) (G : G2) (U : V2), Rel V R G U → LI z (mG0 z) G → ∀ (a1 : Int32) (a2 : Int32), ∃ o om, pX8_left n G V R z a1 a2 = some o ∧ pX9_left n U (z + 75) a1 a2 = some om ∧ o.1 = om.1 ∧ Rel o.2 R G om.2
def Ok_piles (n z : Nat) (Rel : RelT) : Prop := ∀ (V : V2) (R : R2) (G : G2) (U : V2), Rel V R G U → LI z (mG0 z) G → ∀ (a1 : Int32), ∃ o om, pX8_piles n V z a1 = some o ∧ pX9_piles n U (z + 75) a1 = some om ∧ o = om ∧ Rel V R G U
def Ok_best (n z : Nat) (Rel : RelT) : Prop := ∀ (V : V2) (R : R2) (G : G2) (U : V2), Rel V R G U → LI z (mG0 z) G → ∀ (a1 : Int32), ∃ o om, pX8_best n G V R z a1 = some o ∧ pX9_best n U (z + 75) a1 = some om ∧ o.1 = om.1 ∧ Rel o.2 R G om.2
def Ok_ith (n z : Nat) (Rel : RelT) : Prop := ∀ (V : V2) (R : R2) (G : G2) (U : V2), Rel V R G U → LI z (mG0 z) G → ∀ (a1 : Int32) (a2 : Int32), ∃ o om, pX8_ith n G V R z a1 a2 = some o ∧ pX9_ith n U (z + 75) a1 a2 = some om ∧ o.1 = om.1 ∧ Rel o.2 R G om.2
def Ok_ways (n z : Nat) (Rel : RelT) : Prop := ∀ (V : V2) (R : R2) (G : G2) (U : V2), Rel V R G U → LI z (mG0 z) G → ∀ (a1 : Int32), ∃ o om, pX8_ways n G V R z a1 = some o ∧ pX9_ways n U (z + 75) a1 = some om ∧ o.1 = om.1 ∧ Rel o.2 R G om.2
def Ok_note (n z : Nat) (Rel : RelT) : Prop := ∀ (V : V2) (R : R2) (G : G2) (U : V2), Rel V R G U → LI z (mG0 z) G → ∀ (a1 : Int32) (a2 : Int32), ∃ o om, pX8_note n G V R z a1 a2 = some o ∧ pX9_note n U (z + 75) a1 a2 = some om ∧ o.1 = om.1 ∧ Rel o.2 R G om.2
def Ok_bars (n z : Nat) (Rel : RelT) : Prop := ∀ (V : V2) (R : R2) (G : G2) (U : V2), Rel V R G U → LI z (mG0 z) G → ∀ (a1 : Int32) (a2 : Int32), ∃ o om, pX8_bars n G V R z a1 a2 = some o ∧ pX9_bars n U (z + 75) a1 a2 = some om ∧ o.1 = om.1 ∧ Rel o.2 R G om.2
def Ok_game (n z : Nat) (Rel : RelT) : Prop := ∀ (V : V2) (R : R2) (G : G2) (U : V2), Rel V R G U → LI z (mG0 z) G → ∀ (a1 : Int32), ∃ o om, pX8_game n G V R z a1 = some o ∧ pX9_game n U (z + 75) a1 = some om ∧ o.1 = om.1 ∧ Rel o.2 R G om.2
def Ok_play (n z : Nat) (Rel : RelT) : Prop := ∀ (V : V2) (R : R2) (G : G2) (U : V2), Rel V R G U → LI z (mG0 z) G → ∀ (a1 : Int32), ∃ o om, pX8_play n G V R z a1 = some o ∧ pX9_play n U (z + 75) a1 = some om ∧ o.1 = om.1 ∧ Rel o.2 R G om.2
def Ok_report (n z : Nat) (Rel : RelT) : Prop := ∀ (V : V2) (R : R2) (G : G2) (U : V2), Rel V R G U → LI z (mG0 z) G → ∀ (a1 : Int32) (a2 : Int32) (a3 : Int32) (a4 : Int32), ∃ o om, pX8_report V z a1 a2 a3 a4 = some o ∧ pX9_report U (z + 75) a1 a2 a3 a4 = some om ∧ o.1 = om.1 ∧ Rel o.2 R G om.2
def Ok_forget (n z : Nat) (Rel : RelT) : Prop := ∀ (V : V2) (R : R2) (G : G2) (U : V2), Rel V R G U → LI z (mG0 z) G → ∃ o om, pX8_forget V z = some o ∧ pX9_forget U (z + 75) = some om ∧ o.1 = om.1 ∧ Rel o.2 R G om.2
def Ok_lone (n z : Nat) (Rel : RelT) : Prop := ∀ (V : V2) (R : R2) (G : G2) (U : V2), Rel V R G U → LI z (mG0 z) G → ∀ (a1 : Int32), ∃ o om, pX8_lone n G V z a1 = some o ∧ pX9_lone n U (z + 75) a1 = some om ∧ o.1 = om.1 ∧ Rel o.2 R G om.2
def Ok_liar (n z : Nat) (Rel : RelT) : Prop := ∀ (V : V2) (R : R2) (G : G2) (U : V2), Rel V R G U → LI z (mG0 z) G → ∃ o om, pX8_liar n G V z = some o ∧ pX9_liar n U (z + 75) = some om ∧ o.1 = om.1 ∧ Rel o.2 R G om.2
def Ok_seed (n z : Nat) (Rel : RelT) : Prop := ∀ (V : V2) (R : R2) (G : G2) (U : V2), Rel V R G U → LI z (mG0 z) G → ∀ (a1 : Int32), ∃ o om, pX8_seed V z a1 = some o ∧ pX9_seed U (z + 75) a1 = some om ∧ o.1 = om.1 ∧ Rel o.2 R G om.2
def Ok_lot (n z : Nat) (Rel : RelT) : Prop := ∀ (V : V2) (R : R2) (G : G2) (U : V2), Rel V R G U → LI z (mG0 z) G → ∃ o om, pX8_lot n G V R z = some o ∧ pX9_lot n U (z + 75) = some om ∧ o.1 = om.1 ∧ Rel o.2 R G om.2
def Ok_times (n z : Nat) (Rel : RelT) : Prop := ∀ (V : V2) (R : R2) (G : G2) (U : V2), Rel V R G U → LI z (mG0 z) G → ∀ (a1 : Int32) (a2 : Int32), ∃ o om, pX8_times n G V R z a1 a2 = some o ∧ pX9_times n U (z + 75) a1 a2 = some om ∧ o.1 = om.1 ∧ Rel o.2 R G om.2
def Ok_prove (n z : Nat) (Rel : RelT) : Prop := ∀ (V : V2) (R : R2) (G : G2) (U : V2), Rel V R G U → LI z (mG0 z) G → ∀ (a1 : Int32), ∃ o om, pX8_prove n G V R z a1 = some o ∧ pX9_prove n U (z + 75) a1 = some om ∧ o.1 = om.1 ∧ Rel o.2 R G om.2
def Ok_row (n z : Nat) (Rel : RelT) : Prop := ∀ (V : V2) (R : R2) (G : G2) (U : V2), Rel V R G U → LI z (mG0 z) G → ∀ (a1 : Int32) (a2 : Int32), ∃ o om, pX8_row V z a1 a2 = some o ∧ pX9_row U (z + 75) a1 a2 = some om ∧ o = om ∧ Rel V R G U
def Ok_alterRow (n z : Nat) (Rel : RelT) : Prop := ∀ (V : V2) (R : R2) (G : G2) (U : V2), Rel V R G U → LI z (mG0 z) G → ∀ (a1 : Int32) (a2 : Int32) (a3 : Int32), ∃ o om, pX8_alterRow V z a1 a2 a3 = some o ∧ pX9_alterRow U (z + 75) a1 a2 a3 = some om ∧ o.1 = om.1 ∧ Rel o.2 R G om.2
def Ok_judge (n z : Nat) (Rel : RelT) : Prop := ∀ (V : V2) (R : R2) (G : G2) (U : V2), Rel V R G U → LI z (mG0 z) G → ∃ o om, pX8_judge n G V R z = some o ∧ pX9_judge n U (z + 75) = some om ∧ o.1 = om.1 ∧ Rel o.2 R G om.2
def Ok_sheet (n z : Nat) (Rel : RelT) : Prop := ∀ (V : V2) (R : R2) (G : G2) (U : V2), Rel V R G U → LI z (mG0 z) G → ∀ (a1 : Int32) (a2 : Int32) (a3 : Int32), ∃ o om, pX8_sheet G V R z a1 a2 a3 = some o ∧ pX9_sheet n U (z + 75) a1 a2 a3 = some om ∧ o.1 = om.1 ∧ Rel o.2.1 o.2.2.1 o.2.2.2 om.2
def Ok_write (n z : Nat) (Rel : RelT) : Prop := ∀ (V : V2) (R : R2) (G : G2) (U : V2), Rel V R G U → LI z (mG0 z) G → ∀ (a1 : Int32) (a2 : Int32) (a3 : Int32), ∃ o om, pX8_write G V R z a1 a2 a3 = some o ∧ pX9_write U (z + 75) a1 a2 a3 = some om ∧ o.1 = om.1 ∧ Rel o.2 R G om.2
def Ok_item (n z : Nat) (Rel : RelT) : Prop := ∀ (V : V2) (R : R2) (G : G2) (U : V2), Rel V R G U → LI z (mG0 z) G → ∀ (a1 : Int32) (a2 : Int32) (a3 : Int32), ∃ o om, pX8_item G V R z a1 a2 a3 = some o ∧ pX9_item U (z + 75) a1 a2 a3 = some om ∧ o = om ∧ Rel V R G U
def Ok_goAll (n z : Nat) (Rel : RelT) : Prop := ∀ (V : V2) (R : R2) (G : G2) (U : V2), Rel V R G U → LI z (mG0 z) G → ∀ (a1 : Int32) (a2 : Int32) (a3 : Int32), ∃ o om, pX8_goAll n G V R z a1 a2 a3 = some o ∧ pX9_goAll n U (z + 75) a1 a2 a3 = some om ∧ o.1 = om.1 ∧ Rel o.2 R G om.2
def Ok_wouldBe (n z : Nat) (Rel : RelT) : Prop := ∀ (V : V2) (R : R2) (G : G2) (U : V2), Rel V R G U → LI z (mG0 z) G → ∀ (a1 : Int32) (a2 : Int32) (a3 : Int32), ∃ o om, pX8_wouldBe n G V R z a1 a2 a3 = some o ∧ pX9_wouldBe n U (z + 75) a1 a2 a3 = some om ∧ o.1 = om.1 ∧ Rel o.2 R G om.2
def Ok_shelf (n z : Nat) (Rel : RelT) : Prop := ∀ (V : V2) (R : R2) (G : G2) (U : V2), Rel V R G U → LI z (mG0 z) G → ∀ (a1 : Int32) (a2 : Int32) (a3 : Int32), ∃ o om, pX8_shelf G V R z a1 a2 a3 = some o ∧ pX9_shelf U (z + 75) a1 a2 a3 = some om ∧ o.1 = om.1 ∧ Rel o.2.1 o.2.2 G om.2
def Ok_taken (n z : Nat) (Rel : RelT) : Prop := ∀ (V : V2) (R : R2) (G : G2) (U : V2), Rel V R G U → LI z (mG0 z) G → ∀ (a1 : Int32) (a2 : Int32), ∃ o om, pX8_taken n G V R z a1 a2 = some o ∧ pX9_taken U (z + 75) a1 a2 = some om ∧ o = om ∧ Rel V R G U
def Ok_act (n z : Nat) (Rel : RelT) : Prop := ∀ (V : V2) (R : R2) (G : G2) (U : V2), Rel V R G U → LI z (mG0 z) G → ∀ (a1 : Int32) (a2 : Int32) (a3 : Int32), ∃ o om, pX8_act V z a1 a2 a3 = some o ∧ pX9_act U (z + 75) a1 a2 a3 = some om ∧ o.1 = om.1 ∧ Rel o.2 R G om.2
def Ok_trace (n z : Nat) (Rel : RelT) : Prop := ∀ (V : V2) (R : R2) (G : G2) (U : V2), Rel V R G U → LI z (mG0 z) G → ∀ (a1 : Int32), ∃ o om, pX8_trace V z a1 = some o ∧ pX9_trace U (z + 75) a1 = some om ∧ o = om ∧ Rel V R G U
def Ok_many (n z : Nat) (Rel : RelT) : Prop := ∀ (V : V2) (R : R2) (G : G2) (U : V2), Rel V R G U → LI z (mG0 z) G → ∀ (a1 : Int32), ∃ o om, pX8_many V z a1 = some o ∧ pX9_many n U (z + 75) a1 = some om ∧ o = om ∧ Rel V R G U
def Ok_keep (n z : Nat) (Rel : RelT) : Prop := ∀ (V : V2) (R : R2) (G : G2) (U : V2), Rel V R G U → LI z (mG0 z) G → ∃ o om, pX8_keep n G V R z = some o ∧ pX9_keep n U (z + 75) = some om ∧ o.1 = om.1 ∧ Rel o.2.1 o.2.2 G om.2
def Ok_again (n z : Nat) (Rel : RelT) : Prop := ∀ (V : V2) (R : R2) (G : G2) (U : V2), Rel V R G U → LI z (mG0 z) G → ∃ o om, pX8_again n G V R z = some o ∧ pX9_again n U (z + 75) = some om ∧ o.1 = om.1 ∧ Rel o.2.1 o.2.2 G om.2
set_option maxHeartbeats 4000000 in
set_option maxRecDepth 100000 in
theorem lc_thing {C : Cx} {Rm : R2} {b L z n : Nat} {xs : Nat → Int32} {Rel : RelT} (hC : CxOK C cL_law RL (some .boolean)) (hR : C.1.2.2.2.1 = room_1) (hA : ∀ q, C.2.2.2.1.2.2.2.1 ≤ q → AX C.2.2.1 q) (hS : Scr C b L xs) (hM : GX (mG0 z) ∧ own (mG0 z) (z + 75) 19) (hok : Ok_thing n z Rel) {i : Int32} (hi : vp_in (i + 1) L ∧ vp_in (i + 2) L ∧ vp_in (i + 3) L ∧ vp_in (i + 4) L) {V : V2} {R : R2} {G : G2} {U : V2} (hr : Rel V R G U) (hI : LI z (mG0 z) G) {kc ks : Nat} (hk : kc + 20 ≤ 600000 ∧ ks + 3030 ≤ 7302250)
    (nx : ∀ V' R' G' U', Rel V' R' G' U' → LI z (mG0 z) G' → GoL C 1745 [(0, .ref b), (1, .ref z), (2, .ref (z + 75)), (3, .int i)] [] (XL C.2.2.2.1 (mG0 z) Rm G' V' R' U') (kc + 20) (ks + 3030)) : True → GoL C 252 [(0, .ref b), (1, .ref z), (2, .ref (z + 75)), (3, .int i)] [] (XL C.2.2.2.1 (mG0 z) Rm G V R U) kc ks := by
  obtain ⟨o, om, e1, e2, e3, hr'⟩ := hok V R G U hr hI (xs (i + 1).toNatClampNeg) (xs (i + 2).toNatClampNeg) (xs (i + 3).toNatClampNeg) (xs (i + 4).toNatClampNeg)
  have hI' := hI
  refine gl_aload_n hC dL_law_252 (j := 1) rfl rfl ?_
  refine gl_aload_n hC dL_law_253 (j := 0) rfl rfl ?_
  refine gl_iload_n hC dL_law_254 (j := 3) rfl rfl ?_
  refine gl_iconst hC dL_law_255 ic_1 ?_
  refine gl_iadd hC dL_law_256 ?_
  refine gl_sld hC hS (hi.1) dL_law_257 ?_
  refine gl_aload_n hC dL_law_258 (j := 0) rfl rfl ?_
  refine gl_iload_n hC dL_law_259 (j := 3) rfl rfl ?_
  refine gl_iconst hC dL_law_260 ic_2 ?_
  refine gl_iadd hC dL_law_261 ?_
  refine gl_sld hC hS (hi.2.1) dL_law_262 ?_
  refine gl_aload_n hC dL_law_263 (j := 0) rfl rfl ?_
  refine gl_iload_n hC dL_law_264 (j := 3) rfl rfl ?_
  refine gl_iconst hC dL_law_265 ic_3 ?_
  refine gl_iadd hC dL_law_266 ?_
  refine gl_sld hC hS (hi.2.2.1) dL_law_267 ?_
  refine gl_aload_n hC dL_law_268 (j := 0) rfl rfl ?_
  refine gl_iload_n hC dL_law_269 (j := 3) rfl rfl ?_
  refine gl_iconst hC dL_law_270 ic_4 ?_
  refine gl_iadd hC dL_law_271 ?_
  refine gl_sld hC hS (hi.2.2.2) dL_law_272 ?_
  refine gl_callC hC hR hA ⟨by omega, by omega⟩ mwX8_thing miX8_thing (ci := 8) rfl hI.2.1 (by decide) mlL_13 (kX8_thing hI.1 hI.2.1 e1) (Nat.le_of_ble_eq_true rfl) rfl (av := [.int (xs (i + 1).toNatClampNeg), .int (xs (i + 2).toNatClampNeg), .int (xs (i + 3).toNatClampNeg), .int (xs (i + 4).toNatClampNeg)]) (st := []) rfl (Nat.le_of_ble_eq_true rfl) (GE.rf G) hI.2.2 dL_law_273 ?_
  refine gl_aload_n hC dL_law_276 (j := 2) rfl rfl ?_
  refine gl_aload_n hC dL_law_277 (j := 0) rfl rfl ?_
  refine gl_iload_n hC dL_law_278 (j := 3) rfl rfl ?_
  refine gl_iconst hC dL_law_279 ic_1 ?_
  refine gl_iadd hC dL_law_280 ?_
  refine gl_sld hC hS (hi.1) dL_law_281 ?_
  refine gl_aload_n hC dL_law_282 (j := 0) rfl rfl ?_
  refine gl_iload_n hC dL_law_283 (j := 3) rfl rfl ?_
  refine gl_iconst hC dL_law_284 ic_2 ?_
  refine gl_iadd hC dL_law_285 ?_
  refine gl_sld hC hS (hi.2.1) dL_law_286 ?_
  refine gl_aload_n hC dL_law_287 (j := 0) rfl rfl ?_
  refine gl_iload_n hC dL_law_288 (j := 3) rfl rfl ?_
  refine gl_iconst hC dL_law_289 ic_3 ?_
  refine gl_iadd hC dL_law_290 ?_
  refine gl_sld hC hS (hi.2.2.1) dL_law_291 ?_
  refine gl_aload_n hC dL_law_292 (j := 0) rfl rfl ?_
  refine gl_iload_n hC dL_law_293 (j := 3) rfl rfl ?_
  refine gl_iconst hC dL_law_294 ic_4 ?_
  refine gl_iadd hC dL_law_295 ?_
  refine gl_sld hC hS (hi.2.2.2) dL_law_296 ?_
  refine gl_runM hC hR hA ⟨by omega, by omega⟩ mwX9_thing miX9_thing (ci := 9) rfl hM.2 (by decide) mlL_17 (kX9_thing (G := mG (mG0 z) G.2.2.2) hM.1 hM.2 e2) (Nat.le_of_ble_eq_true rfl) rfl (av := [.int (xs (i + 1).toNatClampNeg), .int (xs (i + 2).toNatClampNeg), .int (xs (i + 3).toNatClampNeg), .int (xs (i + 4).toNatClampNeg)]) (st := [.int o.1]) rfl (Nat.le_of_ble_eq_true rfl) hI'.2.2 dL_law_297 ?_
  refine gl_eqT hC dL_law_300 e3 ?_
  refine gl_widen (kc' := kc + 20) (ks' := ks + 3030) (by omega) (by omega) ?_
  exact fun _ => nx _ _ _ _ hr' hI'
set_option maxHeartbeats 4000000 in
set_option maxRecDepth 100000 in
theorem lc_thingOf {C : Cx} {Rm : R2} {b L z n : Nat} {xs : Nat → Int32} {Rel : RelT} (hC : CxOK C cL_law RL (some .boolean)) (hR : C.1.2.2.2.1 = room_1) (hA : ∀ q, C.2.2.2.1.2.2.2.1 ≤ q → AX C.2.2.1 q) (hS : Scr C b L xs) (hM : GX (mG0 z) ∧ own (mG0 z) (z + 75) 19) (hok : Ok_thingOf n z Rel) {i : Int32} (hi : vp_in (i + 1) L ∧ vp_in (i + 2) L ∧ vp_in (i + 3) L ∧ vp_in (i + 4) L) {V : V2} {R : R2} {G : G2} {U : V2} (hr : Rel V R G U) (hI : LI z (mG0 z) G) {kc ks : Nat} (hk : kc + 20 ≤ 600000 ∧ ks + 3030 ≤ 7302250)
    (nx : ∀ V' R' G' U', Rel V' R' G' U' → LI z (mG0 z) G' → GoL C 1745 [(0, .ref b), (1, .ref z), (2, .ref (z + 75)), (3, .int i)] [] (XL C.2.2.2.1 (mG0 z) Rm G' V' R' U') (kc + 20) (ks + 3030)) : True → GoL C 305 [(0, .ref b), (1, .ref z), (2, .ref (z + 75)), (3, .int i)] [] (XL C.2.2.2.1 (mG0 z) Rm G V R U) kc ks := by
  obtain ⟨o, om, e1, e2, e3, hr'⟩ := hok V R G U hr hI (xs (i + 1).toNatClampNeg) (xs (i + 2).toNatClampNeg)
  have hI' := hI
  refine gl_aload_n hC dL_law_305 (j := 1) rfl rfl ?_
  refine gl_aload_n hC dL_law_306 (j := 0) rfl rfl ?_
  refine gl_iload_n hC dL_law_307 (j := 3) rfl rfl ?_
  refine gl_iconst hC dL_law_308 ic_1 ?_
  refine gl_iadd hC dL_law_309 ?_
  refine gl_sld hC hS (hi.1) dL_law_310 ?_
  refine gl_aload_n hC dL_law_311 (j := 0) rfl rfl ?_
  refine gl_iload_n hC dL_law_312 (j := 3) rfl rfl ?_
  refine gl_iconst hC dL_law_313 ic_2 ?_
  refine gl_iadd hC dL_law_314 ?_
  refine gl_sld hC hS (hi.2.1) dL_law_315 ?_
  refine gl_callC hC hR hA ⟨by omega, by omega⟩ mwX8_thingOf miX8_thingOf (ci := 8) rfl hI.2.1 (by decide) mlL_18 (kX8_thingOf hI.1 hI.2.1 e1) (Nat.le_of_ble_eq_true rfl) rfl (av := [.int (xs (i + 1).toNatClampNeg), .int (xs (i + 2).toNatClampNeg)]) (st := []) rfl (Nat.le_of_ble_eq_true rfl) (GE.rf G) hI.2.2 dL_law_316 ?_
  refine gl_aload_n hC dL_law_319 (j := 2) rfl rfl ?_
  refine gl_aload_n hC dL_law_320 (j := 0) rfl rfl ?_
  refine gl_iload_n hC dL_law_321 (j := 3) rfl rfl ?_
  refine gl_iconst hC dL_law_322 ic_1 ?_
  refine gl_iadd hC dL_law_323 ?_
  refine gl_sld hC hS (hi.1) dL_law_324 ?_
  refine gl_aload_n hC dL_law_325 (j := 0) rfl rfl ?_
  refine gl_iload_n hC dL_law_326 (j := 3) rfl rfl ?_
  refine gl_iconst hC dL_law_327 ic_2 ?_
  refine gl_iadd hC dL_law_328 ?_
  refine gl_sld hC hS (hi.2.1) dL_law_329 ?_
  refine gl_runM hC hR hA ⟨by omega, by omega⟩ mwX9_thingOf miX9_thingOf (ci := 9) rfl hM.2 (by decide) mlL_22 (kX9_thingOf (G := mG (mG0 z) G.2.2.2) hM.1 hM.2 e2) (Nat.le_of_ble_eq_true rfl) rfl (av := [.int (xs (i + 1).toNatClampNeg), .int (xs (i + 2).toNatClampNeg)]) (st := [.int o]) rfl (Nat.le_of_ble_eq_true rfl) hI'.2.2 dL_law_330 ?_
  refine gl_eqT hC dL_law_333 e3 ?_
  refine gl_widen (kc' := kc + 20) (ks' := ks + 3030) (by omega) (by omega) ?_
  exact fun _ => nx _ _ _ _ hr' hI'
set_option maxHeartbeats 4000000 in
set_option maxRecDepth 100000 in
theorem lc_change {C : Cx} {Rm : R2} {b L z n : Nat} {xs : Nat → Int32} {Rel : RelT} (hC : CxOK C cL_law RL (some .boolean)) (hR : C.1.2.2.2.1 = room_1) (hA : ∀ q, C.2.2.2.1.2.2.2.1 ≤ q → AX C.2.2.1 q) (hS : Scr C b L xs) (hM : GX (mG0 z) ∧ own (mG0 z) (z + 75) 19) (hok : Ok_change n z Rel) {i : Int32} (hi : vp_in (i + 1) L ∧ vp_in (i + 2) L ∧ vp_in (i + 3) L ∧ vp_in (i + 4) L) {V : V2} {R : R2} {G : G2} {U : V2} (hr : Rel V R G U) (hI : LI z (mG0 z) G) {kc ks : Nat} (hk : kc + 20 ≤ 600000 ∧ ks + 3030 ≤ 7302250)
    (nx : ∀ V' R' G' U', Rel V' R' G' U' → LI z (mG0 z) G' → GoL C 1745 [(0, .ref b), (1, .ref z), (2, .ref (z + 75)), (3, .int i)] [] (XL C.2.2.2.1 (mG0 z) Rm G' V' R' U') (kc + 20) (ks + 3030)) : True → GoL C 338 [(0, .ref b), (1, .ref z), (2, .ref (z + 75)), (3, .int i)] [] (XL C.2.2.2.1 (mG0 z) Rm G V R U) kc ks := by
  obtain ⟨o, om, e1, e2, e3, hr'⟩ := hok V R G U hr hI (xs (i + 1).toNatClampNeg) (xs (i + 2).toNatClampNeg) (xs (i + 3).toNatClampNeg)
  have hI' := hI
  refine gl_aload_n hC dL_law_338 (j := 1) rfl rfl ?_
  refine gl_aload_n hC dL_law_339 (j := 0) rfl rfl ?_
  refine gl_iload_n hC dL_law_340 (j := 3) rfl rfl ?_
  refine gl_iconst hC dL_law_341 ic_1 ?_
  refine gl_iadd hC dL_law_342 ?_
  refine gl_sld hC hS (hi.1) dL_law_343 ?_
  refine gl_aload_n hC dL_law_344 (j := 0) rfl rfl ?_
  refine gl_iload_n hC dL_law_345 (j := 3) rfl rfl ?_
  refine gl_iconst hC dL_law_346 ic_2 ?_
  refine gl_iadd hC dL_law_347 ?_
  refine gl_sld hC hS (hi.2.1) dL_law_348 ?_
  refine gl_aload_n hC dL_law_349 (j := 0) rfl rfl ?_
  refine gl_iload_n hC dL_law_350 (j := 3) rfl rfl ?_
  refine gl_iconst hC dL_law_351 ic_3 ?_
  refine gl_iadd hC dL_law_352 ?_
  refine gl_sld hC hS (hi.2.2.1) dL_law_353 ?_
  refine gl_callC hC hR hA ⟨by omega, by omega⟩ mwX8_change miX8_change (ci := 8) rfl hI.2.1 (by decide) mlL_23 (kX8_change hI.1 hI.2.1 e1) (Nat.le_of_ble_eq_true rfl) rfl (av := [.int (xs (i + 1).toNatClampNeg), .int (xs (i + 2).toNatClampNeg), .int (xs (i + 3).toNatClampNeg)]) (st := []) rfl (Nat.le_of_ble_eq_true rfl) (GE.rf G) hI.2.2 dL_law_354 ?_
  refine gl_aload_n hC dL_law_357 (j := 2) rfl rfl ?_
  refine gl_aload_n hC dL_law_358 (j := 0) rfl rfl ?_
  refine gl_iload_n hC dL_law_359 (j := 3) rfl rfl ?_
  refine gl_iconst hC dL_law_360 ic_1 ?_
  refine gl_iadd hC dL_law_361 ?_
  refine gl_sld hC hS (hi.1) dL_law_362 ?_
  refine gl_aload_n hC dL_law_363 (j := 0) rfl rfl ?_
  refine gl_iload_n hC dL_law_364 (j := 3) rfl rfl ?_
  refine gl_iconst hC dL_law_365 ic_2 ?_
  refine gl_iadd hC dL_law_366 ?_
  refine gl_sld hC hS (hi.2.1) dL_law_367 ?_
  refine gl_aload_n hC dL_law_368 (j := 0) rfl rfl ?_
  refine gl_iload_n hC dL_law_369 (j := 3) rfl rfl ?_
  refine gl_iconst hC dL_law_370 ic_3 ?_
  refine gl_iadd hC dL_law_371 ?_
  refine gl_sld hC hS (hi.2.2.1) dL_law_372 ?_
  refine gl_runM hC hR hA ⟨by omega, by omega⟩ mwX9_change miX9_change (ci := 9) rfl hM.2 (by decide) mlL_27 (kX9_change (G := mG (mG0 z) G.2.2.2) hM.1 hM.2 e2) (Nat.le_of_ble_eq_true rfl) rfl (av := [.int (xs (i + 1).toNatClampNeg), .int (xs (i + 2).toNatClampNeg), .int (xs (i + 3).toNatClampNeg)]) (st := [.int o.1]) rfl (Nat.le_of_ble_eq_true rfl) hI'.2.2 dL_law_373 ?_
  refine gl_eqT hC dL_law_376 e3 ?_
  refine gl_widen (kc' := kc + 20) (ks' := ks + 3030) (by omega) (by omega) ?_
  exact fun _ => nx _ _ _ _ hr' hI'
set_option maxHeartbeats 4000000 in
set_option maxRecDepth 100000 in
theorem lc_remake {C : Cx} {Rm : R2} {b L z n : Nat} {xs : Nat → Int32} {Rel : RelT} (hC : CxOK C cL_law RL (some .boolean)) (hR : C.1.2.2.2.1 = room_1) (hA : ∀ q, C.2.2.2.1.2.2.2.1 ≤ q → AX C.2.2.1 q) (hS : Scr C b L xs) (hM : GX (mG0 z) ∧ own (mG0 z) (z + 75) 19) (hok : Ok_remake n z Rel) {i : Int32} (hi : vp_in (i + 1) L ∧ vp_in (i + 2) L ∧ vp_in (i + 3) L ∧ vp_in (i + 4) L) {V : V2} {R : R2} {G : G2} {U : V2} (hr : Rel V R G U) (hI : LI z (mG0 z) G) {kc ks : Nat} (hk : kc + 20 ≤ 600000 ∧ ks + 3030 ≤ 7302250)
    (nx : ∀ V' R' G' U', Rel V' R' G' U' → LI z (mG0 z) G' → GoL C 1745 [(0, .ref b), (1, .ref z), (2, .ref (z + 75)), (3, .int i)] [] (XL C.2.2.2.1 (mG0 z) Rm G' V' R' U') (kc + 20) (ks + 3030)) : True → GoL C 381 [(0, .ref b), (1, .ref z), (2, .ref (z + 75)), (3, .int i)] [] (XL C.2.2.2.1 (mG0 z) Rm G V R U) kc ks := by
  obtain ⟨o, om, e1, e2, e3, hr'⟩ := hok V R G U hr hI (xs (i + 1).toNatClampNeg) (xs (i + 2).toNatClampNeg)
  have hI' := hI
  refine gl_aload_n hC dL_law_381 (j := 1) rfl rfl ?_
  refine gl_aload_n hC dL_law_382 (j := 0) rfl rfl ?_
  refine gl_iload_n hC dL_law_383 (j := 3) rfl rfl ?_
  refine gl_iconst hC dL_law_384 ic_1 ?_
  refine gl_iadd hC dL_law_385 ?_
  refine gl_sld hC hS (hi.1) dL_law_386 ?_
  refine gl_aload_n hC dL_law_387 (j := 0) rfl rfl ?_
  refine gl_iload_n hC dL_law_388 (j := 3) rfl rfl ?_
  refine gl_iconst hC dL_law_389 ic_2 ?_
  refine gl_iadd hC dL_law_390 ?_
  refine gl_sld hC hS (hi.2.1) dL_law_391 ?_
  refine gl_callC hC hR hA ⟨by omega, by omega⟩ mwX8_remake miX8_remake (ci := 8) rfl hI.2.1 (by decide) mlL_28 (kX8_remake hI.1 hI.2.1 e1) (Nat.le_of_ble_eq_true rfl) rfl (av := [.int (xs (i + 1).toNatClampNeg), .int (xs (i + 2).toNatClampNeg)]) (st := []) rfl (Nat.le_of_ble_eq_true rfl) (GE.rf G) hI.2.2 dL_law_392 ?_
  refine gl_aload_n hC dL_law_395 (j := 2) rfl rfl ?_
  refine gl_aload_n hC dL_law_396 (j := 0) rfl rfl ?_
  refine gl_iload_n hC dL_law_397 (j := 3) rfl rfl ?_
  refine gl_iconst hC dL_law_398 ic_1 ?_
  refine gl_iadd hC dL_law_399 ?_
  refine gl_sld hC hS (hi.1) dL_law_400 ?_
  refine gl_aload_n hC dL_law_401 (j := 0) rfl rfl ?_
  refine gl_iload_n hC dL_law_402 (j := 3) rfl rfl ?_
  refine gl_iconst hC dL_law_403 ic_2 ?_
  refine gl_iadd hC dL_law_404 ?_
  refine gl_sld hC hS (hi.2.1) dL_law_405 ?_
  refine gl_runM hC hR hA ⟨by omega, by omega⟩ mwX9_remake miX9_remake (ci := 9) rfl hM.2 (by decide) mlL_31 (kX9_remake (G := mG (mG0 z) G.2.2.2) hM.1 hM.2 e2) (Nat.le_of_ble_eq_true rfl) rfl (av := [.int (xs (i + 1).toNatClampNeg), .int (xs (i + 2).toNatClampNeg)]) (st := [.int o.1]) rfl (Nat.le_of_ble_eq_true rfl) hI'.2.2 dL_law_406 ?_
  refine gl_eqT hC dL_law_409 e3 ?_
  refine gl_widen (kc' := kc + 20) (ks' := ks + 3030) (by omega) (by omega) ?_
  exact fun _ => nx _ _ _ _ hr' hI'
set_option maxHeartbeats 4000000 in
set_option maxRecDepth 100000 in
theorem lc_iron {C : Cx} {Rm : R2} {b L z n : Nat} {xs : Nat → Int32} {Rel : RelT} (hC : CxOK C cL_law RL (some .boolean)) (hR : C.1.2.2.2.1 = room_1) (hA : ∀ q, C.2.2.2.1.2.2.2.1 ≤ q → AX C.2.2.1 q) (hS : Scr C b L xs) (hM : GX (mG0 z) ∧ own (mG0 z) (z + 75) 19) (hok : Ok_iron n z Rel) {i : Int32} (hi : vp_in (i + 1) L ∧ vp_in (i + 2) L ∧ vp_in (i + 3) L ∧ vp_in (i + 4) L) {V : V2} {R : R2} {G : G2} {U : V2} (hr : Rel V R G U) (hI : LI z (mG0 z) G) {kc ks : Nat} (hk : kc + 20 ≤ 600000 ∧ ks + 3030 ≤ 7302250)
    (nx : ∀ V' R' G' U', Rel V' R' G' U' → LI z (mG0 z) G' → GoL C 1745 [(0, .ref b), (1, .ref z), (2, .ref (z + 75)), (3, .int i)] [] (XL C.2.2.2.1 (mG0 z) Rm G' V' R' U') (kc + 20) (ks + 3030)) : True → GoL C 414 [(0, .ref b), (1, .ref z), (2, .ref (z + 75)), (3, .int i)] [] (XL C.2.2.2.1 (mG0 z) Rm G V R U) kc ks := by
  obtain ⟨o, om, e1, e2, e3, hr'⟩ := hok V R G U hr hI (xs (i + 1).toNatClampNeg) (xs (i + 2).toNatClampNeg)
  have hI' := hI
  refine gl_aload_n hC dL_law_414 (j := 1) rfl rfl ?_
  refine gl_aload_n hC dL_law_415 (j := 0) rfl rfl ?_
  refine gl_iload_n hC dL_law_416 (j := 3) rfl rfl ?_
  refine gl_iconst hC dL_law_417 ic_1 ?_
  refine gl_iadd hC dL_law_418 ?_
  refine gl_sld hC hS (hi.1) dL_law_419 ?_
  refine gl_aload_n hC dL_law_420 (j := 0) rfl rfl ?_
  refine gl_iload_n hC dL_law_421 (j := 3) rfl rfl ?_
  refine gl_iconst hC dL_law_422 ic_2 ?_
  refine gl_iadd hC dL_law_423 ?_
  refine gl_sld hC hS (hi.2.1) dL_law_424 ?_
  refine gl_callC hC hR hA ⟨by omega, by omega⟩ mwX8_iron miX8_iron (ci := 8) rfl hI.2.1 (by decide) mlL_32 (kX8_iron hI.1 hI.2.1 e1) (Nat.le_of_ble_eq_true rfl) rfl (av := [.int (xs (i + 1).toNatClampNeg), .int (xs (i + 2).toNatClampNeg)]) (st := []) rfl (Nat.le_of_ble_eq_true rfl) (GE.rf G) hI.2.2 dL_law_425 ?_
  refine gl_aload_n hC dL_law_428 (j := 2) rfl rfl ?_
  refine gl_aload_n hC dL_law_429 (j := 0) rfl rfl ?_
  refine gl_iload_n hC dL_law_430 (j := 3) rfl rfl ?_
  refine gl_iconst hC dL_law_431 ic_1 ?_
  refine gl_iadd hC dL_law_432 ?_
  refine gl_sld hC hS (hi.1) dL_law_433 ?_
  refine gl_aload_n hC dL_law_434 (j := 0) rfl rfl ?_
  refine gl_iload_n hC dL_law_435 (j := 3) rfl rfl ?_
  refine gl_iconst hC dL_law_436 ic_2 ?_
  refine gl_iadd hC dL_law_437 ?_
  refine gl_sld hC hS (hi.2.1) dL_law_438 ?_
  refine gl_runM hC hR hA ⟨by omega, by omega⟩ mwX9_iron miX9_iron (ci := 9) rfl hM.2 (by decide) mlL_35 (kX9_iron (G := mG (mG0 z) G.2.2.2) hM.1 hM.2 e2) (Nat.le_of_ble_eq_true rfl) rfl (av := [.int (xs (i + 1).toNatClampNeg), .int (xs (i + 2).toNatClampNeg)]) (st := [.int o.1]) rfl (Nat.le_of_ble_eq_true rfl) hI'.2.2 dL_law_439 ?_
  refine gl_eqT hC dL_law_442 e3 ?_
  refine gl_widen (kc' := kc + 20) (ks' := ks + 3030) (by omega) (by omega) ?_
  exact fun _ => nx _ _ _ _ hr' hI'
set_option maxHeartbeats 4000000 in
set_option maxRecDepth 100000 in
theorem lc_board {C : Cx} {Rm : R2} {b L z n : Nat} {xs : Nat → Int32} {Rel : RelT} (hC : CxOK C cL_law RL (some .boolean)) (hR : C.1.2.2.2.1 = room_1) (hA : ∀ q, C.2.2.2.1.2.2.2.1 ≤ q → AX C.2.2.1 q) (hS : Scr C b L xs) (hM : GX (mG0 z) ∧ own (mG0 z) (z + 75) 19) (hok : Ok_board n z Rel) {i : Int32} (hi : vp_in (i + 1) L ∧ vp_in (i + 2) L ∧ vp_in (i + 3) L ∧ vp_in (i + 4) L) {V : V2} {R : R2} {G : G2} {U : V2} (hr : Rel V R G U) (hI : LI z (mG0 z) G) {kc ks : Nat} (hk : kc + 20 ≤ 600000 ∧ ks + 3030 ≤ 7302250)
    (nx : ∀ V' R' G' U', Rel V' R' G' U' → LI z (mG0 z) G' → GoL C 1745 [(0, .ref b), (1, .ref z), (2, .ref (z + 75)), (3, .int i)] [] (XL C.2.2.2.1 (mG0 z) Rm G' V' R' U') (kc + 20) (ks + 3030)) : True → GoL C 447 [(0, .ref b), (1, .ref z), (2, .ref (z + 75)), (3, .int i)] [] (XL C.2.2.2.1 (mG0 z) Rm G V R U) kc ks := by
  obtain ⟨o, om, e1, e2, e3, hr'⟩ := hok V R G U hr hI (xs (i + 1).toNatClampNeg) (xs (i + 2).toNatClampNeg) (xs (i + 3).toNatClampNeg)
  have hI' := hI
  refine gl_aload_n hC dL_law_447 (j := 1) rfl rfl ?_
  refine gl_aload_n hC dL_law_448 (j := 0) rfl rfl ?_
  refine gl_iload_n hC dL_law_449 (j := 3) rfl rfl ?_
  refine gl_iconst hC dL_law_450 ic_1 ?_
  refine gl_iadd hC dL_law_451 ?_
  refine gl_sld hC hS (hi.1) dL_law_452 ?_
  refine gl_aload_n hC dL_law_453 (j := 0) rfl rfl ?_
  refine gl_iload_n hC dL_law_454 (j := 3) rfl rfl ?_
  refine gl_iconst hC dL_law_455 ic_2 ?_
  refine gl_iadd hC dL_law_456 ?_
  refine gl_sld hC hS (hi.2.1) dL_law_457 ?_
  refine gl_aload_n hC dL_law_458 (j := 0) rfl rfl ?_
  refine gl_iload_n hC dL_law_459 (j := 3) rfl rfl ?_
  refine gl_iconst hC dL_law_460 ic_3 ?_
  refine gl_iadd hC dL_law_461 ?_
  refine gl_sld hC hS (hi.2.2.1) dL_law_462 ?_
  refine gl_callC hC hR hA ⟨by omega, by omega⟩ mwX8_board miX8_board (ci := 8) rfl hI.2.1 (by decide) mlL_36 (kX8_board hI.1 hI.2.1 e1) (Nat.le_of_ble_eq_true rfl) rfl (av := [.int (xs (i + 1).toNatClampNeg), .int (xs (i + 2).toNatClampNeg), .int (xs (i + 3).toNatClampNeg)]) (st := []) rfl (Nat.le_of_ble_eq_true rfl) (GE.rf G) hI.2.2 dL_law_463 ?_
  refine gl_aload_n hC dL_law_466 (j := 2) rfl rfl ?_
  refine gl_aload_n hC dL_law_467 (j := 0) rfl rfl ?_
  refine gl_iload_n hC dL_law_468 (j := 3) rfl rfl ?_
  refine gl_iconst hC dL_law_469 ic_1 ?_
  refine gl_iadd hC dL_law_470 ?_
  refine gl_sld hC hS (hi.1) dL_law_471 ?_
  refine gl_aload_n hC dL_law_472 (j := 0) rfl rfl ?_
  refine gl_iload_n hC dL_law_473 (j := 3) rfl rfl ?_
  refine gl_iconst hC dL_law_474 ic_2 ?_
  refine gl_iadd hC dL_law_475 ?_
  refine gl_sld hC hS (hi.2.1) dL_law_476 ?_
  refine gl_aload_n hC dL_law_477 (j := 0) rfl rfl ?_
  refine gl_iload_n hC dL_law_478 (j := 3) rfl rfl ?_
  refine gl_iconst hC dL_law_479 ic_3 ?_
  refine gl_iadd hC dL_law_480 ?_
  refine gl_sld hC hS (hi.2.2.1) dL_law_481 ?_
  refine gl_runM hC hR hA ⟨by omega, by omega⟩ mwX9_board miX9_board (ci := 9) rfl hM.2 (by decide) mlL_39 (kX9_board (G := mG (mG0 z) G.2.2.2) hM.1 hM.2 e2) (Nat.le_of_ble_eq_true rfl) rfl (av := [.int (xs (i + 1).toNatClampNeg), .int (xs (i + 2).toNatClampNeg), .int (xs (i + 3).toNatClampNeg)]) (st := [.int o.1]) rfl (Nat.le_of_ble_eq_true rfl) hI'.2.2 dL_law_482 ?_
  refine gl_eqT hC dL_law_485 e3 ?_
  refine gl_widen (kc' := kc + 20) (ks' := ks + 3030) (by omega) (by omega) ?_
  exact fun _ => nx _ _ _ _ hr' hI'
set_option maxHeartbeats 4000000 in
set_option maxRecDepth 100000 in
theorem lc_boardOf {C : Cx} {Rm : R2} {b L z n : Nat} {xs : Nat → Int32} {Rel : RelT} (hC : CxOK C cL_law RL (some .boolean)) (hR : C.1.2.2.2.1 = room_1) (hA : ∀ q, C.2.2.2.1.2.2.2.1 ≤ q → AX C.2.2.1 q) (hS : Scr C b L xs) (hM : GX (mG0 z) ∧ own (mG0 z) (z + 75) 19) (hok : Ok_boardOf n z Rel) {i : Int32} (hi : vp_in (i + 1) L ∧ vp_in (i + 2) L ∧ vp_in (i + 3) L ∧ vp_in (i + 4) L) {V : V2} {R : R2} {G : G2} {U : V2} (hr : Rel V R G U) (hI : LI z (mG0 z) G) {kc ks : Nat} (hk : kc + 20 ≤ 600000 ∧ ks + 3030 ≤ 7302250)
    (nx : ∀ V' R' G' U', Rel V' R' G' U' → LI z (mG0 z) G' → GoL C 1745 [(0, .ref b), (1, .ref z), (2, .ref (z + 75)), (3, .int i)] [] (XL C.2.2.2.1 (mG0 z) Rm G' V' R' U') (kc + 20) (ks + 3030)) : True → GoL C 490 [(0, .ref b), (1, .ref z), (2, .ref (z + 75)), (3, .int i)] [] (XL C.2.2.2.1 (mG0 z) Rm G V R U) kc ks := by
  obtain ⟨o, om, e1, e2, e3, hr'⟩ := hok V R G U hr hI (xs (i + 1).toNatClampNeg) (xs (i + 2).toNatClampNeg)
  have hI' := hI
  refine gl_aload_n hC dL_law_490 (j := 1) rfl rfl ?_
  refine gl_aload_n hC dL_law_491 (j := 0) rfl rfl ?_
  refine gl_iload_n hC dL_law_492 (j := 3) rfl rfl ?_
  refine gl_iconst hC dL_law_493 ic_1 ?_
  refine gl_iadd hC dL_law_494 ?_
  refine gl_sld hC hS (hi.1) dL_law_495 ?_
  refine gl_aload_n hC dL_law_496 (j := 0) rfl rfl ?_
  refine gl_iload_n hC dL_law_497 (j := 3) rfl rfl ?_
  refine gl_iconst hC dL_law_498 ic_2 ?_
  refine gl_iadd hC dL_law_499 ?_
  refine gl_sld hC hS (hi.2.1) dL_law_500 ?_
  refine gl_callC hC hR hA ⟨by omega, by omega⟩ mwX8_boardOf miX8_boardOf (ci := 8) rfl hI.2.1 (by decide) mlL_40 (kX8_boardOf hI.1 hI.2.1 e1) (Nat.le_of_ble_eq_true rfl) rfl (av := [.int (xs (i + 1).toNatClampNeg), .int (xs (i + 2).toNatClampNeg)]) (st := []) rfl (Nat.le_of_ble_eq_true rfl) (GE.rf G) hI.2.2 dL_law_501 ?_
  refine gl_aload_n hC dL_law_504 (j := 2) rfl rfl ?_
  refine gl_aload_n hC dL_law_505 (j := 0) rfl rfl ?_
  refine gl_iload_n hC dL_law_506 (j := 3) rfl rfl ?_
  refine gl_iconst hC dL_law_507 ic_1 ?_
  refine gl_iadd hC dL_law_508 ?_
  refine gl_sld hC hS (hi.1) dL_law_509 ?_
  refine gl_aload_n hC dL_law_510 (j := 0) rfl rfl ?_
  refine gl_iload_n hC dL_law_511 (j := 3) rfl rfl ?_
  refine gl_iconst hC dL_law_512 ic_2 ?_
  refine gl_iadd hC dL_law_513 ?_
  refine gl_sld hC hS (hi.2.1) dL_law_514 ?_
  refine gl_runM hC hR hA ⟨by omega, by omega⟩ mwX9_boardOf miX9_boardOf (ci := 9) rfl hM.2 (by decide) mlL_43 (kX9_boardOf (G := mG (mG0 z) G.2.2.2) hM.1 hM.2 e2) (Nat.le_of_ble_eq_true rfl) rfl (av := [.int (xs (i + 1).toNatClampNeg), .int (xs (i + 2).toNatClampNeg)]) (st := [.int o]) rfl (Nat.le_of_ble_eq_true rfl) hI'.2.2 dL_law_515 ?_
  refine gl_eqT hC dL_law_518 e3 ?_
  refine gl_widen (kc' := kc + 20) (ks' := ks + 3030) (by omega) (by omega) ?_
  exact fun _ => nx _ _ _ _ hr' hI'
set_option maxHeartbeats 4000000 in
set_option maxRecDepth 100000 in
theorem lc_ends {C : Cx} {Rm : R2} {b L z n : Nat} {xs : Nat → Int32} {Rel : RelT} (hC : CxOK C cL_law RL (some .boolean)) (hR : C.1.2.2.2.1 = room_1) (hA : ∀ q, C.2.2.2.1.2.2.2.1 ≤ q → AX C.2.2.1 q) (hS : Scr C b L xs) (hM : GX (mG0 z) ∧ own (mG0 z) (z + 75) 19) (hok : Ok_ends n z Rel) {i : Int32} (hi : vp_in (i + 1) L ∧ vp_in (i + 2) L ∧ vp_in (i + 3) L ∧ vp_in (i + 4) L) {V : V2} {R : R2} {G : G2} {U : V2} (hr : Rel V R G U) (hI : LI z (mG0 z) G) {kc ks : Nat} (hk : kc + 20 ≤ 600000 ∧ ks + 3030 ≤ 7302250)
    (nx : ∀ V' R' G' U', Rel V' R' G' U' → LI z (mG0 z) G' → GoL C 1745 [(0, .ref b), (1, .ref z), (2, .ref (z + 75)), (3, .int i)] [] (XL C.2.2.2.1 (mG0 z) Rm G' V' R' U') (kc + 20) (ks + 3030)) : True → GoL C 523 [(0, .ref b), (1, .ref z), (2, .ref (z + 75)), (3, .int i)] [] (XL C.2.2.2.1 (mG0 z) Rm G V R U) kc ks := by
  obtain ⟨o, om, e1, e2, e3, hr'⟩ := hok V R G U hr hI (xs (i + 1).toNatClampNeg)
  have hI' := hI
  refine gl_aload_n hC dL_law_523 (j := 1) rfl rfl ?_
  refine gl_aload_n hC dL_law_524 (j := 0) rfl rfl ?_
  refine gl_iload_n hC dL_law_525 (j := 3) rfl rfl ?_
  refine gl_iconst hC dL_law_526 ic_1 ?_
  refine gl_iadd hC dL_law_527 ?_
  refine gl_sld hC hS (hi.1) dL_law_528 ?_
  refine gl_callC hC hR hA ⟨by omega, by omega⟩ mwX8_ends miX8_ends (ci := 8) rfl hI.2.1 (by decide) mlL_44 (kX8_ends hI.1 hI.2.1 e1) (Nat.le_of_ble_eq_true rfl) rfl (av := [.int (xs (i + 1).toNatClampNeg)]) (st := []) rfl (Nat.le_of_ble_eq_true rfl) (GE.rf G) hI.2.2 dL_law_529 ?_
  refine gl_aload_n hC dL_law_532 (j := 2) rfl rfl ?_
  refine gl_aload_n hC dL_law_533 (j := 0) rfl rfl ?_
  refine gl_iload_n hC dL_law_534 (j := 3) rfl rfl ?_
  refine gl_iconst hC dL_law_535 ic_1 ?_
  refine gl_iadd hC dL_law_536 ?_
  refine gl_sld hC hS (hi.1) dL_law_537 ?_
  refine gl_runM hC hR hA ⟨by omega, by omega⟩ mwX9_ends miX9_ends (ci := 9) rfl hM.2 (by decide) mlL_48 (kX9_ends (G := mG (mG0 z) G.2.2.2) hM.1 hM.2 e2) (Nat.le_of_ble_eq_true rfl) rfl (av := [.int (xs (i + 1).toNatClampNeg)]) (st := [.int o.1]) rfl (Nat.le_of_ble_eq_true rfl) hI'.2.2 dL_law_538 ?_
  refine gl_eqT hC dL_law_541 e3 ?_
  refine gl_widen (kc' := kc + 20) (ks' := ks + 3030) (by omega) (by omega) ?_
  exact fun _ => nx _ _ _ _ hr' hI'
set_option maxHeartbeats 4000000 in
set_option maxRecDepth 100000 in
theorem lc_anew {C : Cx} {Rm : R2} {b L z n : Nat} {xs : Nat → Int32} {Rel : RelT} (hC : CxOK C cL_law RL (some .boolean)) (hR : C.1.2.2.2.1 = room_1) (hA : ∀ q, C.2.2.2.1.2.2.2.1 ≤ q → AX C.2.2.1 q) (hS : Scr C b L xs) (hM : GX (mG0 z) ∧ own (mG0 z) (z + 75) 19) (hok : Ok_anew n z Rel) {i : Int32} (hi : vp_in (i + 1) L ∧ vp_in (i + 2) L ∧ vp_in (i + 3) L ∧ vp_in (i + 4) L) {V : V2} {R : R2} {G : G2} {U : V2} (hr : Rel V R G U) (hI : LI z (mG0 z) G) {kc ks : Nat} (hk : kc + 20 ≤ 600000 ∧ ks + 3030 ≤ 7302250)
    (nx : ∀ V' R' G' U', Rel V' R' G' U' → LI z (mG0 z) G' → GoL C 1745 [(0, .ref b), (1, .ref z), (2, .ref (z + 75)), (3, .int i)] [] (XL C.2.2.2.1 (mG0 z) Rm G' V' R' U') (kc + 20) (ks + 3030)) : True → GoL C 546 [(0, .ref b), (1, .ref z), (2, .ref (z + 75)), (3, .int i)] [] (XL C.2.2.2.1 (mG0 z) Rm G V R U) kc ks := by
  obtain ⟨o, om, e1, e2, e3, hr'⟩ := hok V R G U hr hI 
  have hI' := hI
  refine gl_aload_n hC dL_law_546 (j := 1) rfl rfl ?_
  refine gl_callC hC hR hA ⟨by omega, by omega⟩ mwX8_anew miX8_anew (ci := 8) rfl hI.2.1 (by decide) mlL_49 (kX8_anew hI.1 hI.2.1 e1) (Nat.le_of_ble_eq_true rfl) rfl (av := []) (st := []) rfl (Nat.le_of_ble_eq_true rfl) (GE.rf G) hI.2.2 dL_law_547 ?_
  refine gl_aload_n hC dL_law_550 (j := 2) rfl rfl ?_
  refine gl_runM hC hR hA ⟨by omega, by omega⟩ mwX9_anew miX9_anew (ci := 9) rfl hM.2 (by decide) mlL_53 (kX9_anew (G := mG (mG0 z) G.2.2.2) hM.1 hM.2 e2) (Nat.le_of_ble_eq_true rfl) rfl (av := []) (st := [.int o.1]) rfl (Nat.le_of_ble_eq_true rfl) hI'.2.2 dL_law_551 ?_
  refine gl_eqT hC dL_law_554 e3 ?_
  refine gl_widen (kc' := kc + 20) (ks' := ks + 3030) (by omega) (by omega) ?_
  exact fun _ => nx _ _ _ _ hr' hI'
set_option maxHeartbeats 4000000 in
set_option maxRecDepth 100000 in
theorem lc_state {C : Cx} {Rm : R2} {b L z n : Nat} {xs : Nat → Int32} {Rel : RelT} (hC : CxOK C cL_law RL (some .boolean)) (hR : C.1.2.2.2.1 = room_1) (hA : ∀ q, C.2.2.2.1.2.2.2.1 ≤ q → AX C.2.2.1 q) (hS : Scr C b L xs) (hM : GX (mG0 z) ∧ own (mG0 z) (z + 75) 19) (hok : Ok_state n z Rel) {i : Int32} (hi : vp_in (i + 1) L ∧ vp_in (i + 2) L ∧ vp_in (i + 3) L ∧ vp_in (i + 4) L) {V : V2} {R : R2} {G : G2} {U : V2} (hr : Rel V R G U) (hI : LI z (mG0 z) G) {kc ks : Nat} (hk : kc + 20 ≤ 600000 ∧ ks + 3030 ≤ 7302250)
    (nx : ∀ V' R' G' U', Rel V' R' G' U' → LI z (mG0 z) G' → GoL C 1745 [(0, .ref b), (1, .ref z), (2, .ref (z + 75)), (3, .int i)] [] (XL C.2.2.2.1 (mG0 z) Rm G' V' R' U') (kc + 20) (ks + 3030)) : True → GoL C 559 [(0, .ref b), (1, .ref z), (2, .ref (z + 75)), (3, .int i)] [] (XL C.2.2.2.1 (mG0 z) Rm G V R U) kc ks := by
  obtain ⟨o, om, e1, e2, e3, hr'⟩ := hok V R G U hr hI (xs (i + 1).toNatClampNeg)
  have hI' := hI
  refine gl_aload_n hC dL_law_559 (j := 1) rfl rfl ?_
  refine gl_aload_n hC dL_law_560 (j := 0) rfl rfl ?_
  refine gl_iload_n hC dL_law_561 (j := 3) rfl rfl ?_
  refine gl_iconst hC dL_law_562 ic_1 ?_
  refine gl_iadd hC dL_law_563 ?_
  refine gl_sld hC hS (hi.1) dL_law_564 ?_
  refine gl_callC hC hR hA ⟨by omega, by omega⟩ mwX8_state miX8_state (ci := 8) rfl hI.2.1 (by decide) mlL_54 (kX8_state hI.1 hI.2.1 e1) (Nat.le_of_ble_eq_true rfl) rfl (av := [.int (xs (i + 1).toNatClampNeg)]) (st := []) rfl (Nat.le_of_ble_eq_true rfl) (GE.rf G) hI.2.2 dL_law_565 ?_
  refine gl_aload_n hC dL_law_568 (j := 2) rfl rfl ?_
  refine gl_aload_n hC dL_law_569 (j := 0) rfl rfl ?_
  refine gl_iload_n hC dL_law_570 (j := 3) rfl rfl ?_
  refine gl_iconst hC dL_law_571 ic_1 ?_
  refine gl_iadd hC dL_law_572 ?_
  refine gl_sld hC hS (hi.1) dL_law_573 ?_
  refine gl_runM hC hR hA ⟨by omega, by omega⟩ mwX9_state miX9_state (ci := 9) rfl hM.2 (by decide) mlL_57 (kX9_state (G := mG (mG0 z) G.2.2.2) hM.1 hM.2 e2) (Nat.le_of_ble_eq_true rfl) rfl (av := [.int (xs (i + 1).toNatClampNeg)]) (st := [.int o]) rfl (Nat.le_of_ble_eq_true rfl) hI'.2.2 dL_law_574 ?_
  refine gl_eqT hC dL_law_577 e3 ?_
  refine gl_widen (kc' := kc + 20) (ks' := ks + 3030) (by omega) (by omega) ?_
  exact fun _ => nx _ _ _ _ hr' hI'
set_option maxHeartbeats 4000000 in
set_option maxRecDepth 100000 in
theorem lc_feed {C : Cx} {Rm : R2} {b L z n : Nat} {xs : Nat → Int32} {Rel : RelT} (hC : CxOK C cL_law RL (some .boolean)) (hR : C.1.2.2.2.1 = room_1) (hA : ∀ q, C.2.2.2.1.2.2.2.1 ≤ q → AX C.2.2.1 q) (hS : Scr C b L xs) (hM : GX (mG0 z) ∧ own (mG0 z) (z + 75) 19) (hok : Ok_feed n z Rel) {i : Int32} (hi : vp_in (i + 1) L ∧ vp_in (i + 2) L ∧ vp_in (i + 3) L ∧ vp_in (i + 4) L) {V : V2} {R : R2} {G : G2} {U : V2} (hr : Rel V R G U) (hI : LI z (mG0 z) G) {kc ks : Nat} (hk : kc + 20 ≤ 600000 ∧ ks + 3030 ≤ 7302250)
    (nx : ∀ V' R' G' U', Rel V' R' G' U' → LI z (mG0 z) G' → GoL C 1745 [(0, .ref b), (1, .ref z), (2, .ref (z + 75)), (3, .int i)] [] (XL C.2.2.2.1 (mG0 z) Rm G' V' R' U') (kc + 20) (ks + 3030)) : True → GoL C 582 [(0, .ref b), (1, .ref z), (2, .ref (z + 75)), (3, .int i)] [] (XL C.2.2.2.1 (mG0 z) Rm G V R U) kc ks := by
  obtain ⟨o, om, e1, e2, e3, hr'⟩ := hok V R G U hr hI (((xs (i + 1).toNatClampNeg).toInt64 <<< ((32 : Int32).toInt64 &&& 63)) ||| ((xs (i + 2).toNatClampNeg).toInt64 &&& 4294967295)) (xs (i + 3).toNatClampNeg)
  have hI' := hI
  refine gl_aload_n hC dL_law_582 (j := 1) rfl rfl ?_
  refine gl_aload_n hC dL_law_583 (j := 0) rfl rfl ?_
  refine gl_iload_n hC dL_law_584 (j := 3) rfl rfl ?_
  refine gl_iconst hC dL_law_585 ic_1 ?_
  refine gl_iadd hC dL_law_586 ?_
  refine gl_sld hC hS (hi.1) dL_law_587 ?_
  refine gl_i2l hC dL_law_588 ?_
  refine gl_bipush hC dL_law_589 bc_32 ?_
  refine gl_lshl hC dL_law_591 ?_
  refine gl_aload_n hC dL_law_592 (j := 0) rfl rfl ?_
  refine gl_iload_n hC dL_law_593 (j := 3) rfl rfl ?_
  refine gl_iconst hC dL_law_594 ic_2 ?_
  refine gl_iadd hC dL_law_595 ?_
  refine gl_sld hC hS (hi.2.1) dL_law_596 ?_
  refine gl_i2l hC dL_law_597 ?_
  refine gl_ldc2 hC dL_law_598 clL_58 ?_
  refine gl_land hC dL_law_601 ?_
  refine gl_lor hC dL_law_602 ?_
  refine gl_aload_n hC dL_law_603 (j := 0) rfl rfl ?_
  refine gl_iload_n hC dL_law_604 (j := 3) rfl rfl ?_
  refine gl_iconst hC dL_law_605 ic_3 ?_
  refine gl_iadd hC dL_law_606 ?_
  refine gl_sld hC hS (hi.2.2.1) dL_law_607 ?_
  refine gl_callC hC hR hA ⟨by omega, by omega⟩ mwX8_feed miX8_feed (ci := 8) rfl hI.2.1 (by decide) mlL_60 (kX8_feed hI.1 hI.2.1 e1) (Nat.le_of_ble_eq_true rfl) rfl (av := [.long (((xs (i + 1).toNatClampNeg).toInt64 <<< ((32 : Int32).toInt64 &&& 63)) ||| ((xs (i + 2).toNatClampNeg).toInt64 &&& 4294967295)), .int (xs (i + 3).toNatClampNeg)]) (st := []) rfl (Nat.le_of_ble_eq_true rfl) (GE.rf G) hI.2.2 dL_law_608 ?_
  refine gl_aload_n hC dL_law_611 (j := 2) rfl rfl ?_
  refine gl_aload_n hC dL_law_612 (j := 0) rfl rfl ?_
  refine gl_iload_n hC dL_law_613 (j := 3) rfl rfl ?_
  refine gl_iconst hC dL_law_614 ic_1 ?_
  refine gl_iadd hC dL_law_615 ?_
  refine gl_sld hC hS (hi.1) dL_law_616 ?_
  refine gl_i2l hC dL_law_617 ?_
  refine gl_bipush hC dL_law_618 bc_32 ?_
  refine gl_lshl hC dL_law_620 ?_
  refine gl_aload_n hC dL_law_621 (j := 0) rfl rfl ?_
  refine gl_iload_n hC dL_law_622 (j := 3) rfl rfl ?_
  refine gl_iconst hC dL_law_623 ic_2 ?_
  refine gl_iadd hC dL_law_624 ?_
  refine gl_sld hC hS (hi.2.1) dL_law_625 ?_
  refine gl_i2l hC dL_law_626 ?_
  refine gl_ldc2 hC dL_law_627 clL_58 ?_
  refine gl_land hC dL_law_630 ?_
  refine gl_lor hC dL_law_631 ?_
  refine gl_aload_n hC dL_law_632 (j := 0) rfl rfl ?_
  refine gl_iload_n hC dL_law_633 (j := 3) rfl rfl ?_
  refine gl_iconst hC dL_law_634 ic_3 ?_
  refine gl_iadd hC dL_law_635 ?_
  refine gl_sld hC hS (hi.2.2.1) dL_law_636 ?_
  refine gl_runM hC hR hA ⟨by omega, by omega⟩ mwX9_feed miX9_feed (ci := 9) rfl hM.2 (by decide) mlL_64 (kX9_feed (G := mG (mG0 z) G.2.2.2) hM.1 hM.2 e2) (Nat.le_of_ble_eq_true rfl) rfl (av := [.long (((xs (i + 1).toNatClampNeg).toInt64 <<< ((32 : Int32).toInt64 &&& 63)) ||| ((xs (i + 2).toNatClampNeg).toInt64 &&& 4294967295)), .int (xs (i + 3).toNatClampNeg)]) (st := [.int o.1]) rfl (Nat.le_of_ble_eq_true rfl) hI'.2.2 dL_law_637 ?_
  refine gl_eqT hC dL_law_640 e3 ?_
  refine gl_widen (kc' := kc + 20) (ks' := ks + 3030) (by omega) (by omega) ?_
  exact fun _ => nx _ _ _ _ hr' hI'
set_option maxHeartbeats 4000000 in
set_option maxRecDepth 100000 in
theorem lc_rules {C : Cx} {Rm : R2} {b L z n : Nat} {xs : Nat → Int32} {Rel : RelT} (hC : CxOK C cL_law RL (some .boolean)) (hR : C.1.2.2.2.1 = room_1) (hA : ∀ q, C.2.2.2.1.2.2.2.1 ≤ q → AX C.2.2.1 q) (hS : Scr C b L xs) (hM : GX (mG0 z) ∧ own (mG0 z) (z + 75) 19) (hok : Ok_rules n z Rel) {i : Int32} (hi : vp_in (i + 1) L ∧ vp_in (i + 2) L ∧ vp_in (i + 3) L ∧ vp_in (i + 4) L) {V : V2} {R : R2} {G : G2} {U : V2} (hr : Rel V R G U) (hI : LI z (mG0 z) G) {kc ks : Nat} (hk : kc + 20 ≤ 600000 ∧ ks + 3030 ≤ 7302250)
    (nx : ∀ V' R' G' U', Rel V' R' G' U' → LI z (mG0 z) G' → GoL C 1745 [(0, .ref b), (1, .ref z), (2, .ref (z + 75)), (3, .int i)] [] (XL C.2.2.2.1 (mG0 z) Rm G' V' R' U') (kc + 20) (ks + 3030)) : True → GoL C 645 [(0, .ref b), (1, .ref z), (2, .ref (z + 75)), (3, .int i)] [] (XL C.2.2.2.1 (mG0 z) Rm G V R U) kc ks := by
  obtain ⟨o, om, e1, e2, e3, hr'⟩ := hok V R G U hr hI 
  have hg := rules_G e1
  refine gl_fact (fun H q => (⟨fun _ hx => wd_lt q.1 hx, fun _ hx => wd_lt q.2 hx⟩ : WfG G ∧ ∀ x, x ∈ (mG0 z).1 → x < G.2.2.2)) (fun hq => ?_)
  have hI' := hI.grow (n := 0) hg hq.1 hq.2
  refine gl_aload_n hC dL_law_645 (j := 1) rfl rfl ?_
  refine gl_callC hC hR hA ⟨by omega, by omega⟩ mwX8_rules miX8_rules (ci := 8) rfl hI.2.1 (by decide) mlL_65 (kX8_rules hI.1 hI.2.1 e1) (Nat.le_of_ble_eq_true rfl) rfl (av := []) (st := []) rfl (Nat.le_of_ble_eq_true rfl) hg.1 hI.2.2 dL_law_646 ?_
  refine gl_aload_n hC dL_law_649 (j := 2) rfl rfl ?_
  refine gl_runM hC hR hA ⟨by omega, by omega⟩ mwX9_rules miX9_rules (ci := 9) rfl hM.2 (by decide) mlL_68 (kX9_rules (G := mG (mG0 z) o.2.2.2.2.2.2) hM.1 hM.2 e2) (Nat.le_of_ble_eq_true rfl) rfl (av := []) (st := [.int o.1]) rfl (Nat.le_of_ble_eq_true rfl) hI'.2.2 dL_law_650 ?_
  refine gl_eqT hC dL_law_653 e3 ?_
  refine gl_widen (kc' := kc + 20) (ks' := ks + 3030) (by omega) (by omega) ?_
  exact fun _ => nx _ _ _ _ hr' hI'
set_option maxHeartbeats 4000000 in
set_option maxRecDepth 100000 in
theorem lc_wash {C : Cx} {Rm : R2} {b L z n : Nat} {xs : Nat → Int32} {Rel : RelT} (hC : CxOK C cL_law RL (some .boolean)) (hR : C.1.2.2.2.1 = room_1) (hA : ∀ q, C.2.2.2.1.2.2.2.1 ≤ q → AX C.2.2.1 q) (hS : Scr C b L xs) (hM : GX (mG0 z) ∧ own (mG0 z) (z + 75) 19) (hok : Ok_wash n z Rel) {i : Int32} (hi : vp_in (i + 1) L ∧ vp_in (i + 2) L ∧ vp_in (i + 3) L ∧ vp_in (i + 4) L) {V : V2} {R : R2} {G : G2} {U : V2} (hr : Rel V R G U) (hI : LI z (mG0 z) G) {kc ks : Nat} (hk : kc + 20 ≤ 600000 ∧ ks + 3030 ≤ 7302250)
    (nx : ∀ V' R' G' U', Rel V' R' G' U' → LI z (mG0 z) G' → GoL C 1745 [(0, .ref b), (1, .ref z), (2, .ref (z + 75)), (3, .int i)] [] (XL C.2.2.2.1 (mG0 z) Rm G' V' R' U') (kc + 20) (ks + 3030)) : True → GoL C 658 [(0, .ref b), (1, .ref z), (2, .ref (z + 75)), (3, .int i)] [] (XL C.2.2.2.1 (mG0 z) Rm G V R U) kc ks := by
  obtain ⟨o, om, e1, e2, e3, hr'⟩ := hok V R G U hr hI 
  have hI' := hI
  refine gl_aload_n hC dL_law_658 (j := 1) rfl rfl ?_
  refine gl_callC hC hR hA ⟨by omega, by omega⟩ mwX8_wash miX8_wash (ci := 8) rfl hI.2.1 (by decide) mlL_69 (kX8_wash hI.1 hI.2.1 e1) (Nat.le_of_ble_eq_true rfl) rfl (av := []) (st := []) rfl (Nat.le_of_ble_eq_true rfl) (GE.rf G) hI.2.2 dL_law_659 ?_
  refine gl_aload_n hC dL_law_662 (j := 2) rfl rfl ?_
  refine gl_runM hC hR hA ⟨by omega, by omega⟩ mwX9_wash miX9_wash (ci := 9) rfl hM.2 (by decide) mlL_72 (kX9_wash (G := mG (mG0 z) G.2.2.2) hM.1 hM.2 e2) (Nat.le_of_ble_eq_true rfl) rfl (av := []) (st := [.int o.1]) rfl (Nat.le_of_ble_eq_true rfl) hI'.2.2 dL_law_663 ?_
  refine gl_eqT hC dL_law_666 e3 ?_
  refine gl_widen (kc' := kc + 20) (ks' := ks + 3030) (by omega) (by omega) ?_
  exact fun _ => nx _ _ _ _ hr' hI'
set_option maxHeartbeats 4000000 in
set_option maxRecDepth 100000 in
theorem lc_on {C : Cx} {Rm : R2} {b L z n : Nat} {xs : Nat → Int32} {Rel : RelT} (hC : CxOK C cL_law RL (some .boolean)) (hR : C.1.2.2.2.1 = room_1) (hA : ∀ q, C.2.2.2.1.2.2.2.1 ≤ q → AX C.2.2.1 q) (hS : Scr C b L xs) (hM : GX (mG0 z) ∧ own (mG0 z) (z + 75) 19) (hok : Ok_on n z Rel) {i : Int32} (hi : vp_in (i + 1) L ∧ vp_in (i + 2) L ∧ vp_in (i + 3) L ∧ vp_in (i + 4) L) {V : V2} {R : R2} {G : G2} {U : V2} (hr : Rel V R G U) (hI : LI z (mG0 z) G) {kc ks : Nat} (hk : kc + 20 ≤ 600000 ∧ ks + 3030 ≤ 7302250)
    (nx : ∀ V' R' G' U', Rel V' R' G' U' → LI z (mG0 z) G' → GoL C 1745 [(0, .ref b), (1, .ref z), (2, .ref (z + 75)), (3, .int i)] [] (XL C.2.2.2.1 (mG0 z) Rm G' V' R' U') (kc + 20) (ks + 3030)) : True → GoL C 671 [(0, .ref b), (1, .ref z), (2, .ref (z + 75)), (3, .int i)] [] (XL C.2.2.2.1 (mG0 z) Rm G V R U) kc ks := by
  obtain ⟨o, om, e1, e2, e3, hr'⟩ := hok V R G U hr hI (xs (i + 1).toNatClampNeg)
  have hI' := hI
  refine gl_aload_n hC dL_law_671 (j := 1) rfl rfl ?_
  refine gl_aload_n hC dL_law_672 (j := 0) rfl rfl ?_
  refine gl_iload_n hC dL_law_673 (j := 3) rfl rfl ?_
  refine gl_iconst hC dL_law_674 ic_1 ?_
  refine gl_iadd hC dL_law_675 ?_
  refine gl_sld hC hS (hi.1) dL_law_676 ?_
  refine gl_callC hC hR hA ⟨by omega, by omega⟩ mwX8_on miX8_on (ci := 8) rfl hI.2.1 (by decide) mlL_73 (kX8_on hI.1 hI.2.1 e1) (Nat.le_of_ble_eq_true rfl) rfl (av := [.int (xs (i + 1).toNatClampNeg)]) (st := []) rfl (Nat.le_of_ble_eq_true rfl) (GE.rf G) hI.2.2 dL_law_677 ?_
  refine gl_aload_n hC dL_law_680 (j := 2) rfl rfl ?_
  refine gl_aload_n hC dL_law_681 (j := 0) rfl rfl ?_
  refine gl_iload_n hC dL_law_682 (j := 3) rfl rfl ?_
  refine gl_iconst hC dL_law_683 ic_1 ?_
  refine gl_iadd hC dL_law_684 ?_
  refine gl_sld hC hS (hi.1) dL_law_685 ?_
  refine gl_runM hC hR hA ⟨by omega, by omega⟩ mwX9_on miX9_on (ci := 9) rfl hM.2 (by decide) mlL_76 (kX9_on (G := mG (mG0 z) G.2.2.2) hM.1 hM.2 e2) (Nat.le_of_ble_eq_true rfl) rfl (av := [.int (xs (i + 1).toNatClampNeg)]) (st := [.int o.1]) rfl (Nat.le_of_ble_eq_true rfl) hI'.2.2 dL_law_686 ?_
  refine gl_eqT hC dL_law_689 e3 ?_
  refine gl_widen (kc' := kc + 20) (ks' := ks + 3030) (by omega) (by omega) ?_
  exact fun _ => nx _ _ _ _ hr' hI'
set_option maxHeartbeats 4000000 in
set_option maxRecDepth 100000 in
theorem lc_when {C : Cx} {Rm : R2} {b L z n : Nat} {xs : Nat → Int32} {Rel : RelT} (hC : CxOK C cL_law RL (some .boolean)) (hR : C.1.2.2.2.1 = room_1) (hA : ∀ q, C.2.2.2.1.2.2.2.1 ≤ q → AX C.2.2.1 q) (hS : Scr C b L xs) (hM : GX (mG0 z) ∧ own (mG0 z) (z + 75) 19) (hok : Ok_when n z Rel) {i : Int32} (hi : vp_in (i + 1) L ∧ vp_in (i + 2) L ∧ vp_in (i + 3) L ∧ vp_in (i + 4) L) {V : V2} {R : R2} {G : G2} {U : V2} (hr : Rel V R G U) (hI : LI z (mG0 z) G) {kc ks : Nat} (hk : kc + 20 ≤ 600000 ∧ ks + 3030 ≤ 7302250)
    (nx : ∀ V' R' G' U', Rel V' R' G' U' → LI z (mG0 z) G' → GoL C 1745 [(0, .ref b), (1, .ref z), (2, .ref (z + 75)), (3, .int i)] [] (XL C.2.2.2.1 (mG0 z) Rm G' V' R' U') (kc + 20) (ks + 3030)) : True → GoL C 694 [(0, .ref b), (1, .ref z), (2, .ref (z + 75)), (3, .int i)] [] (XL C.2.2.2.1 (mG0 z) Rm G V R U) kc ks := by
  obtain ⟨o, om, e1, e2, e3, hr'⟩ := hok V R G U hr hI (xs (i + 1).toNatClampNeg)
  have hI' := hI
  refine gl_aload_n hC dL_law_694 (j := 1) rfl rfl ?_
  refine gl_aload_n hC dL_law_695 (j := 0) rfl rfl ?_
  refine gl_iload_n hC dL_law_696 (j := 3) rfl rfl ?_
  refine gl_iconst hC dL_law_697 ic_1 ?_
  refine gl_iadd hC dL_law_698 ?_
  refine gl_sld hC hS (hi.1) dL_law_699 ?_
  refine gl_callC hC hR hA ⟨by omega, by omega⟩ mwX8_when miX8_when (ci := 8) rfl hI.2.1 (by decide) mlL_77 (kX8_when hI.1 hI.2.1 e1) (Nat.le_of_ble_eq_true rfl) rfl (av := [.int (xs (i + 1).toNatClampNeg)]) (st := []) rfl (Nat.le_of_ble_eq_true rfl) (GE.rf G) hI.2.2 dL_law_700 ?_
  refine gl_aload_n hC dL_law_703 (j := 2) rfl rfl ?_
  refine gl_aload_n hC dL_law_704 (j := 0) rfl rfl ?_
  refine gl_iload_n hC dL_law_705 (j := 3) rfl rfl ?_
  refine gl_iconst hC dL_law_706 ic_1 ?_
  refine gl_iadd hC dL_law_707 ?_
  refine gl_sld hC hS (hi.1) dL_law_708 ?_
  refine gl_runM hC hR hA ⟨by omega, by omega⟩ mwX9_when miX9_when (ci := 9) rfl hM.2 (by decide) mlL_80 (kX9_when (G := mG (mG0 z) G.2.2.2) hM.1 hM.2 e2) (Nat.le_of_ble_eq_true rfl) rfl (av := [.int (xs (i + 1).toNatClampNeg)]) (st := [.int o.1]) rfl (Nat.le_of_ble_eq_true rfl) hI'.2.2 dL_law_709 ?_
  refine gl_eqT hC dL_law_712 e3 ?_
  refine gl_widen (kc' := kc + 20) (ks' := ks + 3030) (by omega) (by omega) ?_
  exact fun _ => nx _ _ _ _ hr' hI'
set_option maxHeartbeats 4000000 in
set_option maxRecDepth 100000 in
theorem lc_creaseFor {C : Cx} {Rm : R2} {b L z n : Nat} {xs : Nat → Int32} {Rel : RelT} (hC : CxOK C cL_law RL (some .boolean)) (hR : C.1.2.2.2.1 = room_1) (hA : ∀ q, C.2.2.2.1.2.2.2.1 ≤ q → AX C.2.2.1 q) (hS : Scr C b L xs) (hM : GX (mG0 z) ∧ own (mG0 z) (z + 75) 19) (hok : Ok_creaseFor n z Rel) {i : Int32} (hi : vp_in (i + 1) L ∧ vp_in (i + 2) L ∧ vp_in (i + 3) L ∧ vp_in (i + 4) L) {V : V2} {R : R2} {G : G2} {U : V2} (hr : Rel V R G U) (hI : LI z (mG0 z) G) {kc ks : Nat} (hk : kc + 20 ≤ 600000 ∧ ks + 3030 ≤ 7302250)
    (nx : ∀ V' R' G' U', Rel V' R' G' U' → LI z (mG0 z) G' → GoL C 1745 [(0, .ref b), (1, .ref z), (2, .ref (z + 75)), (3, .int i)] [] (XL C.2.2.2.1 (mG0 z) Rm G' V' R' U') (kc + 20) (ks + 3030)) : True → GoL C 717 [(0, .ref b), (1, .ref z), (2, .ref (z + 75)), (3, .int i)] [] (XL C.2.2.2.1 (mG0 z) Rm G V R U) kc ks := by
  obtain ⟨o, om, e1, e2, e3, hr'⟩ := hok V R G U hr hI (xs (i + 1).toNatClampNeg)
  have hI' := hI
  refine gl_aload_n hC dL_law_717 (j := 1) rfl rfl ?_
  refine gl_aload_n hC dL_law_718 (j := 0) rfl rfl ?_
  refine gl_iload_n hC dL_law_719 (j := 3) rfl rfl ?_
  refine gl_iconst hC dL_law_720 ic_1 ?_
  refine gl_iadd hC dL_law_721 ?_
  refine gl_sld hC hS (hi.1) dL_law_722 ?_
  refine gl_callC hC hR hA ⟨by omega, by omega⟩ mwX8_creaseFor miX8_creaseFor (ci := 8) rfl hI.2.1 (by decide) mlL_81 (kX8_creaseFor hI.1 hI.2.1 e1) (Nat.le_of_ble_eq_true rfl) rfl (av := [.int (xs (i + 1).toNatClampNeg)]) (st := []) rfl (Nat.le_of_ble_eq_true rfl) (GE.rf G) hI.2.2 dL_law_723 ?_
  refine gl_aload_n hC dL_law_726 (j := 2) rfl rfl ?_
  refine gl_aload_n hC dL_law_727 (j := 0) rfl rfl ?_
  refine gl_iload_n hC dL_law_728 (j := 3) rfl rfl ?_
  refine gl_iconst hC dL_law_729 ic_1 ?_
  refine gl_iadd hC dL_law_730 ?_
  refine gl_sld hC hS (hi.1) dL_law_731 ?_
  refine gl_runM hC hR hA ⟨by omega, by omega⟩ mwX9_creaseFor miX9_creaseFor (ci := 9) rfl hM.2 (by decide) mlL_84 (kX9_creaseFor (G := mG (mG0 z) G.2.2.2) hM.1 hM.2 e2) (Nat.le_of_ble_eq_true rfl) rfl (av := [.int (xs (i + 1).toNatClampNeg)]) (st := [.int o.1]) rfl (Nat.le_of_ble_eq_true rfl) hI'.2.2 dL_law_732 ?_
  refine gl_eqT hC dL_law_735 e3 ?_
  refine gl_widen (kc' := kc + 20) (ks' := ks + 3030) (by omega) (by omega) ?_
  exact fun _ => nx _ _ _ _ hr' hI'
set_option maxHeartbeats 4000000 in
set_option maxRecDepth 100000 in
theorem lc_boardFor {C : Cx} {Rm : R2} {b L z n : Nat} {xs : Nat → Int32} {Rel : RelT} (hC : CxOK C cL_law RL (some .boolean)) (hR : C.1.2.2.2.1 = room_1) (hA : ∀ q, C.2.2.2.1.2.2.2.1 ≤ q → AX C.2.2.1 q) (hS : Scr C b L xs) (hM : GX (mG0 z) ∧ own (mG0 z) (z + 75) 19) (hok : Ok_boardFor n z Rel) {i : Int32} (hi : vp_in (i + 1) L ∧ vp_in (i + 2) L ∧ vp_in (i + 3) L ∧ vp_in (i + 4) L) {V : V2} {R : R2} {G : G2} {U : V2} (hr : Rel V R G U) (hI : LI z (mG0 z) G) {kc ks : Nat} (hk : kc + 20 ≤ 600000 ∧ ks + 3030 ≤ 7302250)
    (nx : ∀ V' R' G' U', Rel V' R' G' U' → LI z (mG0 z) G' → GoL C 1745 [(0, .ref b), (1, .ref z), (2, .ref (z + 75)), (3, .int i)] [] (XL C.2.2.2.1 (mG0 z) Rm G' V' R' U') (kc + 20) (ks + 3030)) : True → GoL C 740 [(0, .ref b), (1, .ref z), (2, .ref (z + 75)), (3, .int i)] [] (XL C.2.2.2.1 (mG0 z) Rm G V R U) kc ks := by
  obtain ⟨o, om, e1, e2, e3, hr'⟩ := hok V R G U hr hI (xs (i + 1).toNatClampNeg)
  have hI' := hI
  refine gl_aload_n hC dL_law_740 (j := 1) rfl rfl ?_
  refine gl_aload_n hC dL_law_741 (j := 0) rfl rfl ?_
  refine gl_iload_n hC dL_law_742 (j := 3) rfl rfl ?_
  refine gl_iconst hC dL_law_743 ic_1 ?_
  refine gl_iadd hC dL_law_744 ?_
  refine gl_sld hC hS (hi.1) dL_law_745 ?_
  refine gl_callC hC hR hA ⟨by omega, by omega⟩ mwX8_boardFor miX8_boardFor (ci := 8) rfl hI.2.1 (by decide) mlL_85 (kX8_boardFor hI.1 hI.2.1 e1) (Nat.le_of_ble_eq_true rfl) rfl (av := [.int (xs (i + 1).toNatClampNeg)]) (st := []) rfl (Nat.le_of_ble_eq_true rfl) (GE.rf G) hI.2.2 dL_law_746 ?_
  refine gl_aload_n hC dL_law_749 (j := 2) rfl rfl ?_
  refine gl_aload_n hC dL_law_750 (j := 0) rfl rfl ?_
  refine gl_iload_n hC dL_law_751 (j := 3) rfl rfl ?_
  refine gl_iconst hC dL_law_752 ic_1 ?_
  refine gl_iadd hC dL_law_753 ?_
  refine gl_sld hC hS (hi.1) dL_law_754 ?_
  refine gl_runM hC hR hA ⟨by omega, by omega⟩ mwX9_boardFor miX9_boardFor (ci := 9) rfl hM.2 (by decide) mlL_88 (kX9_boardFor (G := mG (mG0 z) G.2.2.2) hM.1 hM.2 e2) (Nat.le_of_ble_eq_true rfl) rfl (av := [.int (xs (i + 1).toNatClampNeg)]) (st := [.int o.1]) rfl (Nat.le_of_ble_eq_true rfl) hI'.2.2 dL_law_755 ?_
  refine gl_eqT hC dL_law_758 e3 ?_
  refine gl_widen (kc' := kc + 20) (ks' := ks + 3030) (by omega) (by omega) ?_
  exact fun _ => nx _ _ _ _ hr' hI'
set_option maxHeartbeats 4000000 in
set_option maxRecDepth 100000 in
theorem lc_fat {C : Cx} {Rm : R2} {b L z n : Nat} {xs : Nat → Int32} {Rel : RelT} (hC : CxOK C cL_law RL (some .boolean)) (hR : C.1.2.2.2.1 = room_1) (hA : ∀ q, C.2.2.2.1.2.2.2.1 ≤ q → AX C.2.2.1 q) (hS : Scr C b L xs) (hM : GX (mG0 z) ∧ own (mG0 z) (z + 75) 19) (hok : Ok_fat n z Rel) {i : Int32} (hi : vp_in (i + 1) L ∧ vp_in (i + 2) L ∧ vp_in (i + 3) L ∧ vp_in (i + 4) L) {V : V2} {R : R2} {G : G2} {U : V2} (hr : Rel V R G U) (hI : LI z (mG0 z) G) {kc ks : Nat} (hk : kc + 20 ≤ 600000 ∧ ks + 3030 ≤ 7302250)
    (nx : ∀ V' R' G' U', Rel V' R' G' U' → LI z (mG0 z) G' → GoL C 1745 [(0, .ref b), (1, .ref z), (2, .ref (z + 75)), (3, .int i)] [] (XL C.2.2.2.1 (mG0 z) Rm G' V' R' U') (kc + 20) (ks + 3030)) : True → GoL C 763 [(0, .ref b), (1, .ref z), (2, .ref (z + 75)), (3, .int i)] [] (XL C.2.2.2.1 (mG0 z) Rm G V R U) kc ks := by
  obtain ⟨o, om, e1, e2, e3, hr'⟩ := hok V R G U hr hI (xs (i + 1).toNatClampNeg)
  have hI' := hI
  refine gl_aload_n hC dL_law_763 (j := 1) rfl rfl ?_
  refine gl_aload_n hC dL_law_764 (j := 0) rfl rfl ?_
  refine gl_iload_n hC dL_law_765 (j := 3) rfl rfl ?_
  refine gl_iconst hC dL_law_766 ic_1 ?_
  refine gl_iadd hC dL_law_767 ?_
  refine gl_sld hC hS (hi.1) dL_law_768 ?_
  refine gl_callC hC hR hA ⟨by omega, by omega⟩ mwX8_fat miX8_fat (ci := 8) rfl hI.2.1 (by decide) mlL_89 (kX8_fat hI.1 hI.2.1 e1) (Nat.le_of_ble_eq_true rfl) rfl (av := [.int (xs (i + 1).toNatClampNeg)]) (st := []) rfl (Nat.le_of_ble_eq_true rfl) (GE.rf G) hI.2.2 dL_law_769 ?_
  refine gl_aload_n hC dL_law_772 (j := 2) rfl rfl ?_
  refine gl_aload_n hC dL_law_773 (j := 0) rfl rfl ?_
  refine gl_iload_n hC dL_law_774 (j := 3) rfl rfl ?_
  refine gl_iconst hC dL_law_775 ic_1 ?_
  refine gl_iadd hC dL_law_776 ?_
  refine gl_sld hC hS (hi.1) dL_law_777 ?_
  refine gl_runM hC hR hA ⟨by omega, by omega⟩ mwX9_fat miX9_fat (ci := 9) rfl hM.2 (by decide) mlL_92 (kX9_fat (G := mG (mG0 z) G.2.2.2) hM.1 hM.2 e2) (Nat.le_of_ble_eq_true rfl) rfl (av := [.int (xs (i + 1).toNatClampNeg)]) (st := [.int o.1]) rfl (Nat.le_of_ble_eq_true rfl) hI'.2.2 dL_law_778 ?_
  refine gl_eqT hC dL_law_781 e3 ?_
  refine gl_widen (kc' := kc + 20) (ks' := ks + 3030) (by omega) (by omega) ?_
  exact fun _ => nx _ _ _ _ hr' hI'
set_option maxHeartbeats 4000000 in
set_option maxRecDepth 100000 in
theorem lc_least {C : Cx} {Rm : R2} {b L z n : Nat} {xs : Nat → Int32} {Rel : RelT} (hC : CxOK C cL_law RL (some .boolean)) (hR : C.1.2.2.2.1 = room_1) (hA : ∀ q, C.2.2.2.1.2.2.2.1 ≤ q → AX C.2.2.1 q) (hS : Scr C b L xs) (hM : GX (mG0 z) ∧ own (mG0 z) (z + 75) 19) (hok : Ok_least n z Rel) {i : Int32} (hi : vp_in (i + 1) L ∧ vp_in (i + 2) L ∧ vp_in (i + 3) L ∧ vp_in (i + 4) L) {V : V2} {R : R2} {G : G2} {U : V2} (hr : Rel V R G U) (hI : LI z (mG0 z) G) {kc ks : Nat} (hk : kc + 20 ≤ 600000 ∧ ks + 3030 ≤ 7302250)
    (nx : ∀ V' R' G' U', Rel V' R' G' U' → LI z (mG0 z) G' → GoL C 1745 [(0, .ref b), (1, .ref z), (2, .ref (z + 75)), (3, .int i)] [] (XL C.2.2.2.1 (mG0 z) Rm G' V' R' U') (kc + 20) (ks + 3030)) : True → GoL C 786 [(0, .ref b), (1, .ref z), (2, .ref (z + 75)), (3, .int i)] [] (XL C.2.2.2.1 (mG0 z) Rm G V R U) kc ks := by
  obtain ⟨o, om, e1, e2, e3, hr'⟩ := hok V R G U hr hI (xs (i + 1).toNatClampNeg)
  have hI' := hI
  refine gl_aload_n hC dL_law_786 (j := 1) rfl rfl ?_
  refine gl_aload_n hC dL_law_787 (j := 0) rfl rfl ?_
  refine gl_iload_n hC dL_law_788 (j := 3) rfl rfl ?_
  refine gl_iconst hC dL_law_789 ic_1 ?_
  refine gl_iadd hC dL_law_790 ?_
  refine gl_sld hC hS (hi.1) dL_law_791 ?_
  refine gl_callC hC hR hA ⟨by omega, by omega⟩ mwX8_least miX8_least (ci := 8) rfl hI.2.1 (by decide) mlL_93 (kX8_least hI.1 hI.2.1 e1) (Nat.le_of_ble_eq_true rfl) rfl (av := [.int (xs (i + 1).toNatClampNeg)]) (st := []) rfl (Nat.le_of_ble_eq_true rfl) (GE.rf G) hI.2.2 dL_law_792 ?_
  refine gl_aload_n hC dL_law_795 (j := 2) rfl rfl ?_
  refine gl_aload_n hC dL_law_796 (j := 0) rfl rfl ?_
  refine gl_iload_n hC dL_law_797 (j := 3) rfl rfl ?_
  refine gl_iconst hC dL_law_798 ic_1 ?_
  refine gl_iadd hC dL_law_799 ?_
  refine gl_sld hC hS (hi.1) dL_law_800 ?_
  refine gl_runM hC hR hA ⟨by omega, by omega⟩ mwX9_least miX9_least (ci := 9) rfl hM.2 (by decide) mlL_96 (kX9_least (G := mG (mG0 z) G.2.2.2) hM.1 hM.2 e2) (Nat.le_of_ble_eq_true rfl) rfl (av := [.int (xs (i + 1).toNatClampNeg)]) (st := [.int o]) rfl (Nat.le_of_ble_eq_true rfl) hI'.2.2 dL_law_801 ?_
  refine gl_eqT hC dL_law_804 e3 ?_
  refine gl_widen (kc' := kc + 20) (ks' := ks + 3030) (by omega) (by omega) ?_
  exact fun _ => nx _ _ _ _ hr' hI'
set_option maxHeartbeats 4000000 in
set_option maxRecDepth 100000 in
theorem lc_left {C : Cx} {Rm : R2} {b L z n : Nat} {xs : Nat → Int32} {Rel : RelT} (hC : CxOK C cL_law RL (some .boolean)) (hR : C.1.2.2.2.1 = room_1) (hA : ∀ q, C.2.2.2.1.2.2.2.1 ≤ q → AX C.2.2.1 q) (hS : Scr C b L xs) (hM : GX (mG0 z) ∧ own (mG0 z) (z + 75) 19) (hok : Ok_left n z Rel) {i : Int32} (hi : vp_in (i + 1) L ∧ vp_in (i + 2) L ∧ vp_in (i + 3) L ∧ vp_in (i + 4) L) {V : V2} {R : R2} {G : G2} {U : V2} (hr : Rel V R G U) (hI : LI z (mG0 z) G) {kc ks : Nat} (hk : kc + 20 ≤ 600000 ∧ ks + 3030 ≤ 7302250)
    (nx : ∀ V' R' G' U', Rel V' R' G' U' → LI z (mG0 z) G' → GoL C 1745 [(0, .ref b), (1, .ref z), (2, .ref (z + 75)), (3, .int i)] [] (XL C.2.2.2.1 (mG0 z) Rm G' V' R' U') (kc + 20) (ks + 3030)) : True → GoL C 809 [(0, .ref b), (1, .ref z), (2, .ref (z + 75)), (3, .int i)] [] (XL C.2.2.2.1 (mG0 z) Rm G V R U) kc ks := by
  obtain ⟨o, om, e1, e2, e3, hr'⟩ := hok V R G U hr hI (xs (i + 1).toNatClampNeg) (xs (i + 2).toNatClampNeg)
  have hI' := hI
  refine gl_aload_n hC dL_law_809 (j := 1) rfl rfl ?_
  refine gl_aload_n hC dL_law_810 (j := 0) rfl rfl ?_
  refine gl_iload_n hC dL_law_811 (j := 3) rfl rfl ?_
  refine gl_iconst hC dL_law_812 ic_1 ?_
  refine gl_iadd hC dL_law_813 ?_
  refine gl_sld hC hS (hi.1) dL_law_814 ?_
  refine gl_aload_n hC dL_law_815 (j := 0) rfl rfl ?_
  refine gl_iload_n hC dL_law_816 (j := 3) rfl rfl ?_
  refine gl_iconst hC dL_law_817 ic_2 ?_
  refine gl_iadd hC dL_law_818 ?_
  refine gl_sld hC hS (hi.2.1) dL_law_819 ?_
  refine gl_callC hC hR hA ⟨by omega, by omega⟩ mwX8_left miX8_left (ci := 8) rfl hI.2.1 (by decide) mlL_97 (kX8_left hI.1 hI.2.1 e1) (Nat.le_of_ble_eq_true rfl) rfl (av := [.int (xs (i + 1).toNatClampNeg), .int (xs (i + 2).toNatClampNeg)]) (st := []) rfl (Nat.le_of_ble_eq_true rfl) (GE.rf G) hI.2.2 dL_law_820 ?_
  refine gl_aload_n hC dL_law_823 (j := 2) rfl rfl ?_
  refine gl_aload_n hC dL_law_824 (j := 0) rfl rfl ?_
  refine gl_iload_n hC dL_law_825 (j := 3) rfl rfl ?_
  refine gl_iconst hC dL_law_826 ic_1 ?_
  refine gl_iadd hC dL_law_827 ?_
  refine gl_sld hC hS (hi.1) dL_law_828 ?_
  refine gl_aload_n hC dL_law_829 (j := 0) rfl rfl ?_
  refine gl_iload_n hC dL_law_830 (j := 3) rfl rfl ?_
  refine gl_iconst hC dL_law_831 ic_2 ?_
  refine gl_iadd hC dL_law_832 ?_
  refine gl_sld hC hS (hi.2.1) dL_law_833 ?_
  refine gl_runM hC hR hA ⟨by omega, by omega⟩ mwX9_left miX9_left (ci := 9) rfl hM.2 (by decide) mlL_100 (kX9_left (G := mG (mG0 z) G.2.2.2) hM.1 hM.2 e2) (Nat.le_of_ble_eq_true rfl) rfl (av := [.int (xs (i + 1).toNatClampNeg), .int (xs (i + 2).toNatClampNeg)]) (st := [.int o.1]) rfl (Nat.le_of_ble_eq_true rfl) hI'.2.2 dL_law_834 ?_
  refine gl_eqT hC dL_law_837 e3 ?_
  refine gl_widen (kc' := kc + 20) (ks' := ks + 3030) (by omega) (by omega) ?_
  exact fun _ => nx _ _ _ _ hr' hI'
set_option maxHeartbeats 4000000 in
set_option maxRecDepth 100000 in
theorem lc_piles {C : Cx} {Rm : R2} {b L z n : Nat} {xs : Nat → Int32} {Rel : RelT} (hC : CxOK C cL_law RL (some .boolean)) (hR : C.1.2.2.2.1 = room_1) (hA : ∀ q, C.2.2.2.1.2.2.2.1 ≤ q → AX C.2.2.1 q) (hS : Scr C b L xs) (hM : GX (mG0 z) ∧ own (mG0 z) (z + 75) 19) (hok : Ok_piles n z Rel) {i : Int32} (hi : vp_in (i + 1) L ∧ vp_in (i + 2) L ∧ vp_in (i + 3) L ∧ vp_in (i + 4) L) {V : V2} {R : R2} {G : G2} {U : V2} (hr : Rel V R G U) (hI : LI z (mG0 z) G) {kc ks : Nat} (hk : kc + 20 ≤ 600000 ∧ ks + 3030 ≤ 7302250)
    (nx : ∀ V' R' G' U', Rel V' R' G' U' → LI z (mG0 z) G' → GoL C 1745 [(0, .ref b), (1, .ref z), (2, .ref (z + 75)), (3, .int i)] [] (XL C.2.2.2.1 (mG0 z) Rm G' V' R' U') (kc + 20) (ks + 3030)) : True → GoL C 842 [(0, .ref b), (1, .ref z), (2, .ref (z + 75)), (3, .int i)] [] (XL C.2.2.2.1 (mG0 z) Rm G V R U) kc ks := by
  obtain ⟨o, om, e1, e2, e3, hr'⟩ := hok V R G U hr hI (xs (i + 1).toNatClampNeg)
  have hI' := hI
  refine gl_aload_n hC dL_law_842 (j := 1) rfl rfl ?_
  refine gl_aload_n hC dL_law_843 (j := 0) rfl rfl ?_
  refine gl_iload_n hC dL_law_844 (j := 3) rfl rfl ?_
  refine gl_iconst hC dL_law_845 ic_1 ?_
  refine gl_iadd hC dL_law_846 ?_
  refine gl_sld hC hS (hi.1) dL_law_847 ?_
  refine gl_callC hC hR hA ⟨by omega, by omega⟩ mwX8_piles miX8_piles (ci := 8) rfl hI.2.1 (by decide) mlL_101 (kX8_piles hI.1 hI.2.1 e1) (Nat.le_of_ble_eq_true rfl) rfl (av := [.int (xs (i + 1).toNatClampNeg)]) (st := []) rfl (Nat.le_of_ble_eq_true rfl) (GE.rf G) hI.2.2 dL_law_848 ?_
  refine gl_aload_n hC dL_law_851 (j := 2) rfl rfl ?_
  refine gl_aload_n hC dL_law_852 (j := 0) rfl rfl ?_
  refine gl_iload_n hC dL_law_853 (j := 3) rfl rfl ?_
  refine gl_iconst hC dL_law_854 ic_1 ?_
  refine gl_iadd hC dL_law_855 ?_
  refine gl_sld hC hS (hi.1) dL_law_856 ?_
  refine gl_runM hC hR hA ⟨by omega, by omega⟩ mwX9_piles miX9_piles (ci := 9) rfl hM.2 (by decide) mlL_104 (kX9_piles (G := mG (mG0 z) G.2.2.2) hM.1 hM.2 e2) (Nat.le_of_ble_eq_true rfl) rfl (av := [.int (xs (i + 1).toNatClampNeg)]) (st := [.int o]) rfl (Nat.le_of_ble_eq_true rfl) hI'.2.2 dL_law_857 ?_
  refine gl_eqT hC dL_law_860 e3 ?_
  refine gl_widen (kc' := kc + 20) (ks' := ks + 3030) (by omega) (by omega) ?_
  exact fun _ => nx _ _ _ _ hr' hI'
set_option maxHeartbeats 4000000 in
set_option maxRecDepth 100000 in
theorem lc_best {C : Cx} {Rm : R2} {b L z n : Nat} {xs : Nat → Int32} {Rel : RelT} (hC : CxOK C cL_law RL (some .boolean)) (hR : C.1.2.2.2.1 = room_1) (hA : ∀ q, C.2.2.2.1.2.2.2.1 ≤ q → AX C.2.2.1 q) (hS : Scr C b L xs) (hM : GX (mG0 z) ∧ own (mG0 z) (z + 75) 19) (hok : Ok_best n z Rel) {i : Int32} (hi : vp_in (i + 1) L ∧ vp_in (i + 2) L ∧ vp_in (i + 3) L ∧ vp_in (i + 4) L) {V : V2} {R : R2} {G : G2} {U : V2} (hr : Rel V R G U) (hI : LI z (mG0 z) G) {kc ks : Nat} (hk : kc + 20 ≤ 600000 ∧ ks + 3030 ≤ 7302250)
    (nx : ∀ V' R' G' U', Rel V' R' G' U' → LI z (mG0 z) G' → GoL C 1745 [(0, .ref b), (1, .ref z), (2, .ref (z + 75)), (3, .int i)] [] (XL C.2.2.2.1 (mG0 z) Rm G' V' R' U') (kc + 20) (ks + 3030)) : True → GoL C 865 [(0, .ref b), (1, .ref z), (2, .ref (z + 75)), (3, .int i)] [] (XL C.2.2.2.1 (mG0 z) Rm G V R U) kc ks := by
  obtain ⟨o, om, e1, e2, e3, hr'⟩ := hok V R G U hr hI (xs (i + 1).toNatClampNeg)
  have hI' := hI
  refine gl_aload_n hC dL_law_865 (j := 1) rfl rfl ?_
  refine gl_aload_n hC dL_law_866 (j := 0) rfl rfl ?_
  refine gl_iload_n hC dL_law_867 (j := 3) rfl rfl ?_
  refine gl_iconst hC dL_law_868 ic_1 ?_
  refine gl_iadd hC dL_law_869 ?_
  refine gl_sld hC hS (hi.1) dL_law_870 ?_
  refine gl_callC hC hR hA ⟨by omega, by omega⟩ mwX8_best miX8_best (ci := 8) rfl hI.2.1 (by decide) mlL_105 (kX8_best hI.1 hI.2.1 e1) (Nat.le_of_ble_eq_true rfl) rfl (av := [.int (xs (i + 1).toNatClampNeg)]) (st := []) rfl (Nat.le_of_ble_eq_true rfl) (GE.rf G) hI.2.2 dL_law_871 ?_
  refine gl_aload_n hC dL_law_874 (j := 2) rfl rfl ?_
  refine gl_aload_n hC dL_law_875 (j := 0) rfl rfl ?_
  refine gl_iload_n hC dL_law_876 (j := 3) rfl rfl ?_
  refine gl_iconst hC dL_law_877 ic_1 ?_
  refine gl_iadd hC dL_law_878 ?_
  refine gl_sld hC hS (hi.1) dL_law_879 ?_
  refine gl_runM hC hR hA ⟨by omega, by omega⟩ mwX9_best miX9_best (ci := 9) rfl hM.2 (by decide) mlL_108 (kX9_best (G := mG (mG0 z) G.2.2.2) hM.1 hM.2 e2) (Nat.le_of_ble_eq_true rfl) rfl (av := [.int (xs (i + 1).toNatClampNeg)]) (st := [.int o.1]) rfl (Nat.le_of_ble_eq_true rfl) hI'.2.2 dL_law_880 ?_
  refine gl_eqT hC dL_law_883 e3 ?_
  refine gl_widen (kc' := kc + 20) (ks' := ks + 3030) (by omega) (by omega) ?_
  exact fun _ => nx _ _ _ _ hr' hI'
set_option maxHeartbeats 4000000 in
set_option maxRecDepth 100000 in
theorem lc_ith {C : Cx} {Rm : R2} {b L z n : Nat} {xs : Nat → Int32} {Rel : RelT} (hC : CxOK C cL_law RL (some .boolean)) (hR : C.1.2.2.2.1 = room_1) (hA : ∀ q, C.2.2.2.1.2.2.2.1 ≤ q → AX C.2.2.1 q) (hS : Scr C b L xs) (hM : GX (mG0 z) ∧ own (mG0 z) (z + 75) 19) (hok : Ok_ith n z Rel) {i : Int32} (hi : vp_in (i + 1) L ∧ vp_in (i + 2) L ∧ vp_in (i + 3) L ∧ vp_in (i + 4) L) {V : V2} {R : R2} {G : G2} {U : V2} (hr : Rel V R G U) (hI : LI z (mG0 z) G) {kc ks : Nat} (hk : kc + 20 ≤ 600000 ∧ ks + 3030 ≤ 7302250)
    (nx : ∀ V' R' G' U', Rel V' R' G' U' → LI z (mG0 z) G' → GoL C 1745 [(0, .ref b), (1, .ref z), (2, .ref (z + 75)), (3, .int i)] [] (XL C.2.2.2.1 (mG0 z) Rm G' V' R' U') (kc + 20) (ks + 3030)) : True → GoL C 888 [(0, .ref b), (1, .ref z), (2, .ref (z + 75)), (3, .int i)] [] (XL C.2.2.2.1 (mG0 z) Rm G V R U) kc ks := by
  obtain ⟨o, om, e1, e2, e3, hr'⟩ := hok V R G U hr hI (xs (i + 1).toNatClampNeg) (xs (i + 2).toNatClampNeg)
  have hI' := hI
  refine gl_aload_n hC dL_law_888 (j := 1) rfl rfl ?_
  refine gl_aload_n hC dL_law_889 (j := 0) rfl rfl ?_
  refine gl_iload_n hC dL_law_890 (j := 3) rfl rfl ?_
  refine gl_iconst hC dL_law_891 ic_1 ?_
  refine gl_iadd hC dL_law_892 ?_
  refine gl_sld hC hS (hi.1) dL_law_893 ?_
  refine gl_aload_n hC dL_law_894 (j := 0) rfl rfl ?_
  refine gl_iload_n hC dL_law_895 (j := 3) rfl rfl ?_
  refine gl_iconst hC dL_law_896 ic_2 ?_
  refine gl_iadd hC dL_law_897 ?_
  refine gl_sld hC hS (hi.2.1) dL_law_898 ?_
  refine gl_callC hC hR hA ⟨by omega, by omega⟩ mwX8_ith miX8_ith (ci := 8) rfl hI.2.1 (by decide) mlL_109 (kX8_ith hI.1 hI.2.1 e1) (Nat.le_of_ble_eq_true rfl) rfl (av := [.int (xs (i + 1).toNatClampNeg), .int (xs (i + 2).toNatClampNeg)]) (st := []) rfl (Nat.le_of_ble_eq_true rfl) (GE.rf G) hI.2.2 dL_law_899 ?_
  refine gl_aload_n hC dL_law_902 (j := 2) rfl rfl ?_
  refine gl_aload_n hC dL_law_903 (j := 0) rfl rfl ?_
  refine gl_iload_n hC dL_law_904 (j := 3) rfl rfl ?_
  refine gl_iconst hC dL_law_905 ic_1 ?_
  refine gl_iadd hC dL_law_906 ?_
  refine gl_sld hC hS (hi.1) dL_law_907 ?_
  refine gl_aload_n hC dL_law_908 (j := 0) rfl rfl ?_
  refine gl_iload_n hC dL_law_909 (j := 3) rfl rfl ?_
  refine gl_iconst hC dL_law_910 ic_2 ?_
  refine gl_iadd hC dL_law_911 ?_
  refine gl_sld hC hS (hi.2.1) dL_law_912 ?_
  refine gl_runM hC hR hA ⟨by omega, by omega⟩ mwX9_ith miX9_ith (ci := 9) rfl hM.2 (by decide) mlL_112 (kX9_ith (G := mG (mG0 z) G.2.2.2) hM.1 hM.2 e2) (Nat.le_of_ble_eq_true rfl) rfl (av := [.int (xs (i + 1).toNatClampNeg), .int (xs (i + 2).toNatClampNeg)]) (st := [.int o.1]) rfl (Nat.le_of_ble_eq_true rfl) hI'.2.2 dL_law_913 ?_
  refine gl_eqT hC dL_law_916 e3 ?_
  refine gl_widen (kc' := kc + 20) (ks' := ks + 3030) (by omega) (by omega) ?_
  exact fun _ => nx _ _ _ _ hr' hI'
set_option maxHeartbeats 4000000 in
set_option maxRecDepth 100000 in
theorem lc_ways {C : Cx} {Rm : R2} {b L z n : Nat} {xs : Nat → Int32} {Rel : RelT} (hC : CxOK C cL_law RL (some .boolean)) (hR : C.1.2.2.2.1 = room_1) (hA : ∀ q, C.2.2.2.1.2.2.2.1 ≤ q → AX C.2.2.1 q) (hS : Scr C b L xs) (hM : GX (mG0 z) ∧ own (mG0 z) (z + 75) 19) (hok : Ok_ways n z Rel) {i : Int32} (hi : vp_in (i + 1) L ∧ vp_in (i + 2) L ∧ vp_in (i + 3) L ∧ vp_in (i + 4) L) {V : V2} {R : R2} {G : G2} {U : V2} (hr : Rel V R G U) (hI : LI z (mG0 z) G) {kc ks : Nat} (hk : kc + 20 ≤ 600000 ∧ ks + 3030 ≤ 7302250)
    (nx : ∀ V' R' G' U', Rel V' R' G' U' → LI z (mG0 z) G' → GoL C 1745 [(0, .ref b), (1, .ref z), (2, .ref (z + 75)), (3, .int i)] [] (XL C.2.2.2.1 (mG0 z) Rm G' V' R' U') (kc + 20) (ks + 3030)) : True → GoL C 921 [(0, .ref b), (1, .ref z), (2, .ref (z + 75)), (3, .int i)] [] (XL C.2.2.2.1 (mG0 z) Rm G V R U) kc ks := by
  obtain ⟨o, om, e1, e2, e3, hr'⟩ := hok V R G U hr hI (xs (i + 1).toNatClampNeg)
  have hI' := hI
  refine gl_aload_n hC dL_law_921 (j := 1) rfl rfl ?_
  refine gl_aload_n hC dL_law_922 (j := 0) rfl rfl ?_
  refine gl_iload_n hC dL_law_923 (j := 3) rfl rfl ?_
  refine gl_iconst hC dL_law_924 ic_1 ?_
  refine gl_iadd hC dL_law_925 ?_
  refine gl_sld hC hS (hi.1) dL_law_926 ?_
  refine gl_callC hC hR hA ⟨by omega, by omega⟩ mwX8_ways miX8_ways (ci := 8) rfl hI.2.1 (by decide) mlL_113 (kX8_ways hI.1 hI.2.1 e1) (Nat.le_of_ble_eq_true rfl) rfl (av := [.int (xs (i + 1).toNatClampNeg)]) (st := []) rfl (Nat.le_of_ble_eq_true rfl) (GE.rf G) hI.2.2 dL_law_927 ?_
  refine gl_aload_n hC dL_law_930 (j := 2) rfl rfl ?_
  refine gl_aload_n hC dL_law_931 (j := 0) rfl rfl ?_
  refine gl_iload_n hC dL_law_932 (j := 3) rfl rfl ?_
  refine gl_iconst hC dL_law_933 ic_1 ?_
  refine gl_iadd hC dL_law_934 ?_
  refine gl_sld hC hS (hi.1) dL_law_935 ?_
  refine gl_runM hC hR hA ⟨by omega, by omega⟩ mwX9_ways miX9_ways (ci := 9) rfl hM.2 (by decide) mlL_116 (kX9_ways (G := mG (mG0 z) G.2.2.2) hM.1 hM.2 e2) (Nat.le_of_ble_eq_true rfl) rfl (av := [.int (xs (i + 1).toNatClampNeg)]) (st := [.int o.1]) rfl (Nat.le_of_ble_eq_true rfl) hI'.2.2 dL_law_936 ?_
  refine gl_eqT hC dL_law_939 e3 ?_
  refine gl_widen (kc' := kc + 20) (ks' := ks + 3030) (by omega) (by omega) ?_
  exact fun _ => nx _ _ _ _ hr' hI'
set_option maxHeartbeats 4000000 in
set_option maxRecDepth 100000 in
theorem lc_note {C : Cx} {Rm : R2} {b L z n : Nat} {xs : Nat → Int32} {Rel : RelT} (hC : CxOK C cL_law RL (some .boolean)) (hR : C.1.2.2.2.1 = room_1) (hA : ∀ q, C.2.2.2.1.2.2.2.1 ≤ q → AX C.2.2.1 q) (hS : Scr C b L xs) (hM : GX (mG0 z) ∧ own (mG0 z) (z + 75) 19) (hok : Ok_note n z Rel) {i : Int32} (hi : vp_in (i + 1) L ∧ vp_in (i + 2) L ∧ vp_in (i + 3) L ∧ vp_in (i + 4) L) {V : V2} {R : R2} {G : G2} {U : V2} (hr : Rel V R G U) (hI : LI z (mG0 z) G) {kc ks : Nat} (hk : kc + 20 ≤ 600000 ∧ ks + 3030 ≤ 7302250)
    (nx : ∀ V' R' G' U', Rel V' R' G' U' → LI z (mG0 z) G' → GoL C 1745 [(0, .ref b), (1, .ref z), (2, .ref (z + 75)), (3, .int i)] [] (XL C.2.2.2.1 (mG0 z) Rm G' V' R' U') (kc + 20) (ks + 3030)) : True → GoL C 944 [(0, .ref b), (1, .ref z), (2, .ref (z + 75)), (3, .int i)] [] (XL C.2.2.2.1 (mG0 z) Rm G V R U) kc ks := by
  obtain ⟨o, om, e1, e2, e3, hr'⟩ := hok V R G U hr hI (xs (i + 1).toNatClampNeg) (xs (i + 2).toNatClampNeg)
  have hI' := hI
  refine gl_aload_n hC dL_law_944 (j := 1) rfl rfl ?_
  refine gl_aload_n hC dL_law_945 (j := 0) rfl rfl ?_
  refine gl_iload_n hC dL_law_946 (j := 3) rfl rfl ?_
  refine gl_iconst hC dL_law_947 ic_1 ?_
  refine gl_iadd hC dL_law_948 ?_
  refine gl_sld hC hS (hi.1) dL_law_949 ?_
  refine gl_aload_n hC dL_law_950 (j := 0) rfl rfl ?_
  refine gl_iload_n hC dL_law_951 (j := 3) rfl rfl ?_
  refine gl_iconst hC dL_law_952 ic_2 ?_
  refine gl_iadd hC dL_law_953 ?_
  refine gl_sld hC hS (hi.2.1) dL_law_954 ?_
  refine gl_callC hC hR hA ⟨by omega, by omega⟩ mwX8_note miX8_note (ci := 8) rfl hI.2.1 (by decide) mlL_117 (kX8_note hI.1 hI.2.1 e1) (Nat.le_of_ble_eq_true rfl) rfl (av := [.int (xs (i + 1).toNatClampNeg), .int (xs (i + 2).toNatClampNeg)]) (st := []) rfl (Nat.le_of_ble_eq_true rfl) (GE.rf G) hI.2.2 dL_law_955 ?_
  refine gl_aload_n hC dL_law_958 (j := 2) rfl rfl ?_
  refine gl_aload_n hC dL_law_959 (j := 0) rfl rfl ?_
  refine gl_iload_n hC dL_law_960 (j := 3) rfl rfl ?_
  refine gl_iconst hC dL_law_961 ic_1 ?_
  refine gl_iadd hC dL_law_962 ?_
  refine gl_sld hC hS (hi.1) dL_law_963 ?_
  refine gl_aload_n hC dL_law_964 (j := 0) rfl rfl ?_
  refine gl_iload_n hC dL_law_965 (j := 3) rfl rfl ?_
  refine gl_iconst hC dL_law_966 ic_2 ?_
  refine gl_iadd hC dL_law_967 ?_
  refine gl_sld hC hS (hi.2.1) dL_law_968 ?_
  refine gl_runM hC hR hA ⟨by omega, by omega⟩ mwX9_note miX9_note (ci := 9) rfl hM.2 (by decide) mlL_120 (kX9_note (G := mG (mG0 z) G.2.2.2) hM.1 hM.2 e2) (Nat.le_of_ble_eq_true rfl) rfl (av := [.int (xs (i + 1).toNatClampNeg), .int (xs (i + 2).toNatClampNeg)]) (st := [.int o.1]) rfl (Nat.le_of_ble_eq_true rfl) hI'.2.2 dL_law_969 ?_
  refine gl_eqT hC dL_law_972 e3 ?_
  refine gl_widen (kc' := kc + 20) (ks' := ks + 3030) (by omega) (by omega) ?_
  exact fun _ => nx _ _ _ _ hr' hI'
set_option maxHeartbeats 4000000 in
set_option maxRecDepth 100000 in
theorem lc_bars {C : Cx} {Rm : R2} {b L z n : Nat} {xs : Nat → Int32} {Rel : RelT} (hC : CxOK C cL_law RL (some .boolean)) (hR : C.1.2.2.2.1 = room_1) (hA : ∀ q, C.2.2.2.1.2.2.2.1 ≤ q → AX C.2.2.1 q) (hS : Scr C b L xs) (hM : GX (mG0 z) ∧ own (mG0 z) (z + 75) 19) (hok : Ok_bars n z Rel) {i : Int32} (hi : vp_in (i + 1) L ∧ vp_in (i + 2) L ∧ vp_in (i + 3) L ∧ vp_in (i + 4) L) {V : V2} {R : R2} {G : G2} {U : V2} (hr : Rel V R G U) (hI : LI z (mG0 z) G) {kc ks : Nat} (hk : kc + 20 ≤ 600000 ∧ ks + 3030 ≤ 7302250)
    (nx : ∀ V' R' G' U', Rel V' R' G' U' → LI z (mG0 z) G' → GoL C 1745 [(0, .ref b), (1, .ref z), (2, .ref (z + 75)), (3, .int i)] [] (XL C.2.2.2.1 (mG0 z) Rm G' V' R' U') (kc + 20) (ks + 3030)) : True → GoL C 977 [(0, .ref b), (1, .ref z), (2, .ref (z + 75)), (3, .int i)] [] (XL C.2.2.2.1 (mG0 z) Rm G V R U) kc ks := by
  obtain ⟨o, om, e1, e2, e3, hr'⟩ := hok V R G U hr hI (xs (i + 1).toNatClampNeg) (xs (i + 2).toNatClampNeg)
  have hI' := hI
  refine gl_aload_n hC dL_law_977 (j := 1) rfl rfl ?_
  refine gl_aload_n hC dL_law_978 (j := 0) rfl rfl ?_
  refine gl_iload_n hC dL_law_979 (j := 3) rfl rfl ?_
  refine gl_iconst hC dL_law_980 ic_1 ?_
  refine gl_iadd hC dL_law_981 ?_
  refine gl_sld hC hS (hi.1) dL_law_982 ?_
  refine gl_aload_n hC dL_law_983 (j := 0) rfl rfl ?_
  refine gl_iload_n hC dL_law_984 (j := 3) rfl rfl ?_
  refine gl_iconst hC dL_law_985 ic_2 ?_
  refine gl_iadd hC dL_law_986 ?_
  refine gl_sld hC hS (hi.2.1) dL_law_987 ?_
  refine gl_callC hC hR hA ⟨by omega, by omega⟩ mwX8_bars miX8_bars (ci := 8) rfl hI.2.1 (by decide) mlL_121 (kX8_bars hI.1 hI.2.1 e1) (Nat.le_of_ble_eq_true rfl) rfl (av := [.int (xs (i + 1).toNatClampNeg), .int (xs (i + 2).toNatClampNeg)]) (st := []) rfl (Nat.le_of_ble_eq_true rfl) (GE.rf G) hI.2.2 dL_law_988 ?_
  refine gl_aload_n hC dL_law_991 (j := 2) rfl rfl ?_
  refine gl_aload_n hC dL_law_992 (j := 0) rfl rfl ?_
  refine gl_iload_n hC dL_law_993 (j := 3) rfl rfl ?_
  refine gl_iconst hC dL_law_994 ic_1 ?_
  refine gl_iadd hC dL_law_995 ?_
  refine gl_sld hC hS (hi.1) dL_law_996 ?_
  refine gl_aload_n hC dL_law_997 (j := 0) rfl rfl ?_
  refine gl_iload_n hC dL_law_998 (j := 3) rfl rfl ?_
  refine gl_iconst hC dL_law_999 ic_2 ?_
  refine gl_iadd hC dL_law_1000 ?_
  refine gl_sld hC hS (hi.2.1) dL_law_1001 ?_
  refine gl_runM hC hR hA ⟨by omega, by omega⟩ mwX9_bars miX9_bars (ci := 9) rfl hM.2 (by decide) mlL_124 (kX9_bars (G := mG (mG0 z) G.2.2.2) hM.1 hM.2 e2) (Nat.le_of_ble_eq_true rfl) rfl (av := [.int (xs (i + 1).toNatClampNeg), .int (xs (i + 2).toNatClampNeg)]) (st := [.int o.1]) rfl (Nat.le_of_ble_eq_true rfl) hI'.2.2 dL_law_1002 ?_
  refine gl_eqT hC dL_law_1005 e3 ?_
  refine gl_widen (kc' := kc + 20) (ks' := ks + 3030) (by omega) (by omega) ?_
  exact fun _ => nx _ _ _ _ hr' hI'
set_option maxHeartbeats 4000000 in
set_option maxRecDepth 100000 in
theorem lc_game {C : Cx} {Rm : R2} {b L z n : Nat} {xs : Nat → Int32} {Rel : RelT} (hC : CxOK C cL_law RL (some .boolean)) (hR : C.1.2.2.2.1 = room_1) (hA : ∀ q, C.2.2.2.1.2.2.2.1 ≤ q → AX C.2.2.1 q) (hS : Scr C b L xs) (hM : GX (mG0 z) ∧ own (mG0 z) (z + 75) 19) (hok : Ok_game n z Rel) {i : Int32} (hi : vp_in (i + 1) L ∧ vp_in (i + 2) L ∧ vp_in (i + 3) L ∧ vp_in (i + 4) L) {V : V2} {R : R2} {G : G2} {U : V2} (hr : Rel V R G U) (hI : LI z (mG0 z) G) {kc ks : Nat} (hk : kc + 20 ≤ 600000 ∧ ks + 3030 ≤ 7302250)
    (nx : ∀ V' R' G' U', Rel V' R' G' U' → LI z (mG0 z) G' → GoL C 1745 [(0, .ref b), (1, .ref z), (2, .ref (z + 75)), (3, .int i)] [] (XL C.2.2.2.1 (mG0 z) Rm G' V' R' U') (kc + 20) (ks + 3030)) : True → GoL C 1010 [(0, .ref b), (1, .ref z), (2, .ref (z + 75)), (3, .int i)] [] (XL C.2.2.2.1 (mG0 z) Rm G V R U) kc ks := by
  obtain ⟨o, om, e1, e2, e3, hr'⟩ := hok V R G U hr hI (xs (i + 1).toNatClampNeg)
  have hI' := hI
  refine gl_aload_n hC dL_law_1010 (j := 1) rfl rfl ?_
  refine gl_aload_n hC dL_law_1011 (j := 0) rfl rfl ?_
  refine gl_iload_n hC dL_law_1012 (j := 3) rfl rfl ?_
  refine gl_iconst hC dL_law_1013 ic_1 ?_
  refine gl_iadd hC dL_law_1014 ?_
  refine gl_sld hC hS (hi.1) dL_law_1015 ?_
  refine gl_callC hC hR hA ⟨by omega, by omega⟩ mwX8_game miX8_game (ci := 8) rfl hI.2.1 (by decide) mlL_125 (kX8_game hI.1 hI.2.1 e1) (Nat.le_of_ble_eq_true rfl) rfl (av := [.int (xs (i + 1).toNatClampNeg)]) (st := []) rfl (Nat.le_of_ble_eq_true rfl) (GE.rf G) hI.2.2 dL_law_1016 ?_
  refine gl_aload_n hC dL_law_1019 (j := 2) rfl rfl ?_
  refine gl_aload_n hC dL_law_1020 (j := 0) rfl rfl ?_
  refine gl_iload_n hC dL_law_1021 (j := 3) rfl rfl ?_
  refine gl_iconst hC dL_law_1022 ic_1 ?_
  refine gl_iadd hC dL_law_1023 ?_
  refine gl_sld hC hS (hi.1) dL_law_1024 ?_
  refine gl_runM hC hR hA ⟨by omega, by omega⟩ mwX9_game miX9_game (ci := 9) rfl hM.2 (by decide) mlL_128 (kX9_game (G := mG (mG0 z) G.2.2.2) hM.1 hM.2 e2) (Nat.le_of_ble_eq_true rfl) rfl (av := [.int (xs (i + 1).toNatClampNeg)]) (st := [.int o.1]) rfl (Nat.le_of_ble_eq_true rfl) hI'.2.2 dL_law_1025 ?_
  refine gl_eqT hC dL_law_1028 e3 ?_
  refine gl_widen (kc' := kc + 20) (ks' := ks + 3030) (by omega) (by omega) ?_
  exact fun _ => nx _ _ _ _ hr' hI'
set_option maxHeartbeats 4000000 in
set_option maxRecDepth 100000 in
theorem lc_play {C : Cx} {Rm : R2} {b L z n : Nat} {xs : Nat → Int32} {Rel : RelT} (hC : CxOK C cL_law RL (some .boolean)) (hR : C.1.2.2.2.1 = room_1) (hA : ∀ q, C.2.2.2.1.2.2.2.1 ≤ q → AX C.2.2.1 q) (hS : Scr C b L xs) (hM : GX (mG0 z) ∧ own (mG0 z) (z + 75) 19) (hok : Ok_play n z Rel) {i : Int32} (hi : vp_in (i + 1) L ∧ vp_in (i + 2) L ∧ vp_in (i + 3) L ∧ vp_in (i + 4) L) {V : V2} {R : R2} {G : G2} {U : V2} (hr : Rel V R G U) (hI : LI z (mG0 z) G) {kc ks : Nat} (hk : kc + 20 ≤ 600000 ∧ ks + 3030 ≤ 7302250)
    (nx : ∀ V' R' G' U', Rel V' R' G' U' → LI z (mG0 z) G' → GoL C 1745 [(0, .ref b), (1, .ref z), (2, .ref (z + 75)), (3, .int i)] [] (XL C.2.2.2.1 (mG0 z) Rm G' V' R' U') (kc + 20) (ks + 3030)) : True → GoL C 1033 [(0, .ref b), (1, .ref z), (2, .ref (z + 75)), (3, .int i)] [] (XL C.2.2.2.1 (mG0 z) Rm G V R U) kc ks := by
  obtain ⟨o, om, e1, e2, e3, hr'⟩ := hok V R G U hr hI (xs (i + 1).toNatClampNeg)
  have hI' := hI
  refine gl_aload_n hC dL_law_1033 (j := 1) rfl rfl ?_
  refine gl_aload_n hC dL_law_1034 (j := 0) rfl rfl ?_
  refine gl_iload_n hC dL_law_1035 (j := 3) rfl rfl ?_
  refine gl_iconst hC dL_law_1036 ic_1 ?_
  refine gl_iadd hC dL_law_1037 ?_
  refine gl_sld hC hS (hi.1) dL_law_1038 ?_
  refine gl_callC hC hR hA ⟨by omega, by omega⟩ mwX8_play miX8_play (ci := 8) rfl hI.2.1 (by decide) mlL_129 (kX8_play hI.1 hI.2.1 e1) (Nat.le_of_ble_eq_true rfl) rfl (av := [.int (xs (i + 1).toNatClampNeg)]) (st := []) rfl (Nat.le_of_ble_eq_true rfl) (GE.rf G) hI.2.2 dL_law_1039 ?_
  refine gl_aload_n hC dL_law_1042 (j := 2) rfl rfl ?_
  refine gl_aload_n hC dL_law_1043 (j := 0) rfl rfl ?_
  refine gl_iload_n hC dL_law_1044 (j := 3) rfl rfl ?_
  refine gl_iconst hC dL_law_1045 ic_1 ?_
  refine gl_iadd hC dL_law_1046 ?_
  refine gl_sld hC hS (hi.1) dL_law_1047 ?_
  refine gl_runM hC hR hA ⟨by omega, by omega⟩ mwX9_play miX9_play (ci := 9) rfl hM.2 (by decide) mlL_132 (kX9_play (G := mG (mG0 z) G.2.2.2) hM.1 hM.2 e2) (Nat.le_of_ble_eq_true rfl) rfl (av := [.int (xs (i + 1).toNatClampNeg)]) (st := [.int o.1]) rfl (Nat.le_of_ble_eq_true rfl) hI'.2.2 dL_law_1048 ?_
  refine gl_eqT hC dL_law_1051 e3 ?_
  refine gl_widen (kc' := kc + 20) (ks' := ks + 3030) (by omega) (by omega) ?_
  exact fun _ => nx _ _ _ _ hr' hI'
set_option maxHeartbeats 4000000 in
set_option maxRecDepth 100000 in
theorem lc_report {C : Cx} {Rm : R2} {b L z n : Nat} {xs : Nat → Int32} {Rel : RelT} (hC : CxOK C cL_law RL (some .boolean)) (hR : C.1.2.2.2.1 = room_1) (hA : ∀ q, C.2.2.2.1.2.2.2.1 ≤ q → AX C.2.2.1 q) (hS : Scr C b L xs) (hM : GX (mG0 z) ∧ own (mG0 z) (z + 75) 19) (hok : Ok_report n z Rel) {i : Int32} (hi : vp_in (i + 1) L ∧ vp_in (i + 2) L ∧ vp_in (i + 3) L ∧ vp_in (i + 4) L) {V : V2} {R : R2} {G : G2} {U : V2} (hr : Rel V R G U) (hI : LI z (mG0 z) G) {kc ks : Nat} (hk : kc + 20 ≤ 600000 ∧ ks + 3030 ≤ 7302250)
    (nx : ∀ V' R' G' U', Rel V' R' G' U' → LI z (mG0 z) G' → GoL C 1745 [(0, .ref b), (1, .ref z), (2, .ref (z + 75)), (3, .int i)] [] (XL C.2.2.2.1 (mG0 z) Rm G' V' R' U') (kc + 20) (ks + 3030)) : True → GoL C 1056 [(0, .ref b), (1, .ref z), (2, .ref (z + 75)), (3, .int i)] [] (XL C.2.2.2.1 (mG0 z) Rm G V R U) kc ks := by
  obtain ⟨o, om, e1, e2, e3, hr'⟩ := hok V R G U hr hI (xs (i + 1).toNatClampNeg) (xs (i + 2).toNatClampNeg) (xs (i + 3).toNatClampNeg) (xs (i + 4).toNatClampNeg)
  have hI' := hI
  refine gl_aload_n hC dL_law_1056 (j := 1) rfl rfl ?_
  refine gl_aload_n hC dL_law_1057 (j := 0) rfl rfl ?_
  refine gl_iload_n hC dL_law_1058 (j := 3) rfl rfl ?_
  refine gl_iconst hC dL_law_1059 ic_1 ?_
  refine gl_iadd hC dL_law_1060 ?_
  refine gl_sld hC hS (hi.1) dL_law_1061 ?_
  refine gl_aload_n hC dL_law_1062 (j := 0) rfl rfl ?_
  refine gl_iload_n hC dL_law_1063 (j := 3) rfl rfl ?_
  refine gl_iconst hC dL_law_1064 ic_2 ?_
  refine gl_iadd hC dL_law_1065 ?_
  refine gl_sld hC hS (hi.2.1) dL_law_1066 ?_
  refine gl_aload_n hC dL_law_1067 (j := 0) rfl rfl ?_
  refine gl_iload_n hC dL_law_1068 (j := 3) rfl rfl ?_
  refine gl_iconst hC dL_law_1069 ic_3 ?_
  refine gl_iadd hC dL_law_1070 ?_
  refine gl_sld hC hS (hi.2.2.1) dL_law_1071 ?_
  refine gl_aload_n hC dL_law_1072 (j := 0) rfl rfl ?_
  refine gl_iload_n hC dL_law_1073 (j := 3) rfl rfl ?_
  refine gl_iconst hC dL_law_1074 ic_4 ?_
  refine gl_iadd hC dL_law_1075 ?_
  refine gl_sld hC hS (hi.2.2.2) dL_law_1076 ?_
  refine gl_callC hC hR hA ⟨by omega, by omega⟩ mwX8_report miX8_report (ci := 8) rfl hI.2.1 (by decide) mlL_133 (kX8_report hI.1 hI.2.1 e1) (Nat.le_of_ble_eq_true rfl) rfl (av := [.int (xs (i + 1).toNatClampNeg), .int (xs (i + 2).toNatClampNeg), .int (xs (i + 3).toNatClampNeg), .int (xs (i + 4).toNatClampNeg)]) (st := []) rfl (Nat.le_of_ble_eq_true rfl) (GE.rf G) hI.2.2 dL_law_1077 ?_
  refine gl_aload_n hC dL_law_1080 (j := 2) rfl rfl ?_
  refine gl_aload_n hC dL_law_1081 (j := 0) rfl rfl ?_
  refine gl_iload_n hC dL_law_1082 (j := 3) rfl rfl ?_
  refine gl_iconst hC dL_law_1083 ic_1 ?_
  refine gl_iadd hC dL_law_1084 ?_
  refine gl_sld hC hS (hi.1) dL_law_1085 ?_
  refine gl_aload_n hC dL_law_1086 (j := 0) rfl rfl ?_
  refine gl_iload_n hC dL_law_1087 (j := 3) rfl rfl ?_
  refine gl_iconst hC dL_law_1088 ic_2 ?_
  refine gl_iadd hC dL_law_1089 ?_
  refine gl_sld hC hS (hi.2.1) dL_law_1090 ?_
  refine gl_aload_n hC dL_law_1091 (j := 0) rfl rfl ?_
  refine gl_iload_n hC dL_law_1092 (j := 3) rfl rfl ?_
  refine gl_iconst hC dL_law_1093 ic_3 ?_
  refine gl_iadd hC dL_law_1094 ?_
  refine gl_sld hC hS (hi.2.2.1) dL_law_1095 ?_
  refine gl_aload_n hC dL_law_1096 (j := 0) rfl rfl ?_
  refine gl_iload_n hC dL_law_1097 (j := 3) rfl rfl ?_
  refine gl_iconst hC dL_law_1098 ic_4 ?_
  refine gl_iadd hC dL_law_1099 ?_
  refine gl_sld hC hS (hi.2.2.2) dL_law_1100 ?_
  refine gl_runM hC hR hA ⟨by omega, by omega⟩ mwX9_report miX9_report (ci := 9) rfl hM.2 (by decide) mlL_136 (kX9_report (G := mG (mG0 z) G.2.2.2) hM.1 hM.2 e2) (Nat.le_of_ble_eq_true rfl) rfl (av := [.int (xs (i + 1).toNatClampNeg), .int (xs (i + 2).toNatClampNeg), .int (xs (i + 3).toNatClampNeg), .int (xs (i + 4).toNatClampNeg)]) (st := [.int o.1]) rfl (Nat.le_of_ble_eq_true rfl) hI'.2.2 dL_law_1101 ?_
  refine gl_eqT hC dL_law_1104 e3 ?_
  refine gl_widen (kc' := kc + 20) (ks' := ks + 3030) (by omega) (by omega) ?_
  exact fun _ => nx _ _ _ _ hr' hI'
set_option maxHeartbeats 4000000 in
set_option maxRecDepth 100000 in
theorem lc_forget {C : Cx} {Rm : R2} {b L z n : Nat} {xs : Nat → Int32} {Rel : RelT} (hC : CxOK C cL_law RL (some .boolean)) (hR : C.1.2.2.2.1 = room_1) (hA : ∀ q, C.2.2.2.1.2.2.2.1 ≤ q → AX C.2.2.1 q) (hS : Scr C b L xs) (hM : GX (mG0 z) ∧ own (mG0 z) (z + 75) 19) (hok : Ok_forget n z Rel) {i : Int32} (hi : vp_in (i + 1) L ∧ vp_in (i + 2) L ∧ vp_in (i + 3) L ∧ vp_in (i + 4) L) {V : V2} {R : R2} {G : G2} {U : V2} (hr : Rel V R G U) (hI : LI z (mG0 z) G) {kc ks : Nat} (hk : kc + 20 ≤ 600000 ∧ ks + 3030 ≤ 7302250)
    (nx : ∀ V' R' G' U', Rel V' R' G' U' → LI z (mG0 z) G' → GoL C 1745 [(0, .ref b), (1, .ref z), (2, .ref (z + 75)), (3, .int i)] [] (XL C.2.2.2.1 (mG0 z) Rm G' V' R' U') (kc + 20) (ks + 3030)) : True → GoL C 1109 [(0, .ref b), (1, .ref z), (2, .ref (z + 75)), (3, .int i)] [] (XL C.2.2.2.1 (mG0 z) Rm G V R U) kc ks := by
  obtain ⟨o, om, e1, e2, e3, hr'⟩ := hok V R G U hr hI 
  have hI' := hI
  refine gl_aload_n hC dL_law_1109 (j := 1) rfl rfl ?_
  refine gl_callC hC hR hA ⟨by omega, by omega⟩ mwX8_forget miX8_forget (ci := 8) rfl hI.2.1 (by decide) mlL_137 (kX8_forget hI.1 hI.2.1 e1) (Nat.le_of_ble_eq_true rfl) rfl (av := []) (st := []) rfl (Nat.le_of_ble_eq_true rfl) (GE.rf G) hI.2.2 dL_law_1110 ?_
  refine gl_aload_n hC dL_law_1113 (j := 2) rfl rfl ?_
  refine gl_runM hC hR hA ⟨by omega, by omega⟩ mwX9_forget miX9_forget (ci := 9) rfl hM.2 (by decide) mlL_140 (kX9_forget (G := mG (mG0 z) G.2.2.2) hM.1 hM.2 e2) (Nat.le_of_ble_eq_true rfl) rfl (av := []) (st := [.int o.1]) rfl (Nat.le_of_ble_eq_true rfl) hI'.2.2 dL_law_1114 ?_
  refine gl_eqT hC dL_law_1117 e3 ?_
  refine gl_widen (kc' := kc + 20) (ks' := ks + 3030) (by omega) (by omega) ?_
  exact fun _ => nx _ _ _ _ hr' hI'
set_option maxHeartbeats 4000000 in
set_option maxRecDepth 100000 in
theorem lc_lone {C : Cx} {Rm : R2} {b L z n : Nat} {xs : Nat → Int32} {Rel : RelT} (hC : CxOK C cL_law RL (some .boolean)) (hR : C.1.2.2.2.1 = room_1) (hA : ∀ q, C.2.2.2.1.2.2.2.1 ≤ q → AX C.2.2.1 q) (hS : Scr C b L xs) (hM : GX (mG0 z) ∧ own (mG0 z) (z + 75) 19) (hok : Ok_lone n z Rel) {i : Int32} (hi : vp_in (i + 1) L ∧ vp_in (i + 2) L ∧ vp_in (i + 3) L ∧ vp_in (i + 4) L) {V : V2} {R : R2} {G : G2} {U : V2} (hr : Rel V R G U) (hI : LI z (mG0 z) G) {kc ks : Nat} (hk : kc + 20 ≤ 600000 ∧ ks + 3030 ≤ 7302250)
    (nx : ∀ V' R' G' U', Rel V' R' G' U' → LI z (mG0 z) G' → GoL C 1745 [(0, .ref b), (1, .ref z), (2, .ref (z + 75)), (3, .int i)] [] (XL C.2.2.2.1 (mG0 z) Rm G' V' R' U') (kc + 20) (ks + 3030)) : True → GoL C 1122 [(0, .ref b), (1, .ref z), (2, .ref (z + 75)), (3, .int i)] [] (XL C.2.2.2.1 (mG0 z) Rm G V R U) kc ks := by
  obtain ⟨o, om, e1, e2, e3, hr'⟩ := hok V R G U hr hI (xs (i + 1).toNatClampNeg)
  have hI' := hI
  refine gl_aload_n hC dL_law_1122 (j := 1) rfl rfl ?_
  refine gl_aload_n hC dL_law_1123 (j := 0) rfl rfl ?_
  refine gl_iload_n hC dL_law_1124 (j := 3) rfl rfl ?_
  refine gl_iconst hC dL_law_1125 ic_1 ?_
  refine gl_iadd hC dL_law_1126 ?_
  refine gl_sld hC hS (hi.1) dL_law_1127 ?_
  refine gl_callC hC hR hA ⟨by omega, by omega⟩ mwX8_lone miX8_lone (ci := 8) rfl hI.2.1 (by decide) mlL_141 (kX8_lone hI.1 hI.2.1 e1) (Nat.le_of_ble_eq_true rfl) rfl (av := [.int (xs (i + 1).toNatClampNeg)]) (st := []) rfl (Nat.le_of_ble_eq_true rfl) (GE.rf G) hI.2.2 dL_law_1128 ?_
  refine gl_aload_n hC dL_law_1131 (j := 2) rfl rfl ?_
  refine gl_aload_n hC dL_law_1132 (j := 0) rfl rfl ?_
  refine gl_iload_n hC dL_law_1133 (j := 3) rfl rfl ?_
  refine gl_iconst hC dL_law_1134 ic_1 ?_
  refine gl_iadd hC dL_law_1135 ?_
  refine gl_sld hC hS (hi.1) dL_law_1136 ?_
  refine gl_runM hC hR hA ⟨by omega, by omega⟩ mwX9_lone miX9_lone (ci := 9) rfl hM.2 (by decide) mlL_144 (kX9_lone (G := mG (mG0 z) G.2.2.2) hM.1 hM.2 e2) (Nat.le_of_ble_eq_true rfl) rfl (av := [.int (xs (i + 1).toNatClampNeg)]) (st := [.int o.1]) rfl (Nat.le_of_ble_eq_true rfl) hI'.2.2 dL_law_1137 ?_
  refine gl_eqT hC dL_law_1140 e3 ?_
  refine gl_widen (kc' := kc + 20) (ks' := ks + 3030) (by omega) (by omega) ?_
  exact fun _ => nx _ _ _ _ hr' hI'
set_option maxHeartbeats 4000000 in
set_option maxRecDepth 100000 in
theorem lc_liar {C : Cx} {Rm : R2} {b L z n : Nat} {xs : Nat → Int32} {Rel : RelT} (hC : CxOK C cL_law RL (some .boolean)) (hR : C.1.2.2.2.1 = room_1) (hA : ∀ q, C.2.2.2.1.2.2.2.1 ≤ q → AX C.2.2.1 q) (hS : Scr C b L xs) (hM : GX (mG0 z) ∧ own (mG0 z) (z + 75) 19) (hok : Ok_liar n z Rel) {i : Int32} (hi : vp_in (i + 1) L ∧ vp_in (i + 2) L ∧ vp_in (i + 3) L ∧ vp_in (i + 4) L) {V : V2} {R : R2} {G : G2} {U : V2} (hr : Rel V R G U) (hI : LI z (mG0 z) G) {kc ks : Nat} (hk : kc + 20 ≤ 600000 ∧ ks + 3030 ≤ 7302250)
    (nx : ∀ V' R' G' U', Rel V' R' G' U' → LI z (mG0 z) G' → GoL C 1745 [(0, .ref b), (1, .ref z), (2, .ref (z + 75)), (3, .int i)] [] (XL C.2.2.2.1 (mG0 z) Rm G' V' R' U') (kc + 20) (ks + 3030)) : True → GoL C 1145 [(0, .ref b), (1, .ref z), (2, .ref (z + 75)), (3, .int i)] [] (XL C.2.2.2.1 (mG0 z) Rm G V R U) kc ks := by
  obtain ⟨o, om, e1, e2, e3, hr'⟩ := hok V R G U hr hI 
  have hI' := hI
  refine gl_aload_n hC dL_law_1145 (j := 1) rfl rfl ?_
  refine gl_callC hC hR hA ⟨by omega, by omega⟩ mwX8_liar miX8_liar (ci := 8) rfl hI.2.1 (by decide) mlL_145 (kX8_liar hI.1 hI.2.1 e1) (Nat.le_of_ble_eq_true rfl) rfl (av := []) (st := []) rfl (Nat.le_of_ble_eq_true rfl) (GE.rf G) hI.2.2 dL_law_1146 ?_
  refine gl_aload_n hC dL_law_1149 (j := 2) rfl rfl ?_
  refine gl_runM hC hR hA ⟨by omega, by omega⟩ mwX9_liar miX9_liar (ci := 9) rfl hM.2 (by decide) mlL_148 (kX9_liar (G := mG (mG0 z) G.2.2.2) hM.1 hM.2 e2) (Nat.le_of_ble_eq_true rfl) rfl (av := []) (st := [.int o.1]) rfl (Nat.le_of_ble_eq_true rfl) hI'.2.2 dL_law_1150 ?_
  refine gl_eqT hC dL_law_1153 e3 ?_
  refine gl_widen (kc' := kc + 20) (ks' := ks + 3030) (by omega) (by omega) ?_
  exact fun _ => nx _ _ _ _ hr' hI'
set_option maxHeartbeats 4000000 in
set_option maxRecDepth 100000 in
theorem lc_seed {C : Cx} {Rm : R2} {b L z n : Nat} {xs : Nat → Int32} {Rel : RelT} (hC : CxOK C cL_law RL (some .boolean)) (hR : C.1.2.2.2.1 = room_1) (hA : ∀ q, C.2.2.2.1.2.2.2.1 ≤ q → AX C.2.2.1 q) (hS : Scr C b L xs) (hM : GX (mG0 z) ∧ own (mG0 z) (z + 75) 19) (hok : Ok_seed n z Rel) {i : Int32} (hi : vp_in (i + 1) L ∧ vp_in (i + 2) L ∧ vp_in (i + 3) L ∧ vp_in (i + 4) L) {V : V2} {R : R2} {G : G2} {U : V2} (hr : Rel V R G U) (hI : LI z (mG0 z) G) {kc ks : Nat} (hk : kc + 20 ≤ 600000 ∧ ks + 3030 ≤ 7302250)
    (nx : ∀ V' R' G' U', Rel V' R' G' U' → LI z (mG0 z) G' → GoL C 1745 [(0, .ref b), (1, .ref z), (2, .ref (z + 75)), (3, .int i)] [] (XL C.2.2.2.1 (mG0 z) Rm G' V' R' U') (kc + 20) (ks + 3030)) : True → GoL C 1158 [(0, .ref b), (1, .ref z), (2, .ref (z + 75)), (3, .int i)] [] (XL C.2.2.2.1 (mG0 z) Rm G V R U) kc ks := by
  obtain ⟨o, om, e1, e2, e3, hr'⟩ := hok V R G U hr hI (xs (i + 1).toNatClampNeg)
  have hI' := hI
  refine gl_aload_n hC dL_law_1158 (j := 1) rfl rfl ?_
  refine gl_aload_n hC dL_law_1159 (j := 0) rfl rfl ?_
  refine gl_iload_n hC dL_law_1160 (j := 3) rfl rfl ?_
  refine gl_iconst hC dL_law_1161 ic_1 ?_
  refine gl_iadd hC dL_law_1162 ?_
  refine gl_sld hC hS (hi.1) dL_law_1163 ?_
  refine gl_callC hC hR hA ⟨by omega, by omega⟩ mwX8_seed miX8_seed (ci := 8) rfl hI.2.1 (by decide) mlL_149 (kX8_seed hI.1 hI.2.1 e1) (Nat.le_of_ble_eq_true rfl) rfl (av := [.int (xs (i + 1).toNatClampNeg)]) (st := []) rfl (Nat.le_of_ble_eq_true rfl) (GE.rf G) hI.2.2 dL_law_1164 ?_
  refine gl_aload_n hC dL_law_1167 (j := 2) rfl rfl ?_
  refine gl_aload_n hC dL_law_1168 (j := 0) rfl rfl ?_
  refine gl_iload_n hC dL_law_1169 (j := 3) rfl rfl ?_
  refine gl_iconst hC dL_law_1170 ic_1 ?_
  refine gl_iadd hC dL_law_1171 ?_
  refine gl_sld hC hS (hi.1) dL_law_1172 ?_
  refine gl_runM hC hR hA ⟨by omega, by omega⟩ mwX9_seed miX9_seed (ci := 9) rfl hM.2 (by decide) mlL_152 (kX9_seed (G := mG (mG0 z) G.2.2.2) hM.1 hM.2 e2) (Nat.le_of_ble_eq_true rfl) rfl (av := [.int (xs (i + 1).toNatClampNeg)]) (st := [.int o.1]) rfl (Nat.le_of_ble_eq_true rfl) hI'.2.2 dL_law_1173 ?_
  refine gl_eqT hC dL_law_1176 e3 ?_
  refine gl_widen (kc' := kc + 20) (ks' := ks + 3030) (by omega) (by omega) ?_
  exact fun _ => nx _ _ _ _ hr' hI'
set_option maxHeartbeats 4000000 in
set_option maxRecDepth 100000 in
theorem lc_lot {C : Cx} {Rm : R2} {b L z n : Nat} {xs : Nat → Int32} {Rel : RelT} (hC : CxOK C cL_law RL (some .boolean)) (hR : C.1.2.2.2.1 = room_1) (hA : ∀ q, C.2.2.2.1.2.2.2.1 ≤ q → AX C.2.2.1 q) (hS : Scr C b L xs) (hM : GX (mG0 z) ∧ own (mG0 z) (z + 75) 19) (hok : Ok_lot n z Rel) {i : Int32} (hi : vp_in (i + 1) L ∧ vp_in (i + 2) L ∧ vp_in (i + 3) L ∧ vp_in (i + 4) L) {V : V2} {R : R2} {G : G2} {U : V2} (hr : Rel V R G U) (hI : LI z (mG0 z) G) {kc ks : Nat} (hk : kc + 20 ≤ 600000 ∧ ks + 3030 ≤ 7302250)
    (nx : ∀ V' R' G' U', Rel V' R' G' U' → LI z (mG0 z) G' → GoL C 1745 [(0, .ref b), (1, .ref z), (2, .ref (z + 75)), (3, .int i)] [] (XL C.2.2.2.1 (mG0 z) Rm G' V' R' U') (kc + 20) (ks + 3030)) : True → GoL C 1181 [(0, .ref b), (1, .ref z), (2, .ref (z + 75)), (3, .int i)] [] (XL C.2.2.2.1 (mG0 z) Rm G V R U) kc ks := by
  obtain ⟨o, om, e1, e2, e3, hr'⟩ := hok V R G U hr hI 
  have hI' := hI
  refine gl_aload_n hC dL_law_1181 (j := 1) rfl rfl ?_
  refine gl_callC hC hR hA ⟨by omega, by omega⟩ mwX8_lot miX8_lot (ci := 8) rfl hI.2.1 (by decide) mlL_153 (kX8_lot hI.1 hI.2.1 e1) (Nat.le_of_ble_eq_true rfl) rfl (av := []) (st := []) rfl (Nat.le_of_ble_eq_true rfl) (GE.rf G) hI.2.2 dL_law_1182 ?_
  refine gl_aload_n hC dL_law_1185 (j := 2) rfl rfl ?_
  refine gl_runM hC hR hA ⟨by omega, by omega⟩ mwX9_lot miX9_lot (ci := 9) rfl hM.2 (by decide) mlL_156 (kX9_lot (G := mG (mG0 z) G.2.2.2) hM.1 hM.2 e2) (Nat.le_of_ble_eq_true rfl) rfl (av := []) (st := [.int o.1]) rfl (Nat.le_of_ble_eq_true rfl) hI'.2.2 dL_law_1186 ?_
  refine gl_eqT hC dL_law_1189 e3 ?_
  refine gl_widen (kc' := kc + 20) (ks' := ks + 3030) (by omega) (by omega) ?_
  exact fun _ => nx _ _ _ _ hr' hI'
set_option maxHeartbeats 4000000 in
set_option maxRecDepth 100000 in
theorem lc_times {C : Cx} {Rm : R2} {b L z n : Nat} {xs : Nat → Int32} {Rel : RelT} (hC : CxOK C cL_law RL (some .boolean)) (hR : C.1.2.2.2.1 = room_1) (hA : ∀ q, C.2.2.2.1.2.2.2.1 ≤ q → AX C.2.2.1 q) (hS : Scr C b L xs) (hM : GX (mG0 z) ∧ own (mG0 z) (z + 75) 19) (hok : Ok_times n z Rel) {i : Int32} (hi : vp_in (i + 1) L ∧ vp_in (i + 2) L ∧ vp_in (i + 3) L ∧ vp_in (i + 4) L) {V : V2} {R : R2} {G : G2} {U : V2} (hr : Rel V R G U) (hI : LI z (mG0 z) G) {kc ks : Nat} (hk : kc + 20 ≤ 600000 ∧ ks + 3030 ≤ 7302250)
    (nx : ∀ V' R' G' U', Rel V' R' G' U' → LI z (mG0 z) G' → GoL C 1745 [(0, .ref b), (1, .ref z), (2, .ref (z + 75)), (3, .int i)] [] (XL C.2.2.2.1 (mG0 z) Rm G' V' R' U') (kc + 20) (ks + 3030)) : True → GoL C 1194 [(0, .ref b), (1, .ref z), (2, .ref (z + 75)), (3, .int i)] [] (XL C.2.2.2.1 (mG0 z) Rm G V R U) kc ks := by
  obtain ⟨o, om, e1, e2, e3, hr'⟩ := hok V R G U hr hI (xs (i + 1).toNatClampNeg) (xs (i + 2).toNatClampNeg)
  have hI' := hI
  refine gl_aload_n hC dL_law_1194 (j := 1) rfl rfl ?_
  refine gl_aload_n hC dL_law_1195 (j := 0) rfl rfl ?_
  refine gl_iload_n hC dL_law_1196 (j := 3) rfl rfl ?_
  refine gl_iconst hC dL_law_1197 ic_1 ?_
  refine gl_iadd hC dL_law_1198 ?_
  refine gl_sld hC hS (hi.1) dL_law_1199 ?_
  refine gl_aload_n hC dL_law_1200 (j := 0) rfl rfl ?_
  refine gl_iload_n hC dL_law_1201 (j := 3) rfl rfl ?_
  refine gl_iconst hC dL_law_1202 ic_2 ?_
  refine gl_iadd hC dL_law_1203 ?_
  refine gl_sld hC hS (hi.2.1) dL_law_1204 ?_
  refine gl_callC hC hR hA ⟨by omega, by omega⟩ mwX8_times miX8_times (ci := 8) rfl hI.2.1 (by decide) mlL_157 (kX8_times hI.1 hI.2.1 e1) (Nat.le_of_ble_eq_true rfl) rfl (av := [.int (xs (i + 1).toNatClampNeg), .int (xs (i + 2).toNatClampNeg)]) (st := []) rfl (Nat.le_of_ble_eq_true rfl) (GE.rf G) hI.2.2 dL_law_1205 ?_
  refine gl_aload_n hC dL_law_1208 (j := 2) rfl rfl ?_
  refine gl_aload_n hC dL_law_1209 (j := 0) rfl rfl ?_
  refine gl_iload_n hC dL_law_1210 (j := 3) rfl rfl ?_
  refine gl_iconst hC dL_law_1211 ic_1 ?_
  refine gl_iadd hC dL_law_1212 ?_
  refine gl_sld hC hS (hi.1) dL_law_1213 ?_
  refine gl_aload_n hC dL_law_1214 (j := 0) rfl rfl ?_
  refine gl_iload_n hC dL_law_1215 (j := 3) rfl rfl ?_
  refine gl_iconst hC dL_law_1216 ic_2 ?_
  refine gl_iadd hC dL_law_1217 ?_
  refine gl_sld hC hS (hi.2.1) dL_law_1218 ?_
  refine gl_runM hC hR hA ⟨by omega, by omega⟩ mwX9_times miX9_times (ci := 9) rfl hM.2 (by decide) mlL_160 (kX9_times (G := mG (mG0 z) G.2.2.2) hM.1 hM.2 e2) (Nat.le_of_ble_eq_true rfl) rfl (av := [.int (xs (i + 1).toNatClampNeg), .int (xs (i + 2).toNatClampNeg)]) (st := [.int o.1]) rfl (Nat.le_of_ble_eq_true rfl) hI'.2.2 dL_law_1219 ?_
  refine gl_eqT hC dL_law_1222 e3 ?_
  refine gl_widen (kc' := kc + 20) (ks' := ks + 3030) (by omega) (by omega) ?_
  exact fun _ => nx _ _ _ _ hr' hI'
set_option maxHeartbeats 4000000 in
set_option maxRecDepth 100000 in
theorem lc_prove {C : Cx} {Rm : R2} {b L z n : Nat} {xs : Nat → Int32} {Rel : RelT} (hC : CxOK C cL_law RL (some .boolean)) (hR : C.1.2.2.2.1 = room_1) (hA : ∀ q, C.2.2.2.1.2.2.2.1 ≤ q → AX C.2.2.1 q) (hS : Scr C b L xs) (hM : GX (mG0 z) ∧ own (mG0 z) (z + 75) 19) (hok : Ok_prove n z Rel) {i : Int32} (hi : vp_in (i + 1) L ∧ vp_in (i + 2) L ∧ vp_in (i + 3) L ∧ vp_in (i + 4) L) {V : V2} {R : R2} {G : G2} {U : V2} (hr : Rel V R G U) (hI : LI z (mG0 z) G) {kc ks : Nat} (hk : kc + 20 ≤ 600000 ∧ ks + 3030 ≤ 7302250)
    (nx : ∀ V' R' G' U', Rel V' R' G' U' → LI z (mG0 z) G' → GoL C 1745 [(0, .ref b), (1, .ref z), (2, .ref (z + 75)), (3, .int i)] [] (XL C.2.2.2.1 (mG0 z) Rm G' V' R' U') (kc + 20) (ks + 3030)) : True → GoL C 1227 [(0, .ref b), (1, .ref z), (2, .ref (z + 75)), (3, .int i)] [] (XL C.2.2.2.1 (mG0 z) Rm G V R U) kc ks := by
  obtain ⟨o, om, e1, e2, e3, hr'⟩ := hok V R G U hr hI (xs (i + 1).toNatClampNeg)
  have hI' := hI
  refine gl_aload_n hC dL_law_1227 (j := 1) rfl rfl ?_
  refine gl_aload_n hC dL_law_1228 (j := 0) rfl rfl ?_
  refine gl_iload_n hC dL_law_1229 (j := 3) rfl rfl ?_
  refine gl_iconst hC dL_law_1230 ic_1 ?_
  refine gl_iadd hC dL_law_1231 ?_
  refine gl_sld hC hS (hi.1) dL_law_1232 ?_
  refine gl_callC hC hR hA ⟨by omega, by omega⟩ mwX8_prove miX8_prove (ci := 8) rfl hI.2.1 (by decide) mlL_161 (kX8_prove hI.1 hI.2.1 e1) (Nat.le_of_ble_eq_true rfl) rfl (av := [.int (xs (i + 1).toNatClampNeg)]) (st := []) rfl (Nat.le_of_ble_eq_true rfl) (GE.rf G) hI.2.2 dL_law_1233 ?_
  refine gl_aload_n hC dL_law_1236 (j := 2) rfl rfl ?_
  refine gl_aload_n hC dL_law_1237 (j := 0) rfl rfl ?_
  refine gl_iload_n hC dL_law_1238 (j := 3) rfl rfl ?_
  refine gl_iconst hC dL_law_1239 ic_1 ?_
  refine gl_iadd hC dL_law_1240 ?_
  refine gl_sld hC hS (hi.1) dL_law_1241 ?_
  refine gl_runM hC hR hA ⟨by omega, by omega⟩ mwX9_prove miX9_prove (ci := 9) rfl hM.2 (by decide) mlL_164 (kX9_prove (G := mG (mG0 z) G.2.2.2) hM.1 hM.2 e2) (Nat.le_of_ble_eq_true rfl) rfl (av := [.int (xs (i + 1).toNatClampNeg)]) (st := [.int o.1]) rfl (Nat.le_of_ble_eq_true rfl) hI'.2.2 dL_law_1242 ?_
  refine gl_eqT hC dL_law_1245 e3 ?_
  refine gl_widen (kc' := kc + 20) (ks' := ks + 3030) (by omega) (by omega) ?_
  exact fun _ => nx _ _ _ _ hr' hI'
set_option maxHeartbeats 4000000 in
set_option maxRecDepth 100000 in
theorem lc_row {C : Cx} {Rm : R2} {b L z n : Nat} {xs : Nat → Int32} {Rel : RelT} (hC : CxOK C cL_law RL (some .boolean)) (hR : C.1.2.2.2.1 = room_1) (hA : ∀ q, C.2.2.2.1.2.2.2.1 ≤ q → AX C.2.2.1 q) (hS : Scr C b L xs) (hM : GX (mG0 z) ∧ own (mG0 z) (z + 75) 19) (hok : Ok_row n z Rel) {i : Int32} (hi : vp_in (i + 1) L ∧ vp_in (i + 2) L ∧ vp_in (i + 3) L ∧ vp_in (i + 4) L) {V : V2} {R : R2} {G : G2} {U : V2} (hr : Rel V R G U) (hI : LI z (mG0 z) G) {kc ks : Nat} (hk : kc + 20 ≤ 600000 ∧ ks + 3030 ≤ 7302250)
    (nx : ∀ V' R' G' U', Rel V' R' G' U' → LI z (mG0 z) G' → GoL C 1745 [(0, .ref b), (1, .ref z), (2, .ref (z + 75)), (3, .int i)] [] (XL C.2.2.2.1 (mG0 z) Rm G' V' R' U') (kc + 20) (ks + 3030)) : True → GoL C 1250 [(0, .ref b), (1, .ref z), (2, .ref (z + 75)), (3, .int i)] [] (XL C.2.2.2.1 (mG0 z) Rm G V R U) kc ks := by
  obtain ⟨o, om, e1, e2, e3, hr'⟩ := hok V R G U hr hI (xs (i + 1).toNatClampNeg) (xs (i + 2).toNatClampNeg)
  have hI' := hI
  refine gl_aload_n hC dL_law_1250 (j := 1) rfl rfl ?_
  refine gl_aload_n hC dL_law_1251 (j := 0) rfl rfl ?_
  refine gl_iload_n hC dL_law_1252 (j := 3) rfl rfl ?_
  refine gl_iconst hC dL_law_1253 ic_1 ?_
  refine gl_iadd hC dL_law_1254 ?_
  refine gl_sld hC hS (hi.1) dL_law_1255 ?_
  refine gl_aload_n hC dL_law_1256 (j := 0) rfl rfl ?_
  refine gl_iload_n hC dL_law_1257 (j := 3) rfl rfl ?_
  refine gl_iconst hC dL_law_1258 ic_2 ?_
  refine gl_iadd hC dL_law_1259 ?_
  refine gl_sld hC hS (hi.2.1) dL_law_1260 ?_
  refine gl_callC hC hR hA ⟨by omega, by omega⟩ mwX8_row miX8_row (ci := 8) rfl hI.2.1 (by decide) mlL_165 (kX8_row hI.1 hI.2.1 e1) (Nat.le_of_ble_eq_true rfl) rfl (av := [.int (xs (i + 1).toNatClampNeg), .int (xs (i + 2).toNatClampNeg)]) (st := []) rfl (Nat.le_of_ble_eq_true rfl) (GE.rf G) hI.2.2 dL_law_1261 ?_
  refine gl_aload_n hC dL_law_1264 (j := 2) rfl rfl ?_
  refine gl_aload_n hC dL_law_1265 (j := 0) rfl rfl ?_
  refine gl_iload_n hC dL_law_1266 (j := 3) rfl rfl ?_
  refine gl_iconst hC dL_law_1267 ic_1 ?_
  refine gl_iadd hC dL_law_1268 ?_
  refine gl_sld hC hS (hi.1) dL_law_1269 ?_
  refine gl_aload_n hC dL_law_1270 (j := 0) rfl rfl ?_
  refine gl_iload_n hC dL_law_1271 (j := 3) rfl rfl ?_
  refine gl_iconst hC dL_law_1272 ic_2 ?_
  refine gl_iadd hC dL_law_1273 ?_
  refine gl_sld hC hS (hi.2.1) dL_law_1274 ?_
  refine gl_runM hC hR hA ⟨by omega, by omega⟩ mwX9_row miX9_row (ci := 9) rfl hM.2 (by decide) mlL_168 (kX9_row (G := mG (mG0 z) G.2.2.2) hM.1 hM.2 e2) (Nat.le_of_ble_eq_true rfl) rfl (av := [.int (xs (i + 1).toNatClampNeg), .int (xs (i + 2).toNatClampNeg)]) (st := [.int o]) rfl (Nat.le_of_ble_eq_true rfl) hI'.2.2 dL_law_1275 ?_
  refine gl_eqT hC dL_law_1278 e3 ?_
  refine gl_widen (kc' := kc + 20) (ks' := ks + 3030) (by omega) (by omega) ?_
  exact fun _ => nx _ _ _ _ hr' hI'
set_option maxHeartbeats 4000000 in
set_option maxRecDepth 100000 in
theorem lc_alterRow {C : Cx} {Rm : R2} {b L z n : Nat} {xs : Nat → Int32} {Rel : RelT} (hC : CxOK C cL_law RL (some .boolean)) (hR : C.1.2.2.2.1 = room_1) (hA : ∀ q, C.2.2.2.1.2.2.2.1 ≤ q → AX C.2.2.1 q) (hS : Scr C b L xs) (hM : GX (mG0 z) ∧ own (mG0 z) (z + 75) 19) (hok : Ok_alterRow n z Rel) {i : Int32} (hi : vp_in (i + 1) L ∧ vp_in (i + 2) L ∧ vp_in (i + 3) L ∧ vp_in (i + 4) L) {V : V2} {R : R2} {G : G2} {U : V2} (hr : Rel V R G U) (hI : LI z (mG0 z) G) {kc ks : Nat} (hk : kc + 20 ≤ 600000 ∧ ks + 3030 ≤ 7302250)
    (nx : ∀ V' R' G' U', Rel V' R' G' U' → LI z (mG0 z) G' → GoL C 1745 [(0, .ref b), (1, .ref z), (2, .ref (z + 75)), (3, .int i)] [] (XL C.2.2.2.1 (mG0 z) Rm G' V' R' U') (kc + 20) (ks + 3030)) : True → GoL C 1283 [(0, .ref b), (1, .ref z), (2, .ref (z + 75)), (3, .int i)] [] (XL C.2.2.2.1 (mG0 z) Rm G V R U) kc ks := by
  obtain ⟨o, om, e1, e2, e3, hr'⟩ := hok V R G U hr hI (xs (i + 1).toNatClampNeg) (xs (i + 2).toNatClampNeg) (xs (i + 3).toNatClampNeg)
  have hI' := hI
  refine gl_aload_n hC dL_law_1283 (j := 1) rfl rfl ?_
  refine gl_aload_n hC dL_law_1284 (j := 0) rfl rfl ?_
  refine gl_iload_n hC dL_law_1285 (j := 3) rfl rfl ?_
  refine gl_iconst hC dL_law_1286 ic_1 ?_
  refine gl_iadd hC dL_law_1287 ?_
  refine gl_sld hC hS (hi.1) dL_law_1288 ?_
  refine gl_aload_n hC dL_law_1289 (j := 0) rfl rfl ?_
  refine gl_iload_n hC dL_law_1290 (j := 3) rfl rfl ?_
  refine gl_iconst hC dL_law_1291 ic_2 ?_
  refine gl_iadd hC dL_law_1292 ?_
  refine gl_sld hC hS (hi.2.1) dL_law_1293 ?_
  refine gl_aload_n hC dL_law_1294 (j := 0) rfl rfl ?_
  refine gl_iload_n hC dL_law_1295 (j := 3) rfl rfl ?_
  refine gl_iconst hC dL_law_1296 ic_3 ?_
  refine gl_iadd hC dL_law_1297 ?_
  refine gl_sld hC hS (hi.2.2.1) dL_law_1298 ?_
  refine gl_callC hC hR hA ⟨by omega, by omega⟩ mwX8_alterRow miX8_alterRow (ci := 8) rfl hI.2.1 (by decide) mlL_169 (kX8_alterRow hI.1 hI.2.1 e1) (Nat.le_of_ble_eq_true rfl) rfl (av := [.int (xs (i + 1).toNatClampNeg), .int (xs (i + 2).toNatClampNeg), .int (xs (i + 3).toNatClampNeg)]) (st := []) rfl (Nat.le_of_ble_eq_true rfl) (GE.rf G) hI.2.2 dL_law_1299 ?_
  refine gl_aload_n hC dL_law_1302 (j := 2) rfl rfl ?_
  refine gl_aload_n hC dL_law_1303 (j := 0) rfl rfl ?_
  refine gl_iload_n hC dL_law_1304 (j := 3) rfl rfl ?_
  refine gl_iconst hC dL_law_1305 ic_1 ?_
  refine gl_iadd hC dL_law_1306 ?_
  refine gl_sld hC hS (hi.1) dL_law_1307 ?_
  refine gl_aload_n hC dL_law_1308 (j := 0) rfl rfl ?_
  refine gl_iload_n hC dL_law_1309 (j := 3) rfl rfl ?_
  refine gl_iconst hC dL_law_1310 ic_2 ?_
  refine gl_iadd hC dL_law_1311 ?_
  refine gl_sld hC hS (hi.2.1) dL_law_1312 ?_
  refine gl_aload_n hC dL_law_1313 (j := 0) rfl rfl ?_
  refine gl_iload_n hC dL_law_1314 (j := 3) rfl rfl ?_
  refine gl_iconst hC dL_law_1315 ic_3 ?_
  refine gl_iadd hC dL_law_1316 ?_
  refine gl_sld hC hS (hi.2.2.1) dL_law_1317 ?_
  refine gl_runM hC hR hA ⟨by omega, by omega⟩ mwX9_alterRow miX9_alterRow (ci := 9) rfl hM.2 (by decide) mlL_172 (kX9_alterRow (G := mG (mG0 z) G.2.2.2) hM.1 hM.2 e2) (Nat.le_of_ble_eq_true rfl) rfl (av := [.int (xs (i + 1).toNatClampNeg), .int (xs (i + 2).toNatClampNeg), .int (xs (i + 3).toNatClampNeg)]) (st := [.int o.1]) rfl (Nat.le_of_ble_eq_true rfl) hI'.2.2 dL_law_1318 ?_
  refine gl_eqT hC dL_law_1321 e3 ?_
  refine gl_widen (kc' := kc + 20) (ks' := ks + 3030) (by omega) (by omega) ?_
  exact fun _ => nx _ _ _ _ hr' hI'
set_option maxHeartbeats 4000000 in
set_option maxRecDepth 100000 in
theorem lc_judge {C : Cx} {Rm : R2} {b L z n : Nat} {xs : Nat → Int32} {Rel : RelT} (hC : CxOK C cL_law RL (some .boolean)) (hR : C.1.2.2.2.1 = room_1) (hA : ∀ q, C.2.2.2.1.2.2.2.1 ≤ q → AX C.2.2.1 q) (hS : Scr C b L xs) (hM : GX (mG0 z) ∧ own (mG0 z) (z + 75) 19) (hok : Ok_judge n z Rel) {i : Int32} (hi : vp_in (i + 1) L ∧ vp_in (i + 2) L ∧ vp_in (i + 3) L ∧ vp_in (i + 4) L) {V : V2} {R : R2} {G : G2} {U : V2} (hr : Rel V R G U) (hI : LI z (mG0 z) G) {kc ks : Nat} (hk : kc + 20 ≤ 600000 ∧ ks + 3030 ≤ 7302250)
    (nx : ∀ V' R' G' U', Rel V' R' G' U' → LI z (mG0 z) G' → GoL C 1745 [(0, .ref b), (1, .ref z), (2, .ref (z + 75)), (3, .int i)] [] (XL C.2.2.2.1 (mG0 z) Rm G' V' R' U') (kc + 20) (ks + 3030)) : True → GoL C 1326 [(0, .ref b), (1, .ref z), (2, .ref (z + 75)), (3, .int i)] [] (XL C.2.2.2.1 (mG0 z) Rm G V R U) kc ks := by
  obtain ⟨o, om, e1, e2, e3, hr'⟩ := hok V R G U hr hI 
  have hI' := hI
  refine gl_aload_n hC dL_law_1326 (j := 1) rfl rfl ?_
  refine gl_callC hC hR hA ⟨by omega, by omega⟩ mwX8_judge miX8_judge (ci := 8) rfl hI.2.1 (by decide) mlL_173 (kX8_judge hI.1 hI.2.1 e1) (Nat.le_of_ble_eq_true rfl) rfl (av := []) (st := []) rfl (Nat.le_of_ble_eq_true rfl) (GE.rf G) hI.2.2 dL_law_1327 ?_
  refine gl_aload_n hC dL_law_1330 (j := 2) rfl rfl ?_
  refine gl_runM hC hR hA ⟨by omega, by omega⟩ mwX9_judge miX9_judge (ci := 9) rfl hM.2 (by decide) mlL_176 (kX9_judge (G := mG (mG0 z) G.2.2.2) hM.1 hM.2 e2) (Nat.le_of_ble_eq_true rfl) rfl (av := []) (st := [.int o.1]) rfl (Nat.le_of_ble_eq_true rfl) hI'.2.2 dL_law_1331 ?_
  refine gl_eqT hC dL_law_1334 e3 ?_
  refine gl_widen (kc' := kc + 20) (ks' := ks + 3030) (by omega) (by omega) ?_
  exact fun _ => nx _ _ _ _ hr' hI'
set_option maxHeartbeats 4000000 in
set_option maxRecDepth 100000 in
theorem lc_sheet {C : Cx} {Rm : R2} {b L z n : Nat} {xs : Nat → Int32} {Rel : RelT} (hC : CxOK C cL_law RL (some .boolean)) (hR : C.1.2.2.2.1 = room_1) (hA : ∀ q, C.2.2.2.1.2.2.2.1 ≤ q → AX C.2.2.1 q) (hS : Scr C b L xs) (hM : GX (mG0 z) ∧ own (mG0 z) (z + 75) 19) (hok : Ok_sheet n z Rel) {i : Int32} (hi : vp_in (i + 1) L ∧ vp_in (i + 2) L ∧ vp_in (i + 3) L ∧ vp_in (i + 4) L) {V : V2} {R : R2} {G : G2} {U : V2} (hr : Rel V R G U) (hI : LI z (mG0 z) G) {kc ks : Nat} (hk : kc + 20 ≤ 600000 ∧ ks + 3030 ≤ 7302250)
    (nx : ∀ V' R' G' U', Rel V' R' G' U' → LI z (mG0 z) G' → GoL C 1745 [(0, .ref b), (1, .ref z), (2, .ref (z + 75)), (3, .int i)] [] (XL C.2.2.2.1 (mG0 z) Rm G' V' R' U') (kc + 20) (ks + 3030)) : True → GoL C 1339 [(0, .ref b), (1, .ref z), (2, .ref (z + 75)), (3, .int i)] [] (XL C.2.2.2.1 (mG0 z) Rm G V R U) kc ks := by
  obtain ⟨o, om, e1, e2, e3, hr'⟩ := hok V R G U hr hI (xs (i + 1).toNatClampNeg) (xs (i + 2).toNatClampNeg) (xs (i + 3).toNatClampNeg)
  have hg := sheet_G e1
  refine gl_fact (fun H q => (⟨fun _ hx => wd_lt q.1 hx, fun _ hx => wd_lt q.2 hx⟩ : WfG G ∧ ∀ x, x ∈ (mG0 z).1 → x < G.2.2.2)) (fun hq => ?_)
  have hI' := hI.grow (n := 0) hg hq.1 hq.2
  refine gl_aload_n hC dL_law_1339 (j := 1) rfl rfl ?_
  refine gl_aload_n hC dL_law_1340 (j := 0) rfl rfl ?_
  refine gl_iload_n hC dL_law_1341 (j := 3) rfl rfl ?_
  refine gl_iconst hC dL_law_1342 ic_1 ?_
  refine gl_iadd hC dL_law_1343 ?_
  refine gl_sld hC hS (hi.1) dL_law_1344 ?_
  refine gl_aload_n hC dL_law_1345 (j := 0) rfl rfl ?_
  refine gl_iload_n hC dL_law_1346 (j := 3) rfl rfl ?_
  refine gl_iconst hC dL_law_1347 ic_2 ?_
  refine gl_iadd hC dL_law_1348 ?_
  refine gl_sld hC hS (hi.2.1) dL_law_1349 ?_
  refine gl_aload_n hC dL_law_1350 (j := 0) rfl rfl ?_
  refine gl_iload_n hC dL_law_1351 (j := 3) rfl rfl ?_
  refine gl_iconst hC dL_law_1352 ic_3 ?_
  refine gl_iadd hC dL_law_1353 ?_
  refine gl_sld hC hS (hi.2.2.1) dL_law_1354 ?_
  refine gl_callC hC hR hA ⟨by omega, by omega⟩ mwX8_sheet miX8_sheet (ci := 8) rfl hI.2.1 (by decide) mlL_177 (kX8_sheet hI.1 hI.2.1 e1) (Nat.le_of_ble_eq_true rfl) rfl (av := [.int (xs (i + 1).toNatClampNeg), .int (xs (i + 2).toNatClampNeg), .int (xs (i + 3).toNatClampNeg)]) (st := []) rfl (Nat.le_of_ble_eq_true rfl) hg.1 hI.2.2 dL_law_1355 ?_
  refine gl_aload_n hC dL_law_1358 (j := 2) rfl rfl ?_
  refine gl_aload_n hC dL_law_1359 (j := 0) rfl rfl ?_
  refine gl_iload_n hC dL_law_1360 (j := 3) rfl rfl ?_
  refine gl_iconst hC dL_law_1361 ic_1 ?_
  refine gl_iadd hC dL_law_1362 ?_
  refine gl_sld hC hS (hi.1) dL_law_1363 ?_
  refine gl_aload_n hC dL_law_1364 (j := 0) rfl rfl ?_
  refine gl_iload_n hC dL_law_1365 (j := 3) rfl rfl ?_
  refine gl_iconst hC dL_law_1366 ic_2 ?_
  refine gl_iadd hC dL_law_1367 ?_
  refine gl_sld hC hS (hi.2.1) dL_law_1368 ?_
  refine gl_aload_n hC dL_law_1369 (j := 0) rfl rfl ?_
  refine gl_iload_n hC dL_law_1370 (j := 3) rfl rfl ?_
  refine gl_iconst hC dL_law_1371 ic_3 ?_
  refine gl_iadd hC dL_law_1372 ?_
  refine gl_sld hC hS (hi.2.2.1) dL_law_1373 ?_
  refine gl_runM hC hR hA ⟨by omega, by omega⟩ mwX9_sheet miX9_sheet (ci := 9) rfl hM.2 (by decide) mlL_180 (kX9_sheet (G := mG (mG0 z) o.2.2.2.2.2.2) hM.1 hM.2 e2) (Nat.le_of_ble_eq_true rfl) rfl (av := [.int (xs (i + 1).toNatClampNeg), .int (xs (i + 2).toNatClampNeg), .int (xs (i + 3).toNatClampNeg)]) (st := [.int o.1]) rfl (Nat.le_of_ble_eq_true rfl) hI'.2.2 dL_law_1374 ?_
  refine gl_eqT hC dL_law_1377 e3 ?_
  refine gl_widen (kc' := kc + 20) (ks' := ks + 3030) (by omega) (by omega) ?_
  exact fun _ => nx _ _ _ _ hr' hI'
set_option maxHeartbeats 4000000 in
set_option maxRecDepth 100000 in
theorem lc_write {C : Cx} {Rm : R2} {b L z n : Nat} {xs : Nat → Int32} {Rel : RelT} (hC : CxOK C cL_law RL (some .boolean)) (hR : C.1.2.2.2.1 = room_1) (hA : ∀ q, C.2.2.2.1.2.2.2.1 ≤ q → AX C.2.2.1 q) (hS : Scr C b L xs) (hM : GX (mG0 z) ∧ own (mG0 z) (z + 75) 19) (hok : Ok_write n z Rel) {i : Int32} (hi : vp_in (i + 1) L ∧ vp_in (i + 2) L ∧ vp_in (i + 3) L ∧ vp_in (i + 4) L) {V : V2} {R : R2} {G : G2} {U : V2} (hr : Rel V R G U) (hI : LI z (mG0 z) G) {kc ks : Nat} (hk : kc + 20 ≤ 600000 ∧ ks + 3030 ≤ 7302250)
    (nx : ∀ V' R' G' U', Rel V' R' G' U' → LI z (mG0 z) G' → GoL C 1745 [(0, .ref b), (1, .ref z), (2, .ref (z + 75)), (3, .int i)] [] (XL C.2.2.2.1 (mG0 z) Rm G' V' R' U') (kc + 20) (ks + 3030)) : True → GoL C 1382 [(0, .ref b), (1, .ref z), (2, .ref (z + 75)), (3, .int i)] [] (XL C.2.2.2.1 (mG0 z) Rm G V R U) kc ks := by
  obtain ⟨o, om, e1, e2, e3, hr'⟩ := hok V R G U hr hI (xs (i + 1).toNatClampNeg) (xs (i + 2).toNatClampNeg) (xs (i + 3).toNatClampNeg)
  have hI' := hI
  refine gl_aload_n hC dL_law_1382 (j := 1) rfl rfl ?_
  refine gl_aload_n hC dL_law_1383 (j := 0) rfl rfl ?_
  refine gl_iload_n hC dL_law_1384 (j := 3) rfl rfl ?_
  refine gl_iconst hC dL_law_1385 ic_1 ?_
  refine gl_iadd hC dL_law_1386 ?_
  refine gl_sld hC hS (hi.1) dL_law_1387 ?_
  refine gl_aload_n hC dL_law_1388 (j := 0) rfl rfl ?_
  refine gl_iload_n hC dL_law_1389 (j := 3) rfl rfl ?_
  refine gl_iconst hC dL_law_1390 ic_2 ?_
  refine gl_iadd hC dL_law_1391 ?_
  refine gl_sld hC hS (hi.2.1) dL_law_1392 ?_
  refine gl_aload_n hC dL_law_1393 (j := 0) rfl rfl ?_
  refine gl_iload_n hC dL_law_1394 (j := 3) rfl rfl ?_
  refine gl_iconst hC dL_law_1395 ic_3 ?_
  refine gl_iadd hC dL_law_1396 ?_
  refine gl_sld hC hS (hi.2.2.1) dL_law_1397 ?_
  refine gl_callC hC hR hA ⟨by omega, by omega⟩ mwX8_write miX8_write (ci := 8) rfl hI.2.1 (by decide) mlL_181 (kX8_write hI.1 hI.2.1 e1) (Nat.le_of_ble_eq_true rfl) rfl (av := [.int (xs (i + 1).toNatClampNeg), .int (xs (i + 2).toNatClampNeg), .int (xs (i + 3).toNatClampNeg)]) (st := []) rfl (Nat.le_of_ble_eq_true rfl) (GE.rf G) hI.2.2 dL_law_1398 ?_
  refine gl_aload_n hC dL_law_1401 (j := 2) rfl rfl ?_
  refine gl_aload_n hC dL_law_1402 (j := 0) rfl rfl ?_
  refine gl_iload_n hC dL_law_1403 (j := 3) rfl rfl ?_
  refine gl_iconst hC dL_law_1404 ic_1 ?_
  refine gl_iadd hC dL_law_1405 ?_
  refine gl_sld hC hS (hi.1) dL_law_1406 ?_
  refine gl_aload_n hC dL_law_1407 (j := 0) rfl rfl ?_
  refine gl_iload_n hC dL_law_1408 (j := 3) rfl rfl ?_
  refine gl_iconst hC dL_law_1409 ic_2 ?_
  refine gl_iadd hC dL_law_1410 ?_
  refine gl_sld hC hS (hi.2.1) dL_law_1411 ?_
  refine gl_aload_n hC dL_law_1412 (j := 0) rfl rfl ?_
  refine gl_iload_n hC dL_law_1413 (j := 3) rfl rfl ?_
  refine gl_iconst hC dL_law_1414 ic_3 ?_
  refine gl_iadd hC dL_law_1415 ?_
  refine gl_sld hC hS (hi.2.2.1) dL_law_1416 ?_
  refine gl_runM hC hR hA ⟨by omega, by omega⟩ mwX9_write miX9_write (ci := 9) rfl hM.2 (by decide) mlL_184 (kX9_write (G := mG (mG0 z) G.2.2.2) hM.1 hM.2 e2) (Nat.le_of_ble_eq_true rfl) rfl (av := [.int (xs (i + 1).toNatClampNeg), .int (xs (i + 2).toNatClampNeg), .int (xs (i + 3).toNatClampNeg)]) (st := [.int o.1]) rfl (Nat.le_of_ble_eq_true rfl) hI'.2.2 dL_law_1417 ?_
  refine gl_eqT hC dL_law_1420 e3 ?_
  refine gl_widen (kc' := kc + 20) (ks' := ks + 3030) (by omega) (by omega) ?_
  exact fun _ => nx _ _ _ _ hr' hI'
set_option maxHeartbeats 4000000 in
set_option maxRecDepth 100000 in
theorem lc_item {C : Cx} {Rm : R2} {b L z n : Nat} {xs : Nat → Int32} {Rel : RelT} (hC : CxOK C cL_law RL (some .boolean)) (hR : C.1.2.2.2.1 = room_1) (hA : ∀ q, C.2.2.2.1.2.2.2.1 ≤ q → AX C.2.2.1 q) (hS : Scr C b L xs) (hM : GX (mG0 z) ∧ own (mG0 z) (z + 75) 19) (hok : Ok_item n z Rel) {i : Int32} (hi : vp_in (i + 1) L ∧ vp_in (i + 2) L ∧ vp_in (i + 3) L ∧ vp_in (i + 4) L) {V : V2} {R : R2} {G : G2} {U : V2} (hr : Rel V R G U) (hI : LI z (mG0 z) G) {kc ks : Nat} (hk : kc + 20 ≤ 600000 ∧ ks + 3030 ≤ 7302250)
    (nx : ∀ V' R' G' U', Rel V' R' G' U' → LI z (mG0 z) G' → GoL C 1745 [(0, .ref b), (1, .ref z), (2, .ref (z + 75)), (3, .int i)] [] (XL C.2.2.2.1 (mG0 z) Rm G' V' R' U') (kc + 20) (ks + 3030)) : True → GoL C 1425 [(0, .ref b), (1, .ref z), (2, .ref (z + 75)), (3, .int i)] [] (XL C.2.2.2.1 (mG0 z) Rm G V R U) kc ks := by
  obtain ⟨o, om, e1, e2, e3, hr'⟩ := hok V R G U hr hI (xs (i + 1).toNatClampNeg) (xs (i + 2).toNatClampNeg) (xs (i + 3).toNatClampNeg)
  have hI' := hI
  refine gl_aload_n hC dL_law_1425 (j := 1) rfl rfl ?_
  refine gl_aload_n hC dL_law_1426 (j := 0) rfl rfl ?_
  refine gl_iload_n hC dL_law_1427 (j := 3) rfl rfl ?_
  refine gl_iconst hC dL_law_1428 ic_1 ?_
  refine gl_iadd hC dL_law_1429 ?_
  refine gl_sld hC hS (hi.1) dL_law_1430 ?_
  refine gl_aload_n hC dL_law_1431 (j := 0) rfl rfl ?_
  refine gl_iload_n hC dL_law_1432 (j := 3) rfl rfl ?_
  refine gl_iconst hC dL_law_1433 ic_2 ?_
  refine gl_iadd hC dL_law_1434 ?_
  refine gl_sld hC hS (hi.2.1) dL_law_1435 ?_
  refine gl_aload_n hC dL_law_1436 (j := 0) rfl rfl ?_
  refine gl_iload_n hC dL_law_1437 (j := 3) rfl rfl ?_
  refine gl_iconst hC dL_law_1438 ic_3 ?_
  refine gl_iadd hC dL_law_1439 ?_
  refine gl_sld hC hS (hi.2.2.1) dL_law_1440 ?_
  refine gl_callC hC hR hA ⟨by omega, by omega⟩ mwX8_item miX8_item (ci := 8) rfl hI.2.1 (by decide) mlL_185 (kX8_item hI.1 hI.2.1 e1) (Nat.le_of_ble_eq_true rfl) rfl (av := [.int (xs (i + 1).toNatClampNeg), .int (xs (i + 2).toNatClampNeg), .int (xs (i + 3).toNatClampNeg)]) (st := []) rfl (Nat.le_of_ble_eq_true rfl) (GE.rf G) hI.2.2 dL_law_1441 ?_
  refine gl_aload_n hC dL_law_1444 (j := 2) rfl rfl ?_
  refine gl_aload_n hC dL_law_1445 (j := 0) rfl rfl ?_
  refine gl_iload_n hC dL_law_1446 (j := 3) rfl rfl ?_
  refine gl_iconst hC dL_law_1447 ic_1 ?_
  refine gl_iadd hC dL_law_1448 ?_
  refine gl_sld hC hS (hi.1) dL_law_1449 ?_
  refine gl_aload_n hC dL_law_1450 (j := 0) rfl rfl ?_
  refine gl_iload_n hC dL_law_1451 (j := 3) rfl rfl ?_
  refine gl_iconst hC dL_law_1452 ic_2 ?_
  refine gl_iadd hC dL_law_1453 ?_
  refine gl_sld hC hS (hi.2.1) dL_law_1454 ?_
  refine gl_aload_n hC dL_law_1455 (j := 0) rfl rfl ?_
  refine gl_iload_n hC dL_law_1456 (j := 3) rfl rfl ?_
  refine gl_iconst hC dL_law_1457 ic_3 ?_
  refine gl_iadd hC dL_law_1458 ?_
  refine gl_sld hC hS (hi.2.2.1) dL_law_1459 ?_
  refine gl_runM hC hR hA ⟨by omega, by omega⟩ mwX9_item miX9_item (ci := 9) rfl hM.2 (by decide) mlL_188 (kX9_item (G := mG (mG0 z) G.2.2.2) hM.1 hM.2 e2) (Nat.le_of_ble_eq_true rfl) rfl (av := [.int (xs (i + 1).toNatClampNeg), .int (xs (i + 2).toNatClampNeg), .int (xs (i + 3).toNatClampNeg)]) (st := [.int o]) rfl (Nat.le_of_ble_eq_true rfl) hI'.2.2 dL_law_1460 ?_
  refine gl_eqT hC dL_law_1463 e3 ?_
  refine gl_widen (kc' := kc + 20) (ks' := ks + 3030) (by omega) (by omega) ?_
  exact fun _ => nx _ _ _ _ hr' hI'
set_option maxHeartbeats 4000000 in
set_option maxRecDepth 100000 in
theorem lc_goAll {C : Cx} {Rm : R2} {b L z n : Nat} {xs : Nat → Int32} {Rel : RelT} (hC : CxOK C cL_law RL (some .boolean)) (hR : C.1.2.2.2.1 = room_1) (hA : ∀ q, C.2.2.2.1.2.2.2.1 ≤ q → AX C.2.2.1 q) (hS : Scr C b L xs) (hM : GX (mG0 z) ∧ own (mG0 z) (z + 75) 19) (hok : Ok_goAll n z Rel) {i : Int32} (hi : vp_in (i + 1) L ∧ vp_in (i + 2) L ∧ vp_in (i + 3) L ∧ vp_in (i + 4) L) {V : V2} {R : R2} {G : G2} {U : V2} (hr : Rel V R G U) (hI : LI z (mG0 z) G) {kc ks : Nat} (hk : kc + 20 ≤ 600000 ∧ ks + 3030 ≤ 7302250)
    (nx : ∀ V' R' G' U', Rel V' R' G' U' → LI z (mG0 z) G' → GoL C 1745 [(0, .ref b), (1, .ref z), (2, .ref (z + 75)), (3, .int i)] [] (XL C.2.2.2.1 (mG0 z) Rm G' V' R' U') (kc + 20) (ks + 3030)) : True → GoL C 1468 [(0, .ref b), (1, .ref z), (2, .ref (z + 75)), (3, .int i)] [] (XL C.2.2.2.1 (mG0 z) Rm G V R U) kc ks := by
  obtain ⟨o, om, e1, e2, e3, hr'⟩ := hok V R G U hr hI (xs (i + 1).toNatClampNeg) (xs (i + 2).toNatClampNeg) (xs (i + 3).toNatClampNeg)
  have hI' := hI
  refine gl_aload_n hC dL_law_1468 (j := 1) rfl rfl ?_
  refine gl_aload_n hC dL_law_1469 (j := 0) rfl rfl ?_
  refine gl_iload_n hC dL_law_1470 (j := 3) rfl rfl ?_
  refine gl_iconst hC dL_law_1471 ic_1 ?_
  refine gl_iadd hC dL_law_1472 ?_
  refine gl_sld hC hS (hi.1) dL_law_1473 ?_
  refine gl_aload_n hC dL_law_1474 (j := 0) rfl rfl ?_
  refine gl_iload_n hC dL_law_1475 (j := 3) rfl rfl ?_
  refine gl_iconst hC dL_law_1476 ic_2 ?_
  refine gl_iadd hC dL_law_1477 ?_
  refine gl_sld hC hS (hi.2.1) dL_law_1478 ?_
  refine gl_aload_n hC dL_law_1479 (j := 0) rfl rfl ?_
  refine gl_iload_n hC dL_law_1480 (j := 3) rfl rfl ?_
  refine gl_iconst hC dL_law_1481 ic_3 ?_
  refine gl_iadd hC dL_law_1482 ?_
  refine gl_sld hC hS (hi.2.2.1) dL_law_1483 ?_
  refine gl_callC hC hR hA ⟨by omega, by omega⟩ mwX8_goAll miX8_goAll (ci := 8) rfl hI.2.1 (by decide) mlL_189 (kX8_goAll hI.1 hI.2.1 e1) (Nat.le_of_ble_eq_true rfl) rfl (av := [.int (xs (i + 1).toNatClampNeg), .int (xs (i + 2).toNatClampNeg), .int (xs (i + 3).toNatClampNeg)]) (st := []) rfl (Nat.le_of_ble_eq_true rfl) (GE.rf G) hI.2.2 dL_law_1484 ?_
  refine gl_aload_n hC dL_law_1487 (j := 2) rfl rfl ?_
  refine gl_aload_n hC dL_law_1488 (j := 0) rfl rfl ?_
  refine gl_iload_n hC dL_law_1489 (j := 3) rfl rfl ?_
  refine gl_iconst hC dL_law_1490 ic_1 ?_
  refine gl_iadd hC dL_law_1491 ?_
  refine gl_sld hC hS (hi.1) dL_law_1492 ?_
  refine gl_aload_n hC dL_law_1493 (j := 0) rfl rfl ?_
  refine gl_iload_n hC dL_law_1494 (j := 3) rfl rfl ?_
  refine gl_iconst hC dL_law_1495 ic_2 ?_
  refine gl_iadd hC dL_law_1496 ?_
  refine gl_sld hC hS (hi.2.1) dL_law_1497 ?_
  refine gl_aload_n hC dL_law_1498 (j := 0) rfl rfl ?_
  refine gl_iload_n hC dL_law_1499 (j := 3) rfl rfl ?_
  refine gl_iconst hC dL_law_1500 ic_3 ?_
  refine gl_iadd hC dL_law_1501 ?_
  refine gl_sld hC hS (hi.2.2.1) dL_law_1502 ?_
  refine gl_runM hC hR hA ⟨by omega, by omega⟩ mwX9_goAll miX9_goAll (ci := 9) rfl hM.2 (by decide) mlL_192 (kX9_goAll (G := mG (mG0 z) G.2.2.2) hM.1 hM.2 e2) (Nat.le_of_ble_eq_true rfl) rfl (av := [.int (xs (i + 1).toNatClampNeg), .int (xs (i + 2).toNatClampNeg), .int (xs (i + 3).toNatClampNeg)]) (st := [.int o.1]) rfl (Nat.le_of_ble_eq_true rfl) hI'.2.2 dL_law_1503 ?_
  refine gl_eqT hC dL_law_1506 e3 ?_
  refine gl_widen (kc' := kc + 20) (ks' := ks + 3030) (by omega) (by omega) ?_
  exact fun _ => nx _ _ _ _ hr' hI'
set_option maxHeartbeats 4000000 in
set_option maxRecDepth 100000 in
theorem lc_wouldBe {C : Cx} {Rm : R2} {b L z n : Nat} {xs : Nat → Int32} {Rel : RelT} (hC : CxOK C cL_law RL (some .boolean)) (hR : C.1.2.2.2.1 = room_1) (hA : ∀ q, C.2.2.2.1.2.2.2.1 ≤ q → AX C.2.2.1 q) (hS : Scr C b L xs) (hM : GX (mG0 z) ∧ own (mG0 z) (z + 75) 19) (hok : Ok_wouldBe n z Rel) {i : Int32} (hi : vp_in (i + 1) L ∧ vp_in (i + 2) L ∧ vp_in (i + 3) L ∧ vp_in (i + 4) L) {V : V2} {R : R2} {G : G2} {U : V2} (hr : Rel V R G U) (hI : LI z (mG0 z) G) {kc ks : Nat} (hk : kc + 20 ≤ 600000 ∧ ks + 3030 ≤ 7302250)
    (nx : ∀ V' R' G' U', Rel V' R' G' U' → LI z (mG0 z) G' → GoL C 1745 [(0, .ref b), (1, .ref z), (2, .ref (z + 75)), (3, .int i)] [] (XL C.2.2.2.1 (mG0 z) Rm G' V' R' U') (kc + 20) (ks + 3030)) : True → GoL C 1511 [(0, .ref b), (1, .ref z), (2, .ref (z + 75)), (3, .int i)] [] (XL C.2.2.2.1 (mG0 z) Rm G V R U) kc ks := by
  obtain ⟨o, om, e1, e2, e3, hr'⟩ := hok V R G U hr hI (xs (i + 1).toNatClampNeg) (xs (i + 2).toNatClampNeg) (xs (i + 3).toNatClampNeg)
  have hI' := hI
  refine gl_aload_n hC dL_law_1511 (j := 1) rfl rfl ?_
  refine gl_aload_n hC dL_law_1512 (j := 0) rfl rfl ?_
  refine gl_iload_n hC dL_law_1513 (j := 3) rfl rfl ?_
  refine gl_iconst hC dL_law_1514 ic_1 ?_
  refine gl_iadd hC dL_law_1515 ?_
  refine gl_sld hC hS (hi.1) dL_law_1516 ?_
  refine gl_aload_n hC dL_law_1517 (j := 0) rfl rfl ?_
  refine gl_iload_n hC dL_law_1518 (j := 3) rfl rfl ?_
  refine gl_iconst hC dL_law_1519 ic_2 ?_
  refine gl_iadd hC dL_law_1520 ?_
  refine gl_sld hC hS (hi.2.1) dL_law_1521 ?_
  refine gl_aload_n hC dL_law_1522 (j := 0) rfl rfl ?_
  refine gl_iload_n hC dL_law_1523 (j := 3) rfl rfl ?_
  refine gl_iconst hC dL_law_1524 ic_3 ?_
  refine gl_iadd hC dL_law_1525 ?_
  refine gl_sld hC hS (hi.2.2.1) dL_law_1526 ?_
  refine gl_callC hC hR hA ⟨by omega, by omega⟩ mwX8_wouldBe miX8_wouldBe (ci := 8) rfl hI.2.1 (by decide) mlL_193 (kX8_wouldBe hI.1 hI.2.1 e1) (Nat.le_of_ble_eq_true rfl) rfl (av := [.int (xs (i + 1).toNatClampNeg), .int (xs (i + 2).toNatClampNeg), .int (xs (i + 3).toNatClampNeg)]) (st := []) rfl (Nat.le_of_ble_eq_true rfl) (GE.rf G) hI.2.2 dL_law_1527 ?_
  refine gl_aload_n hC dL_law_1530 (j := 2) rfl rfl ?_
  refine gl_aload_n hC dL_law_1531 (j := 0) rfl rfl ?_
  refine gl_iload_n hC dL_law_1532 (j := 3) rfl rfl ?_
  refine gl_iconst hC dL_law_1533 ic_1 ?_
  refine gl_iadd hC dL_law_1534 ?_
  refine gl_sld hC hS (hi.1) dL_law_1535 ?_
  refine gl_aload_n hC dL_law_1536 (j := 0) rfl rfl ?_
  refine gl_iload_n hC dL_law_1537 (j := 3) rfl rfl ?_
  refine gl_iconst hC dL_law_1538 ic_2 ?_
  refine gl_iadd hC dL_law_1539 ?_
  refine gl_sld hC hS (hi.2.1) dL_law_1540 ?_
  refine gl_aload_n hC dL_law_1541 (j := 0) rfl rfl ?_
  refine gl_iload_n hC dL_law_1542 (j := 3) rfl rfl ?_
  refine gl_iconst hC dL_law_1543 ic_3 ?_
  refine gl_iadd hC dL_law_1544 ?_
  refine gl_sld hC hS (hi.2.2.1) dL_law_1545 ?_
  refine gl_runM hC hR hA ⟨by omega, by omega⟩ mwX9_wouldBe miX9_wouldBe (ci := 9) rfl hM.2 (by decide) mlL_196 (kX9_wouldBe (G := mG (mG0 z) G.2.2.2) hM.1 hM.2 e2) (Nat.le_of_ble_eq_true rfl) rfl (av := [.int (xs (i + 1).toNatClampNeg), .int (xs (i + 2).toNatClampNeg), .int (xs (i + 3).toNatClampNeg)]) (st := [.int o.1]) rfl (Nat.le_of_ble_eq_true rfl) hI'.2.2 dL_law_1546 ?_
  refine gl_eqT hC dL_law_1549 e3 ?_
  refine gl_widen (kc' := kc + 20) (ks' := ks + 3030) (by omega) (by omega) ?_
  exact fun _ => nx _ _ _ _ hr' hI'
set_option maxHeartbeats 4000000 in
set_option maxRecDepth 100000 in
theorem lc_shelf {C : Cx} {Rm : R2} {b L z n : Nat} {xs : Nat → Int32} {Rel : RelT} (hC : CxOK C cL_law RL (some .boolean)) (hR : C.1.2.2.2.1 = room_1) (hA : ∀ q, C.2.2.2.1.2.2.2.1 ≤ q → AX C.2.2.1 q) (hS : Scr C b L xs) (hM : GX (mG0 z) ∧ own (mG0 z) (z + 75) 19) (hok : Ok_shelf n z Rel) {i : Int32} (hi : vp_in (i + 1) L ∧ vp_in (i + 2) L ∧ vp_in (i + 3) L ∧ vp_in (i + 4) L) {V : V2} {R : R2} {G : G2} {U : V2} (hr : Rel V R G U) (hI : LI z (mG0 z) G) {kc ks : Nat} (hk : kc + 20 ≤ 600000 ∧ ks + 3030 ≤ 7302250)
    (nx : ∀ V' R' G' U', Rel V' R' G' U' → LI z (mG0 z) G' → GoL C 1745 [(0, .ref b), (1, .ref z), (2, .ref (z + 75)), (3, .int i)] [] (XL C.2.2.2.1 (mG0 z) Rm G' V' R' U') (kc + 20) (ks + 3030)) : True → GoL C 1554 [(0, .ref b), (1, .ref z), (2, .ref (z + 75)), (3, .int i)] [] (XL C.2.2.2.1 (mG0 z) Rm G V R U) kc ks := by
  obtain ⟨o, om, e1, e2, e3, hr'⟩ := hok V R G U hr hI (xs (i + 1).toNatClampNeg) (xs (i + 2).toNatClampNeg) (xs (i + 3).toNatClampNeg)
  have hI' := hI
  refine gl_aload_n hC dL_law_1554 (j := 1) rfl rfl ?_
  refine gl_aload_n hC dL_law_1555 (j := 0) rfl rfl ?_
  refine gl_iload_n hC dL_law_1556 (j := 3) rfl rfl ?_
  refine gl_iconst hC dL_law_1557 ic_1 ?_
  refine gl_iadd hC dL_law_1558 ?_
  refine gl_sld hC hS (hi.1) dL_law_1559 ?_
  refine gl_aload_n hC dL_law_1560 (j := 0) rfl rfl ?_
  refine gl_iload_n hC dL_law_1561 (j := 3) rfl rfl ?_
  refine gl_iconst hC dL_law_1562 ic_2 ?_
  refine gl_iadd hC dL_law_1563 ?_
  refine gl_sld hC hS (hi.2.1) dL_law_1564 ?_
  refine gl_aload_n hC dL_law_1565 (j := 0) rfl rfl ?_
  refine gl_iload_n hC dL_law_1566 (j := 3) rfl rfl ?_
  refine gl_iconst hC dL_law_1567 ic_3 ?_
  refine gl_iadd hC dL_law_1568 ?_
  refine gl_sld hC hS (hi.2.2.1) dL_law_1569 ?_
  refine gl_callC hC hR hA ⟨by omega, by omega⟩ mwX8_shelf miX8_shelf (ci := 8) rfl hI.2.1 (by decide) mlL_197 (kX8_shelf hI.1 hI.2.1 e1) (Nat.le_of_ble_eq_true rfl) rfl (av := [.int (xs (i + 1).toNatClampNeg), .int (xs (i + 2).toNatClampNeg), .int (xs (i + 3).toNatClampNeg)]) (st := []) rfl (Nat.le_of_ble_eq_true rfl) (GE.rf G) hI.2.2 dL_law_1570 ?_
  refine gl_aload_n hC dL_law_1573 (j := 2) rfl rfl ?_
  refine gl_aload_n hC dL_law_1574 (j := 0) rfl rfl ?_
  refine gl_iload_n hC dL_law_1575 (j := 3) rfl rfl ?_
  refine gl_iconst hC dL_law_1576 ic_1 ?_
  refine gl_iadd hC dL_law_1577 ?_
  refine gl_sld hC hS (hi.1) dL_law_1578 ?_
  refine gl_aload_n hC dL_law_1579 (j := 0) rfl rfl ?_
  refine gl_iload_n hC dL_law_1580 (j := 3) rfl rfl ?_
  refine gl_iconst hC dL_law_1581 ic_2 ?_
  refine gl_iadd hC dL_law_1582 ?_
  refine gl_sld hC hS (hi.2.1) dL_law_1583 ?_
  refine gl_aload_n hC dL_law_1584 (j := 0) rfl rfl ?_
  refine gl_iload_n hC dL_law_1585 (j := 3) rfl rfl ?_
  refine gl_iconst hC dL_law_1586 ic_3 ?_
  refine gl_iadd hC dL_law_1587 ?_
  refine gl_sld hC hS (hi.2.2.1) dL_law_1588 ?_
  refine gl_runM hC hR hA ⟨by omega, by omega⟩ mwX9_shelf miX9_shelf (ci := 9) rfl hM.2 (by decide) mlL_200 (kX9_shelf (G := mG (mG0 z) G.2.2.2) hM.1 hM.2 e2) (Nat.le_of_ble_eq_true rfl) rfl (av := [.int (xs (i + 1).toNatClampNeg), .int (xs (i + 2).toNatClampNeg), .int (xs (i + 3).toNatClampNeg)]) (st := [.int o.1]) rfl (Nat.le_of_ble_eq_true rfl) hI'.2.2 dL_law_1589 ?_
  refine gl_eqT hC dL_law_1592 e3 ?_
  refine gl_widen (kc' := kc + 20) (ks' := ks + 3030) (by omega) (by omega) ?_
  exact fun _ => nx _ _ _ _ hr' hI'
set_option maxHeartbeats 4000000 in
set_option maxRecDepth 100000 in
theorem lc_taken {C : Cx} {Rm : R2} {b L z n : Nat} {xs : Nat → Int32} {Rel : RelT} (hC : CxOK C cL_law RL (some .boolean)) (hR : C.1.2.2.2.1 = room_1) (hA : ∀ q, C.2.2.2.1.2.2.2.1 ≤ q → AX C.2.2.1 q) (hS : Scr C b L xs) (hM : GX (mG0 z) ∧ own (mG0 z) (z + 75) 19) (hok : Ok_taken n z Rel) {i : Int32} (hi : vp_in (i + 1) L ∧ vp_in (i + 2) L ∧ vp_in (i + 3) L ∧ vp_in (i + 4) L) {V : V2} {R : R2} {G : G2} {U : V2} (hr : Rel V R G U) (hI : LI z (mG0 z) G) {kc ks : Nat} (hk : kc + 20 ≤ 600000 ∧ ks + 3030 ≤ 7302250)
    (nx : ∀ V' R' G' U', Rel V' R' G' U' → LI z (mG0 z) G' → GoL C 1745 [(0, .ref b), (1, .ref z), (2, .ref (z + 75)), (3, .int i)] [] (XL C.2.2.2.1 (mG0 z) Rm G' V' R' U') (kc + 20) (ks + 3030)) : True → GoL C 1597 [(0, .ref b), (1, .ref z), (2, .ref (z + 75)), (3, .int i)] [] (XL C.2.2.2.1 (mG0 z) Rm G V R U) kc ks := by
  obtain ⟨o, om, e1, e2, e3, hr'⟩ := hok V R G U hr hI (xs (i + 1).toNatClampNeg) (xs (i + 2).toNatClampNeg)
  have hI' := hI
  refine gl_aload_n hC dL_law_1597 (j := 1) rfl rfl ?_
  refine gl_aload_n hC dL_law_1598 (j := 0) rfl rfl ?_
  refine gl_iload_n hC dL_law_1599 (j := 3) rfl rfl ?_
  refine gl_iconst hC dL_law_1600 ic_1 ?_
  refine gl_iadd hC dL_law_1601 ?_
  refine gl_sld hC hS (hi.1) dL_law_1602 ?_
  refine gl_aload_n hC dL_law_1603 (j := 0) rfl rfl ?_
  refine gl_iload_n hC dL_law_1604 (j := 3) rfl rfl ?_
  refine gl_iconst hC dL_law_1605 ic_2 ?_
  refine gl_iadd hC dL_law_1606 ?_
  refine gl_sld hC hS (hi.2.1) dL_law_1607 ?_
  refine gl_callC hC hR hA ⟨by omega, by omega⟩ mwX8_taken miX8_taken (ci := 8) rfl hI.2.1 (by decide) mlL_201 (kX8_taken hI.1 hI.2.1 e1) (Nat.le_of_ble_eq_true rfl) rfl (av := [.int (xs (i + 1).toNatClampNeg), .int (xs (i + 2).toNatClampNeg)]) (st := []) rfl (Nat.le_of_ble_eq_true rfl) (GE.rf G) hI.2.2 dL_law_1608 ?_
  refine gl_aload_n hC dL_law_1611 (j := 2) rfl rfl ?_
  refine gl_aload_n hC dL_law_1612 (j := 0) rfl rfl ?_
  refine gl_iload_n hC dL_law_1613 (j := 3) rfl rfl ?_
  refine gl_iconst hC dL_law_1614 ic_1 ?_
  refine gl_iadd hC dL_law_1615 ?_
  refine gl_sld hC hS (hi.1) dL_law_1616 ?_
  refine gl_aload_n hC dL_law_1617 (j := 0) rfl rfl ?_
  refine gl_iload_n hC dL_law_1618 (j := 3) rfl rfl ?_
  refine gl_iconst hC dL_law_1619 ic_2 ?_
  refine gl_iadd hC dL_law_1620 ?_
  refine gl_sld hC hS (hi.2.1) dL_law_1621 ?_
  refine gl_runM hC hR hA ⟨by omega, by omega⟩ mwX9_taken miX9_taken (ci := 9) rfl hM.2 (by decide) mlL_204 (kX9_taken (G := mG (mG0 z) G.2.2.2) hM.1 hM.2 e2) (Nat.le_of_ble_eq_true rfl) rfl (av := [.int (xs (i + 1).toNatClampNeg), .int (xs (i + 2).toNatClampNeg)]) (st := [.int o]) rfl (Nat.le_of_ble_eq_true rfl) hI'.2.2 dL_law_1622 ?_
  refine gl_eqT hC dL_law_1625 e3 ?_
  refine gl_widen (kc' := kc + 20) (ks' := ks + 3030) (by omega) (by omega) ?_
  exact fun _ => nx _ _ _ _ hr' hI'
set_option maxHeartbeats 4000000 in
set_option maxRecDepth 100000 in
theorem lc_act {C : Cx} {Rm : R2} {b L z n : Nat} {xs : Nat → Int32} {Rel : RelT} (hC : CxOK C cL_law RL (some .boolean)) (hR : C.1.2.2.2.1 = room_1) (hA : ∀ q, C.2.2.2.1.2.2.2.1 ≤ q → AX C.2.2.1 q) (hS : Scr C b L xs) (hM : GX (mG0 z) ∧ own (mG0 z) (z + 75) 19) (hok : Ok_act n z Rel) {i : Int32} (hi : vp_in (i + 1) L ∧ vp_in (i + 2) L ∧ vp_in (i + 3) L ∧ vp_in (i + 4) L) {V : V2} {R : R2} {G : G2} {U : V2} (hr : Rel V R G U) (hI : LI z (mG0 z) G) {kc ks : Nat} (hk : kc + 20 ≤ 600000 ∧ ks + 3030 ≤ 7302250)
    (nx : ∀ V' R' G' U', Rel V' R' G' U' → LI z (mG0 z) G' → GoL C 1745 [(0, .ref b), (1, .ref z), (2, .ref (z + 75)), (3, .int i)] [] (XL C.2.2.2.1 (mG0 z) Rm G' V' R' U') (kc + 20) (ks + 3030)) : True → GoL C 1630 [(0, .ref b), (1, .ref z), (2, .ref (z + 75)), (3, .int i)] [] (XL C.2.2.2.1 (mG0 z) Rm G V R U) kc ks := by
  obtain ⟨o, om, e1, e2, e3, hr'⟩ := hok V R G U hr hI (xs (i + 1).toNatClampNeg) (xs (i + 2).toNatClampNeg) (xs (i + 3).toNatClampNeg)
  have hI' := hI
  refine gl_aload_n hC dL_law_1630 (j := 1) rfl rfl ?_
  refine gl_aload_n hC dL_law_1631 (j := 0) rfl rfl ?_
  refine gl_iload_n hC dL_law_1632 (j := 3) rfl rfl ?_
  refine gl_iconst hC dL_law_1633 ic_1 ?_
  refine gl_iadd hC dL_law_1634 ?_
  refine gl_sld hC hS (hi.1) dL_law_1635 ?_
  refine gl_aload_n hC dL_law_1636 (j := 0) rfl rfl ?_
  refine gl_iload_n hC dL_law_1637 (j := 3) rfl rfl ?_
  refine gl_iconst hC dL_law_1638 ic_2 ?_
  refine gl_iadd hC dL_law_1639 ?_
  refine gl_sld hC hS (hi.2.1) dL_law_1640 ?_
  refine gl_aload_n hC dL_law_1641 (j := 0) rfl rfl ?_
  refine gl_iload_n hC dL_law_1642 (j := 3) rfl rfl ?_
  refine gl_iconst hC dL_law_1643 ic_3 ?_
  refine gl_iadd hC dL_law_1644 ?_
  refine gl_sld hC hS (hi.2.2.1) dL_law_1645 ?_
  refine gl_callC hC hR hA ⟨by omega, by omega⟩ mwX8_act miX8_act (ci := 8) rfl hI.2.1 (by decide) mlL_205 (kX8_act hI.1 hI.2.1 e1) (Nat.le_of_ble_eq_true rfl) rfl (av := [.int (xs (i + 1).toNatClampNeg), .int (xs (i + 2).toNatClampNeg), .int (xs (i + 3).toNatClampNeg)]) (st := []) rfl (Nat.le_of_ble_eq_true rfl) (GE.rf G) hI.2.2 dL_law_1646 ?_
  refine gl_aload_n hC dL_law_1649 (j := 2) rfl rfl ?_
  refine gl_aload_n hC dL_law_1650 (j := 0) rfl rfl ?_
  refine gl_iload_n hC dL_law_1651 (j := 3) rfl rfl ?_
  refine gl_iconst hC dL_law_1652 ic_1 ?_
  refine gl_iadd hC dL_law_1653 ?_
  refine gl_sld hC hS (hi.1) dL_law_1654 ?_
  refine gl_aload_n hC dL_law_1655 (j := 0) rfl rfl ?_
  refine gl_iload_n hC dL_law_1656 (j := 3) rfl rfl ?_
  refine gl_iconst hC dL_law_1657 ic_2 ?_
  refine gl_iadd hC dL_law_1658 ?_
  refine gl_sld hC hS (hi.2.1) dL_law_1659 ?_
  refine gl_aload_n hC dL_law_1660 (j := 0) rfl rfl ?_
  refine gl_iload_n hC dL_law_1661 (j := 3) rfl rfl ?_
  refine gl_iconst hC dL_law_1662 ic_3 ?_
  refine gl_iadd hC dL_law_1663 ?_
  refine gl_sld hC hS (hi.2.2.1) dL_law_1664 ?_
  refine gl_runM hC hR hA ⟨by omega, by omega⟩ mwX9_act miX9_act (ci := 9) rfl hM.2 (by decide) mlL_208 (kX9_act (G := mG (mG0 z) G.2.2.2) hM.1 hM.2 e2) (Nat.le_of_ble_eq_true rfl) rfl (av := [.int (xs (i + 1).toNatClampNeg), .int (xs (i + 2).toNatClampNeg), .int (xs (i + 3).toNatClampNeg)]) (st := [.int o.1]) rfl (Nat.le_of_ble_eq_true rfl) hI'.2.2 dL_law_1665 ?_
  refine gl_eqT hC dL_law_1668 e3 ?_
  refine gl_widen (kc' := kc + 20) (ks' := ks + 3030) (by omega) (by omega) ?_
  exact fun _ => nx _ _ _ _ hr' hI'
set_option maxHeartbeats 4000000 in
set_option maxRecDepth 100000 in
theorem lc_trace {C : Cx} {Rm : R2} {b L z n : Nat} {xs : Nat → Int32} {Rel : RelT} (hC : CxOK C cL_law RL (some .boolean)) (hR : C.1.2.2.2.1 = room_1) (hA : ∀ q, C.2.2.2.1.2.2.2.1 ≤ q → AX C.2.2.1 q) (hS : Scr C b L xs) (hM : GX (mG0 z) ∧ own (mG0 z) (z + 75) 19) (hok : Ok_trace n z Rel) {i : Int32} (hi : vp_in (i + 1) L ∧ vp_in (i + 2) L ∧ vp_in (i + 3) L ∧ vp_in (i + 4) L) {V : V2} {R : R2} {G : G2} {U : V2} (hr : Rel V R G U) (hI : LI z (mG0 z) G) {kc ks : Nat} (hk : kc + 20 ≤ 600000 ∧ ks + 3030 ≤ 7302250)
    (nx : ∀ V' R' G' U', Rel V' R' G' U' → LI z (mG0 z) G' → GoL C 1745 [(0, .ref b), (1, .ref z), (2, .ref (z + 75)), (3, .int i)] [] (XL C.2.2.2.1 (mG0 z) Rm G' V' R' U') (kc + 20) (ks + 3030)) : True → GoL C 1673 [(0, .ref b), (1, .ref z), (2, .ref (z + 75)), (3, .int i)] [] (XL C.2.2.2.1 (mG0 z) Rm G V R U) kc ks := by
  obtain ⟨o, om, e1, e2, e3, hr'⟩ := hok V R G U hr hI (xs (i + 1).toNatClampNeg)
  have hI' := hI
  refine gl_aload_n hC dL_law_1673 (j := 1) rfl rfl ?_
  refine gl_aload_n hC dL_law_1674 (j := 0) rfl rfl ?_
  refine gl_iload_n hC dL_law_1675 (j := 3) rfl rfl ?_
  refine gl_iconst hC dL_law_1676 ic_1 ?_
  refine gl_iadd hC dL_law_1677 ?_
  refine gl_sld hC hS (hi.1) dL_law_1678 ?_
  refine gl_callC hC hR hA ⟨by omega, by omega⟩ mwX8_trace miX8_trace (ci := 8) rfl hI.2.1 (by decide) mlL_209 (kX8_trace hI.1 hI.2.1 e1) (Nat.le_of_ble_eq_true rfl) rfl (av := [.int (xs (i + 1).toNatClampNeg)]) (st := []) rfl (Nat.le_of_ble_eq_true rfl) (GE.rf G) hI.2.2 dL_law_1679 ?_
  refine gl_aload_n hC dL_law_1682 (j := 2) rfl rfl ?_
  refine gl_aload_n hC dL_law_1683 (j := 0) rfl rfl ?_
  refine gl_iload_n hC dL_law_1684 (j := 3) rfl rfl ?_
  refine gl_iconst hC dL_law_1685 ic_1 ?_
  refine gl_iadd hC dL_law_1686 ?_
  refine gl_sld hC hS (hi.1) dL_law_1687 ?_
  refine gl_runM hC hR hA ⟨by omega, by omega⟩ mwX9_trace miX9_trace (ci := 9) rfl hM.2 (by decide) mlL_212 (kX9_trace (G := mG (mG0 z) G.2.2.2) hM.1 hM.2 e2) (Nat.le_of_ble_eq_true rfl) rfl (av := [.int (xs (i + 1).toNatClampNeg)]) (st := [.int o]) rfl (Nat.le_of_ble_eq_true rfl) hI'.2.2 dL_law_1688 ?_
  refine gl_eqT hC dL_law_1691 e3 ?_
  refine gl_widen (kc' := kc + 20) (ks' := ks + 3030) (by omega) (by omega) ?_
  exact fun _ => nx _ _ _ _ hr' hI'
set_option maxHeartbeats 4000000 in
set_option maxRecDepth 100000 in
theorem lc_many {C : Cx} {Rm : R2} {b L z n : Nat} {xs : Nat → Int32} {Rel : RelT} (hC : CxOK C cL_law RL (some .boolean)) (hR : C.1.2.2.2.1 = room_1) (hA : ∀ q, C.2.2.2.1.2.2.2.1 ≤ q → AX C.2.2.1 q) (hS : Scr C b L xs) (hM : GX (mG0 z) ∧ own (mG0 z) (z + 75) 19) (hok : Ok_many n z Rel) {i : Int32} (hi : vp_in (i + 1) L ∧ vp_in (i + 2) L ∧ vp_in (i + 3) L ∧ vp_in (i + 4) L) {V : V2} {R : R2} {G : G2} {U : V2} (hr : Rel V R G U) (hI : LI z (mG0 z) G) {kc ks : Nat} (hk : kc + 20 ≤ 600000 ∧ ks + 3030 ≤ 7302250)
    (nx : ∀ V' R' G' U', Rel V' R' G' U' → LI z (mG0 z) G' → GoL C 1745 [(0, .ref b), (1, .ref z), (2, .ref (z + 75)), (3, .int i)] [] (XL C.2.2.2.1 (mG0 z) Rm G' V' R' U') (kc + 20) (ks + 3030)) : True → GoL C 1696 [(0, .ref b), (1, .ref z), (2, .ref (z + 75)), (3, .int i)] [] (XL C.2.2.2.1 (mG0 z) Rm G V R U) kc ks := by
  obtain ⟨o, om, e1, e2, e3, hr'⟩ := hok V R G U hr hI (xs (i + 1).toNatClampNeg)
  have hI' := hI
  refine gl_aload_n hC dL_law_1696 (j := 1) rfl rfl ?_
  refine gl_aload_n hC dL_law_1697 (j := 0) rfl rfl ?_
  refine gl_iload_n hC dL_law_1698 (j := 3) rfl rfl ?_
  refine gl_iconst hC dL_law_1699 ic_1 ?_
  refine gl_iadd hC dL_law_1700 ?_
  refine gl_sld hC hS (hi.1) dL_law_1701 ?_
  refine gl_callC hC hR hA ⟨by omega, by omega⟩ mwX8_many miX8_many (ci := 8) rfl hI.2.1 (by decide) mlL_213 (kX8_many hI.1 hI.2.1 e1) (Nat.le_of_ble_eq_true rfl) rfl (av := [.int (xs (i + 1).toNatClampNeg)]) (st := []) rfl (Nat.le_of_ble_eq_true rfl) (GE.rf G) hI.2.2 dL_law_1702 ?_
  refine gl_aload_n hC dL_law_1705 (j := 2) rfl rfl ?_
  refine gl_aload_n hC dL_law_1706 (j := 0) rfl rfl ?_
  refine gl_iload_n hC dL_law_1707 (j := 3) rfl rfl ?_
  refine gl_iconst hC dL_law_1708 ic_1 ?_
  refine gl_iadd hC dL_law_1709 ?_
  refine gl_sld hC hS (hi.1) dL_law_1710 ?_
  refine gl_runM hC hR hA ⟨by omega, by omega⟩ mwX9_many miX9_many (ci := 9) rfl hM.2 (by decide) mlL_216 (kX9_many (G := mG (mG0 z) G.2.2.2) hM.1 hM.2 e2) (Nat.le_of_ble_eq_true rfl) rfl (av := [.int (xs (i + 1).toNatClampNeg)]) (st := [.int o]) rfl (Nat.le_of_ble_eq_true rfl) hI'.2.2 dL_law_1711 ?_
  refine gl_eqT hC dL_law_1714 e3 ?_
  refine gl_widen (kc' := kc + 20) (ks' := ks + 3030) (by omega) (by omega) ?_
  exact fun _ => nx _ _ _ _ hr' hI'
set_option maxHeartbeats 4000000 in
set_option maxRecDepth 100000 in
theorem lc_keep {C : Cx} {Rm : R2} {b L z n : Nat} {xs : Nat → Int32} {Rel : RelT} (hC : CxOK C cL_law RL (some .boolean)) (hR : C.1.2.2.2.1 = room_1) (hA : ∀ q, C.2.2.2.1.2.2.2.1 ≤ q → AX C.2.2.1 q) (hS : Scr C b L xs) (hM : GX (mG0 z) ∧ own (mG0 z) (z + 75) 19) (hok : Ok_keep n z Rel) {i : Int32} (hi : vp_in (i + 1) L ∧ vp_in (i + 2) L ∧ vp_in (i + 3) L ∧ vp_in (i + 4) L) {V : V2} {R : R2} {G : G2} {U : V2} (hr : Rel V R G U) (hI : LI z (mG0 z) G) {kc ks : Nat} (hk : kc + 20 ≤ 600000 ∧ ks + 3030 ≤ 7302250)
    (nx : ∀ V' R' G' U', Rel V' R' G' U' → LI z (mG0 z) G' → GoL C 1745 [(0, .ref b), (1, .ref z), (2, .ref (z + 75)), (3, .int i)] [] (XL C.2.2.2.1 (mG0 z) Rm G' V' R' U') (kc + 20) (ks + 3030)) : True → GoL C 1719 [(0, .ref b), (1, .ref z), (2, .ref (z + 75)), (3, .int i)] [] (XL C.2.2.2.1 (mG0 z) Rm G V R U) kc ks := by
  obtain ⟨o, om, e1, e2, e3, hr'⟩ := hok V R G U hr hI 
  have hI' := hI
  refine gl_aload_n hC dL_law_1719 (j := 1) rfl rfl ?_
  refine gl_callC hC hR hA ⟨by omega, by omega⟩ mwX8_keep miX8_keep (ci := 8) rfl hI.2.1 (by decide) mlL_217 (kX8_keep hI.1 hI.2.1 e1) (Nat.le_of_ble_eq_true rfl) rfl (av := []) (st := []) rfl (Nat.le_of_ble_eq_true rfl) (GE.rf G) hI.2.2 dL_law_1720 ?_
  refine gl_aload_n hC dL_law_1723 (j := 2) rfl rfl ?_
  refine gl_runM hC hR hA ⟨by omega, by omega⟩ mwX9_keep miX9_keep (ci := 9) rfl hM.2 (by decide) mlL_220 (kX9_keep (G := mG (mG0 z) G.2.2.2) hM.1 hM.2 e2) (Nat.le_of_ble_eq_true rfl) rfl (av := []) (st := [.int o.1]) rfl (Nat.le_of_ble_eq_true rfl) hI'.2.2 dL_law_1724 ?_
  refine gl_eqT hC dL_law_1727 e3 ?_
  refine gl_widen (kc' := kc + 20) (ks' := ks + 3030) (by omega) (by omega) ?_
  exact fun _ => nx _ _ _ _ hr' hI'
set_option maxHeartbeats 4000000 in
set_option maxRecDepth 100000 in
theorem lc_again {C : Cx} {Rm : R2} {b L z n : Nat} {xs : Nat → Int32} {Rel : RelT} (hC : CxOK C cL_law RL (some .boolean)) (hR : C.1.2.2.2.1 = room_1) (hA : ∀ q, C.2.2.2.1.2.2.2.1 ≤ q → AX C.2.2.1 q) (hS : Scr C b L xs) (hM : GX (mG0 z) ∧ own (mG0 z) (z + 75) 19) (hok : Ok_again n z Rel) {i : Int32} (hi : vp_in (i + 1) L ∧ vp_in (i + 2) L ∧ vp_in (i + 3) L ∧ vp_in (i + 4) L) {V : V2} {R : R2} {G : G2} {U : V2} (hr : Rel V R G U) (hI : LI z (mG0 z) G) {kc ks : Nat} (hk : kc + 20 ≤ 600000 ∧ ks + 3030 ≤ 7302250)
    (nx : ∀ V' R' G' U', Rel V' R' G' U' → LI z (mG0 z) G' → GoL C 1745 [(0, .ref b), (1, .ref z), (2, .ref (z + 75)), (3, .int i)] [] (XL C.2.2.2.1 (mG0 z) Rm G' V' R' U') (kc + 20) (ks + 3030)) : True → GoL C 1732 [(0, .ref b), (1, .ref z), (2, .ref (z + 75)), (3, .int i)] [] (XL C.2.2.2.1 (mG0 z) Rm G V R U) kc ks := by
  obtain ⟨o, om, e1, e2, e3, hr'⟩ := hok V R G U hr hI 
  have hI' := hI
  refine gl_aload_n hC dL_law_1732 (j := 1) rfl rfl ?_
  refine gl_callC hC hR hA ⟨by omega, by omega⟩ mwX8_again miX8_again (ci := 8) rfl hI.2.1 (by decide) mlL_221 (kX8_again hI.1 hI.2.1 e1) (Nat.le_of_ble_eq_true rfl) rfl (av := []) (st := []) rfl (Nat.le_of_ble_eq_true rfl) (GE.rf G) hI.2.2 dL_law_1733 ?_
  refine gl_aload_n hC dL_law_1736 (j := 2) rfl rfl ?_
  refine gl_runM hC hR hA ⟨by omega, by omega⟩ mwX9_again miX9_again (ci := 9) rfl hM.2 (by decide) mlL_224 (kX9_again (G := mG (mG0 z) G.2.2.2) hM.1 hM.2 e2) (Nat.le_of_ble_eq_true rfl) rfl (av := []) (st := [.int o.1]) rfl (Nat.le_of_ble_eq_true rfl) hI'.2.2 dL_law_1737 ?_
  refine gl_eqT hC dL_law_1740 e3 ?_
  refine gl_widen (kc' := kc + 20) (ks' := ks + 3030) (by omega) (by omega) ?_
  exact fun _ => nx _ _ _ _ hr' hI'
