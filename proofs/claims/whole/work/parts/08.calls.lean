/-! Calls -/
def rmN (n mc ms : Nat) : Room := { frames := n, cells := mc, slots := ms, locals := 64 * n }
theorem ws_warm {args : Array Value} {s : State} {c0 : Cond} (hts : ∀ w ∈ lw_gd, w.before args s = true) (hc : c0 ∈ lw_gd) : ∀ w ∈ c0 :: lw_gd, ∀ (a' : Array Value) (U : State), s.WarmedH U.vm → w.before a' U = true := by
  intro w hw a' U hW
  have hm : w ∈ lw_gd := by
    rcases List.mem_cons.mp hw with rfl | h
    · exact hc
    · exact h
  exact word_at hW (good_of_word (List.mem_filter.mp hm).2) (hts w hm)
section GC
variable {C : Cx} {cc : ByteArray} {ow : String} {ret : Option FieldType} {pc pc' : Nat} {lv : List (Nat × Value)} {st st0 : List Value} {V : V2} {R : R2} {G : G2} {kc ks : Nat}
theorem g_blind {D : Dx} {av : List Value} : FrameBlind (va_Pc av (fun U => Wd D G V R U.heap ∧ Kx D U)) := fun a U g mk q => ⟨q.1, q.2.1, q.2.2.blind g mk a⟩
theorem g_pre {H : Heap} {locs : List Loc} (h : CxOK C cc ow ret) (h2 : Wd C.2.2.2.1 G V R H) (h3 : va_S (AX C.2.2.1) C.1.2.2.2.2.1.heap H locs) (av : List Value) : ∀ U : State, U.heap = H → C.1.2.2.2.2.1.WarmedH U.vm → va_Pc av (fun U => Wd C.2.2.2.1 G V R U.heap ∧ Kx C.2.2.2.1 U) av.toArray U := by
  intro U hU hW
  refine ⟨rfl, by rw [hU]; exact h2, h.2.2.2.2.2.1.warm hW fun a g1 g2 => ?_⟩
  rw [hU]
  exact h3.2.1 a g1 (fun z => g2 (h.2.2.2.2.2.2.2.2 a z))
/-- behind a call -/
theorem g_after {H : Heap} {locs : List Loc} {ls : Array Slot} {T : Tg} {a : Array Value} {mc ms : Nat} (h1 : GE C.2.2.1 G) (h3 : va_S (AX C.2.2.1) C.1.2.2.2.2.1.heap H locs) (h4 : lv_has ls C.2.2.2.2 lv)
    (hr : va_Run C.1.1 C.1.2.1 C.1.2.2.1 C.1.2.2.2.1 C.1.2.2.2.2.1 C.1.2.2.2.2.2.1 C.1.2.2.2.2.2.2.1 C.1.2.2.2.2.2.2.2.1 C.1.2.2.2.2.2.2.2.2.1 C.1.2.2.2.2.2.2.2.2.2 H locs kc ks mc ms (F0 C.1.2.2.2.2.2.1 pc ls st0) st (QT C.2.2.2.1 (AX G) T a) (AX G)) (hge : GE G T.2.2.2.1)
    (kk : Go C (pc + 3) lv (T.1.toList ++ st) T.2.1 T.2.2.1 T.2.2.2.1 (kc + mc) (ks + ms)) : Wat C H locs kc ks (F0 C.1.2.2.2.2.2.1 pc ls st0) := by
  intro T0 hT X
  obtain ⟨v, st₀, t, T', L, h0, X', hL, e1, e2, ⟨hv, hw, hz, hk⟩, stp⟩ := hr T0 hT X
  cases hv
  rw [h0] at hz hk
  have hS : va_S (AX C.2.2.1) C.1.2.2.2.2.1.heap T'.heap (locs ++ L) := ⟨Nat.le_trans h3.1 (by rw [e1]; exact hz), fun q g1 g2 => by
      rw [e1, hk q (Nat.lt_of_lt_of_le g1 h3.1) (fun z => g2 (h1.ax q z))]; exact h3.2.1 q g1 g2, fun q hq => by
      rcases List.mem_append.mp hq with g | g
      · exact h3.2.2 q g
      · exact h1.ax _ (hL q g)⟩
  obtain ⟨t2, a1, b1⟩ := kk T'.heap (locs ++ L) ls (h1.tr hge) (by rw [e1]; exact hw) hS h4 T' rfl X'
  exact ⟨t2, stp t2 a1, b1⟩
theorem g_cb {y : MethodName} {bytes : ByteArray} {nL n N n' mc ms index : Nat} {rt : Option FieldType} (h : CxOK C cc ow ret) (mw : Mw y bytes nL rt n) (hR : C.1.2.2.2.1 = rmN N kc ks) (hn : n' + 1 ≤ N) (hl : (Cond.methodLink ow index y).before C.1.2.2.2.2.2.2.1 C.1.2.2.2.2.1 = true) :
    CallB C.1.2.2.2.1 C.1.2.2.2.2.1 C.1.2.2.2.2.2.2.1 ow index y bytes nL rt (Cond.code y bytes nL rt :: lw_gd) (rmN n' mc ms) mc ms n := by
  refine ⟨rfl, rfl, by rw [hR]; exact hn, by rw [hR]; show 8 + (nL + 11) + 64 * n' ≤ 64 * N; have := mw.2.2.2.2; omega, ws_warm h.2.2.2.2.1 mw.1, List.mem_cons_self, h.2.2.2.2.1 _ mw.1, h.2.2.2.2.1 _ mw.2.1, mw.2.2.1, fun sig hs => ?_, hl⟩
  have h2 := mw.2.2.2.1
  rw [hs] at h2
  exact (Option.some.inj h2).symm
theorem g_cn {y : MethodName} {bytes : ByteArray} {nL n N n' mc ms index : Nat} {rt : Option FieldType} {host : String} (h : CxOK C cc ow ret) (mw : Mw y bytes nL rt n) (hR : C.1.2.2.2.1 = rmN N kc ks) (hn : n' + 1 ≤ N) (hl : Cond.methodLinkNest ow index y host ∈ lw_tbl) :
    va_CN C.1.2.2.2.1 C.1.2.2.2.2.1 C.1.2.2.2.2.2.2.1 ow index y host bytes nL rt (Cond.code y bytes nL rt :: lw_gd) (rmN n' mc ms) mc ms n := by
  refine ⟨⟨rfl, rfl, by rw [hR]; exact hn, by rw [hR]; show 8 + (nL + 11) + 64 * n' ≤ 64 * N; have := mw.2.2.2.2; omega, ws_warm h.2.2.2.2.1 mw.1, List.mem_cons_self⟩, h.2.2.2.2.1 _ mw.1, h.2.2.2.2.1 _ mw.2.1, mw.2.2.1, fun sig hs => ?_, va_Nw.use rfl (h.2.2.2.2.2.1.2.2.1 _ _ _ _ hl)⟩
  have h2 := mw.2.2.2.1
  rw [hs] at h2
  exact (Option.some.inj h2).symm
variable {y : MethodName} {bytes : ByteArray} {nL n N n' index mc ms c0 s0 : Nat} {rt : Option FieldType} {av : List Value} {T : Tg}
theorem g_runS (h : CxOK C cc ow ret) (hR : C.1.2.2.2.1 = rmN N c0 s0) (hcs : kc + mc ≤ c0 ∧ ks + ms ≤ s0) (mw : Mw y bytes nL rt n) (hs : Cond.static y ∈ lw_gd) (hl : Cond.methodLink ow index y ∈ lw_gd) (hM : Con C.1.2.1 y bytes nL rt (rmN n' mc ms) C.2.2.2.1 G V R av T) (hn : n' + 1 ≤ N) (ha : av.length = n) (hst : st0 = av.reverse ++ st) (hw : (st.map fun v => v.category).sum ≤ 8) (hmc : T.2.2.2.2 = (mc, ms)) (hge : GE G T.2.2.2.1) (hd : Dc cc pc (.invokestatic index) 3 pc')
    (kk : Go C pc' lv (T.1.toList ++ st) T.2.1 T.2.2.1 T.2.2.2.1 (kc + mc) (ks + ms)) : Go C pc lv st0 V R G kc ks := by
  obtain ⟨hd, rfl⟩ := hd
  intro H locs ls h1 h2 h3 h4
  have e1 : T.2.2.2.2.1 = mc := by rw [hmc]
  have e2 : T.2.2.2.2.2 = ms := by rw [hmc]
  unfold Con at hM
  rw [e1, e2] at hM
  exact g_after h1 h3 h4 (va_runS (rest := st) ⟨h.1, h.2.1, h.2.2.1, h.2.2.2.1, h.2.2.2.2.1⟩ hM ⟨g_cb h mw hR hn (h.2.2.2.2.1 _ hl), h.2.2.2.2.1 _ hs⟩ ⟨g_blind, g_pre h h2 h3 av⟩ rfl ha h4.1 hst (lv_room hw) hd (by rw [hR]; exact hcs)) hge kk
theorem g_runSN {host : String} (h : CxOK C cc ow ret) (hR : C.1.2.2.2.1 = rmN N c0 s0) (hcs : kc + mc ≤ c0 ∧ ks + ms ≤ s0) (mw : Mw y bytes nL rt n) (hs : Cond.static y ∈ lw_gd) (hl : Cond.methodLinkNest ow index y host ∈ lw_tbl) (hM : Con C.1.2.1 y bytes nL rt (rmN n' mc ms) C.2.2.2.1 G V R av T) (hn : n' + 1 ≤ N) (ha : av.length = n) (hst : st0 = av.reverse ++ st) (hw : (st.map fun v => v.category).sum ≤ 8) (hmc : T.2.2.2.2 = (mc, ms)) (hge : GE G T.2.2.2.1) (hd : Dc cc pc (.invokestatic index) 3 pc')
    (kk : Go C pc' lv (T.1.toList ++ st) T.2.1 T.2.2.1 T.2.2.2.1 (kc + mc) (ks + ms)) : Go C pc lv st0 V R G kc ks := by
  obtain ⟨hd, rfl⟩ := hd
  intro H locs ls h1 h2 h3 h4
  have e1 : T.2.2.2.2.1 = mc := by rw [hmc]
  have e2 : T.2.2.2.2.2 = ms := by rw [hmc]
  unfold Con at hM
  rw [e1, e2] at hM
  exact g_after h1 h3 h4 (va_runSN (rest := st) ⟨h.1, h.2.1, h.2.2.1, h.2.2.2.1, h.2.2.2.2.1⟩ hM ⟨g_cn h mw hR hn hl, h.2.2.2.2.1 _ hs, trivial⟩ ⟨g_blind, g_pre h h2 h3 av⟩ rfl ha h4.1 hst (lv_room hw) hd (by rw [hR]; exact hcs)) hge kk
theorem g_runV {Cn : String} {Tn : u_T} {Nn b ci : Nat} (h : CxOK C cc ow ret) (hR : C.1.2.2.2.1 = rmN N c0 s0) (hcs : kc + mc ≤ c0 ∧ ks + ms ≤ s0) (mw : Mw y bytes nL rt n) (hs : Mi Cn y) (hc : vwCl[ci]? = some (Cn, Tn, Nn)) (ho : own G b (ci + 10)) (hcn : ci < 20) (hl : Cond.methodLink ow index y ∈ lw_gd) (hM : Con C.1.2.1 y bytes nL rt (rmN n' mc ms) C.2.2.2.1 G V R (.ref b :: av) T) (hn : n' + 1 ≤ N) (ha : av.length = n) (hst : st0 = av.reverse ++ .ref b :: st) (hw : (st.map fun v => v.category).sum ≤ 8) (hmc : T.2.2.2.2 = (mc, ms)) (hge : GE G T.2.2.2.1) (hd : Dc cc pc (.invokevirtual index) 3 pc')
    (kk : Go C pc' lv (T.1.toList ++ st) T.2.1 T.2.2.1 T.2.2.2.1 (kc + mc) (ks + ms)) : Go C pc lv st0 V R G kc ks := by
  obtain ⟨hd, rfl⟩ := hd
  intro H locs ls h1 h2 h3 h4
  have e1 : T.2.2.2.2.1 = mc := by rw [hmc]
  have e2 : T.2.2.2.2.2 = ms := by rw [hmc]
  unfold Con at hM
  rw [e1, e2] at hM
  obtain ⟨q0, hq0⟩ := wd_get (D := C.2.2.2.1) (V := V) (R := R) ho
  rw [cellE_obj ho.2 hcn] at hq0
  have hrec := va_recv h.2.2.2.2.2.1.1 h2.1 hc hq0
  exact g_after h1 h3 h4 (va_runV (rest := st) (C := Cn) ⟨h.1, h.2.1, h.2.2.1, h.2.2.2.1, h.2.2.2.2.1⟩ hM ⟨g_cb h mw hR hn (h.2.2.2.2.1 _ hl), h.2.2.2.2.1 _ hs.1, h.2.2.2.2.1 _ hs.2⟩ ⟨g_blind, hrec, g_pre h h2 h3 (.ref b :: av)⟩ rfl ha h4.1 hst (lv_room hw) hd (by rw [hR]; exact hcs)) hge kk
theorem g_callS_i {β : Type} {A : Option (Int32)} {K : Int32 → Option β} {o : β} (h : CxOK C cc ow ret) (hR : C.1.2.2.2.1 = rmN N c0 s0) (hcs : kc ≤ c0 ∧ ks ≤ s0) (mw : Mw y bytes nL rt n) (hs : Cond.static y ∈ lw_gd) (hl : Cond.methodLink ow index y ∈ lw_gd) (hM : ∀ q, A = some q → Con C.1.2.1 y bytes nL rt (rmN n' 0 0) C.2.2.2.1 G V R av (some (.int q), V, R, G, 0, 0)) (hn : n' + 1 ≤ N) (ha : av.length = n) (hst : st0 = av.reverse ++ st) (hw : (st.map fun v => v.category).sum ≤ 8) (hd : Dc cc pc (.invokestatic index) 3 pc')
    (kk : ∀ q, K q = some o → Go C pc' lv (.int q :: st) V R G kc ks) : A.bind K = some o → Go C pc lv st0 V R G kc ks := by
  intro hf
  cases hA : A with
  | none => rw [hA] at hf; cases hf
  | some x =>
    rw [hA] at hf
    have hK : K x = some o := hf
    exact g_runS h hR ⟨by omega, by omega⟩ mw hs hl (hM x hA) hn ha hst hw rfl (GE.rf G) hd (kk x hK)
theorem g_callSN_i {β : Type} {A : Option (Int32)} {K : Int32 → Option β} {o : β} {host : String} (h : CxOK C cc ow ret) (hR : C.1.2.2.2.1 = rmN N c0 s0) (hcs : kc ≤ c0 ∧ ks ≤ s0) (mw : Mw y bytes nL rt n) (hs : Cond.static y ∈ lw_gd) (hl : Cond.methodLinkNest ow index y host ∈ lw_tbl) (hM : ∀ q, A = some q → Con C.1.2.1 y bytes nL rt (rmN n' 0 0) C.2.2.2.1 G V R av (some (.int q), V, R, G, 0, 0)) (hn : n' + 1 ≤ N) (ha : av.length = n) (hst : st0 = av.reverse ++ st) (hw : (st.map fun v => v.category).sum ≤ 8) (hd : Dc cc pc (.invokestatic index) 3 pc')
    (kk : ∀ q, K q = some o → Go C pc' lv (.int q :: st) V R G kc ks) : A.bind K = some o → Go C pc lv st0 V R G kc ks := by
  intro hf
  cases hA : A with
  | none => rw [hA] at hf; cases hf
  | some x =>
    rw [hA] at hf
    have hK : K x = some o := hf
    exact g_runSN h hR ⟨by omega, by omega⟩ mw hs hl (hM x hA) hn ha hst hw rfl (GE.rf G) hd (kk x hK)
theorem g_callV_i {β : Type} {A : Option (Int32)} {K : Int32 → Option β} {o : β} {Cn : String} {Tn : u_T} {Nn b ci : Nat} (h : CxOK C cc ow ret) (hR : C.1.2.2.2.1 = rmN N c0 s0) (hcs : kc ≤ c0 ∧ ks ≤ s0) (mw : Mw y bytes nL rt n) (hs : Mi Cn y) (hc : vwCl[ci]? = some (Cn, Tn, Nn)) (ho : own G b (ci + 10)) (hcn : ci < 20) (hl : Cond.methodLink ow index y ∈ lw_gd) (hM : ∀ q, A = some q → Con C.1.2.1 y bytes nL rt (rmN n' 0 0) C.2.2.2.1 G V R (.ref b :: av) (some (.int q), V, R, G, 0, 0)) (hn : n' + 1 ≤ N) (ha : av.length = n) (hst : st0 = av.reverse ++ .ref b :: st) (hw : (st.map fun v => v.category).sum ≤ 8) (hd : Dc cc pc (.invokevirtual index) 3 pc')
    (kk : ∀ q, K q = some o → Go C pc' lv (.int q :: st) V R G kc ks) : A.bind K = some o → Go C pc lv st0 V R G kc ks := by
  intro hf
  cases hA : A with
  | none => rw [hA] at hf; cases hf
  | some x =>
    rw [hA] at hf
    have hK : K x = some o := hf
    exact g_runV h hR ⟨by omega, by omega⟩ mw hs hc ho hcn hl (hM x hA) hn ha hst hw rfl (GE.rf G) hd (kk x hK)
theorem g_callS_iV {β : Type} {A : Option (Int32 × V2)} {K : Int32 × V2 → Option β} {o : β} (h : CxOK C cc ow ret) (hR : C.1.2.2.2.1 = rmN N c0 s0) (hcs : kc ≤ c0 ∧ ks ≤ s0) (mw : Mw y bytes nL rt n) (hs : Cond.static y ∈ lw_gd) (hl : Cond.methodLink ow index y ∈ lw_gd) (hM : ∀ q, A = some q → Con C.1.2.1 y bytes nL rt (rmN n' 0 0) C.2.2.2.1 G V R av (some (.int q.1), q.2, R, G, 0, 0)) (hn : n' + 1 ≤ N) (ha : av.length = n) (hst : st0 = av.reverse ++ st) (hw : (st.map fun v => v.category).sum ≤ 8) (hd : Dc cc pc (.invokestatic index) 3 pc')
    (kk : ∀ q, K q = some o → Go C pc' lv (.int q.1 :: st) q.2 R G kc ks) : A.bind K = some o → Go C pc lv st0 V R G kc ks := by
  intro hf
  cases hA : A with
  | none => rw [hA] at hf; cases hf
  | some x =>
    rw [hA] at hf
    have hK : K x = some o := hf
    exact g_runS h hR ⟨by omega, by omega⟩ mw hs hl (hM x hA) hn ha hst hw rfl (GE.rf G) hd (kk x hK)
theorem g_callSN_iV {β : Type} {A : Option (Int32 × V2)} {K : Int32 × V2 → Option β} {o : β} {host : String} (h : CxOK C cc ow ret) (hR : C.1.2.2.2.1 = rmN N c0 s0) (hcs : kc ≤ c0 ∧ ks ≤ s0) (mw : Mw y bytes nL rt n) (hs : Cond.static y ∈ lw_gd) (hl : Cond.methodLinkNest ow index y host ∈ lw_tbl) (hM : ∀ q, A = some q → Con C.1.2.1 y bytes nL rt (rmN n' 0 0) C.2.2.2.1 G V R av (some (.int q.1), q.2, R, G, 0, 0)) (hn : n' + 1 ≤ N) (ha : av.length = n) (hst : st0 = av.reverse ++ st) (hw : (st.map fun v => v.category).sum ≤ 8) (hd : Dc cc pc (.invokestatic index) 3 pc')
    (kk : ∀ q, K q = some o → Go C pc' lv (.int q.1 :: st) q.2 R G kc ks) : A.bind K = some o → Go C pc lv st0 V R G kc ks := by
  intro hf
  cases hA : A with
  | none => rw [hA] at hf; cases hf
  | some x =>
    rw [hA] at hf
    have hK : K x = some o := hf
    exact g_runSN h hR ⟨by omega, by omega⟩ mw hs hl (hM x hA) hn ha hst hw rfl (GE.rf G) hd (kk x hK)
theorem g_callV_iV {β : Type} {A : Option (Int32 × V2)} {K : Int32 × V2 → Option β} {o : β} {Cn : String} {Tn : u_T} {Nn b ci : Nat} (h : CxOK C cc ow ret) (hR : C.1.2.2.2.1 = rmN N c0 s0) (hcs : kc ≤ c0 ∧ ks ≤ s0) (mw : Mw y bytes nL rt n) (hs : Mi Cn y) (hc : vwCl[ci]? = some (Cn, Tn, Nn)) (ho : own G b (ci + 10)) (hcn : ci < 20) (hl : Cond.methodLink ow index y ∈ lw_gd) (hM : ∀ q, A = some q → Con C.1.2.1 y bytes nL rt (rmN n' 0 0) C.2.2.2.1 G V R (.ref b :: av) (some (.int q.1), q.2, R, G, 0, 0)) (hn : n' + 1 ≤ N) (ha : av.length = n) (hst : st0 = av.reverse ++ .ref b :: st) (hw : (st.map fun v => v.category).sum ≤ 8) (hd : Dc cc pc (.invokevirtual index) 3 pc')
    (kk : ∀ q, K q = some o → Go C pc' lv (.int q.1 :: st) q.2 R G kc ks) : A.bind K = some o → Go C pc lv st0 V R G kc ks := by
  intro hf
  cases hA : A with
  | none => rw [hA] at hf; cases hf
  | some x =>
    rw [hA] at hf
    have hK : K x = some o := hf
    exact g_runV h hR ⟨by omega, by omega⟩ mw hs hc ho hcn hl (hM x hA) hn ha hst hw rfl (GE.rf G) hd (kk x hK)
theorem g_callS_v {β : Type} {A : Option (Unit)} {K : Unit → Option β} {o : β} (h : CxOK C cc ow ret) (hR : C.1.2.2.2.1 = rmN N c0 s0) (hcs : kc ≤ c0 ∧ ks ≤ s0) (mw : Mw y bytes nL rt n) (hs : Cond.static y ∈ lw_gd) (hl : Cond.methodLink ow index y ∈ lw_gd) (hM : ∀ q, A = some q → Con C.1.2.1 y bytes nL rt (rmN n' 0 0) C.2.2.2.1 G V R av (none, V, R, G, 0, 0)) (hn : n' + 1 ≤ N) (ha : av.length = n) (hst : st0 = av.reverse ++ st) (hw : (st.map fun v => v.category).sum ≤ 8) (hd : Dc cc pc (.invokestatic index) 3 pc')
    (kk : ∀ q, K q = some o → Go C pc' lv st V R G kc ks) : A.bind K = some o → Go C pc lv st0 V R G kc ks := by
  intro hf
  cases hA : A with
  | none => rw [hA] at hf; cases hf
  | some x =>
    rw [hA] at hf
    have hK : K x = some o := hf
    exact g_runS h hR ⟨by omega, by omega⟩ mw hs hl (hM x hA) hn ha hst hw rfl (GE.rf G) hd (kk x hK)
theorem g_callSN_v {β : Type} {A : Option (Unit)} {K : Unit → Option β} {o : β} {host : String} (h : CxOK C cc ow ret) (hR : C.1.2.2.2.1 = rmN N c0 s0) (hcs : kc ≤ c0 ∧ ks ≤ s0) (mw : Mw y bytes nL rt n) (hs : Cond.static y ∈ lw_gd) (hl : Cond.methodLinkNest ow index y host ∈ lw_tbl) (hM : ∀ q, A = some q → Con C.1.2.1 y bytes nL rt (rmN n' 0 0) C.2.2.2.1 G V R av (none, V, R, G, 0, 0)) (hn : n' + 1 ≤ N) (ha : av.length = n) (hst : st0 = av.reverse ++ st) (hw : (st.map fun v => v.category).sum ≤ 8) (hd : Dc cc pc (.invokestatic index) 3 pc')
    (kk : ∀ q, K q = some o → Go C pc' lv st V R G kc ks) : A.bind K = some o → Go C pc lv st0 V R G kc ks := by
  intro hf
  cases hA : A with
  | none => rw [hA] at hf; cases hf
  | some x =>
    rw [hA] at hf
    have hK : K x = some o := hf
    exact g_runSN h hR ⟨by omega, by omega⟩ mw hs hl (hM x hA) hn ha hst hw rfl (GE.rf G) hd (kk x hK)
theorem g_callV_v {β : Type} {A : Option (Unit)} {K : Unit → Option β} {o : β} {Cn : String} {Tn : u_T} {Nn b ci : Nat} (h : CxOK C cc ow ret) (hR : C.1.2.2.2.1 = rmN N c0 s0) (hcs : kc ≤ c0 ∧ ks ≤ s0) (mw : Mw y bytes nL rt n) (hs : Mi Cn y) (hc : vwCl[ci]? = some (Cn, Tn, Nn)) (ho : own G b (ci + 10)) (hcn : ci < 20) (hl : Cond.methodLink ow index y ∈ lw_gd) (hM : ∀ q, A = some q → Con C.1.2.1 y bytes nL rt (rmN n' 0 0) C.2.2.2.1 G V R (.ref b :: av) (none, V, R, G, 0, 0)) (hn : n' + 1 ≤ N) (ha : av.length = n) (hst : st0 = av.reverse ++ .ref b :: st) (hw : (st.map fun v => v.category).sum ≤ 8) (hd : Dc cc pc (.invokevirtual index) 3 pc')
    (kk : ∀ q, K q = some o → Go C pc' lv st V R G kc ks) : A.bind K = some o → Go C pc lv st0 V R G kc ks := by
  intro hf
  cases hA : A with
  | none => rw [hA] at hf; cases hf
  | some x =>
    rw [hA] at hf
    have hK : K x = some o := hf
    exact g_runV h hR ⟨by omega, by omega⟩ mw hs hc ho hcn hl (hM x hA) hn ha hst hw rfl (GE.rf G) hd (kk x hK)
theorem g_callS_vV {β : Type} {A : Option (V2)} {K : V2 → Option β} {o : β} (h : CxOK C cc ow ret) (hR : C.1.2.2.2.1 = rmN N c0 s0) (hcs : kc ≤ c0 ∧ ks ≤ s0) (mw : Mw y bytes nL rt n) (hs : Cond.static y ∈ lw_gd) (hl : Cond.methodLink ow index y ∈ lw_gd) (hM : ∀ q, A = some q → Con C.1.2.1 y bytes nL rt (rmN n' 0 0) C.2.2.2.1 G V R av (none, q, R, G, 0, 0)) (hn : n' + 1 ≤ N) (ha : av.length = n) (hst : st0 = av.reverse ++ st) (hw : (st.map fun v => v.category).sum ≤ 8) (hd : Dc cc pc (.invokestatic index) 3 pc')
    (kk : ∀ q, K q = some o → Go C pc' lv st q R G kc ks) : A.bind K = some o → Go C pc lv st0 V R G kc ks := by
  intro hf
  cases hA : A with
  | none => rw [hA] at hf; cases hf
  | some x =>
    rw [hA] at hf
    have hK : K x = some o := hf
    exact g_runS h hR ⟨by omega, by omega⟩ mw hs hl (hM x hA) hn ha hst hw rfl (GE.rf G) hd (kk x hK)
theorem g_callSN_vV {β : Type} {A : Option (V2)} {K : V2 → Option β} {o : β} {host : String} (h : CxOK C cc ow ret) (hR : C.1.2.2.2.1 = rmN N c0 s0) (hcs : kc ≤ c0 ∧ ks ≤ s0) (mw : Mw y bytes nL rt n) (hs : Cond.static y ∈ lw_gd) (hl : Cond.methodLinkNest ow index y host ∈ lw_tbl) (hM : ∀ q, A = some q → Con C.1.2.1 y bytes nL rt (rmN n' 0 0) C.2.2.2.1 G V R av (none, q, R, G, 0, 0)) (hn : n' + 1 ≤ N) (ha : av.length = n) (hst : st0 = av.reverse ++ st) (hw : (st.map fun v => v.category).sum ≤ 8) (hd : Dc cc pc (.invokestatic index) 3 pc')
    (kk : ∀ q, K q = some o → Go C pc' lv st q R G kc ks) : A.bind K = some o → Go C pc lv st0 V R G kc ks := by
  intro hf
  cases hA : A with
  | none => rw [hA] at hf; cases hf
  | some x =>
    rw [hA] at hf
    have hK : K x = some o := hf
    exact g_runSN h hR ⟨by omega, by omega⟩ mw hs hl (hM x hA) hn ha hst hw rfl (GE.rf G) hd (kk x hK)
theorem g_callV_vV {β : Type} {A : Option (V2)} {K : V2 → Option β} {o : β} {Cn : String} {Tn : u_T} {Nn b ci : Nat} (h : CxOK C cc ow ret) (hR : C.1.2.2.2.1 = rmN N c0 s0) (hcs : kc ≤ c0 ∧ ks ≤ s0) (mw : Mw y bytes nL rt n) (hs : Mi Cn y) (hc : vwCl[ci]? = some (Cn, Tn, Nn)) (ho : own G b (ci + 10)) (hcn : ci < 20) (hl : Cond.methodLink ow index y ∈ lw_gd) (hM : ∀ q, A = some q → Con C.1.2.1 y bytes nL rt (rmN n' 0 0) C.2.2.2.1 G V R (.ref b :: av) (none, q, R, G, 0, 0)) (hn : n' + 1 ≤ N) (ha : av.length = n) (hst : st0 = av.reverse ++ .ref b :: st) (hw : (st.map fun v => v.category).sum ≤ 8) (hd : Dc cc pc (.invokevirtual index) 3 pc')
    (kk : ∀ q, K q = some o → Go C pc' lv st q R G kc ks) : A.bind K = some o → Go C pc lv st0 V R G kc ks := by
  intro hf
  cases hA : A with
  | none => rw [hA] at hf; cases hf
  | some x =>
    rw [hA] at hf
    have hK : K x = some o := hf
    exact g_runV h hR ⟨by omega, by omega⟩ mw hs hc ho hcn hl (hM x hA) hn ha hst hw rfl (GE.rf G) hd (kk x hK)
theorem g_callS_iR {β : Type} {A : Option (Int32 × V2 × R2)} {K : Int32 × V2 × R2 → Option β} {o : β} (h : CxOK C cc ow ret) (hR : C.1.2.2.2.1 = rmN N c0 s0) (hcs : kc ≤ c0 ∧ ks ≤ s0) (mw : Mw y bytes nL rt n) (hs : Cond.static y ∈ lw_gd) (hl : Cond.methodLink ow index y ∈ lw_gd) (hM : ∀ q, A = some q → Con C.1.2.1 y bytes nL rt (rmN n' 0 0) C.2.2.2.1 G V R av (some (.int q.1), q.2.1, q.2.2, G, 0, 0)) (hn : n' + 1 ≤ N) (ha : av.length = n) (hst : st0 = av.reverse ++ st) (hw : (st.map fun v => v.category).sum ≤ 8) (hd : Dc cc pc (.invokestatic index) 3 pc')
    (kk : ∀ q, K q = some o → Go C pc' lv (.int q.1 :: st) q.2.1 q.2.2 G kc ks) : A.bind K = some o → Go C pc lv st0 V R G kc ks := by
  intro hf
  cases hA : A with
  | none => rw [hA] at hf; cases hf
  | some x =>
    rw [hA] at hf
    have hK : K x = some o := hf
    exact g_runS h hR ⟨by omega, by omega⟩ mw hs hl (hM x hA) hn ha hst hw rfl (GE.rf G) hd (kk x hK)
theorem g_callSN_iR {β : Type} {A : Option (Int32 × V2 × R2)} {K : Int32 × V2 × R2 → Option β} {o : β} {host : String} (h : CxOK C cc ow ret) (hR : C.1.2.2.2.1 = rmN N c0 s0) (hcs : kc ≤ c0 ∧ ks ≤ s0) (mw : Mw y bytes nL rt n) (hs : Cond.static y ∈ lw_gd) (hl : Cond.methodLinkNest ow index y host ∈ lw_tbl) (hM : ∀ q, A = some q → Con C.1.2.1 y bytes nL rt (rmN n' 0 0) C.2.2.2.1 G V R av (some (.int q.1), q.2.1, q.2.2, G, 0, 0)) (hn : n' + 1 ≤ N) (ha : av.length = n) (hst : st0 = av.reverse ++ st) (hw : (st.map fun v => v.category).sum ≤ 8) (hd : Dc cc pc (.invokestatic index) 3 pc')
    (kk : ∀ q, K q = some o → Go C pc' lv (.int q.1 :: st) q.2.1 q.2.2 G kc ks) : A.bind K = some o → Go C pc lv st0 V R G kc ks := by
  intro hf
  cases hA : A with
  | none => rw [hA] at hf; cases hf
  | some x =>
    rw [hA] at hf
    have hK : K x = some o := hf
    exact g_runSN h hR ⟨by omega, by omega⟩ mw hs hl (hM x hA) hn ha hst hw rfl (GE.rf G) hd (kk x hK)
theorem g_callV_iR {β : Type} {A : Option (Int32 × V2 × R2)} {K : Int32 × V2 × R2 → Option β} {o : β} {Cn : String} {Tn : u_T} {Nn b ci : Nat} (h : CxOK C cc ow ret) (hR : C.1.2.2.2.1 = rmN N c0 s0) (hcs : kc ≤ c0 ∧ ks ≤ s0) (mw : Mw y bytes nL rt n) (hs : Mi Cn y) (hc : vwCl[ci]? = some (Cn, Tn, Nn)) (ho : own G b (ci + 10)) (hcn : ci < 20) (hl : Cond.methodLink ow index y ∈ lw_gd) (hM : ∀ q, A = some q → Con C.1.2.1 y bytes nL rt (rmN n' 0 0) C.2.2.2.1 G V R (.ref b :: av) (some (.int q.1), q.2.1, q.2.2, G, 0, 0)) (hn : n' + 1 ≤ N) (ha : av.length = n) (hst : st0 = av.reverse ++ .ref b :: st) (hw : (st.map fun v => v.category).sum ≤ 8) (hd : Dc cc pc (.invokevirtual index) 3 pc')
    (kk : ∀ q, K q = some o → Go C pc' lv (.int q.1 :: st) q.2.1 q.2.2 G kc ks) : A.bind K = some o → Go C pc lv st0 V R G kc ks := by
  intro hf
  cases hA : A with
  | none => rw [hA] at hf; cases hf
  | some x =>
    rw [hA] at hf
    have hK : K x = some o := hf
    exact g_runV h hR ⟨by omega, by omega⟩ mw hs hc ho hcn hl (hM x hA) hn ha hst hw rfl (GE.rf G) hd (kk x hK)
theorem g_callS_vR {β : Type} {A : Option (V2 × R2)} {K : V2 × R2 → Option β} {o : β} (h : CxOK C cc ow ret) (hR : C.1.2.2.2.1 = rmN N c0 s0) (hcs : kc ≤ c0 ∧ ks ≤ s0) (mw : Mw y bytes nL rt n) (hs : Cond.static y ∈ lw_gd) (hl : Cond.methodLink ow index y ∈ lw_gd) (hM : ∀ q, A = some q → Con C.1.2.1 y bytes nL rt (rmN n' 0 0) C.2.2.2.1 G V R av (none, q.1, q.2, G, 0, 0)) (hn : n' + 1 ≤ N) (ha : av.length = n) (hst : st0 = av.reverse ++ st) (hw : (st.map fun v => v.category).sum ≤ 8) (hd : Dc cc pc (.invokestatic index) 3 pc')
    (kk : ∀ q, K q = some o → Go C pc' lv st q.1 q.2 G kc ks) : A.bind K = some o → Go C pc lv st0 V R G kc ks := by
  intro hf
  cases hA : A with
  | none => rw [hA] at hf; cases hf
  | some x =>
    rw [hA] at hf
    have hK : K x = some o := hf
    exact g_runS h hR ⟨by omega, by omega⟩ mw hs hl (hM x hA) hn ha hst hw rfl (GE.rf G) hd (kk x hK)
theorem g_callSN_vR {β : Type} {A : Option (V2 × R2)} {K : V2 × R2 → Option β} {o : β} {host : String} (h : CxOK C cc ow ret) (hR : C.1.2.2.2.1 = rmN N c0 s0) (hcs : kc ≤ c0 ∧ ks ≤ s0) (mw : Mw y bytes nL rt n) (hs : Cond.static y ∈ lw_gd) (hl : Cond.methodLinkNest ow index y host ∈ lw_tbl) (hM : ∀ q, A = some q → Con C.1.2.1 y bytes nL rt (rmN n' 0 0) C.2.2.2.1 G V R av (none, q.1, q.2, G, 0, 0)) (hn : n' + 1 ≤ N) (ha : av.length = n) (hst : st0 = av.reverse ++ st) (hw : (st.map fun v => v.category).sum ≤ 8) (hd : Dc cc pc (.invokestatic index) 3 pc')
    (kk : ∀ q, K q = some o → Go C pc' lv st q.1 q.2 G kc ks) : A.bind K = some o → Go C pc lv st0 V R G kc ks := by
  intro hf
  cases hA : A with
  | none => rw [hA] at hf; cases hf
  | some x =>
    rw [hA] at hf
    have hK : K x = some o := hf
    exact g_runSN h hR ⟨by omega, by omega⟩ mw hs hl (hM x hA) hn ha hst hw rfl (GE.rf G) hd (kk x hK)
theorem g_callV_vR {β : Type} {A : Option (V2 × R2)} {K : V2 × R2 → Option β} {o : β} {Cn : String} {Tn : u_T} {Nn b ci : Nat} (h : CxOK C cc ow ret) (hR : C.1.2.2.2.1 = rmN N c0 s0) (hcs : kc ≤ c0 ∧ ks ≤ s0) (mw : Mw y bytes nL rt n) (hs : Mi Cn y) (hc : vwCl[ci]? = some (Cn, Tn, Nn)) (ho : own G b (ci + 10)) (hcn : ci < 20) (hl : Cond.methodLink ow index y ∈ lw_gd) (hM : ∀ q, A = some q → Con C.1.2.1 y bytes nL rt (rmN n' 0 0) C.2.2.2.1 G V R (.ref b :: av) (none, q.1, q.2, G, 0, 0)) (hn : n' + 1 ≤ N) (ha : av.length = n) (hst : st0 = av.reverse ++ .ref b :: st) (hw : (st.map fun v => v.category).sum ≤ 8) (hd : Dc cc pc (.invokevirtual index) 3 pc')
    (kk : ∀ q, K q = some o → Go C pc' lv st q.1 q.2 G kc ks) : A.bind K = some o → Go C pc lv st0 V R G kc ks := by
  intro hf
  cases hA : A with
  | none => rw [hA] at hf; cases hf
  | some x =>
    rw [hA] at hf
    have hK : K x = some o := hf
    exact g_runV h hR ⟨by omega, by omega⟩ mw hs hc ho hcn hl (hM x hA) hn ha hst hw rfl (GE.rf G) hd (kk x hK)
theorem g_mmax {P : Prop} {x y : Int32} (h : CxOK C cc ow ret) (hR : C.1.2.2.2.1 = rmN N c0 s0) (hN : 1 ≤ N) (hcs : kc ≤ c0 ∧ ks ≤ s0) (hd : Dc cc pc (.invokestatic index) 3 pc') (hl : Cond.methodLink ow index yJ9_max_7cf53 ∈ lw_gd) (hw : (st.map fun v => v.category).sum ≤ 8) (kk : P → Go C pc' lv (.int (jmax x y) :: st) V R G kc ks) : P → Go C pc lv (.int y :: .int x :: st) V R G kc ks := by
  obtain ⟨hd, rfl⟩ := hd
  intro hP H locs ls h1 h2 h3 h4
  exact va_mmax h.1 h.2.1 (h.2.2.1.trans h4.1.symm) h.2.2.2.1 (h.2.2.2.2.1 _ hl) (h.2.2.2.2.1 _ ms_J9_max_7cf53) (h.2.2.2.2.1 _ inJ9) (h.2.2.2.2.1 _ mwJ9_max_7cf53.1) (by rw [hR]; exact hN) (by rw [hR]; show _ ≤ 64 * N; omega) (by rw [hR]; exact hcs.1) (by rw [hR]; exact hcs.2) hd (kk hP H locs ls h1 h2 h3 h4)
theorem g_mmin {P : Prop} {x y : Int32} (h : CxOK C cc ow ret) (hR : C.1.2.2.2.1 = rmN N c0 s0) (hN : 1 ≤ N) (hcs : kc ≤ c0 ∧ ks ≤ s0) (hd : Dc cc pc (.invokestatic index) 3 pc') (hl : Cond.methodLink ow index yJ9_min_7cf53 ∈ lw_gd) (hw : (st.map fun v => v.category).sum ≤ 8) (kk : P → Go C pc' lv (.int (jmin x y) :: st) V R G kc ks) : P → Go C pc lv (.int y :: .int x :: st) V R G kc ks := by
  obtain ⟨hd, rfl⟩ := hd
  intro hP H locs ls h1 h2 h3 h4
  exact va_mmin h.1 h.2.1 (h.2.2.1.trans h4.1.symm) h.2.2.2.1 (h.2.2.2.2.1 _ hl) (h.2.2.2.2.1 _ ms_J9_min_7cf53) (h.2.2.2.2.1 _ inJ9) (h.2.2.2.2.1 _ mwJ9_min_7cf53.1) (by rw [hR]; exact hN) (by rw [hR]; show _ ≤ 64 * N; omega) (by rw [hR]; exact hcs.1) (by rw [hR]; exact hcs.2) hd (kk hP H locs ls h1 h2 h3 h4)
/-- a stretch of a row is copied into another -/
def cpyV (n0 n1 : Nat) (V : V2) (x : Nat) (sp : Int32) (y : Nat) (dp n : Int32) : Option V2 := if ¬ sp < 0 ∧ ¬ dp < 0 ∧ ¬ n < 0 ∧ sp.toNatClampNeg + n.toNatClampNeg ≤ n0 ∧ dp.toNatClampNeg + n.toNatClampNeg ≤ n1 then some (va_up V y (va_cpy (V x) (V y) sp.toNatClampNeg dp.toNatClampNeg n.toNatClampNeg)) else none
theorem nat_arraycopy : Cond.native arraycopyName ∈ lw_gd := lw_gd_in (tb3 (List.mem_of_getElem? (i := 116) rfl)) rfl
theorem nn_of {z : Int32} (hz : ¬ z < 0) : z.toInt = (z.toNatClampNeg : Int) := by
  have hz0 : (0 : Int) ≤ z.toInt := by
    have := Int32.not_lt.mp hz
    simpa using Int32.le_iff_toInt_le.mp this
  show z.toInt = ((z.toInt.toNat : Nat) : Int)
  omega
theorem g_acpy {β : Type} {K : V2 → Option β} {o : β} {x y n0 n1 : Nat} {sp dp m : Int32} (h : CxOK C cc ow ret) (hR : C.1.2.2.2.1 = rmN N c0 s0) (hN : 1 ≤ N) (hx : own G x 1) (hy : own G y 1) (hlx : G.2.2.1 x = n0) (hly : G.2.2.1 y = n1) (hd : Dc cc pc (.invokestatic index) 3 pc') (hl : Cond.methodLink ow index arraycopyName ∈ lw_gd) (hw : (st.map fun v => v.category).sum ≤ 8) (kk : ∀ W, K W = some o → Go C pc' lv st W R G kc ks) : (cpyV n0 n1 V x sp y dp m).bind K = some o → Go C pc lv (.int m :: .int dp :: .ref y :: .int sp :: .ref x :: st) V R G kc ks := by
  obtain ⟨hd, rfl⟩ := hd
  intro hf
  by_cases q : ¬ sp < 0 ∧ ¬ dp < 0 ∧ ¬ m < 0 ∧ sp.toNatClampNeg + m.toNatClampNeg ≤ n0 ∧ dp.toNatClampNeg + m.toNatClampNeg ≤ n1
  · simp only [cpyV, if_pos q, Option.bind_some] at hf
    obtain ⟨q1, q2, q3, q4, q5⟩ := q
    intro H locs ls h1 h2 h3 h4 T hT X
    obtain ⟨k0, hk0⟩ := wd_get (D := C.2.2.2.1) (V := V) (R := R) hx
    obtain ⟨k1, hk1⟩ := wd_get (D := C.2.2.2.1) (V := V) (R := R) hy
    have hk1' := hk1
    rw [cellE_int hx.2, hlx] at hk0
    rw [cellE_int hy.2, hly] at hk1'
    have hc0 : H[x]? = some (vp_cell (C.2.2.2.1.2.2.1 1) (n0, .inl (V x))) := h2.1 k0 _ hk0
    have hc1 : H[y]? = some (vp_cell (C.2.2.2.1.2.2.1 1) (n1, .inl (V y))) := h2.1 k1 _ hk1'
    obtain ⟨-, kc0, hkc0, cm0, hkk0⟩ := (h.2.2.2.2.2.1.1.2 0 _ rfl).1 n0 (fun j => .int (V x j))
    obtain ⟨-, kc1, hkc1, cm1, hkk1⟩ := (h.2.2.2.2.2.1.1.2 0 _ rfl).1 n1 (fun j => .int (V y j))
    obtain ⟨vm', X', step⟩ := X.arraycopy h.1 h.2.2.2.1 (h.2.2.2.2.1 _ hl) (h.2.2.2.2.1 _ nat_arraycopy) (h.2.2.2.2.1 _ ms_arraycopy) (h.2.2.2.2.1 _ inJ10) (src := x) (dst := y) (cs := vp_cell (C.2.2.2.1.2.2.1 1) (n0, .inl (V x))) (cd := vp_cell (C.2.2.2.1.2.2.1 1) (n1, .inl (V y))) (srcPos := sp) (destPos := dp) (n := m) (by rw [hT]; exact hc0) (by rw [hT]; exact hc1)
      (fun _ h => by cases h) (fun _ h => by cases h) (fun h => by cases h) (fun h => by cases h) hkc0 hkc1 hkk0 hkk1 (by simp [refKind]) q1 q2 q3
      (by rw [nn_of q1, nn_of q3]; show ¬ _ > ((arrV _ n0 (fun j => .int (V x j))).slots.size : Int); rw [arrV_size]; omega)
      (by rw [nn_of q2, nn_of q3]; show ¬ _ > ((arrV _ n1 (fun j => .int (V y j))).slots.size : Int); rw [arrV_size]; omega)
      (fun vm₁ _ i hi => by
        have e : (vp_cell (C.2.2.2.1.2.2.1 1) (n0, .inl (V x))).slots.getD (sp.toNatClampNeg + i) .null = .int (V x (sp.toNatClampNeg + i)) := by
          show (arrV _ n0 (fun j => .int (V x j))).slots.getD _ _ = _
          rw [Array.getD_eq_getD_getElem?, arrV_read _ _ (by omega)]
          rfl
        rw [e]
        exact ⟨rfl, trivial⟩)
      (g := F0 C.1.2.2.2.2.2.1 pc ls (.int m :: .int dp :: .ref y :: .int sp :: .ref x :: st)) rfl (by rw [h.2.2.1]; exact h4.1) (rest := st) rfl (by rw [h.2.1]; exact hd) (by rw [hR]; exact hN) (by rw [hR]; show 2 * 0 + _ + (7 + 11) ≤ 64 * N; omega)
    have e1 : copied (vp_cell (C.2.2.2.1.2.2.1 1) (n0, .inl (V x))) (vp_cell (C.2.2.2.1.2.2.1 1) (n1, .inl (V y))) sp dp m = vp_cell (C.2.2.2.1.2.2.1 1) (n1, .inl (va_cpy (V x) (V y) sp.toNatClampNeg dp.toNatClampNeg m.toNatClampNeg)) := va_copied (fun z => .int z) _ _ (V x) (V y) q4
    rw [e1] at X' step
    have hlt : y < H.size := (Array.getElem?_eq_some_iff.mp hc1).1
    generalize hcell : vp_cell (C.2.2.2.1.2.2.1 1) (n1, .inl (va_cpy (V x) (V y) sp.toNatClampNeg dp.toNatClampNeg m.toNatClampNeg)) = cell at X' step
    have hheap : ((T.setVm vm').setCell y cell).heap = H.setIfInBounds y cell := by rw [← hT]; rfl
    have oq : ∀ q : Nat, q ≠ y → (H.setIfInBounds y cell)[q]? = H[q]? := fun q hq => by simp [Array.getElem?_setIfInBounds, Ne.symm hq]
    have hA := h1.ax y (Or.inl hy.1)
    obtain ⟨t, a1, b1⟩ := kk _ hf _ _ ls h1 (wd_set (H1 := H.setIfInBounds y cell) h2 hy hk1 (fun b hb => va_up_ne _ _ hb) (fun _ _ => rfl) (by
        rw [cellE_int hy.2, hly]
        show (H.setIfInBounds y cell)[y]? = some (vp_cell _ _)
        rw [← hcell, va_up_self]
        simp [Array.getElem?_setIfInBounds, hlt]) (by simp) oq) ⟨by simp; exact h3.1, fun q g1 g2 => by
        rw [oq q (fun e => g2 (by rw [e]; exact hA))]
        exact h3.2.1 q g1 g2, fun q hq => by
        rcases List.mem_append.mp hq with h | h
        · exact h3.2.2 q h
        · obtain ⟨z, -, hz⟩ := List.mem_map.mp h
          rw [← hz]
          exact hA⟩ h4 _ hheap X'
    exact ⟨t, step t a1, b1⟩
  · simp only [cpyV, if_neg q] at hf; cases hf
end GC
