/-! calls, handlers, and the induction -/
def sm_Sim (M pc : Nat) (ls : sm_L) (st : List Value) (h : sm_H) (res : sm_R) (h' : sm_H) : Prop :=
  (gN h ≤ gN h' ∧ gJ h ≤ gJ h' ∧ gD h ≤ gD h') ∧ ∀ (p : Program) (l : Launch) (e : Env) (R : Room) (s : State) (m : MethodId) (args : Array Value) (below : List Frame) (meth : Method) (c : Code) (Q : State → Prop) (D : va_G) (ac : Nat → ClassId) (b scr L : Nat) (xs : Nat → Int32) (K0 D0 : Nat), sm_Cx p l R s m args meth c D ac b scr L xs M → (gJ h = 0 → s.heap.size = b + K0) → K0 ≤ gN h + gJ h → D0 ≤ gD h → gN h' + gJ h' - K0 ≤ R.cells → gD h' - D0 ≤ R.slots → sm_Ends p l e R s m args below meth c Q D ac b scr L xs K0 D0 M res h' → sm_G p l e R s m args below meth c Q D sm_cls ac b scr L xs (sm_mi M).2.2.1 K0 D0 pc ls st h
theorem sm_contract {N : Nat} {av : List Value} {h h' : sm_H} {res : sm_R} (hN : N < 202) (hn : N ≠ 197) (hle : (sm_ent av).length ≤ (sm_mi N).2.2.1) (hS : sm_Sim N 0 (sm_pad (sm_ent av) (sm_mi N).2.2.1) [] h res h') (l : Launch) (hst : l.stackTraces = false) (D : va_G) (ac : Nat → ClassId) (b scr L : Nat) (xs : Nat → Int32) :
    sm_Met l (sm_mi N).1 (lw_tbl.filter goodWord) (sm_rm N (gN h' + gJ h' - (gN h + gJ h)) (gD h' - gD h)) (sm_Pc D sm_cls ac (sm_tys ac) b scr L xs lw_tbl sm_ra sm_tx sm_nc av h) (sm_Qa D sm_cls ac b scr L xs sm_EX res h') (gN h' + gJ h' - (gN h + gJ h)) (gD h' - gD h) (sm_A b) := by
  refine sm_ofW (sm_own hN).2 (sm_cw_in hN hn) ?_
  intro p e s m args below meth c s₁ B hml htb hP
  obtain ⟨rfl, hE, hY, hz⟩ := hP
  have hC : sm_Cx p l (sm_rm N (gN h' + gJ h' - (gN h + gJ h)) (gD h' - gD h)) s m (av.map (sm_c b scr)).toArray meth c D ac b scr L xs N :=
    ⟨B.exec, B.bytes, hml, by rw [← (sm_own hN).1]; exact findClass_of_methodNamed B.named, atoms_spec (ws := lw_tbl.filter goodWord) B.pre, B.returns, B.notSynchronized, Nat.le_refl _, Nat.le_refl _, htb, hst, (name_of_methodNamed B.named B.method).1, hE⟩
  have k := hS.2 p l e (sm_rm N (gN h' + gJ h' - (gN h + gJ h)) (gD h' - gD h)) s m (av.map (sm_c b scr)).toArray below meth c (sm_MQ below (sm_Qa D sm_cls ac b scr L xs sm_EX res h') s (gN h' + gJ h' - (gN h + gJ h)) (gD h' - gD h) (sm_A b)) D ac b scr L xs (gN h + gJ h) (gD h) hC (fun hJ => by rw [hz hJ, hJ]; rfl) (Nat.le_refl _) (Nat.le_refl _) (Nat.le_refl _) (Nat.le_refl _) (sm_ends_MQ hC (Nat.le_refl _) (Nat.le_refl _)) s.heap [] _ hY va_S.rf (sm_lv_ent hle)
  rw [Nat.sub_self, Nat.sub_self] at k
  rw [lg_entry_eq]
  exact k
/-- a call's entry: class, entry, callee, parameters with the receiver, kind, receiver's class + 1 -/
def cc_ok (oc idx N n kd ci : Nat) : Prop := N < 202 ∧ N ≠ 197 ∧ ((kd = 5 → Cond.methodLinkNest (sm_cn.getD oc "") idx (sm_mi N).1 "ShuffleMill" ∈ lw_tbl) ∧ (kd ≠ 5 → Cond.methodLink (sm_cn.getD oc "") idx (sm_mi N).1 ∈ lw_tbl)) ∧ (bif kd == 1 || kd == 6 then n = sm_np.getD N 0 ∧ sm_sta.getD N false = true else (kd = 0 ∨ kd = 2 ∨ kd = 5) ∧ 1 ≤ ci ∧ ci - 1 = sm_oc.getD N 0 ∧ ci - 1 < 13 ∧ n = sm_np.getD N 0 + 1 ∧ sm_sta.getD N true = false ∧ (bif kd == 0 then sm_vir.getD N false = true else sm_ini.getD N false = true))
set_option maxRecDepth 100000 in
theorem sm_cc_len : sm_cc.length = 264 := by decide +kernel
theorem ck_call_spec {M pc N n : Nat} {cx : Int} {lx : List Nat} (h : ck_call M pc N n cx lx = true) : (sm_mi N).2.2.2.2.2.1 + 1 ≤ (sm_mi M).2.2.2.2.2.1 ∧ 8 + ((sm_mi N).2.2.1 + 11) + (sm_mi N).2.2.2.2.2.2 ≤ (sm_mi M).2.2.2.2.2.2 ∧
    cc_ok (sm_oc.getD M 0) cx.toNat N n (lx.getD 0 0) (lx.getD 1 0) ∧ decode (sm_mi M).2.1 pc = .ok (bif lx.getD 0 0 == 0 then .invokevirtual cx.toNat else bif lx.getD 0 0 == 1 || lx.getD 0 0 == 6 then .invokestatic cx.toNat else .invokespecial cx.toNat, 3) := by
  unfold ck_call at h
  simp only [Bool.and_eq_true, decide_eq_true_eq] at h
  obtain ⟨⟨⟨⟨⟨h1, h2⟩, h3⟩, h4⟩, h5⟩, h6⟩ := h
  refine ⟨h2, h3, ?_, ?_⟩
  · split at h1
    · rename_i q hq
      simp only [Bool.and_eq_true, decide_eq_true_eq] at h1
      obtain ⟨⟨⟨⟨⟨e1, e2⟩, e3⟩, e4⟩, e5⟩, e6⟩ := h1
      have hj : lx.getD 2 0 < 264 := by rw [← sm_cc_len]; exact (List.getElem?_eq_some_iff.mp hq).1
      have hl := sm_lki _ hj q hq
      have hc := List.all_eq_true.mp sm_cc_nat q (List.mem_of_getElem? hq)
      obtain ⟨q1, q2, q3, q4, q5, q6, p2, p3, p4, p5, p6⟩ := q
      dsimp only at e1 e2 e3 e4 e5 e6
      subst e1 e3 e4 e5 e6
      rw [show cx.toNat = q2 by omega]
      dsimp only at hc
      rw [Bool.and_eq_true, Bool.and_eq_true, decide_eq_true_eq, decide_eq_true_eq] at hc
      refine ⟨hc.1.1, hc.1.2, hl, ?_⟩
      have hc := hc.2
      cases hk : (lx.getD 0 0 == 1 || lx.getD 0 0 == 6) with
      | true =>
        rw [hk] at hc
        simp only [cond_true, Bool.and_eq_true, decide_eq_true_eq] at hc ⊢
        exact ⟨hc.1.2, hc.2⟩
      | false =>
        rw [hk] at hc
        simp only [cond_false, Bool.and_eq_true, Bool.or_eq_true, decide_eq_true_eq, Bool.not_eq_true'] at hc ⊢
        obtain ⟨⟨⟨⟨⟨⟨c1, c2⟩, c3⟩, c4⟩, c5⟩, c6⟩, c7⟩ := hc
        refine ⟨by omega, c2, c3, c4, c5, c6, ?_⟩
        cases hk0 : (lx.getD 0 0 == 0) with
        | true => rw [hk0] at c7; exact c7
        | false => rw [hk0] at c7; exact c7
    · cases h1
  · cases hb : (lx.getD 0 0 == 0) with
    | true =>
      rw [hb, cond_true] at h6
      exact ck_d_spec h6
    | false =>
      rw [hb, cond_false] at h6
      cases hb2 : (lx.getD 0 0 == 1 || lx.getD 0 0 == 6) with
      | true =>
        rw [hb2, cond_true] at h6
        exact ck_d_spec h6
      | false =>
        rw [hb2, cond_false] at h6
        exact ck_d_spec h6
theorem sm_tin {w : Cond} (h : w ∈ lw_tbl) (hg : goodWord w = true) : w ∈ lw_tbl.filter goodWord := List.mem_filter.mpr ⟨h, hg⟩
theorem sm_rcv_spec {hh : sm_H} {ci : Nat} {av : List Value} (h1 : 1 ≤ ci) (h : sm_rcv hh ci av = true) : ∃ q As, av = .ref q :: As ∧ sm_at hh q (10 + (ci - 1)) = true := by
  obtain ⟨j, rfl⟩ : ∃ j, ci = j + 1 := ⟨ci - 1, by omega⟩
  unfold sm_rcv at h
  dsimp only at h
  split at h
  · rename_i q As
    exact ⟨q, As, rfl, h⟩
  · cases h
theorem sm_stk {st : List Value} {n : Nat} {f : Value → Value} : st.map f = (((st.take n).reverse.map f).reverse ++ (st.drop n).map f) := by
  rw [← List.map_reverse, List.reverse_reverse, ← List.map_append, List.take_append_drop]
/-- every kind of call is linked -/
theorem sm_link {p : Program} {l : Launch} {e : Env} {R : Room} {s : State} {m : MethodId} {args : Array Value} {below : List Frame} {meth : Method} {c : Code} {D : va_G} {ac : Nat → ClassId} {b scr L : Nat} {xs : Nat → Int32} {M pc N n ci kd oc ix : Nat} {st : List Value} {h : sm_H} {H : Heap} {locs : List Loc} {cells slots : Nat} {lsA : Array Slot} {T : State}
    (hC : sm_Cx p l R s m args meth c D ac b scr L xs M) (hoc : oc = sm_oc.getD M 0) (hcc : cc_ok oc ix N n kd ci) (hd : decode (sm_mi M).2.1 pc = .ok (bif kd == 0 then .invokevirtual ix else bif kd == 1 || kd == 6 then .invokestatic ix else .invokespecial ix, 3)) (hn : n ≤ st.length) (hrc : sm_rcv h ci (st.take n).reverse = true)
    (hY : sm_Y D sm_cls ac b scr L xs h H) (hT : T.heap = H) (X : Stand p l e R s m args below meth c T locs cells slots) :
    sm_Site p l e R s m args below meth c T locs cells slots (F0 m pc lsA (st.map (sm_c b scr))) ((st.drop n).map (sm_c b scr)) (sm_mi N).1 (((st.take n).reverse).map (sm_c b scr)).toArray := by
  obtain ⟨hx, hb, hml, hown, hts, hrt, hlk, hfr, hlo, htb, hst, hnm, hE⟩ := hC
  subst hoc
  obtain ⟨hN, hN2, ⟨hlk5, hlk0⟩, c5⟩ := hcc
  have hcode := hts _ (sm_cw_in hN hN2)
  have hcls := (sm_own hN).1
  have hmh := sm_mhv _ (sm_oc16 N hN)
  rw [← hcls] at hmh
  have c4 := sm_npi N hN
  have hinz : (Cond.initialized (sm_mi N).1.cls).before args s = true := by
    rw [hcls]
    exact hts _ (sm_tin (sm_inz _ (sm_oc16 N hN)) rfl)
  have hlen0 : ((st.take n).reverse).length = n := by rw [List.length_reverse, List.length_take]; omega
  cases hk : (kd == 1 || kd == 6) with
  | true =>
    rw [hk] at c5
    simp only [cond_true] at c5
    have hkd5 : kd ≠ 5 := by
      intro h9
      subst h9
      cases hk
    have hk0 : (kd == 0) = false := by
      rcases Bool.eq_false_or_eq_true (kd == 0) with h9 | h9
      · have : kd = 0 := by simpa using h9
        subst this
        cases hk
      · exact h9
    rw [hk0, hk] at hd
    simp only [cond_true, cond_false] at hd
    refine sm_siteS X hx hown (hts _ (sm_tin (hlk0 hkd5) rfl)) (hts _ (sm_tin (sm_sti N hN ⟨c5.2, hN2⟩) rfl)) hinz hmh hcode rfl (fun sig hsig => ?_) sm_stk (by rw [hb]; exact hd)
    rw [hsig] at c4
    rw [List.length_map, hlen0, c5.1]
    exact (Option.some.inj c4).symm
  | false =>
    rw [hk] at c5
    simp only [cond_false] at c5
    obtain ⟨hkd, d2, d5, d6, d7, d8, d4⟩ := c5
    have d3 := sm_imi N hN ⟨d8, hN2⟩
    obtain ⟨q, As, hav, hq⟩ := sm_rcv_spec d2 hrc
    have hAl : As.length = n - 1 := by
      rw [hav] at hlen0
      simp only [List.length_cons] at hlen0
      omega
    have hq1 := sm_at_spec hq
    have hstk : st.map (sm_c b scr) = (As.map (sm_c b scr)).reverse ++ .ref (b + q) :: (st.drop n).map (sm_c b scr) := by
      rw [sm_stk (n := n), hav]
      simp only [List.map_cons, List.reverse_cons, List.append_assoc, List.singleton_append, sm_c]
      rw [sm_ad_of hq1.1 hY.1]
    have hargs : ((st.take n).reverse).map (sm_c b scr) = .ref (b + q) :: As.map (sm_c b scr) := by
      rw [hav]
      simp only [List.map_cons, sm_c]
      rw [sm_ad_of hq1.1 hY.1]
    have hlen : ∀ sig, parseMethodDescriptor (sm_mi N).1.desc = some sig → (As.map (sm_c b scr)).length = sig.parameters.length := fun sig hsig => by
      rw [hsig] at c4
      have := (Option.some.inj c4).symm
      dsimp only at this
      rw [List.length_map, hAl]
      omega
    rw [hargs]
    cases hk0 : (kd == 0) with
    | true =>
      rw [hk0] at hd d4
      simp only [cond_true] at hd d4
      have hkd5 : kd ≠ 5 := by
        intro h9
        subst h9
        cases hk0
      obtain ⟨C, hC9⟩ : ∃ C, sm_cls[ci - 1]? = some C := ⟨_, List.getElem?_eq_getElem (l := sm_cls) (i := ci - 1) d6⟩
      have hC1 : C.1 = (sm_mi N).1.cls := by
        rw [hcls, ← d5, List.getD_eq_getElem?_getD, sm_cn_cls hC9]
        rfl
      have he := sm_ws_get (cl := sm_cls) (b := b) (scr := scr) (ac := ac) hq1.1
      rw [sm_cell_obj hq1.2] at he
      obtain ⟨cell, g1, g2, g3⟩ := va_recv hE.1 hY.2.1 hC9 he
      rw [hC1] at g3
      exact sm_siteV X hx hown (hts _ (sm_tin (hlk0 hkd5) rfl)) (hts _ (sm_tin d3 rfl)) (hts _ (sm_tin (sm_sei N hN d4) rfl)) hmh hcode (by rw [hT]; exact g1) g2 g3 rfl hlen hstk (by rw [hb]; exact hd)
    | false =>
      rw [hk0] at hd d4
      rw [hk] at hd
      simp only [cond_false] at hd d4
      obtain ⟨e1, e2, e3⟩ := sm_ini_ok N hN d4
      have hcode' : (Cond.code (sm_mi N).1 (sm_mi N).2.1 (sm_mi N).2.2.1 none).before args s = true := by
        rw [e2, e3] at hcode
        exact hcode
      refine sm_siteI (host := "ShuffleMill") X hx hown e1 ?_ (hts _ (sm_tin d3 rfl)) hmh hcode' rfl hlen hstk (by rw [hb]; exact hd)
      by_cases h5 : kd = 5
      · exact Or.inr (va_Nw.use rfl (hE.2.1 _ (hlk5 h5) rfl))
      · exact Or.inl (hts _ (sm_tin (hlk0 h5) rfl))
