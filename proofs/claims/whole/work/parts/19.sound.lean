/-! SOUNDNESS: what the pure machine does, the machine does -/
theorem sm_goodW : GoodIn (lw_tbl.filter goodWord) (lw_tbl.filter goodWord) := fun w hw => ⟨hw, good_of_word (List.mem_filter.mp hw).2⟩
def sm_rm (N nc ns : Nat) : Room := { frames := (sm_mi N).2.2.2.2.2.1, cells := nc, slots := ns, locals := (sm_mi N).2.2.2.2.2.2 }
set_option maxRecDepth 100000 in
theorem sm_own_all : (List.range 202).all (fun N => decide ((sm_mi N).1.cls = sm_cn.getD (sm_oc.getD N 0) "") && plainFor (sm_mi N).1) = true := by decide +kernel
theorem sm_own {N : Nat} (h : N < 202) : (sm_mi N).1.cls = sm_cn.getD (sm_oc.getD N 0) "" ∧ plainFor (sm_mi N).1 = true := by
  have := List.all_eq_true.mp sm_own_all N (List.mem_range.mpr h)
  rw [Bool.and_eq_true, decide_eq_true_eq] at this
  exact this
theorem sm_cw_good {y : MethodName} {bs : ByteArray} {n : Nat} {ret : Option FieldType} {hh : List (Nat × Nat × Nat × Nat)} : goodWord (sm_cw y bs n ret hh) = true := by
  cases hh <;> rfl
theorem sm_cw_in {N : Nat} (h : N < 202) (hn : N ≠ 197) : sm_cw (sm_mi N).1 (sm_mi N).2.1 (sm_mi N).2.2.1 (sm_mi N).2.2.2.1 (sm_mi N).2.2.2.2.1 ∈ lw_tbl.filter goodWord := List.mem_filter.mpr ⟨sm_cwi N h hn, sm_cw_good⟩
set_option maxRecDepth 100000 in
theorem sm_xt_all : sm_xt.all (fun q => decide (Cond.classLink "ShuffleMill" q.2.1 (sm_EX q.1) ∈ lw_tbl) && decide (Cond.initialized (sm_EX q.1) ∈ lw_tbl) && Bundle.fit (sm_EX q.1) && ((Bundle.ownAtoms "ShuffleMill" q.2.2 (sm_EX q.1) sm_xn).filter sm_no).all (fun w => decide (w ∈ lw_tbl) && (goodWord w || (sm_nst w && w.onTables)))) = true := by decide +kernel
set_option maxRecDepth 100000 in
theorem sm_tx_all : sm_tx.all (fun q => decide (q.1 = "ShuffleMill")) = true := by decide +kernel
set_option maxRecDepth 100000 in
theorem sm_xn_ok : ∀ n ∈ sm_xn, Bundle.fit n = true := by decide +kernel
/-- the instruction that returns v -/
def sm_rv (M : Nat) (i : Instr) (v : Option Value) : Prop :=
  (i = .ireturn ∧ ∃ x, v = some (.int x) ∧ ((sm_mi M).2.2.2.1 = some .int ∨ ((sm_mi M).2.2.2.1 = some .boolean ∧ (x = 0 ∨ x = 1)))) ∨ (i = .lreturn ∧ (∃ x, v = some (.long x)) ∧ (sm_mi M).2.2.2.1 = some .long) ∨
  (i = .areturn ∧ ((∃ x, v = some (.ref x)) ∨ v = some .null) ∧ ck_rr (sm_mi M).2.2.2.1 = true) ∨ (i = .return_ ∧ v = none ∧ (sm_mi M).2.2.2.1 = none)
/-- what the walk owes where the method ends -/
def sm_Ends (p : Program) (l : Launch) (e : Env) (R : Room) (s : State) (m : MethodId) (args : Array Value) (below : List Frame) (meth : Method) (c : Code) (Q : State → Prop) (D : va_G) (ac : Nat → ClassId) (b scr L : Nat) (xs : Nat → Int32) (K0 D0 M : Nat) (res : sm_R) (h' : sm_H) : Prop :=
  (∀ v, res = .inl v → ∀ (H : Heap) (locs : List Loc) (lsA : Array Slot) (pc : Nat) (i : Instr), decode (sm_mi M).2.1 pc = .ok (i, 1) → sm_rv M i v → sm_Y D sm_cls ac b scr L xs h' H → va_S (sm_A b) s.heap H locs → W p l e R s m args below meth c H locs (gN h' + gJ h' - K0) (gD h' - D0) Q (F0 m pc lsA (v.toList.map (sm_c b scr)))) ∧
  (∀ k, res = .inr k → ∀ (H : Heap) (locs : List Loc) (lsA : Array Slot) (pc : Nat) (st : List Value) (h1 : sm_H) (i : Nat) (cx : Int) (lx : List Nat) (wd : Nat), ck_thr M pc k i cx lx wd = true → wd = 2 ∨ wd = 3 → h' = hjunk h1 → sm_wt st ≤ 8 → K0 ≤ gN h1 + gJ h1 → D0 ≤ gD h1 → lsA.size = c.maxLocals → sm_Y D sm_cls ac b scr L xs h1 H → va_S (sm_A b) s.heap H locs → W p l e R s m args below meth c H locs (gN h1 + gJ h1 - K0) (gD h1 - D0) Q (F0 m pc lsA (st.map (sm_c b scr)))) ∧
  (∀ k, res = .inr k → (sm_mi M).2.2.2.2.1 = [] → ∀ (pc : Nat) (ls : sm_L) (rest : List Value), sm_GX p l e R s m args below meth c Q D sm_cls ac b scr L xs (sm_mi M).2.2.1 K0 D0 pc ls rest h' (sm_EX k))
theorem sm_ends_MQ {p : Program} {l : Launch} {e : Env} {R : Room} {s : State} {m : MethodId} {args : Array Value} {below : List Frame} {meth : Method} {c : Code} {D : va_G} {ac : Nat → ClassId} {b scr L : Nat} {xs : Nat → Int32} {K0 D0 M : Nat} {res : sm_R} {h' : sm_H} (hC : sm_Cx p l R s m args meth c D ac b scr L xs M) (hc1 : gN h' + gJ h' - K0 ≤ R.cells) (hc2 : gD h' - D0 ≤ R.slots) :
    sm_Ends p l e R s m args below meth c (sm_MQ below (sm_Qa D sm_cls ac b scr L xs sm_EX res h') s (gN h' + gJ h' - K0) (gD h' - D0) (sm_A b)) D ac b scr L xs K0 D0 M res h' := by
  obtain ⟨hx, hb, hml, hown, hts, hrt, hlk, hfr, hlo, htb, hst, hnm, hE⟩ := hC
  refine ⟨fun v hv H locs lsA pc i hd hr hY hS => ?_, fun k hk H locs lsA pc st h1 i cx lx wd hck hwd hj hwt m1 m3 hsize hY hS => ?_, fun k hk hno pc ls rest H locs lsA q ce hY hS hl hce hcv hcl => ?_⟩
  · have hq : ∀ (w : Option Value), w = v.map (sm_c b scr) → ∀ t : State, t.heap = H → s.WarmedH t.vm → sm_Qa D sm_cls ac b scr L xs sm_EX res h' s (.returned w) t := fun w hw t ht _ => ⟨by rw [ht]; exact hY, hS.F ht, Or.inl ⟨v, hv, by rw [hw]⟩⟩
    rcases hr with ⟨rfl, x, rfl, hr⟩ | ⟨rfl, ⟨x, rfl⟩, hr⟩ | ⟨rfl, hr, hrr⟩ | ⟨rfl, rfl, hr⟩
    · rcases hr with hr | ⟨hr, h01⟩
      · exact sm_ret (W.iret hx hb (hrt.trans hr) (fun t ht hW => hq _ rfl t ht hW) hS.2.2 hd hlk)
      · exact sm_ret (W.zret hx hb (hrt.trans hr) (by rcases h01 with rfl | rfl <;> rfl) (fun t ht hW => hq _ rfl t ht hW) hS.2.2 hd hlk)
    · exact sm_ret (W.lret hx hb (hrt.trans hr) (fun t ht hW => hq _ rfl t ht hW) hS.2.2 hd hlk)
    · obtain ⟨rt, hrt', hrk⟩ : ∃ rt, (sm_mi M).2.2.2.1 = some rt ∧ ((∃ n, rt = .object n) ∨ ∃ t, rt = .array t) := by
        unfold ck_rr at hrr
        split at hrr
        · rename_i n hn; exact ⟨_, hn, Or.inl ⟨_, rfl⟩⟩
        · rename_i n hn; exact ⟨_, hn, Or.inr ⟨_, rfl⟩⟩
        · cases hrr
      rcases hr with ⟨x, rfl⟩ | rfl
      · exact sm_ret (W.aret hx hb (hrt.trans hrt') hrk (Or.inr ⟨_, rfl⟩) (fun t ht hW => hq _ rfl t ht hW) hS.2.2 hd hlk)
      · exact sm_ret (W.aret hx hb (hrt.trans hrt') hrk (Or.inl rfl) (fun t ht hW => hq _ rfl t ht hW) hS.2.2 hd hlk)
    · exact sm_ret (W.vret hx hb (hrt.trans hr) (fun t ht hW => hq _ rfl t ht hW) hS.2.2 hd hlk)
  · subst hj
    unfold ck_thr at hck
    simp only [Bool.and_eq_true, decide_eq_true_eq] at hck
    obtain ⟨⟨⟨⟨⟨⟨⟨⟨⟨⟨⟨c1, c2⟩, c3⟩, c4⟩, c5⟩, c6⟩, c7⟩, c8⟩, c9⟩, c10⟩, c11⟩, c12⟩ := hck
    have hxt := List.all_eq_true.mp sm_xt_all _ c2
    simp only [Bool.and_eq_true, decide_eq_true_eq] at hxt
    obtain ⟨⟨⟨x1, x2⟩, x3⟩, x4⟩ := hxt
    obtain ⟨q, hq1, hq2⟩ := List.any_eq_true.mp c10
    rw [decide_eq_true_eq] at hq2
    have hq3 := of_decide_eq_true (List.all_eq_true.mp sm_tx_all q hq1)
    obtain ⟨sa, hsa⟩ := hE.2.2.2.1 q hq1
    rw [hq2, hq3] at hsa
    have hown' : s.vm.findClass "ShuffleMill" = some m.cls := by rw [c1] at hown; exact hown
    have hlow : ∀ z : Nat, z < s.heap.size → z < b → H[z]? = s.heap[z]? := fun z z1 z2 => hS.2.1 z z1 (Nat.not_le.mpr z2)
    have hwr : ((st.map (sm_c b scr)).map fun v => v.category).sum ≤ 8 := by rw [sm_wt_c]; exact hwt
    have key := sm_throw (p := p) (l := l) (e := e) (R := R) (s := s) (m := m) (args := args) (below := below) (meth := meth) (c := c) (H := H) (locs := locs) (cells := gN h1 + gJ h1 - K0) (slots := gD h1 - D0) (Qa := sm_Qa D sm_cls ac b scr L xs sm_EX res (hjunk h1)) (free := sm_A b) (pc := pc) (lsA := lsA) (own := "ShuffleMill") (cls := sm_EX k) (text := q.2.2) (names := sm_xn) (ik := cx.toNat) (is := i) (ic := lx.getD 0 0) (sa := sa) (b := b) (wd := wd) (rest := st.map (sm_c b scr)) hx hb hst hlk hown' x3 sm_xn_ok
      (by rcases hwd with rfl | rfl
          · exact Or.inl ⟨rfl, ck_d_spec c6⟩
          · exact Or.inr ⟨rfl, ck_d_spec c6⟩)
      (ck_d_spec c4) (ck_d_spec c5) (ck_d_spec c7) (ck_d_spec c8)
      (fun U hU => by
        have hW : s.WarmedH U.vm := by rw [hU]; exact State.WarmedH.refl s
        refine ⟨word_at hW (good_of_word rfl) (hts _ (List.mem_filter.mpr ⟨x1, rfl⟩)), word_at hW (good_of_word rfl) (hts _ (List.mem_filter.mpr ⟨x2, rfl⟩)), fun w hw => ?_⟩
        have h9 := List.all_eq_true.mp x4 w hw
        rw [Bool.and_eq_true, decide_eq_true_eq, Bool.or_eq_true, Bool.and_eq_true] at h9
        rcases h9.2 with h8 | h8
        · exact word_at hW (good_of_word h8) (hts _ (List.mem_filter.mpr ⟨h9.1, h8⟩))
        · exact va_Nw.use h8.2 (va_Nw.same h8.2 hU.symm (hE.2.1 w h9.1 h8.1)))
      hsa (hE.2.2.2.2.2.2.2.2.1.go (Vm.Alike.refl _) hlow) (hE.2.2.2.2.2.2.2.2.2.go (Vm.Alike.refl _) hlow)
      (by rw [htb, c9]; intro x hx9; cases hx9) hsize (by show 2 + 3 < R.frames; omega) (by show _ + (13 * (2 + 1) + 43) ≤ R.locals; omega)
      (by show gN h1 + gJ h1 - K0 + 1 ≤ R.cells; have : gN h1 + (gJ h1 + 1) - K0 ≤ R.cells := hc1; omega) (by show gD h1 - D0 + 6 ≤ R.slots; have : gD h1 + 6 - D0 ≤ R.slots := hc2; omega) hS.2.2
      (fun t q9 ce _ hz hk9 hce hcv hcl => ⟨⟨hY.1, hY.2.1.kept (fun j x hx9 => hk9 x.1 ((hY.2.1 j x hx9).lt)), hY.2.2.1, hY.2.2.2⟩, ⟨Nat.le_trans hS.1 hz, fun z z1 z2 => (hk9 z (Nat.lt_of_lt_of_le z1 hS.1)).trans (hS.2.1 z z1 z2)⟩, Or.inr ⟨k, q9, ce, hk, rfl, hce, hcv, hcl⟩⟩)
    rw [show gN h1 + gJ h1 - K0 + 1 = gN (hjunk h1) + gJ (hjunk h1) - K0 by show _ = gN h1 + (gJ h1 + 1) - K0; omega, show gD h1 - D0 + 6 = gD (hjunk h1) - D0 by show _ = gD h1 + 6 - D0; omega] at key
    exact key
  · exact sm_out (ce := ce) (by rw [htb, hno]; intro x hx9; cases hx9) hlk hS.2.2 (fun t ht hA => ⟨by rw [ht]; exact hY, hS.F ht, Or.inr ⟨k, q, ce, hk, rfl, by rw [ht]; exact hce, hcv, hcl⟩⟩)
