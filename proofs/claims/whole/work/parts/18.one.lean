/-! one step of the pure machine is one of the machine -/
def sm_nc : List (String × String) := [0, 1, 2, 3].flatMap (fun i => ([0, 1, 2, 3].filter (fun j => j != i)).map (fun j => (sm_EX i, sm_EX j)))
/-- what is known in a method's body -/
def sm_Cx (p : Program) (l : Launch) (R : Room) (s : State) (m : MethodId) (args : Array Value) (meth : Method) (c : Code) (D : va_G) (ac : Nat → ClassId) (b scr L : Nat) (xs : Nat → Int32) (M : Nat) : Prop :=
  p.tables.exec = Jvm.exec ∧ c.code = (sm_mi M).2.1 ∧ c.maxLocals = (sm_mi M).2.2.1 ∧ s.vm.findClass (sm_cn.getD (sm_oc.getD M 0) "") = some m.cls ∧ (∀ w ∈ lw_tbl.filter goodWord, w.before args s = true) ∧ meth.sig.returnType = (sm_mi M).2.2.2.1 ∧ meth.locks = false ∧ (sm_mi M).2.2.2.2.2.1 ≤ R.frames ∧ (sm_mi M).2.2.2.2.2.2 ≤ R.locals ∧ c.exceptionTable.toList = tableOf (sm_mi M).2.2.2.2.1 ∧ l.stackTraces = false ∧ meth.name = (sm_mi M).1.name ∧ sm_Env D sm_cls (sm_tys ac) b scr L xs lw_tbl sm_ra sm_tx sm_nc s
def sm_St (M pc : Nat) (ls : sm_L) (st : List Value) (h : sm_H) (pc' : Nat) (ls' : sm_L) (st' : List Value) (h' : sm_H) : Prop :=
  (gN h ≤ gN h' ∧ gJ h ≤ gJ h' ∧ gD h ≤ gD h') ∧ ∀ (p : Program) (l : Launch) (e : Env) (R : Room) (s : State) (m : MethodId) (args : Array Value) (below : List Frame) (meth : Method) (c : Code) (Q : State → Prop) (D : va_G) (ac : Nat → ClassId) (b scr L : Nat) (xs : Nat → Int32) (K0 D0 : Nat), sm_Cx p l R s m args meth c D ac b scr L xs M → (gJ h = 0 → s.heap.size = b + K0) → K0 ≤ gN h + gJ h → D0 ≤ gD h → gN h' + gJ h' - K0 ≤ R.cells → gD h' - D0 ≤ R.slots →
    sm_G p l e R s m args below meth c Q D sm_cls ac b scr L xs (sm_mi M).2.2.1 K0 D0 pc' ls' st' h' → sm_G p l e R s m args below meth c Q D sm_cls ac b scr L xs (sm_mi M).2.2.1 K0 D0 pc ls st h
theorem sm_ld {M pc xa xb : Nat} {f : Fin 4 → Instr} {g : Nat → Instr} (h : (bif xb == 1 then (if hh : xa < 4 then ck_d M pc (f ⟨xa, hh⟩) 1 else false) else decide (xb = 2) && ck_d M pc (g xa) 2) = true) : (∃ j : Fin 4, (j : Nat) = xa ∧ xb = 1 ∧ decode (sm_mi M).2.1 pc = .ok (f j, 1)) ∨ (xb = 2 ∧ decode (sm_mi M).2.1 pc = .ok (g xa, 2)) := by
  by_cases h1 : xb = 1
  · subst h1
    by_cases h2 : xa < 4
    · simp only [BEq.rfl, cond_true, h2, dite_true] at h
      exact Or.inl ⟨⟨xa, h2⟩, rfl, rfl, ck_d_spec h⟩
    · simp [h2] at h
  · have h3 : (xb == 1) = false := by simpa using h1
    rw [h3] at h
    simp only [cond_false, Bool.and_eq_true, decide_eq_true_eq] at h
    exact Or.inr ⟨h.1, ck_d_spec h.2⟩
theorem one_2 {M pc xa xb pc' : Nat} {xc : Int} {xl : List Nat} {ls ls' : sm_L} {st st' : List Value} {h h' : sm_H} (hc : sm_chk M pc (2, xa, xb, xc, xl) = true) (hs : sm_step h pc (2, xa, xb, xc, xl) ls st = some (.inl (pc', ls', st', h'))) : sm_St M pc ls st h pc' ls' st' h' := by
  have hc : (ck_d M pc (.aconst_null) 1) = true := hc
  have hs : (nx (pc + 1) ls (.null :: st) h) = some (.inl (pc', ls', st', h')) := hs
  unfold nx at hs; cases hs
  refine ⟨⟨Nat.le_refl _, Nat.le_refl _, Nat.le_refl _⟩, fun p l e R s m args below meth c Q D ac b scr L xs K0 D0 hC hsz m1 m3 hc1 hc2 k => ?_⟩
  obtain ⟨hx, hb, hml, hown, hts, hrt, hlk, hfr, hlo, htb, hst, hnm, hE⟩ := hC
  exact G_null hx hb (ck_d_spec hc) k
theorem one_44 {M pc xa xb pc' : Nat} {xc : Int} {xl : List Nat} {ls ls' : sm_L} {st st' : List Value} {h h' : sm_H} (hc : sm_chk M pc (44, xa, xb, xc, xl) = true) (hs : sm_step h pc (44, xa, xb, xc, xl) ls st = some (.inl (pc', ls', st', h'))) : sm_St M pc ls st h pc' ls' st' h' := by
  have hc : (ck_d M pc (.goto ((xa : Int) - (pc : Int))) 3) = true := hc
  have hs : (nx xa ls st h) = some (.inl (pc', ls', st', h')) := hs
  unfold nx at hs; cases hs
  refine ⟨⟨Nat.le_refl _, Nat.le_refl _, Nat.le_refl _⟩, fun p l e R s m args below meth c Q D ac b scr L xs K0 D0 hC hsz m1 m3 hc1 hc2 k => ?_⟩
  obtain ⟨hx, hb, hml, hown, hts, hrt, hlk, hfr, hlo, htb, hst, hnm, hE⟩ := hC
  exact G_goto hx hb (ck_d_spec hc) (by omega) k
theorem one_3 {M pc xa xb pc' : Nat} {xc : Int} {xl : List Nat} {ls ls' : sm_L} {st st' : List Value} {h h' : sm_H} (hc : sm_chk M pc (3, xa, xb, xc, xl) = true) (hs : sm_step h pc (3, xa, xb, xc, xl) ls st = some (.inl (pc', ls', st', h'))) : sm_St M pc ls st h pc' ls' st' h' := by
  have hc : ((bif xb == 1 then (if hh : xa < 4 then ck_d M pc (.iload_n ⟨xa, hh⟩) 1 else false) else decide (xb = 2) && ck_d M pc (.iload xa) 2)) = true := hc
  have hs : (match ls[xa]? with
    | some (some (.int x)) => nx (pc + xb) ls (.int x :: st) h
    | _ => none) = some (.inl (pc', ls', st', h')) := hs
  split at hs
  · rename_i x hv
    unfold nx at hs; cases hs
    refine ⟨⟨Nat.le_refl _, Nat.le_refl _, Nat.le_refl _⟩, fun p l e R s m args below meth c Q D ac b scr L xs K0 D0 hC hsz m1 m3 hc1 hc2 k => ?_⟩
    obtain ⟨hx, hb, hml, hown, hts, hrt, hlk, hfr, hlo, htb, hst, hnm, hE⟩ := hC
    exact G_iload hx hb (sm_ld hc) hv k
  · cases hs
theorem one_4 {M pc xa xb pc' : Nat} {xc : Int} {xl : List Nat} {ls ls' : sm_L} {st st' : List Value} {h h' : sm_H} (hc : sm_chk M pc (4, xa, xb, xc, xl) = true) (hs : sm_step h pc (4, xa, xb, xc, xl) ls st = some (.inl (pc', ls', st', h'))) : sm_St M pc ls st h pc' ls' st' h' := by
  have hc : ((bif xb == 1 then (if hh : xa < 4 then ck_d M pc (.lload_n ⟨xa, hh⟩) 1 else false) else decide (xb = 2) && ck_d M pc (.lload xa) 2)) = true := hc
  have hs : (match ls[xa]? with
    | some (some (.long x)) => nx (pc + xb) ls (.long x :: st) h
    | _ => none) = some (.inl (pc', ls', st', h')) := hs
  split at hs
  · rename_i x hv
    unfold nx at hs; cases hs
    refine ⟨⟨Nat.le_refl _, Nat.le_refl _, Nat.le_refl _⟩, fun p l e R s m args below meth c Q D ac b scr L xs K0 D0 hC hsz m1 m3 hc1 hc2 k => ?_⟩
    obtain ⟨hx, hb, hml, hown, hts, hrt, hlk, hfr, hlo, htb, hst, hnm, hE⟩ := hC
    exact G_lload hx hb (sm_ld hc) hv k
  · cases hs
theorem one_5 {M pc xa xb pc' : Nat} {xc : Int} {xl : List Nat} {ls ls' : sm_L} {st st' : List Value} {h h' : sm_H} (hc : sm_chk M pc (5, xa, xb, xc, xl) = true) (hs : sm_step h pc (5, xa, xb, xc, xl) ls st = some (.inl (pc', ls', st', h'))) : sm_St M pc ls st h pc' ls' st' h' := by
  have hc : ((bif xb == 1 then (if hh : xa < 4 then ck_d M pc (.aload_n ⟨xa, hh⟩) 1 else false) else decide (xb = 2) && ck_d M pc (.aload xa) 2)) = true := hc
  have hs : (match ls[xa]? with
    | some (some (.ref x)) => nx (pc + xb) ls (.ref x :: st) h
    | some (some .null) => nx (pc + xb) ls (.null :: st) h
    | _ => none) = some (.inl (pc', ls', st', h')) := hs
  split at hs
  · rename_i x hv
    unfold nx at hs; cases hs
    refine ⟨⟨Nat.le_refl _, Nat.le_refl _, Nat.le_refl _⟩, fun p l e R s m args below meth c Q D ac b scr L xs K0 D0 hC hsz m1 m3 hc1 hc2 k => ?_⟩
    obtain ⟨hx, hb, hml, hown, hts, hrt, hlk, hfr, hlo, htb, hst, hnm, hE⟩ := hC
    exact G_aload hx hb (sm_ld hc) hv k
  · rename_i hv
    unfold nx at hs; cases hs
    refine ⟨⟨Nat.le_refl _, Nat.le_refl _, Nat.le_refl _⟩, fun p l e R s m args below meth c Q D ac b scr L xs K0 D0 hC hsz m1 m3 hc1 hc2 k => ?_⟩
    obtain ⟨hx, hb, hml, hown, hts, hrt, hlk, hfr, hlo, htb, hst, hnm, hE⟩ := hC
    exact G_aloadN hx hb (sm_ld hc) hv k
  · cases hs
theorem one_6 {M pc xa xb pc' : Nat} {xc : Int} {xl : List Nat} {ls ls' : sm_L} {st st' : List Value} {h h' : sm_H} (hc : sm_chk M pc (6, xa, xb, xc, xl) = true) (hs : sm_step h pc (6, xa, xb, xc, xl) ls st = some (.inl (pc', ls', st', h'))) : sm_St M pc ls st h pc' ls' st' h' := by
  have hc : ((bif xb == 1 then (if hh : xa < 4 then ck_d M pc (.istore_n ⟨xa, hh⟩) 1 else false) else decide (xb = 2) && ck_d M pc (.istore xa) 2)) = true := hc
  have hs : (match st with
    | .int x :: r => if xa < ls.length then nx (pc + xb) (sm_st1 ls xa (.int x)) r h else none
    | _ => none) = some (.inl (pc', ls', st', h')) := hs
  split at hs
  · split at hs
    · rename_i hi
      unfold nx at hs; cases hs
      refine ⟨⟨Nat.le_refl _, Nat.le_refl _, Nat.le_refl _⟩, fun p l e R s m args below meth c Q D ac b scr L xs K0 D0 hC hsz m1 m3 hc1 hc2 k => ?_⟩
      obtain ⟨hx, hb, hml, hown, hts, hrt, hlk, hfr, hlo, htb, hst, hnm, hE⟩ := hC
      exact G_istore hx hb (sm_ld hc) hi k
    · cases hs
  · cases hs
theorem one_7 {M pc xa xb pc' : Nat} {xc : Int} {xl : List Nat} {ls ls' : sm_L} {st st' : List Value} {h h' : sm_H} (hc : sm_chk M pc (7, xa, xb, xc, xl) = true) (hs : sm_step h pc (7, xa, xb, xc, xl) ls st = some (.inl (pc', ls', st', h'))) : sm_St M pc ls st h pc' ls' st' h' := by
  have hc : ((bif xb == 1 then (if hh : xa < 4 then ck_d M pc (.lstore_n ⟨xa, hh⟩) 1 else false) else decide (xb = 2) && ck_d M pc (.lstore xa) 2)) = true := hc
  have hs : (match st with
    | .long x :: r => if xa + 1 < ls.length then nx (pc + xb) (sm_st2 ls xa (.long x)) r h else none
    | _ => none) = some (.inl (pc', ls', st', h')) := hs
  split at hs
  · split at hs
    · rename_i hi
      unfold nx at hs; cases hs
      refine ⟨⟨Nat.le_refl _, Nat.le_refl _, Nat.le_refl _⟩, fun p l e R s m args below meth c Q D ac b scr L xs K0 D0 hC hsz m1 m3 hc1 hc2 k => ?_⟩
      obtain ⟨hx, hb, hml, hown, hts, hrt, hlk, hfr, hlo, htb, hst, hnm, hE⟩ := hC
      exact G_lstore hx hb (sm_ld hc) hi k
    · cases hs
  · cases hs
theorem one_8 {M pc xa xb pc' : Nat} {xc : Int} {xl : List Nat} {ls ls' : sm_L} {st st' : List Value} {h h' : sm_H} (hc : sm_chk M pc (8, xa, xb, xc, xl) = true) (hs : sm_step h pc (8, xa, xb, xc, xl) ls st = some (.inl (pc', ls', st', h'))) : sm_St M pc ls st h pc' ls' st' h' := by
  have hc : ((bif xb == 1 then (if hh : xa < 4 then ck_d M pc (.astore_n ⟨xa, hh⟩) 1 else false) else decide (xb = 2) && ck_d M pc (.astore xa) 2)) = true := hc
  have hs : (match st with
    | .ref x :: r => if xa < ls.length then nx (pc + xb) (sm_st1 ls xa (.ref x)) r h else none
    | .null :: r => if xa < ls.length then nx (pc + xb) (sm_st1 ls xa .null) r h else none
    | _ => none) = some (.inl (pc', ls', st', h')) := hs
  split at hs
  · split at hs
    · rename_i hi
      unfold nx at hs; cases hs
      refine ⟨⟨Nat.le_refl _, Nat.le_refl _, Nat.le_refl _⟩, fun p l e R s m args below meth c Q D ac b scr L xs K0 D0 hC hsz m1 m3 hc1 hc2 k => ?_⟩
      obtain ⟨hx, hb, hml, hown, hts, hrt, hlk, hfr, hlo, htb, hst, hnm, hE⟩ := hC
      exact G_astore hx hb (sm_ld hc) hi k
    · cases hs
  · split at hs
    · rename_i hi
      unfold nx at hs; cases hs
      refine ⟨⟨Nat.le_refl _, Nat.le_refl _, Nat.le_refl _⟩, fun p l e R s m args below meth c Q D ac b scr L xs K0 D0 hC hsz m1 m3 hc1 hc2 k => ?_⟩
      obtain ⟨hx, hb, hml, hown, hts, hrt, hlk, hfr, hlo, htb, hst, hnm, hE⟩ := hC
      exact G_astoreN hx hb (sm_ld hc) hi k
    · cases hs
  · cases hs
theorem one_9 {M pc xa xb pc' : Nat} {xc : Int} {xl : List Nat} {ls ls' : sm_L} {st st' : List Value} {h h' : sm_H} (hc : sm_chk M pc (9, xa, xb, xc, xl) = true) (hs : sm_step h pc (9, xa, xb, xc, xl) ls st = some (.inl (pc', ls', st', h'))) : sm_St M pc ls st h pc' ls' st' h' := by
  have hc : (ck_d M pc (.iinc xa xc) 3) = true := hc
  have hs : (match ls[xa]? with
    | some (some (.int x)) => nx (pc + 3) (sm_st1 ls xa (.int (x + Int32.ofInt xc))) st h
    | _ => none) = some (.inl (pc', ls', st', h')) := hs
  split at hs
  · rename_i x hv
    unfold nx at hs; cases hs
    refine ⟨⟨Nat.le_refl _, Nat.le_refl _, Nat.le_refl _⟩, fun p l e R s m args below meth c Q D ac b scr L xs K0 D0 hC hsz m1 m3 hc1 hc2 k => ?_⟩
    obtain ⟨hx, hb, hml, hown, hts, hrt, hlk, hfr, hlo, htb, hst, hnm, hE⟩ := hC
    exact G_iinc hx hb (ck_d_spec hc) hv k
  · cases hs
theorem one_10 {M pc xa xb pc' : Nat} {xc : Int} {xl : List Nat} {ls ls' : sm_L} {st st' : List Value} {h h' : sm_H} (hc : sm_chk M pc (10, xa, xb, xc, xl) = true) (hs : sm_step h pc (10, xa, xb, xc, xl) ls st = some (.inl (pc', ls', st', h'))) : sm_St M pc ls st h pc' ls' st' h' := by
  have hc : (ck_d M pc (.pop) 1) = true := hc
  have hs : (match st with
    | v :: r => if sm_cat1 v then nx (pc + 1) ls r h else none
    | _ => none) = some (.inl (pc', ls', st', h')) := hs
  split at hs
  · split at hs
    · rename_i hi
      unfold nx at hs; cases hs
      refine ⟨⟨Nat.le_refl _, Nat.le_refl _, Nat.le_refl _⟩, fun p l e R s m args below meth c Q D ac b scr L xs K0 D0 hC hsz m1 m3 hc1 hc2 k => ?_⟩
      obtain ⟨hx, hb, hml, hown, hts, hrt, hlk, hfr, hlo, htb, hst, hnm, hE⟩ := hC
      exact G_pop hx hb (ck_d_spec hc) hi k
    · cases hs
  · cases hs
theorem one_11 {M pc xa xb pc' : Nat} {xc : Int} {xl : List Nat} {ls ls' : sm_L} {st st' : List Value} {h h' : sm_H} (hc : sm_chk M pc (11, xa, xb, xc, xl) = true) (hs : sm_step h pc (11, xa, xb, xc, xl) ls st = some (.inl (pc', ls', st', h'))) : sm_St M pc ls st h pc' ls' st' h' := by
  have hc : (ck_d M pc (.dup) 1) = true := hc
  have hs : (match st with
    | v :: r => if sm_cat1 v then nx (pc + 1) ls (v :: v :: r) h else none
    | _ => none) = some (.inl (pc', ls', st', h')) := hs
  split at hs
  · split at hs
    · rename_i hi
      unfold nx at hs; cases hs
      refine ⟨⟨Nat.le_refl _, Nat.le_refl _, Nat.le_refl _⟩, fun p l e R s m args below meth c Q D ac b scr L xs K0 D0 hC hsz m1 m3 hc1 hc2 k => ?_⟩
      obtain ⟨hx, hb, hml, hown, hts, hrt, hlk, hfr, hlo, htb, hst, hnm, hE⟩ := hC
      exact G_dup hx hb (ck_d_spec hc) hi k
    · cases hs
  · cases hs
theorem one_12 {M pc xa xb pc' : Nat} {xc : Int} {xl : List Nat} {ls ls' : sm_L} {st st' : List Value} {h h' : sm_H} (hc : sm_chk M pc (12, xa, xb, xc, xl) = true) (hs : sm_step h pc (12, xa, xb, xc, xl) ls st = some (.inl (pc', ls', st', h'))) : sm_St M pc ls st h pc' ls' st' h' := by
  have hc : (ck_d M pc (.dup2) 1) = true := hc
  have hs : (match st with
    | v :: w :: r => if sm_cat1 v && sm_cat1 w then nx (pc + 1) ls (v :: w :: v :: w :: r) h else none
    | _ => none) = some (.inl (pc', ls', st', h')) := hs
  split at hs
  · split at hs
    · rename_i hi
      rw [Bool.and_eq_true] at hi
      unfold nx at hs; cases hs
      refine ⟨⟨Nat.le_refl _, Nat.le_refl _, Nat.le_refl _⟩, fun p l e R s m args below meth c Q D ac b scr L xs K0 D0 hC hsz m1 m3 hc1 hc2 k => ?_⟩
      obtain ⟨hx, hb, hml, hown, hts, hrt, hlk, hfr, hlo, htb, hst, hnm, hE⟩ := hC
      exact G_dup2 hx hb (ck_d_spec hc) hi.1 hi.2 k
    · cases hs
  · cases hs
theorem one_13 {M pc xa xb pc' : Nat} {xc : Int} {xl : List Nat} {ls ls' : sm_L} {st st' : List Value} {h h' : sm_H} (hc : sm_chk M pc (13, xa, xb, xc, xl) = true) (hs : sm_step h pc (13, xa, xb, xc, xl) ls st = some (.inl (pc', ls', st', h'))) : sm_St M pc ls st h pc' ls' st' h' := by
  have hc : (ck_d M pc (.iadd) 1) = true := hc
  have hs : (sm_bin (fun x y => x + y) pc ls st h) = some (.inl (pc', ls', st', h')) := hs
  unfold sm_bin at hs
  split at hs
  · unfold nx at hs; cases hs
    refine ⟨⟨Nat.le_refl _, Nat.le_refl _, Nat.le_refl _⟩, fun p l e R s m args below meth c Q D ac b scr L xs K0 D0 hC hsz m1 m3 hc1 hc2 k => ?_⟩
    obtain ⟨hx, hb, hml, hown, hts, hrt, hlk, hfr, hlo, htb, hst, hnm, hE⟩ := hC
    exact G_iadd hx hb (ck_d_spec hc) k
  · cases hs
theorem one_14 {M pc xa xb pc' : Nat} {xc : Int} {xl : List Nat} {ls ls' : sm_L} {st st' : List Value} {h h' : sm_H} (hc : sm_chk M pc (14, xa, xb, xc, xl) = true) (hs : sm_step h pc (14, xa, xb, xc, xl) ls st = some (.inl (pc', ls', st', h'))) : sm_St M pc ls st h pc' ls' st' h' := by
  have hc : (ck_d M pc (.isub) 1) = true := hc
  have hs : (sm_bin (fun x y => x - y) pc ls st h) = some (.inl (pc', ls', st', h')) := hs
  unfold sm_bin at hs
  split at hs
  · unfold nx at hs; cases hs
    refine ⟨⟨Nat.le_refl _, Nat.le_refl _, Nat.le_refl _⟩, fun p l e R s m args below meth c Q D ac b scr L xs K0 D0 hC hsz m1 m3 hc1 hc2 k => ?_⟩
    obtain ⟨hx, hb, hml, hown, hts, hrt, hlk, hfr, hlo, htb, hst, hnm, hE⟩ := hC
    exact G_isub hx hb (ck_d_spec hc) k
  · cases hs
theorem one_15 {M pc xa xb pc' : Nat} {xc : Int} {xl : List Nat} {ls ls' : sm_L} {st st' : List Value} {h h' : sm_H} (hc : sm_chk M pc (15, xa, xb, xc, xl) = true) (hs : sm_step h pc (15, xa, xb, xc, xl) ls st = some (.inl (pc', ls', st', h'))) : sm_St M pc ls st h pc' ls' st' h' := by
  have hc : (ck_d M pc (.imul) 1) = true := hc
  have hs : (sm_bin (fun x y => x * y) pc ls st h) = some (.inl (pc', ls', st', h')) := hs
  unfold sm_bin at hs
  split at hs
  · unfold nx at hs; cases hs
    refine ⟨⟨Nat.le_refl _, Nat.le_refl _, Nat.le_refl _⟩, fun p l e R s m args below meth c Q D ac b scr L xs K0 D0 hC hsz m1 m3 hc1 hc2 k => ?_⟩
    obtain ⟨hx, hb, hml, hown, hts, hrt, hlk, hfr, hlo, htb, hst, hnm, hE⟩ := hC
    exact G_imul hx hb (ck_d_spec hc) k
  · cases hs
theorem one_18 {M pc xa xb pc' : Nat} {xc : Int} {xl : List Nat} {ls ls' : sm_L} {st st' : List Value} {h h' : sm_H} (hc : sm_chk M pc (18, xa, xb, xc, xl) = true) (hs : sm_step h pc (18, xa, xb, xc, xl) ls st = some (.inl (pc', ls', st', h'))) : sm_St M pc ls st h pc' ls' st' h' := by
  have hc : (ck_d M pc (.iand) 1) = true := hc
  have hs : (sm_bin (fun x y => x &&& y) pc ls st h) = some (.inl (pc', ls', st', h')) := hs
  unfold sm_bin at hs
  split at hs
  · unfold nx at hs; cases hs
    refine ⟨⟨Nat.le_refl _, Nat.le_refl _, Nat.le_refl _⟩, fun p l e R s m args below meth c Q D ac b scr L xs K0 D0 hC hsz m1 m3 hc1 hc2 k => ?_⟩
    obtain ⟨hx, hb, hml, hown, hts, hrt, hlk, hfr, hlo, htb, hst, hnm, hE⟩ := hC
    exact G_iand hx hb (ck_d_spec hc) k
  · cases hs
theorem one_19 {M pc xa xb pc' : Nat} {xc : Int} {xl : List Nat} {ls ls' : sm_L} {st st' : List Value} {h h' : sm_H} (hc : sm_chk M pc (19, xa, xb, xc, xl) = true) (hs : sm_step h pc (19, xa, xb, xc, xl) ls st = some (.inl (pc', ls', st', h'))) : sm_St M pc ls st h pc' ls' st' h' := by
  have hc : (ck_d M pc (.iushr) 1) = true := hc
  have hs : (sm_bin (fun x y => (x.toUInt32 >>> (y.toUInt32 &&& Int32.toUInt32 31)).toInt32) pc ls st h) = some (.inl (pc', ls', st', h')) := hs
  unfold sm_bin at hs
  split at hs
  · unfold nx at hs; cases hs
    refine ⟨⟨Nat.le_refl _, Nat.le_refl _, Nat.le_refl _⟩, fun p l e R s m args below meth c Q D ac b scr L xs K0 D0 hC hsz m1 m3 hc1 hc2 k => ?_⟩
    obtain ⟨hx, hb, hml, hown, hts, hrt, hlk, hfr, hlo, htb, hst, hnm, hE⟩ := hC
    exact G_iushr hx hb (ck_d_spec hc) k
  · cases hs
theorem one_20 {M pc xa xb pc' : Nat} {xc : Int} {xl : List Nat} {ls ls' : sm_L} {st st' : List Value} {h h' : sm_H} (hc : sm_chk M pc (20, xa, xb, xc, xl) = true) (hs : sm_step h pc (20, xa, xb, xc, xl) ls st = some (.inl (pc', ls', st', h'))) : sm_St M pc ls st h pc' ls' st' h' := by
  have hc : (ck_d M pc (.ladd) 1) = true := hc
  have hs : (sm_bil (fun x y => x + y) pc ls st h) = some (.inl (pc', ls', st', h')) := hs
  unfold sm_bil at hs
  split at hs
  · unfold nx at hs; cases hs
    refine ⟨⟨Nat.le_refl _, Nat.le_refl _, Nat.le_refl _⟩, fun p l e R s m args below meth c Q D ac b scr L xs K0 D0 hC hsz m1 m3 hc1 hc2 k => ?_⟩
    obtain ⟨hx, hb, hml, hown, hts, hrt, hlk, hfr, hlo, htb, hst, hnm, hE⟩ := hC
    exact G_ladd hx hb (ck_d_spec hc) k
  · cases hs
theorem one_21 {M pc xa xb pc' : Nat} {xc : Int} {xl : List Nat} {ls ls' : sm_L} {st st' : List Value} {h h' : sm_H} (hc : sm_chk M pc (21, xa, xb, xc, xl) = true) (hs : sm_step h pc (21, xa, xb, xc, xl) ls st = some (.inl (pc', ls', st', h'))) : sm_St M pc ls st h pc' ls' st' h' := by
  have hc : (ck_d M pc (.lsub) 1) = true := hc
  have hs : (sm_bil (fun x y => x - y) pc ls st h) = some (.inl (pc', ls', st', h')) := hs
  unfold sm_bil at hs
  split at hs
  · unfold nx at hs; cases hs
    refine ⟨⟨Nat.le_refl _, Nat.le_refl _, Nat.le_refl _⟩, fun p l e R s m args below meth c Q D ac b scr L xs K0 D0 hC hsz m1 m3 hc1 hc2 k => ?_⟩
    obtain ⟨hx, hb, hml, hown, hts, hrt, hlk, hfr, hlo, htb, hst, hnm, hE⟩ := hC
    exact G_lsub hx hb (ck_d_spec hc) k
  · cases hs
theorem one_22 {M pc xa xb pc' : Nat} {xc : Int} {xl : List Nat} {ls ls' : sm_L} {st st' : List Value} {h h' : sm_H} (hc : sm_chk M pc (22, xa, xb, xc, xl) = true) (hs : sm_step h pc (22, xa, xb, xc, xl) ls st = some (.inl (pc', ls', st', h'))) : sm_St M pc ls st h pc' ls' st' h' := by
  have hc : (ck_d M pc (.lmul) 1) = true := hc
  have hs : (sm_bil (fun x y => x * y) pc ls st h) = some (.inl (pc', ls', st', h')) := hs
  unfold sm_bil at hs
  split at hs
  · unfold nx at hs; cases hs
    refine ⟨⟨Nat.le_refl _, Nat.le_refl _, Nat.le_refl _⟩, fun p l e R s m args below meth c Q D ac b scr L xs K0 D0 hC hsz m1 m3 hc1 hc2 k => ?_⟩
    obtain ⟨hx, hb, hml, hown, hts, hrt, hlk, hfr, hlo, htb, hst, hnm, hE⟩ := hC
    exact G_lmul hx hb (ck_d_spec hc) k
  · cases hs
theorem one_24 {M pc xa xb pc' : Nat} {xc : Int} {xl : List Nat} {ls ls' : sm_L} {st st' : List Value} {h h' : sm_H} (hc : sm_chk M pc (24, xa, xb, xc, xl) = true) (hs : sm_step h pc (24, xa, xb, xc, xl) ls st = some (.inl (pc', ls', st', h'))) : sm_St M pc ls st h pc' ls' st' h' := by
  have hc : (ck_d M pc (.land) 1) = true := hc
  have hs : (sm_bil (fun x y => x &&& y) pc ls st h) = some (.inl (pc', ls', st', h')) := hs
  unfold sm_bil at hs
  split at hs
  · unfold nx at hs; cases hs
    refine ⟨⟨Nat.le_refl _, Nat.le_refl _, Nat.le_refl _⟩, fun p l e R s m args below meth c Q D ac b scr L xs K0 D0 hC hsz m1 m3 hc1 hc2 k => ?_⟩
    obtain ⟨hx, hb, hml, hown, hts, hrt, hlk, hfr, hlo, htb, hst, hnm, hE⟩ := hC
    exact G_land hx hb (ck_d_spec hc) k
  · cases hs
theorem one_25 {M pc xa xb pc' : Nat} {xc : Int} {xl : List Nat} {ls ls' : sm_L} {st st' : List Value} {h h' : sm_H} (hc : sm_chk M pc (25, xa, xb, xc, xl) = true) (hs : sm_step h pc (25, xa, xb, xc, xl) ls st = some (.inl (pc', ls', st', h'))) : sm_St M pc ls st h pc' ls' st' h' := by
  have hc : (ck_d M pc (.lor) 1) = true := hc
  have hs : (sm_bil (fun x y => x ||| y) pc ls st h) = some (.inl (pc', ls', st', h')) := hs
  unfold sm_bil at hs
  split at hs
  · unfold nx at hs; cases hs
    refine ⟨⟨Nat.le_refl _, Nat.le_refl _, Nat.le_refl _⟩, fun p l e R s m args below meth c Q D ac b scr L xs K0 D0 hC hsz m1 m3 hc1 hc2 k => ?_⟩
    obtain ⟨hx, hb, hml, hown, hts, hrt, hlk, hfr, hlo, htb, hst, hnm, hE⟩ := hC
    exact G_lor hx hb (ck_d_spec hc) k
  · cases hs
theorem one_76 {M pc xa xb pc' : Nat} {xc : Int} {xl : List Nat} {ls ls' : sm_L} {st st' : List Value} {h h' : sm_H} (hc : sm_chk M pc (76, xa, xb, xc, xl) = true) (hs : sm_step h pc (76, xa, xb, xc, xl) ls st = some (.inl (pc', ls', st', h'))) : sm_St M pc ls st h pc' ls' st' h' := by
  have hc : (ck_d M pc (.lxor) 1) = true := hc
  have hs : (sm_bil (fun x y => x ^^^ y) pc ls st h) = some (.inl (pc', ls', st', h')) := hs
  unfold sm_bil at hs
  split at hs
  · unfold nx at hs; cases hs
    refine ⟨⟨Nat.le_refl _, Nat.le_refl _, Nat.le_refl _⟩, fun p l e R s m args below meth c Q D ac b scr L xs K0 D0 hC hsz m1 m3 hc1 hc2 k => ?_⟩
    obtain ⟨hx, hb, hml, hown, hts, hrt, hlk, hfr, hlo, htb, hst, hnm, hE⟩ := hC
    exact G_lxor hx hb (ck_d_spec hc) k
  · cases hs
theorem one_16 {M pc xa xb pc' : Nat} {xc : Int} {xl : List Nat} {ls ls' : sm_L} {st st' : List Value} {h h' : sm_H} (hc : sm_chk M pc (16, xa, xb, xc, xl) = true) (hs : sm_step h pc (16, xa, xb, xc, xl) ls st = some (.inl (pc', ls', st', h'))) : sm_St M pc ls st h pc' ls' st' h' := by
  have hc : (ck_d M pc (.idiv) 1) = true := hc
  have hs : (match st with
    | .int y :: .int x :: r => if y = 0 then none else nx (pc + 1) ls (.int (x / y) :: r) h
    | _ => none) = some (.inl (pc', ls', st', h')) := hs
  split at hs
  · split at hs
    · cases hs
    · rename_i hi
      unfold nx at hs; cases hs
      refine ⟨⟨Nat.le_refl _, Nat.le_refl _, Nat.le_refl _⟩, fun p l e R s m args below meth c Q D ac b scr L xs K0 D0 hC hsz m1 m3 hc1 hc2 k => ?_⟩
      obtain ⟨hx, hb, hml, hown, hts, hrt, hlk, hfr, hlo, htb, hst, hnm, hE⟩ := hC
      exact G_idiv hx hb (ck_d_spec hc) hi k
  · cases hs
theorem one_17 {M pc xa xb pc' : Nat} {xc : Int} {xl : List Nat} {ls ls' : sm_L} {st st' : List Value} {h h' : sm_H} (hc : sm_chk M pc (17, xa, xb, xc, xl) = true) (hs : sm_step h pc (17, xa, xb, xc, xl) ls st = some (.inl (pc', ls', st', h'))) : sm_St M pc ls st h pc' ls' st' h' := by
  have hc : (ck_d M pc (.irem) 1) = true := hc
  have hs : (match st with
    | .int y :: .int x :: r => if y = 0 then none else nx (pc + 1) ls (.int (x - x / y * y) :: r) h
    | _ => none) = some (.inl (pc', ls', st', h')) := hs
  split at hs
  · split at hs
    · cases hs
    · rename_i hi
      unfold nx at hs; cases hs
      refine ⟨⟨Nat.le_refl _, Nat.le_refl _, Nat.le_refl _⟩, fun p l e R s m args below meth c Q D ac b scr L xs K0 D0 hC hsz m1 m3 hc1 hc2 k => ?_⟩
      obtain ⟨hx, hb, hml, hown, hts, hrt, hlk, hfr, hlo, htb, hst, hnm, hE⟩ := hC
      exact G_irem hx hb (ck_d_spec hc) hi k
  · cases hs
theorem one_23 {M pc xa xb pc' : Nat} {xc : Int} {xl : List Nat} {ls ls' : sm_L} {st st' : List Value} {h h' : sm_H} (hc : sm_chk M pc (23, xa, xb, xc, xl) = true) (hs : sm_step h pc (23, xa, xb, xc, xl) ls st = some (.inl (pc', ls', st', h'))) : sm_St M pc ls st h pc' ls' st' h' := by
  have hc : (ck_d M pc (.ldiv) 1) = true := hc
  have hs : (match st with
    | .long y :: .long x :: r => if y = 0 then none else nx (pc + 1) ls (.long (x / y) :: r) h
    | _ => none) = some (.inl (pc', ls', st', h')) := hs
  split at hs
  · split at hs
    · cases hs
    · rename_i hi
      unfold nx at hs; cases hs
      refine ⟨⟨Nat.le_refl _, Nat.le_refl _, Nat.le_refl _⟩, fun p l e R s m args below meth c Q D ac b scr L xs K0 D0 hC hsz m1 m3 hc1 hc2 k => ?_⟩
      obtain ⟨hx, hb, hml, hown, hts, hrt, hlk, hfr, hlo, htb, hst, hnm, hE⟩ := hC
      exact G_ldiv hx hb (ck_d_spec hc) hi k
  · cases hs
theorem one_75 {M pc xa xb pc' : Nat} {xc : Int} {xl : List Nat} {ls ls' : sm_L} {st st' : List Value} {h h' : sm_H} (hc : sm_chk M pc (75, xa, xb, xc, xl) = true) (hs : sm_step h pc (75, xa, xb, xc, xl) ls st = some (.inl (pc', ls', st', h'))) : sm_St M pc ls st h pc' ls' st' h' := by
  have hc : (ck_d M pc (.lrem) 1) = true := hc
  have hs : (match st with
    | .long y :: .long x :: r => if y = 0 then none else nx (pc + 1) ls (.long (x - x / y * y) :: r) h
    | _ => none) = some (.inl (pc', ls', st', h')) := hs
  split at hs
  · split at hs
    · cases hs
    · rename_i hi
      unfold nx at hs; cases hs
      refine ⟨⟨Nat.le_refl _, Nat.le_refl _, Nat.le_refl _⟩, fun p l e R s m args below meth c Q D ac b scr L xs K0 D0 hC hsz m1 m3 hc1 hc2 k => ?_⟩
      obtain ⟨hx, hb, hml, hown, hts, hrt, hlk, hfr, hlo, htb, hst, hnm, hE⟩ := hC
      exact G_lrem hx hb (ck_d_spec hc) hi k
  · cases hs
theorem one_26 {M pc xa xb pc' : Nat} {xc : Int} {xl : List Nat} {ls ls' : sm_L} {st st' : List Value} {h h' : sm_H} (hc : sm_chk M pc (26, xa, xb, xc, xl) = true) (hs : sm_step h pc (26, xa, xb, xc, xl) ls st = some (.inl (pc', ls', st', h'))) : sm_St M pc ls st h pc' ls' st' h' := by
  have hc : (ck_d M pc (.lshl) 1) = true := hc
  have hs : (match st with
    | .int y :: .long x :: r => nx (pc + 1) ls (.long (x <<< (y.toInt64 &&& 63)) :: r) h
    | _ => none) = some (.inl (pc', ls', st', h')) := hs
  split at hs
  · unfold nx at hs; cases hs
    refine ⟨⟨Nat.le_refl _, Nat.le_refl _, Nat.le_refl _⟩, fun p l e R s m args below meth c Q D ac b scr L xs K0 D0 hC hsz m1 m3 hc1 hc2 k => ?_⟩
    obtain ⟨hx, hb, hml, hown, hts, hrt, hlk, hfr, hlo, htb, hst, hnm, hE⟩ := hC
    exact G_lshl hx hb (ck_d_spec hc) k
  · cases hs
theorem one_27 {M pc xa xb pc' : Nat} {xc : Int} {xl : List Nat} {ls ls' : sm_L} {st st' : List Value} {h h' : sm_H} (hc : sm_chk M pc (27, xa, xb, xc, xl) = true) (hs : sm_step h pc (27, xa, xb, xc, xl) ls st = some (.inl (pc', ls', st', h'))) : sm_St M pc ls st h pc' ls' st' h' := by
  have hc : (ck_d M pc (.lcmp) 1) = true := hc
  have hs : (match st with
    | .long y :: .long x :: r => nx (pc + 1) ls (.int (lg_cmp x y) :: r) h
    | _ => none) = some (.inl (pc', ls', st', h')) := hs
  split at hs
  · unfold nx at hs; cases hs
    refine ⟨⟨Nat.le_refl _, Nat.le_refl _, Nat.le_refl _⟩, fun p l e R s m args below meth c Q D ac b scr L xs K0 D0 hC hsz m1 m3 hc1 hc2 k => ?_⟩
    obtain ⟨hx, hb, hml, hown, hts, hrt, hlk, hfr, hlo, htb, hst, hnm, hE⟩ := hC
    exact G_lcmp hx hb (ck_d_spec hc) k
  · cases hs
theorem one_28 {M pc xa xb pc' : Nat} {xc : Int} {xl : List Nat} {ls ls' : sm_L} {st st' : List Value} {h h' : sm_H} (hc : sm_chk M pc (28, xa, xb, xc, xl) = true) (hs : sm_step h pc (28, xa, xb, xc, xl) ls st = some (.inl (pc', ls', st', h'))) : sm_St M pc ls st h pc' ls' st' h' := by
  have hc : (ck_d M pc (.i2l) 1) = true := hc
  have hs : (match st with
    | .int x :: r => nx (pc + 1) ls (.long x.toInt64 :: r) h
    | _ => none) = some (.inl (pc', ls', st', h')) := hs
  split at hs
  · unfold nx at hs; cases hs
    refine ⟨⟨Nat.le_refl _, Nat.le_refl _, Nat.le_refl _⟩, fun p l e R s m args below meth c Q D ac b scr L xs K0 D0 hC hsz m1 m3 hc1 hc2 k => ?_⟩
    obtain ⟨hx, hb, hml, hown, hts, hrt, hlk, hfr, hlo, htb, hst, hnm, hE⟩ := hC
    exact G_i2l hx hb (ck_d_spec hc) k
  · cases hs
theorem one_29 {M pc xa xb pc' : Nat} {xc : Int} {xl : List Nat} {ls ls' : sm_L} {st st' : List Value} {h h' : sm_H} (hc : sm_chk M pc (29, xa, xb, xc, xl) = true) (hs : sm_step h pc (29, xa, xb, xc, xl) ls st = some (.inl (pc', ls', st', h'))) : sm_St M pc ls st h pc' ls' st' h' := by
  have hc : (ck_d M pc (.l2i) 1) = true := hc
  have hs : (match st with
    | .long x :: r => nx (pc + 1) ls (.int x.toInt32 :: r) h
    | _ => none) = some (.inl (pc', ls', st', h')) := hs
  split at hs
  · unfold nx at hs; cases hs
    refine ⟨⟨Nat.le_refl _, Nat.le_refl _, Nat.le_refl _⟩, fun p l e R s m args below meth c Q D ac b scr L xs K0 D0 hC hsz m1 m3 hc1 hc2 k => ?_⟩
    obtain ⟨hx, hb, hml, hown, hts, hrt, hlk, hfr, hlo, htb, hst, hnm, hE⟩ := hC
    exact G_l2i hx hb (ck_d_spec hc) k
  · cases hs
theorem one_30 {M pc xa xb pc' : Nat} {xc : Int} {xl : List Nat} {ls ls' : sm_L} {st st' : List Value} {h h' : sm_H} (hc : sm_chk M pc (30, xa, xb, xc, xl) = true) (hs : sm_step h pc (30, xa, xb, xc, xl) ls st = some (.inl (pc', ls', st', h'))) : sm_St M pc ls st h pc' ls' st' h' := by
  have hc : (ck_d M pc (.ifCond .eq ((xa : Int) - (pc : Int))) 3) = true := hc
  have hs : (sm_if (fun x => decide (x = 0)) xa pc ls st h) = some (.inl (pc', ls', st', h')) := hs
  unfold sm_if at hs
  split at hs
  · unfold nx at hs; cases hs
    refine ⟨⟨Nat.le_refl _, Nat.le_refl _, Nat.le_refl _⟩, fun p l e R s m args below meth c Q D ac b scr L xs K0 D0 hC hsz m1 m3 hc1 hc2 k => ?_⟩
    obtain ⟨hx, hb, hml, hown, hts, hrt, hlk, hfr, hlo, htb, hst, hnm, hE⟩ := hC
    exact G_if_eq hx hb (ck_d_spec hc) (by omega) k
  · cases hs
theorem one_36 {M pc xa xb pc' : Nat} {xc : Int} {xl : List Nat} {ls ls' : sm_L} {st st' : List Value} {h h' : sm_H} (hc : sm_chk M pc (36, xa, xb, xc, xl) = true) (hs : sm_step h pc (36, xa, xb, xc, xl) ls st = some (.inl (pc', ls', st', h'))) : sm_St M pc ls st h pc' ls' st' h' := by
  have hc : (ck_d M pc (.if_icmp .eq ((xa : Int) - (pc : Int))) 3) = true := hc
  have hs : (sm_ic (fun x y => decide (x = y)) xa pc ls st h) = some (.inl (pc', ls', st', h')) := hs
  unfold sm_ic at hs
  split at hs
  · unfold nx at hs; cases hs
    refine ⟨⟨Nat.le_refl _, Nat.le_refl _, Nat.le_refl _⟩, fun p l e R s m args below meth c Q D ac b scr L xs K0 D0 hC hsz m1 m3 hc1 hc2 k => ?_⟩
    obtain ⟨hx, hb, hml, hown, hts, hrt, hlk, hfr, hlo, htb, hst, hnm, hE⟩ := hC
    exact G_ic_eq hx hb (ck_d_spec hc) (by omega) k
  · cases hs
theorem one_31 {M pc xa xb pc' : Nat} {xc : Int} {xl : List Nat} {ls ls' : sm_L} {st st' : List Value} {h h' : sm_H} (hc : sm_chk M pc (31, xa, xb, xc, xl) = true) (hs : sm_step h pc (31, xa, xb, xc, xl) ls st = some (.inl (pc', ls', st', h'))) : sm_St M pc ls st h pc' ls' st' h' := by
  have hc : (ck_d M pc (.ifCond .ne ((xa : Int) - (pc : Int))) 3) = true := hc
  have hs : (sm_if (fun x => !decide (x = 0)) xa pc ls st h) = some (.inl (pc', ls', st', h')) := hs
  unfold sm_if at hs
  split at hs
  · unfold nx at hs; cases hs
    refine ⟨⟨Nat.le_refl _, Nat.le_refl _, Nat.le_refl _⟩, fun p l e R s m args below meth c Q D ac b scr L xs K0 D0 hC hsz m1 m3 hc1 hc2 k => ?_⟩
    obtain ⟨hx, hb, hml, hown, hts, hrt, hlk, hfr, hlo, htb, hst, hnm, hE⟩ := hC
    exact G_if_ne hx hb (ck_d_spec hc) (by omega) k
  · cases hs
theorem one_37 {M pc xa xb pc' : Nat} {xc : Int} {xl : List Nat} {ls ls' : sm_L} {st st' : List Value} {h h' : sm_H} (hc : sm_chk M pc (37, xa, xb, xc, xl) = true) (hs : sm_step h pc (37, xa, xb, xc, xl) ls st = some (.inl (pc', ls', st', h'))) : sm_St M pc ls st h pc' ls' st' h' := by
  have hc : (ck_d M pc (.if_icmp .ne ((xa : Int) - (pc : Int))) 3) = true := hc
  have hs : (sm_ic (fun x y => !decide (x = y)) xa pc ls st h) = some (.inl (pc', ls', st', h')) := hs
  unfold sm_ic at hs
  split at hs
  · unfold nx at hs; cases hs
    refine ⟨⟨Nat.le_refl _, Nat.le_refl _, Nat.le_refl _⟩, fun p l e R s m args below meth c Q D ac b scr L xs K0 D0 hC hsz m1 m3 hc1 hc2 k => ?_⟩
    obtain ⟨hx, hb, hml, hown, hts, hrt, hlk, hfr, hlo, htb, hst, hnm, hE⟩ := hC
    exact G_ic_ne hx hb (ck_d_spec hc) (by omega) k
  · cases hs
theorem one_32 {M pc xa xb pc' : Nat} {xc : Int} {xl : List Nat} {ls ls' : sm_L} {st st' : List Value} {h h' : sm_H} (hc : sm_chk M pc (32, xa, xb, xc, xl) = true) (hs : sm_step h pc (32, xa, xb, xc, xl) ls st = some (.inl (pc', ls', st', h'))) : sm_St M pc ls st h pc' ls' st' h' := by
  have hc : (ck_d M pc (.ifCond .lt ((xa : Int) - (pc : Int))) 3) = true := hc
  have hs : (sm_if (fun x => decide (x < 0)) xa pc ls st h) = some (.inl (pc', ls', st', h')) := hs
  unfold sm_if at hs
  split at hs
  · unfold nx at hs; cases hs
    refine ⟨⟨Nat.le_refl _, Nat.le_refl _, Nat.le_refl _⟩, fun p l e R s m args below meth c Q D ac b scr L xs K0 D0 hC hsz m1 m3 hc1 hc2 k => ?_⟩
    obtain ⟨hx, hb, hml, hown, hts, hrt, hlk, hfr, hlo, htb, hst, hnm, hE⟩ := hC
    exact G_if_lt hx hb (ck_d_spec hc) (by omega) k
  · cases hs
theorem one_38 {M pc xa xb pc' : Nat} {xc : Int} {xl : List Nat} {ls ls' : sm_L} {st st' : List Value} {h h' : sm_H} (hc : sm_chk M pc (38, xa, xb, xc, xl) = true) (hs : sm_step h pc (38, xa, xb, xc, xl) ls st = some (.inl (pc', ls', st', h'))) : sm_St M pc ls st h pc' ls' st' h' := by
  have hc : (ck_d M pc (.if_icmp .lt ((xa : Int) - (pc : Int))) 3) = true := hc
  have hs : (sm_ic (fun x y => decide (x < y)) xa pc ls st h) = some (.inl (pc', ls', st', h')) := hs
  unfold sm_ic at hs
  split at hs
  · unfold nx at hs; cases hs
    refine ⟨⟨Nat.le_refl _, Nat.le_refl _, Nat.le_refl _⟩, fun p l e R s m args below meth c Q D ac b scr L xs K0 D0 hC hsz m1 m3 hc1 hc2 k => ?_⟩
    obtain ⟨hx, hb, hml, hown, hts, hrt, hlk, hfr, hlo, htb, hst, hnm, hE⟩ := hC
    exact G_ic_lt hx hb (ck_d_spec hc) (by omega) k
  · cases hs
theorem one_33 {M pc xa xb pc' : Nat} {xc : Int} {xl : List Nat} {ls ls' : sm_L} {st st' : List Value} {h h' : sm_H} (hc : sm_chk M pc (33, xa, xb, xc, xl) = true) (hs : sm_step h pc (33, xa, xb, xc, xl) ls st = some (.inl (pc', ls', st', h'))) : sm_St M pc ls st h pc' ls' st' h' := by
  have hc : (ck_d M pc (.ifCond .ge ((xa : Int) - (pc : Int))) 3) = true := hc
  have hs : (sm_if (fun x => decide (0 ≤ x)) xa pc ls st h) = some (.inl (pc', ls', st', h')) := hs
  unfold sm_if at hs
  split at hs
  · unfold nx at hs; cases hs
    refine ⟨⟨Nat.le_refl _, Nat.le_refl _, Nat.le_refl _⟩, fun p l e R s m args below meth c Q D ac b scr L xs K0 D0 hC hsz m1 m3 hc1 hc2 k => ?_⟩
    obtain ⟨hx, hb, hml, hown, hts, hrt, hlk, hfr, hlo, htb, hst, hnm, hE⟩ := hC
    exact G_if_ge hx hb (ck_d_spec hc) (by omega) k
  · cases hs
theorem one_39 {M pc xa xb pc' : Nat} {xc : Int} {xl : List Nat} {ls ls' : sm_L} {st st' : List Value} {h h' : sm_H} (hc : sm_chk M pc (39, xa, xb, xc, xl) = true) (hs : sm_step h pc (39, xa, xb, xc, xl) ls st = some (.inl (pc', ls', st', h'))) : sm_St M pc ls st h pc' ls' st' h' := by
  have hc : (ck_d M pc (.if_icmp .ge ((xa : Int) - (pc : Int))) 3) = true := hc
  have hs : (sm_ic (fun x y => decide (y ≤ x)) xa pc ls st h) = some (.inl (pc', ls', st', h')) := hs
  unfold sm_ic at hs
  split at hs
  · unfold nx at hs; cases hs
    refine ⟨⟨Nat.le_refl _, Nat.le_refl _, Nat.le_refl _⟩, fun p l e R s m args below meth c Q D ac b scr L xs K0 D0 hC hsz m1 m3 hc1 hc2 k => ?_⟩
    obtain ⟨hx, hb, hml, hown, hts, hrt, hlk, hfr, hlo, htb, hst, hnm, hE⟩ := hC
    exact G_ic_ge hx hb (ck_d_spec hc) (by omega) k
  · cases hs
theorem one_34 {M pc xa xb pc' : Nat} {xc : Int} {xl : List Nat} {ls ls' : sm_L} {st st' : List Value} {h h' : sm_H} (hc : sm_chk M pc (34, xa, xb, xc, xl) = true) (hs : sm_step h pc (34, xa, xb, xc, xl) ls st = some (.inl (pc', ls', st', h'))) : sm_St M pc ls st h pc' ls' st' h' := by
  have hc : (ck_d M pc (.ifCond .gt ((xa : Int) - (pc : Int))) 3) = true := hc
  have hs : (sm_if (fun x => decide (0 < x)) xa pc ls st h) = some (.inl (pc', ls', st', h')) := hs
  unfold sm_if at hs
  split at hs
  · unfold nx at hs; cases hs
    refine ⟨⟨Nat.le_refl _, Nat.le_refl _, Nat.le_refl _⟩, fun p l e R s m args below meth c Q D ac b scr L xs K0 D0 hC hsz m1 m3 hc1 hc2 k => ?_⟩
    obtain ⟨hx, hb, hml, hown, hts, hrt, hlk, hfr, hlo, htb, hst, hnm, hE⟩ := hC
    exact G_if_gt hx hb (ck_d_spec hc) (by omega) k
  · cases hs
theorem one_40 {M pc xa xb pc' : Nat} {xc : Int} {xl : List Nat} {ls ls' : sm_L} {st st' : List Value} {h h' : sm_H} (hc : sm_chk M pc (40, xa, xb, xc, xl) = true) (hs : sm_step h pc (40, xa, xb, xc, xl) ls st = some (.inl (pc', ls', st', h'))) : sm_St M pc ls st h pc' ls' st' h' := by
  have hc : (ck_d M pc (.if_icmp .gt ((xa : Int) - (pc : Int))) 3) = true := hc
  have hs : (sm_ic (fun x y => decide (y < x)) xa pc ls st h) = some (.inl (pc', ls', st', h')) := hs
  unfold sm_ic at hs
  split at hs
  · unfold nx at hs; cases hs
    refine ⟨⟨Nat.le_refl _, Nat.le_refl _, Nat.le_refl _⟩, fun p l e R s m args below meth c Q D ac b scr L xs K0 D0 hC hsz m1 m3 hc1 hc2 k => ?_⟩
    obtain ⟨hx, hb, hml, hown, hts, hrt, hlk, hfr, hlo, htb, hst, hnm, hE⟩ := hC
    exact G_ic_gt hx hb (ck_d_spec hc) (by omega) k
  · cases hs
theorem one_35 {M pc xa xb pc' : Nat} {xc : Int} {xl : List Nat} {ls ls' : sm_L} {st st' : List Value} {h h' : sm_H} (hc : sm_chk M pc (35, xa, xb, xc, xl) = true) (hs : sm_step h pc (35, xa, xb, xc, xl) ls st = some (.inl (pc', ls', st', h'))) : sm_St M pc ls st h pc' ls' st' h' := by
  have hc : (ck_d M pc (.ifCond .le ((xa : Int) - (pc : Int))) 3) = true := hc
  have hs : (sm_if (fun x => decide (x ≤ 0)) xa pc ls st h) = some (.inl (pc', ls', st', h')) := hs
  unfold sm_if at hs
  split at hs
  · unfold nx at hs; cases hs
    refine ⟨⟨Nat.le_refl _, Nat.le_refl _, Nat.le_refl _⟩, fun p l e R s m args below meth c Q D ac b scr L xs K0 D0 hC hsz m1 m3 hc1 hc2 k => ?_⟩
    obtain ⟨hx, hb, hml, hown, hts, hrt, hlk, hfr, hlo, htb, hst, hnm, hE⟩ := hC
    exact G_if_le hx hb (ck_d_spec hc) (by omega) k
  · cases hs
theorem one_41 {M pc xa xb pc' : Nat} {xc : Int} {xl : List Nat} {ls ls' : sm_L} {st st' : List Value} {h h' : sm_H} (hc : sm_chk M pc (41, xa, xb, xc, xl) = true) (hs : sm_step h pc (41, xa, xb, xc, xl) ls st = some (.inl (pc', ls', st', h'))) : sm_St M pc ls st h pc' ls' st' h' := by
  have hc : (ck_d M pc (.if_icmp .le ((xa : Int) - (pc : Int))) 3) = true := hc
  have hs : (sm_ic (fun x y => decide (x ≤ y)) xa pc ls st h) = some (.inl (pc', ls', st', h')) := hs
  unfold sm_ic at hs
  split at hs
  · unfold nx at hs; cases hs
    refine ⟨⟨Nat.le_refl _, Nat.le_refl _, Nat.le_refl _⟩, fun p l e R s m args below meth c Q D ac b scr L xs K0 D0 hC hsz m1 m3 hc1 hc2 k => ?_⟩
    obtain ⟨hx, hb, hml, hown, hts, hrt, hlk, hfr, hlo, htb, hst, hnm, hE⟩ := hC
    exact G_ic_le hx hb (ck_d_spec hc) (by omega) k
  · cases hs
theorem one_42 {M pc xa xb pc' : Nat} {xc : Int} {xl : List Nat} {ls ls' : sm_L} {st st' : List Value} {h h' : sm_H} (hc : sm_chk M pc (42, xa, xb, xc, xl) = true) (hs : sm_step h pc (42, xa, xb, xc, xl) ls st = some (.inl (pc', ls', st', h'))) : sm_St M pc ls st h pc' ls' st' h' := by
  have hc : (ck_d M pc (.ifnull ((xa : Int) - (pc : Int))) 3) = true := hc
  have hs : (match st with
    | .null :: r => nx xa ls r h
    | .ref _ :: r => nx (pc + 3) ls r h
    | _ => none) = some (.inl (pc', ls', st', h')) := hs
  split at hs
  · unfold nx at hs; cases hs
    refine ⟨⟨Nat.le_refl _, Nat.le_refl _, Nat.le_refl _⟩, fun p l e R s m args below meth c Q D ac b scr L xs K0 D0 hC hsz m1 m3 hc1 hc2 k => ?_⟩
    obtain ⟨hx, hb, hml, hown, hts, hrt, hlk, hfr, hlo, htb, hst, hnm, hE⟩ := hC
    exact G_ifnullN hx hb (ck_d_spec hc) (by omega) k
  · unfold nx at hs; cases hs
    refine ⟨⟨Nat.le_refl _, Nat.le_refl _, Nat.le_refl _⟩, fun p l e R s m args below meth c Q D ac b scr L xs K0 D0 hC hsz m1 m3 hc1 hc2 k => ?_⟩
    obtain ⟨hx, hb, hml, hown, hts, hrt, hlk, hfr, hlo, htb, hst, hnm, hE⟩ := hC
    exact G_ifnull hx hb (ck_d_spec hc) k
  · cases hs
theorem one_43 {M pc xa xb pc' : Nat} {xc : Int} {xl : List Nat} {ls ls' : sm_L} {st st' : List Value} {h h' : sm_H} (hc : sm_chk M pc (43, xa, xb, xc, xl) = true) (hs : sm_step h pc (43, xa, xb, xc, xl) ls st = some (.inl (pc', ls', st', h'))) : sm_St M pc ls st h pc' ls' st' h' := by
  have hc : (ck_d M pc (.ifnonnull ((xa : Int) - (pc : Int))) 3) = true := hc
  have hs : (match st with
    | .null :: r => nx (pc + 3) ls r h
    | .ref _ :: r => nx xa ls r h
    | _ => none) = some (.inl (pc', ls', st', h')) := hs
  split at hs
  · unfold nx at hs; cases hs
    refine ⟨⟨Nat.le_refl _, Nat.le_refl _, Nat.le_refl _⟩, fun p l e R s m args below meth c Q D ac b scr L xs K0 D0 hC hsz m1 m3 hc1 hc2 k => ?_⟩
    obtain ⟨hx, hb, hml, hown, hts, hrt, hlk, hfr, hlo, htb, hst, hnm, hE⟩ := hC
    exact G_ifnonnullN hx hb (ck_d_spec hc) k
  · unfold nx at hs; cases hs
    refine ⟨⟨Nat.le_refl _, Nat.le_refl _, Nat.le_refl _⟩, fun p l e R s m args below meth c Q D ac b scr L xs K0 D0 hC hsz m1 m3 hc1 hc2 k => ?_⟩
    obtain ⟨hx, hb, hml, hown, hts, hrt, hlk, hfr, hlo, htb, hst, hnm, hE⟩ := hC
    exact G_ifnonnull hx hb (ck_d_spec hc) (by omega) k
  · cases hs
theorem one_45 {M pc xa xb pc' : Nat} {xc : Int} {xl : List Nat} {ls ls' : sm_L} {st st' : List Value} {h h' : sm_H} (hc : sm_chk M pc (45, xa, xb, xc, xl) = true) (hs : sm_step h pc (45, xa, xb, xc, xl) ls st = some (.inl (pc', ls', st', h'))) : sm_St M pc ls st h pc' ls' st' h' := by
  have hc : (decide (decode (sm_mi M).2.1 pc = .ok (.tableswitch ((xa : Int) - (pc : Int)) xc (xc + (xl.length : Int) - 1) (xl.map (fun (n : Nat) => (n : Int) - (pc : Int))).toArray, xb))) = true := hc
  have hs : (match st with
    | .int x :: r => nx (sm_sw xc xl xa x) ls r h
    | _ => none) = some (.inl (pc', ls', st', h')) := hs
  split at hs
  · unfold nx at hs; cases hs
    refine ⟨⟨Nat.le_refl _, Nat.le_refl _, Nat.le_refl _⟩, fun p l e R s m args below meth c Q D ac b scr L xs K0 D0 hC hsz m1 m3 hc1 hc2 k => ?_⟩
    obtain ⟨hx, hb, hml, hown, hts, hrt, hlk, hfr, hlo, htb, hst, hnm, hE⟩ := hC
    refine G_switch hx hb (decide_eq_true_eq.mp hc) rfl (by omega) ?_ k
    rw [List.toList_toArray, List.map_map]
    apply List.map_congr_left
    intro n _
    show (pc : Int) + ((n : Int) - (pc : Int)) = n
    omega
  · cases hs
theorem one_58 {M pc xa xb pc' : Nat} {xc : Int} {xl : List Nat} {ls ls' : sm_L} {st st' : List Value} {h h' : sm_H} (hc : sm_chk M pc (58, xa, xb, xc, xl) = true) (hs : sm_step h pc (58, xa, xb, xc, xl) ls st = some (.inl (pc', ls', st', h'))) : sm_St M pc ls st h pc' ls' st' h' := by
  have hc : (ck_d M pc (.laload) 1) = true := hc
  have hs : (match st with
    | .int i :: .ref q :: r => if sm_at h q 1 && sm_in i (gS h q).2 then nx (pc + 1) ls (.long (gL h q i.toNatClampNeg) :: r) h else none
    | _ => none) = some (.inl (pc', ls', st', h')) := hs
  split at hs
  · split at hs
    · rename_i hi
      rw [Bool.and_eq_true] at hi
      unfold nx at hs; cases hs
      refine ⟨⟨Nat.le_refl _, Nat.le_refl _, Nat.le_refl _⟩, fun p l e R s m args below meth c Q D ac b scr L xs K0 D0 hC hsz m1 m3 hc1 hc2 k => ?_⟩
      obtain ⟨hx, hb, hml, hown, hts, hrt, hlk, hfr, hlo, htb, hst, hnm, hE⟩ := hC
      exact G_lald hx hb hE.1 (tys := sm_tys ac) rfl (ck_d_spec hc) hi.1 hi.2 k
    · cases hs
  · cases hs
theorem one_60 {M pc xa xb pc' : Nat} {xc : Int} {xl : List Nat} {ls ls' : sm_L} {st st' : List Value} {h h' : sm_H} (hc : sm_chk M pc (60, xa, xb, xc, xl) = true) (hs : sm_step h pc (60, xa, xb, xc, xl) ls st = some (.inl (pc', ls', st', h'))) : sm_St M pc ls st h pc' ls' st' h' := by
  have hc : (ck_d M pc (.baload) 1) = true := hc
  have hs : (match st with
    | .int i :: .ref q :: r => if sm_at h q 2 && sm_in i (gS h q).2 then nx (pc + 1) ls (.int (gI h q i.toNatClampNeg) :: r) h else none
    | _ => none) = some (.inl (pc', ls', st', h')) := hs
  split at hs
  · split at hs
    · rename_i hi
      rw [Bool.and_eq_true] at hi
      unfold nx at hs; cases hs
      refine ⟨⟨Nat.le_refl _, Nat.le_refl _, Nat.le_refl _⟩, fun p l e R s m args below meth c Q D ac b scr L xs K0 D0 hC hsz m1 m3 hc1 hc2 k => ?_⟩
      obtain ⟨hx, hb, hml, hown, hts, hrt, hlk, hfr, hlo, htb, hst, hnm, hE⟩ := hC
      exact G_zald hx hb hE.1 (tys := sm_tys ac) rfl (ck_d_spec hc) hi.1 hi.2 k
    · cases hs
  · cases hs
theorem one_57 {M pc xa xb pc' : Nat} {xc : Int} {xl : List Nat} {ls ls' : sm_L} {st st' : List Value} {h h' : sm_H} (hc : sm_chk M pc (57, xa, xb, xc, xl) = true) (hs : sm_step h pc (57, xa, xb, xc, xl) ls st = some (.inl (pc', ls', st', h'))) : sm_St M pc ls st h pc' ls' st' h' := by
  have hc : (ck_d M pc (.iaload) 1) = true := hc
  have hs : (match st with
    | .int i :: .ref q :: r => if (sm_at h q 0 || decide (q = sm_S)) && sm_in i (gS h q).2 then nx (pc + 1) ls (.int (gI h q i.toNatClampNeg) :: r) h else none
    | _ => none) = some (.inl (pc', ls', st', h')) := hs
  split at hs
  · split at hs
    · rename_i hi
      rw [Bool.and_eq_true, Bool.or_eq_true] at hi
      unfold nx at hs; cases hs
      refine ⟨⟨Nat.le_refl _, Nat.le_refl _, Nat.le_refl _⟩, fun p l e R s m args below meth c Q D ac b scr L xs K0 D0 hC hsz m1 m3 hc1 hc2 k => ?_⟩
      obtain ⟨hx, hb, hml, hown, hts, hrt, hlk, hfr, hlo, htb, hst, hnm, hE⟩ := hC
      rcases hi.1 with hq | hq
      · exact G_iald hx hb hE.1 (tys := sm_tys ac) rfl (ck_d_spec hc) hq hi.2 k
      · have hq := of_decide_eq_true hq
        subst hq
        exact G_sald hx hb ⟨hE.2.2.2.2.2.2.1, hE.2.2.2.2.2.2.2.1⟩ hE.2.2.2.2.2.1 (ck_d_spec hc) hi.2 k
    · cases hs
  · cases hs
theorem one_59 {M pc xa xb pc' : Nat} {xc : Int} {xl : List Nat} {ls ls' : sm_L} {st st' : List Value} {h h' : sm_H} (hc : sm_chk M pc (59, xa, xb, xc, xl) = true) (hs : sm_step h pc (59, xa, xb, xc, xl) ls st = some (.inl (pc', ls', st', h'))) : sm_St M pc ls st h pc' ls' st' h' := by
  have hc : (ck_d M pc (.aaload) 1 && decide (3 ≤ xa) && decide (xa < 8)) = true := hc
  have hs : (match st with
    | .int i :: .ref q :: r => if sm_at h q xa && sm_in i (gS h q).2 then nx (pc + 1) ls (sm_rf (gR h q i.toNatClampNeg) :: r) h else none
    | _ => none) = some (.inl (pc', ls', st', h')) := hs
  simp only [Bool.and_eq_true, decide_eq_true_eq] at hc
  split at hs
  · split at hs
    · rename_i hi
      rw [Bool.and_eq_true] at hi
      unfold nx at hs; cases hs
      refine ⟨⟨Nat.le_refl _, Nat.le_refl _, Nat.le_refl _⟩, fun p l e R s m args below meth c Q D ac b scr L xs K0 D0 hC hsz m1 m3 hc1 hc2 k => ?_⟩
      obtain ⟨hx, hb, hml, hown, hts, hrt, hlk, hfr, hlo, htb, hst, hnm, hE⟩ := hC
      obtain ⟨C, hC9, -⟩ := sm_tys_get ac hc.1.2 hc.2
      exact G_aald hx hb hE.1 (tys := sm_tys ac) hc.1.2 (by omega) hC9 (ck_d_spec hc.1.1) hi.1 hi.2 k
    · cases hs
  · cases hs
theorem one_61 {M pc xa xb pc' : Nat} {xc : Int} {xl : List Nat} {ls ls' : sm_L} {st st' : List Value} {h h' : sm_H} (hc : sm_chk M pc (61, xa, xb, xc, xl) = true) (hs : sm_step h pc (61, xa, xb, xc, xl) ls st = some (.inl (pc', ls', st', h'))) : sm_St M pc ls st h pc' ls' st' h' := by
  have hc : (ck_d M pc (.iastore) 1) = true := hc
  have hs : (match st with
    | .int x :: .int i :: .ref q :: r => if sm_at h q 0 && sm_in i (gS h q).2 then nx (pc + 1) ls r (setI h q i.toNatClampNeg x) else none
    | _ => none) = some (.inl (pc', ls', st', h')) := hs
  split at hs
  · split at hs
    · rename_i hi
      rw [Bool.and_eq_true] at hi
      unfold nx at hs; cases hs
      refine ⟨⟨Nat.le_refl _, Nat.le_refl _, Nat.le_refl _⟩, fun p l e R s m args below meth c Q D ac b scr L xs K0 D0 hC hsz m1 m3 hc1 hc2 k => ?_⟩
      obtain ⟨hx, hb, hml, hown, hts, hrt, hlk, hfr, hlo, htb, hst, hnm, hE⟩ := hC
      exact G_iast hx hb hE.1 (tys := sm_tys ac) rfl (ck_d_spec hc) hi.1 hi.2 k
    · cases hs
  · cases hs
theorem one_62 {M pc xa xb pc' : Nat} {xc : Int} {xl : List Nat} {ls ls' : sm_L} {st st' : List Value} {h h' : sm_H} (hc : sm_chk M pc (62, xa, xb, xc, xl) = true) (hs : sm_step h pc (62, xa, xb, xc, xl) ls st = some (.inl (pc', ls', st', h'))) : sm_St M pc ls st h pc' ls' st' h' := by
  have hc : (ck_d M pc (.lastore) 1) = true := hc
  have hs : (match st with
    | .long x :: .int i :: .ref q :: r => if sm_at h q 1 && sm_in i (gS h q).2 then nx (pc + 1) ls r (setL h q i.toNatClampNeg x) else none
    | _ => none) = some (.inl (pc', ls', st', h')) := hs
  split at hs
  · split at hs
    · rename_i hi
      rw [Bool.and_eq_true] at hi
      unfold nx at hs; cases hs
      refine ⟨⟨Nat.le_refl _, Nat.le_refl _, Nat.le_refl _⟩, fun p l e R s m args below meth c Q D ac b scr L xs K0 D0 hC hsz m1 m3 hc1 hc2 k => ?_⟩
      obtain ⟨hx, hb, hml, hown, hts, hrt, hlk, hfr, hlo, htb, hst, hnm, hE⟩ := hC
      exact G_last hx hb hE.1 (tys := sm_tys ac) rfl (ck_d_spec hc) hi.1 hi.2 k
    · cases hs
  · cases hs
theorem one_64 {M pc xa xb pc' : Nat} {xc : Int} {xl : List Nat} {ls ls' : sm_L} {st st' : List Value} {h h' : sm_H} (hc : sm_chk M pc (64, xa, xb, xc, xl) = true) (hs : sm_step h pc (64, xa, xb, xc, xl) ls st = some (.inl (pc', ls', st', h'))) : sm_St M pc ls st h pc' ls' st' h' := by
  have hc : (ck_d M pc (.bastore) 1) = true := hc
  have hs : (match st with
    | .int x :: .int i :: .ref q :: r => if (sm_at h q 2 && sm_in i (gS h q).2) ∧ (x = 0 ∨ x = 1) then nx (pc + 1) ls r (setI h q i.toNatClampNeg x) else none
    | _ => none) = some (.inl (pc', ls', st', h')) := hs
  split at hs
  · split at hs
    · rename_i hi
      obtain ⟨hi, h01⟩ := hi
      rw [Bool.and_eq_true] at hi
      unfold nx at hs; cases hs
      refine ⟨⟨Nat.le_refl _, Nat.le_refl _, Nat.le_refl _⟩, fun p l e R s m args below meth c Q D ac b scr L xs K0 D0 hC hsz m1 m3 hc1 hc2 k => ?_⟩
      obtain ⟨hx, hb, hml, hown, hts, hrt, hlk, hfr, hlo, htb, hst, hnm, hE⟩ := hC
      exact G_zast hx hb hE.1 (tys := sm_tys ac) rfl (ck_d_spec hc) hi.1 hi.2 h01 k
    · cases hs
  · cases hs
theorem one_63 {M pc xa xb pc' : Nat} {xc : Int} {xl : List Nat} {ls ls' : sm_L} {st st' : List Value} {h h' : sm_H} (hc : sm_chk M pc (63, xa, xb, xc, xl) = true) (hs : sm_step h pc (63, xa, xb, xc, xl) ls st = some (.inl (pc', ls', st', h'))) : sm_St M pc ls st h pc' ls' st' h' := by
  have hc : (ck_d M pc (.aastore) 1 && decide (3 ≤ xa) && decide (xa < 8) && decide ((sm_cls[xb]?).map (fun q => q.1) = sm_ra[xa - 3]?)) = true := hc
  have hs : (match st with
    | .ref x :: .int i :: .ref q :: r => if sm_at h q xa && sm_in i (gS h q).2 && sm_at h x (10 + xb) then nx (pc + 1) ls r (setR h q i.toNatClampNeg (some x)) else none
    | _ => none) = some (.inl (pc', ls', st', h')) := hs
  simp only [Bool.and_eq_true, decide_eq_true_eq] at hc
  split at hs
  · split at hs
    · rename_i hi
      rw [Bool.and_eq_true, Bool.and_eq_true] at hi
      unfold nx at hs; cases hs
      refine ⟨⟨Nat.le_refl _, Nat.le_refl _, Nat.le_refl _⟩, fun p l e R s m args below meth c Q D ac b scr L xs K0 D0 hC hsz m1 m3 hc1 hc2 k => ?_⟩
      obtain ⟨hx, hb, hml, hown, hts, hrt, hlk, hfr, hlo, htb, hst, hnm, hE⟩ := hC
      obtain ⟨C, hC9, hr9⟩ := sm_tys_get ac hc.1.1.2 hc.1.2
      obtain ⟨rC, hrC, hrC1⟩ := Option.map_eq_some_iff.mp (hc.2.trans hr9)
      subst hrC1
      exact G_aast hx hb hE.1 (tys := sm_tys ac) hc.1.1.2 (by omega) hrC hC9 (ck_d_spec hc.1.1.1) hi.1.1 hi.1.2 hi.2 k
    · cases hs
  · cases hs
theorem one_65 {M pc xa xb pc' : Nat} {xc : Int} {xl : List Nat} {ls ls' : sm_L} {st st' : List Value} {h h' : sm_H} (hc : sm_chk M pc (65, xa, xb, xc, xl) = true) (hs : sm_step h pc (65, xa, xb, xc, xl) ls st = some (.inl (pc', ls', st', h'))) : sm_St M pc ls st h pc' ls' st' h' := by
  have hc : (ck_d M pc (.arraylength) 1) = true := hc
  have hs : (match st with
    | .ref q :: r => if (decide (q < gN h) && decide ((gS h q).1 < 8)) || decide (q = sm_S) then nx (pc + 1) ls (.int (Int32.ofNat (gS h q).2) :: r) h else none
    | _ => none) = some (.inl (pc', ls', st', h')) := hs
  split at hs
  · split at hs
    · rename_i hi
      rw [Bool.or_eq_true, Bool.and_eq_true, decide_eq_true_eq, decide_eq_true_eq, decide_eq_true_eq] at hi
      unfold nx at hs; cases hs
      refine ⟨⟨Nat.le_refl _, Nat.le_refl _, Nat.le_refl _⟩, fun p l e R s m args below meth c Q D ac b scr L xs K0 D0 hC hsz m1 m3 hc1 hc2 k => ?_⟩
      obtain ⟨hx, hb, hml, hown, hts, hrt, hlk, hfr, hlo, htb, hst, hnm, hE⟩ := hC
      rcases hi with ⟨hq, hk9⟩ | hq
      · obtain ⟨ty, hty⟩ := sm_tys_any ac hk9
        exact G_alen hx hb hE.1 (tys := sm_tys ac) rfl (by omega) hty (ck_d_spec hc) hq k
      · subst hq
        exact G_slen hx hb ⟨hE.2.2.2.2.2.2.1, hE.2.2.2.2.2.2.2.1⟩ hE.2.2.2.2.2.1 (ck_d_spec hc) k
    · cases hs
  · cases hs
theorem one_0 {M pc xa xb pc' : Nat} {xc : Int} {xl : List Nat} {ls ls' : sm_L} {st st' : List Value} {h h' : sm_H} (hc : sm_chk M pc (0, xa, xb, xc, xl) = true) (hs : sm_step h pc (0, xa, xb, xc, xl) ls st = some (.inl (pc', ls', st', h'))) : sm_St M pc ls st h pc' ls' st' h' := by
  have hc : ((bif xl.isEmpty then (bif xa == 1 then ck_d M pc (.iconst xc) 1 else bif xa == 2 then ck_d M pc (.bipush xc) 2 && decide ((Int8.ofInt xc).toInt32 = Int32.ofInt xc) else decide (xa = 3) && ck_d M pc (.sipush xc) 3 && decide ((Int16.ofInt xc).toInt32 = Int32.ofInt xc)) else ck_k sm_kc (sm_oc.getD M 0) xb xc xl && (bif xa == 2 then ck_d M pc (.ldc xb) 2 else decide (xa = 3) && ck_d M pc (.ldc_w xb) 3))) = true := hc
  have hs : (nx (pc + xa) ls (.int (Int32.ofInt xc) :: st) h) = some (.inl (pc', ls', st', h')) := hs
  cases hxe : xl.isEmpty with
  | true =>
    rw [hxe, cond_true] at hc
    unfold nx at hs; cases hs
    refine ⟨⟨Nat.le_refl _, Nat.le_refl _, Nat.le_refl _⟩, fun p l e R s m args below meth c Q D ac b scr L xs K0 D0 hC hsz m1 m3 hc1 hc2 k => ?_⟩
    obtain ⟨hx, hb, hml, hown, hts, hrt, hlk, hfr, hlo, htb, hst, hnm, hE⟩ := hC
    by_cases h1 : xa = 1
    · subst h1
      exact G_iconst hx hb (ck_d_spec hc) rfl k
    · have h1' : (xa == 1) = false := by simpa using h1
      rw [h1', cond_false] at hc
      by_cases h2 : xa = 2
      · subst h2
        rw [show ((2 : Nat) == 2) = true from rfl, cond_true, Bool.and_eq_true, decide_eq_true_eq] at hc
        exact G_bipush hx hb (ck_d_spec hc.1) hc.2 k
      · have h2' : (xa == 2) = false := by simpa using h2
        rw [h2', cond_false, Bool.and_eq_true, Bool.and_eq_true, decide_eq_true_eq, decide_eq_true_eq] at hc
        obtain ⟨⟨rfl, hd⟩, hv⟩ := hc
        exact G_sipush hx hb (ck_d_spec hd) hv k
  | false =>
    rw [hxe, cond_false, Bool.and_eq_true] at hc
    unfold nx at hs; cases hs
    refine ⟨⟨Nat.le_refl _, Nat.le_refl _, Nat.le_refl _⟩, fun p l e R s m args below meth c Q D ac b scr L xs K0 D0 hC hsz m1 m3 hc1 hc2 k => ?_⟩
    obtain ⟨hx, hb, hml, hown, hts, hrt, hlk, hfr, hlo, htb, hst, hnm, hE⟩ := hC
    obtain ⟨q, hq, q1, q2, q3⟩ := ck_k_spec hc.1
    have hw := hts _ (ck_w_spec (sm_kc_ok q hq))
    rw [q1, q2, q3] at hw
    have hc := hc.2
    by_cases h2 : xa = 2
    · subst h2
      exact G_ldc hx hb hown hw (ck_d_spec hc) k
    · have h2' : (xa == 2) = false := by simpa using h2
      rw [h2', cond_false, Bool.and_eq_true, decide_eq_true_eq] at hc
      obtain ⟨rfl, hd⟩ := hc
      exact G_ldcw hx hb hown hw (ck_d_spec hd) k
theorem one_1 {M pc xa xb pc' : Nat} {xc : Int} {xl : List Nat} {ls ls' : sm_L} {st st' : List Value} {h h' : sm_H} (hc : sm_chk M pc (1, xa, xb, xc, xl) = true) (hs : sm_step h pc (1, xa, xb, xc, xl) ls st = some (.inl (pc', ls', st', h'))) : sm_St M pc ls st h pc' ls' st' h' := by
  have hc : ((bif xl.isEmpty then decide (xa = 1) && (bif xc == 0 then ck_d M pc (.lconst 0) 1 else decide (xc = 1) && ck_d M pc (.lconst 1) 1) else ck_k sm_kl (sm_oc.getD M 0) xb xc xl && decide (xa = 3) && ck_d M pc (.ldc2_w xb) 3)) = true := hc
  have hs : (nx (pc + xa) ls (.long (Int64.ofInt xc) :: st) h) = some (.inl (pc', ls', st', h')) := hs
  cases hxe : xl.isEmpty with
  | true =>
    rw [hxe, cond_true, Bool.and_eq_true, decide_eq_true_eq] at hc
    obtain ⟨hxa, hc9⟩ := hc
    subst hxa
    unfold nx at hs; cases hs
    refine ⟨⟨Nat.le_refl _, Nat.le_refl _, Nat.le_refl _⟩, fun p l e R s m args below meth c Q D ac b scr L xs K0 D0 hC hsz m1 m3 hc1 hc2 k => ?_⟩
    obtain ⟨hx, hb, hml, hown, hts, hrt, hlk, hfr, hlo, htb, hst, hnm, hE⟩ := hC
    by_cases h1 : xc = 0
    · subst h1
      exact G_lconst hx hb (n := 0) (ck_d_spec hc9) rfl k
    · have h1' : (xc == 0) = false := by simpa using h1
      rw [h1', cond_false, Bool.and_eq_true, decide_eq_true_eq] at hc9
      obtain ⟨hxc, hd⟩ := hc9
      subst hxc
      exact G_lconst hx hb (n := 1) (ck_d_spec hd) rfl k
  | false =>
    rw [hxe, cond_false, Bool.and_eq_true, Bool.and_eq_true, decide_eq_true_eq] at hc
    obtain ⟨⟨hk, rfl⟩, hd⟩ := hc
    unfold nx at hs; cases hs
    refine ⟨⟨Nat.le_refl _, Nat.le_refl _, Nat.le_refl _⟩, fun p l e R s m args below meth c Q D ac b scr L xs K0 D0 hC hsz m1 m3 hc1 hc2 k => ?_⟩
    obtain ⟨hx, hb, hml, hown, hts, hrt, hlk, hfr, hlo, htb, hst, hnm, hE⟩ := hC
    obtain ⟨q, hq, q1, q2, q3⟩ := ck_k_spec hk
    have hw := hts _ (ck_w_spec (sm_kl_ok q hq))
    rw [q1, q2, q3] at hw
    exact G_ldc2 hx hb hown hw (ck_d_spec hd) k
theorem one_50 {M pc xa xb pc' : Nat} {xc : Int} {xl : List Nat} {ls ls' : sm_L} {st st' : List Value} {h h' : sm_H} (hc : sm_chk M pc (50, xa, xb, xc, xl) = true) (hs : sm_step h pc (50, xa, xb, xc, xl) ls st = some (.inl (pc', ls', st', h'))) : sm_St M pc ls st h pc' ls' st' h' := by
  have hc : (ck_d M pc (.getfield xc.toNat) 3 && ck_f M xa xb xc xl 0 false) = true := hc
  have hs : (match st with
    | .ref q :: r => if sm_at h q (10 + xa) then nx (pc + 3) ls (.int (gI h q xb) :: r) h else none
    | _ => none) = some (.inl (pc', ls', st', h')) := hs
  rw [Bool.and_eq_true] at hc
  obtain ⟨hd, hf⟩ := hc
  obtain ⟨C, hC9, hk9, hT9, hw9, hty, -⟩ := ck_f_spec hf
  have hty9 : (C.2.1 xb).2.2.1 = "I" ∨ (C.2.1 xb).2.2.1 = "Z" := ck_ty_i hty
  split at hs
  · split at hs
    · rename_i hi
      unfold nx at hs; cases hs
      refine ⟨⟨Nat.le_refl _, Nat.le_refl _, Nat.le_refl _⟩, fun p l e R s m args below meth c Q D ac b scr L xs K0 D0 hC hsz m1 m3 hc1 hc2 k => ?_⟩
      obtain ⟨hx, hb, hml, hown, hts, hrt, hlk, hfr, hlo, htb, hst, hnm, hE⟩ := hC
      exact G_get hx hb hts (sm_cls_ok hC9).1 hown hE.1 hC9 hk9 hT9 (Or.inl (hts _ hw9)) (ck_d_spec hd) hi (by rw [sm_fv_I hty9]; rfl) k
    · cases hs
  · cases hs
theorem one_51 {M pc xa xb pc' : Nat} {xc : Int} {xl : List Nat} {ls ls' : sm_L} {st st' : List Value} {h h' : sm_H} (hc : sm_chk M pc (51, xa, xb, xc, xl) = true) (hs : sm_step h pc (51, xa, xb, xc, xl) ls st = some (.inl (pc', ls', st', h'))) : sm_St M pc ls st h pc' ls' st' h' := by
  have hc : (ck_d M pc (.getfield xc.toNat) 3 && ck_f M xa xb xc xl 1 false) = true := hc
  have hs : (match st with
    | .ref q :: r => if sm_at h q (10 + xa) then nx (pc + 3) ls (.long (gL h q xb) :: r) h else none
    | _ => none) = some (.inl (pc', ls', st', h')) := hs
  rw [Bool.and_eq_true] at hc
  obtain ⟨hd, hf⟩ := hc
  obtain ⟨C, hC9, hk9, hT9, hw9, hty, -⟩ := ck_f_spec hf
  have hty9 := ck_ty_j (hty.resolve_right (fun z => by have := z.2.1; omega))
  split at hs
  · split at hs
    · rename_i hi
      unfold nx at hs; cases hs
      refine ⟨⟨Nat.le_refl _, Nat.le_refl _, Nat.le_refl _⟩, fun p l e R s m args below meth c Q D ac b scr L xs K0 D0 hC hsz m1 m3 hc1 hc2 k => ?_⟩
      obtain ⟨hx, hb, hml, hown, hts, hrt, hlk, hfr, hlo, htb, hst, hnm, hE⟩ := hC
      exact G_get hx hb hts (sm_cls_ok hC9).1 hown hE.1 hC9 hk9 hT9 (Or.inl (hts _ hw9)) (ck_d_spec hd) hi (by rw [sm_fv_L hty9]; rfl) k
    · cases hs
  · cases hs
theorem one_52 {M pc xa xb pc' : Nat} {xc : Int} {xl : List Nat} {ls ls' : sm_L} {st st' : List Value} {h h' : sm_H} (hc : sm_chk M pc (52, xa, xb, xc, xl) = true) (hs : sm_step h pc (52, xa, xb, xc, xl) ls st = some (.inl (pc', ls', st', h'))) : sm_St M pc ls st h pc' ls' st' h' := by
  have hc : (ck_d M pc (.getfield xc.toNat) 3 && ck_f M xa xb xc xl 2 false) = true := hc
  have hs : (match st with
    | .ref q :: r => if sm_at h q (10 + xa) then nx (pc + 3) ls (sm_rf (gR h q xb) :: r) h else none
    | _ => none) = some (.inl (pc', ls', st', h')) := hs
  rw [Bool.and_eq_true] at hc
  obtain ⟨hd, hf⟩ := hc
  obtain ⟨C, hC9, hk9, hT9, hw9, hty, -⟩ := ck_f_spec hf
  have hty9 := ck_ty_r (hty.resolve_right (fun z => by have := z.2.1; omega))
  split at hs
  · split at hs
    · rename_i hi
      unfold nx at hs; cases hs
      refine ⟨⟨Nat.le_refl _, Nat.le_refl _, Nat.le_refl _⟩, fun p l e R s m args below meth c Q D ac b scr L xs K0 D0 hC hsz m1 m3 hc1 hc2 k => ?_⟩
      obtain ⟨hx, hb, hml, hown, hts, hrt, hlk, hfr, hlo, htb, hst, hnm, hE⟩ := hC
      exact G_get hx hb hts (sm_cls_ok hC9).1 hown hE.1 hC9 hk9 hT9 (Or.inl (hts _ hw9)) (ck_d_spec hd) hi (by rw [sm_fv_R hty9.1 hty9.2, sm_c_rf]) k
    · cases hs
  · cases hs
theorem one_53 {M pc xa xb pc' : Nat} {xc : Int} {xl : List Nat} {ls ls' : sm_L} {st st' : List Value} {h h' : sm_H} (hc : sm_chk M pc (53, xa, xb, xc, xl) = true) (hs : sm_step h pc (53, xa, xb, xc, xl) ls st = some (.inl (pc', ls', st', h'))) : sm_St M pc ls st h pc' ls' st' h' := by
  have hc : (ck_d M pc (.putfield xc.toNat) 3 && ck_f M xa xb xc xl 0 true) = true := hc
  have hs : (match st with
    | .int x :: .ref q :: r => if sm_at h q (10 + xa) then nx (pc + 3) ls r (setI h q xb x) else none
    | _ => none) = some (.inl (pc', ls', st', h')) := hs
  rw [Bool.and_eq_true] at hc
  obtain ⟨hd, hf⟩ := hc
  obtain ⟨C, hC9, hk9, hT9, hw9, hty, hpu⟩ := ck_f_spec hf
  have hty9 := ck_ty_I (hty.resolve_right (fun z => Bool.noConfusion z.2.2))
  split at hs
  · split at hs
    · rename_i hi
      unfold nx at hs; cases hs
      refine ⟨⟨Nat.le_refl _, Nat.le_refl _, Nat.le_refl _⟩, fun p l e R s m args below meth c Q D ac b scr L xs K0 D0 hC hsz m1 m3 hc1 hc2 k => ?_⟩
      obtain ⟨hx, hb, hml, hown, hts, hrt, hlk, hfr, hlo, htb, hst, hnm, hE⟩ := hC
      refine G_put hx hb (v := _) (ty := .int) hts (sm_cls_ok hC9).1 (sm_cls_ok hC9).2.1 (sm_cls_ok hC9).2.2.1 hown hE.1 hC9 hk9 hT9 (Or.inl ⟨hts _ hw9, ?_⟩) (by rw [hty9]; rfl) rfl rfl (ck_d_spec hd) hi sm_ch_I (sm_obj_set hC9 (by rw [sm_fv_I (Or.inl hty9)]; exact congrArg _ sm_upII) (fun j hj => sm_fv_oI hj)) k
      · rcases hpu rfl with h1 | ⟨h1, h2⟩
        · exact Or.inl h1
        · rcases Bool.eq_false_or_eq_true (C.2.1 xb).2.2.2 with h3 | h3
          · exact Or.inr ⟨h3, hnm.trans h1, h2⟩
          · exact Or.inl h3
    · cases hs
  · cases hs
theorem one_56 {M pc xa xb pc' : Nat} {xc : Int} {xl : List Nat} {ls ls' : sm_L} {st st' : List Value} {h h' : sm_H} (hc : sm_chk M pc (56, xa, xb, xc, xl) = true) (hs : sm_step h pc (56, xa, xb, xc, xl) ls st = some (.inl (pc', ls', st', h'))) : sm_St M pc ls st h pc' ls' st' h' := by
  have hc : (ck_d M pc (.putfield xc.toNat) 3 && ck_f M xa xb xc xl 3 true) = true := hc
  have hs : (match st with
    | .int x :: .ref q :: r => if sm_at h q (10 + xa) ∧ (x = 0 ∨ x = 1) then nx (pc + 3) ls r (setI h q xb x) else none
    | _ => none) = some (.inl (pc', ls', st', h')) := hs
  rw [Bool.and_eq_true] at hc
  obtain ⟨hd, hf⟩ := hc
  obtain ⟨C, hC9, hk9, hT9, hw9, hty, hpu⟩ := ck_f_spec hf
  have hty9 := ck_ty_Z (hty.resolve_right (fun z => Bool.noConfusion z.2.2))
  split at hs
  · split at hs
    · rename_i hi
      obtain ⟨hi, h01⟩ := hi
      unfold nx at hs; cases hs
      refine ⟨⟨Nat.le_refl _, Nat.le_refl _, Nat.le_refl _⟩, fun p l e R s m args below meth c Q D ac b scr L xs K0 D0 hC hsz m1 m3 hc1 hc2 k => ?_⟩
      obtain ⟨hx, hb, hml, hown, hts, hrt, hlk, hfr, hlo, htb, hst, hnm, hE⟩ := hC
      refine G_put hx hb (v := _) (ty := .boolean) hts (sm_cls_ok hC9).1 (sm_cls_ok hC9).2.1 (sm_cls_ok hC9).2.2.1 hown hE.1 hC9 hk9 hT9 (Or.inl ⟨hts _ hw9, ?_⟩) (by rw [hty9]; rfl) (by rcases h01 with rfl | rfl <;> rfl) (by rcases h01 with rfl | rfl <;> rfl) (ck_d_spec hd) hi sm_ch_I (sm_obj_set hC9 (by rw [sm_fv_I (Or.inr hty9)]; exact congrArg _ sm_upII) (fun j hj => sm_fv_oI hj)) k
      · rcases hpu rfl with h1 | ⟨h1, h2⟩
        · exact Or.inl h1
        · rcases Bool.eq_false_or_eq_true (C.2.1 xb).2.2.2 with h3 | h3
          · exact Or.inr ⟨h3, hnm.trans h1, h2⟩
          · exact Or.inl h3
    · cases hs
  · cases hs
theorem one_54 {M pc xa xb pc' : Nat} {xc : Int} {xl : List Nat} {ls ls' : sm_L} {st st' : List Value} {h h' : sm_H} (hc : sm_chk M pc (54, xa, xb, xc, xl) = true) (hs : sm_step h pc (54, xa, xb, xc, xl) ls st = some (.inl (pc', ls', st', h'))) : sm_St M pc ls st h pc' ls' st' h' := by
  have hc : (ck_d M pc (.putfield xc.toNat) 3 && ck_f M xa xb xc xl 1 true) = true := hc
  have hs : (match st with
    | .long x :: .ref q :: r => if sm_at h q (10 + xa) then nx (pc + 3) ls r (setL h q xb x) else none
    | _ => none) = some (.inl (pc', ls', st', h')) := hs
  rw [Bool.and_eq_true] at hc
  obtain ⟨hd, hf⟩ := hc
  obtain ⟨C, hC9, hk9, hT9, hw9, hty, hpu⟩ := ck_f_spec hf
  have hty9 := ck_ty_j (hty.resolve_right (fun z => Bool.noConfusion z.2.2))
  split at hs
  · split at hs
    · rename_i hi
      unfold nx at hs; cases hs
      refine ⟨⟨Nat.le_refl _, Nat.le_refl _, Nat.le_refl _⟩, fun p l e R s m args below meth c Q D ac b scr L xs K0 D0 hC hsz m1 m3 hc1 hc2 k => ?_⟩
      obtain ⟨hx, hb, hml, hown, hts, hrt, hlk, hfr, hlo, htb, hst, hnm, hE⟩ := hC
      refine G_put hx hb (v := _) (ty := .long) hts (sm_cls_ok hC9).1 (sm_cls_ok hC9).2.1 (sm_cls_ok hC9).2.2.1 hown hE.1 hC9 hk9 hT9 (Or.inl ⟨hts _ hw9, ?_⟩) (by rw [hty9]; rfl) rfl rfl (ck_d_spec hd) hi sm_ch_L (sm_obj_set hC9 (by rw [sm_fv_L hty9]; exact congrArg _ sm_upLL) (fun j hj => sm_fv_oL hj)) k
      · rcases hpu rfl with h1 | ⟨h1, h2⟩
        · exact Or.inl h1
        · rcases Bool.eq_false_or_eq_true (C.2.1 xb).2.2.2 with h3 | h3
          · exact Or.inr ⟨h3, hnm.trans h1, h2⟩
          · exact Or.inl h3
    · cases hs
  · cases hs
theorem one_55 {M pc xa xb pc' : Nat} {xc : Int} {xl : List Nat} {ls ls' : sm_L} {st st' : List Value} {h h' : sm_H} (hc : sm_chk M pc (55, xa, xb, xc, xl) = true) (hs : sm_step h pc (55, xa, xb, xc, xl) ls st = some (.inl (pc', ls', st', h'))) : sm_St M pc ls st h pc' ls' st' h' := by
  have hc : (ck_d M pc (.putfield xc.toNat) 3 && ck_f M xa xb xc xl 2 true) = true := hc
  have hs : (match st with
    | .ref x :: .ref q :: r => if sm_at h q (10 + xa) then nx (pc + 3) ls r (setR h q xb (some x)) else none
    | .null :: .ref q :: r => if sm_at h q (10 + xa) then nx (pc + 3) ls r (setR h q xb none) else none
    | _ => none) = some (.inl (pc', ls', st', h')) := hs
  rw [Bool.and_eq_true] at hc
  obtain ⟨hd, hf⟩ := hc
  obtain ⟨C, hC9, hk9, hT9, hw9, hty, hpu⟩ := ck_f_spec hf
  have hty := hty.resolve_right (fun z => Bool.noConfusion z.2.2)
  have hty9 := ck_ty_r hty
  obtain ⟨ty, hdt, hrr⟩ := sm_cls_ref hC9 hk9 hty
  split at hs
  · split at hs
    · rename_i hi
      unfold nx at hs; cases hs
      refine ⟨⟨Nat.le_refl _, Nat.le_refl _, Nat.le_refl _⟩, fun p l e R s m args below meth c Q D ac b scr L xs K0 D0 hC hsz m1 m3 hc1 hc2 k => ?_⟩
      obtain ⟨hx, hb, hml, hown, hts, hrt, hlk, hfr, hlo, htb, hst, hnm, hE⟩ := hC
      refine G_put hx hb (v := _) (ty := ty) hts (sm_cls_ok hC9).1 (sm_cls_ok hC9).2.1 (sm_cls_ok hC9).2.2.1 hown hE.1 hC9 hk9 hT9 (Or.inl ⟨hts _ hw9, ?_⟩) hdt (sm_rr_n hrr) (sm_rr_f hrr rfl) (ck_d_spec hd) hi sm_ch_R (sm_obj_set hC9 (by rw [sm_fv_R hty9.1 hty9.2]; exact congrArg (fun z => va_rf (Option.map (sm_ad b scr) z)) sm_upRR) (fun j hj => sm_fv_oR hj)) k
      · rcases hpu rfl with h1 | ⟨h1, h2⟩
        · exact Or.inl h1
        · rcases Bool.eq_false_or_eq_true (C.2.1 xb).2.2.2 with h3 | h3
          · exact Or.inr ⟨h3, hnm.trans h1, h2⟩
          · exact Or.inl h3
    · cases hs
  · split at hs
    · rename_i hi
      unfold nx at hs; cases hs
      refine ⟨⟨Nat.le_refl _, Nat.le_refl _, Nat.le_refl _⟩, fun p l e R s m args below meth c Q D ac b scr L xs K0 D0 hC hsz m1 m3 hc1 hc2 k => ?_⟩
      obtain ⟨hx, hb, hml, hown, hts, hrt, hlk, hfr, hlo, htb, hst, hnm, hE⟩ := hC
      refine G_put hx hb (v := .null) (ty := ty) hts (sm_cls_ok hC9).1 (sm_cls_ok hC9).2.1 (sm_cls_ok hC9).2.2.1 hown hE.1 hC9 hk9 hT9 (Or.inl ⟨hts _ hw9, ?_⟩) hdt (sm_rr_n hrr) (sm_rr_f hrr rfl) (ck_d_spec hd) hi sm_ch_R (sm_obj_set hC9 (by rw [sm_fv_R hty9.1 hty9.2]; exact congrArg (fun z => va_rf (Option.map (sm_ad b scr) z)) sm_upRR) (fun j hj => sm_fv_oR hj)) k
      · rcases hpu rfl with h1 | ⟨h1, h2⟩
        · exact Or.inl h1
        · rcases Bool.eq_false_or_eq_true (C.2.1 xb).2.2.2 with h3 | h3
          · exact Or.inr ⟨h3, hnm.trans h1, h2⟩
          · exact Or.inl h3
    · cases hs
  · cases hs
theorem one_66 {M pc xa xb pc' : Nat} {xc : Int} {xl : List Nat} {ls ls' : sm_L} {st st' : List Value} {h h' : sm_H} (hc : sm_chk M pc (66, xa, xb, xc, xl) = true) (hs : sm_step h pc (66, xa, xb, xc, xl) ls st = some (.inl (pc', ls', st', h'))) : sm_St M pc ls st h pc' ls' st' h' := by
  have hc : (ck_d M pc (.new xc.toNat) 3 && (match sm_nw[xl.getD 0 0]? with
    | some q => decide (q.1 = sm_oc.getD M 0) && decide ((q.2.1 : Int) = xc) && decide (q.2.2.1 = xa) && decide (q.2.2.2.1 = xb)
    | none => false)) = true := hc
  have hs : (if gJ h = 0 ∧ gN h < sm_S then nx (pc + 3) ls (.ref (gN h) :: st) (hnew h (10 + xa) xb) else none) = some (.inl (pc', ls', st', h')) := hs
  rw [Bool.and_eq_true] at hc
  obtain ⟨hd, hq⟩ := hc
  obtain ⟨C, hC9, hN9, w1, w2, w3⟩ := ck_nw_spec hq
  subst hN9
  split at hs
  · rename_i hi
    unfold nx at hs; cases hs
    refine ⟨⟨Nat.le_succ _, Nat.le_refl _, Nat.le_add_right _ _⟩, fun p l e R s m args below meth c Q D ac b scr L xs K0 D0 hC hsz m1 m3 hc1 hc2 k => ?_⟩
    obtain ⟨hx, hb, hml, hown, hts, hrt, hlk, hfr, hlo, htb, hst, hnm, hE⟩ := hC
    exact G_new hx hb hts (sm_cls_ok hC9).1 (sm_cls_ok hC9).2.1 (sm_cls_ok hC9).2.2.2 hown (hts _ w1) (hts _ w2) (hts _ w3) hE.1 hC9 hi.1 hi.2 hE.2.2.2.2.2.2.2.1 (hsz hi.1) m1 m3 hc1 hc2 (ck_d_spec hd) k
  · cases hs
theorem one_67 {M pc xa xb pc' : Nat} {xc : Int} {xl : List Nat} {ls ls' : sm_L} {st st' : List Value} {h h' : sm_H} (hc : sm_chk M pc (67, xa, xb, xc, xl) = true) (hs : sm_step h pc (67, xa, xb, xc, xl) ls st = some (.inl (pc', ls', st', h'))) : sm_St M pc ls st h pc' ls' st' h' := by
  have hc : ((bif xa == 0 then ck_d M pc (.newarray .int) 2 else bif xa == 1 then ck_d M pc (.newarray .long) 2 else decide (xa = 2) && ck_d M pc (.newarray .boolean) 2)) = true := hc
  have hs : (match st with
    | .int n :: r => if gJ h = 0 ∧ gN h < sm_S ∧ ¬ n < 0 ∧ n.toNatClampNeg ≤ 1000000 then nx (pc + 2) ls (.ref (gN h) :: r) (hnew h xa n.toNatClampNeg) else none
    | _ => none) = some (.inl (pc', ls', st', h')) := hs
  split at hs
  · split at hs
    · rename_i hi
      unfold nx at hs; cases hs
      refine ⟨⟨Nat.le_succ _, Nat.le_refl _, Nat.le_add_right _ _⟩, fun p l e R s m args below meth c Q D ac b scr L xs K0 D0 hC hsz m1 m3 hc1 hc2 k => ?_⟩
      obtain ⟨hx, hb, hml, hown, hts, hrt, hlk, hfr, hlo, htb, hst, hnm, hE⟩ := hC
      by_cases h0 : xa = 0
      · subst h0
        exact G_newa hx hb (hts _ sm_az0) rfl hE.1 (tys := sm_tys ac) rfl (Or.inl ⟨rfl, rfl⟩) hi.1 hi.2.1 hE.2.2.2.2.2.2.2.1 (hsz hi.1) m1 m3 hi.2.2.1 hi.2.2.2 hc1 hc2 (ck_d_spec hc) k
      · have h0' : (xa == 0) = false := by simpa using h0
        rw [h0', cond_false] at hc
        by_cases h1 : xa = 1
        · subst h1
          exact G_newa hx hb (hts _ sm_az1) rfl hE.1 (tys := sm_tys ac) rfl (Or.inr (Or.inl ⟨rfl, rfl⟩)) hi.1 hi.2.1 hE.2.2.2.2.2.2.2.1 (hsz hi.1) m1 m3 hi.2.2.1 hi.2.2.2 hc1 hc2 (ck_d_spec hc) k
        · have h1' : (xa == 1) = false := by simpa using h1
          rw [h1', cond_false, Bool.and_eq_true, decide_eq_true_eq] at hc
          obtain ⟨rfl, hd⟩ := hc
          exact G_newa hx hb (hts _ sm_az2) rfl hE.1 (tys := sm_tys ac) rfl (Or.inr (Or.inr ⟨rfl, rfl⟩)) hi.1 hi.2.1 hE.2.2.2.2.2.2.2.1 (hsz hi.1) m1 m3 hi.2.2.1 hi.2.2.2 hc1 hc2 (ck_d_spec hd) k
    · cases hs
  · cases hs
theorem one_68 {M pc xa xb pc' : Nat} {xc : Int} {xl : List Nat} {ls ls' : sm_L} {st st' : List Value} {h h' : sm_H} (hc : sm_chk M pc (68, xa, xb, xc, xl) = true) (hs : sm_step h pc (68, xa, xb, xc, xl) ls st = some (.inl (pc', ls', st', h'))) : sm_St M pc ls st h pc' ls' st' h' := by
  have hc : (ck_d M pc (.anewarray xc.toNat) 3 && (match sm_aw[xl.getD 0 0]? with
    | some q => decide (q.1 = sm_oc.getD M 0) && decide ((q.2.1 : Int) = xc) && decide (q.2.2.1 = xa)
    | none => false)) = true := hc
  have hs : (match st with
    | .int n :: r => if gJ h = 0 ∧ gN h < sm_S ∧ ¬ n < 0 ∧ n.toNatClampNeg ≤ 1000000 then nx (pc + 3) ls (.ref (gN h) :: r) (hnew h xa n.toNatClampNeg) else none
    | _ => none) = some (.inl (pc', ls', st', h')) := hs
  rw [Bool.and_eq_true] at hc
  obtain ⟨hd, hq⟩ := hc
  obtain ⟨C, h3, h8, hC9, hw⟩ := ck_aw_spec hq
  split at hs
  · split at hs
    · rename_i hi
      unfold nx at hs; cases hs
      refine ⟨⟨Nat.le_succ _, Nat.le_refl _, Nat.le_add_right _ _⟩, fun p l e R s m args below meth c Q D ac b scr L xs K0 D0 hC hsz m1 m3 hc1 hc2 k => ?_⟩
      obtain ⟨hx, hb, hml, hown, hts, hrt, hlk, hfr, hlo, htb, hst, hnm, hE⟩ := hC
      obtain ⟨C', ht9, hC8⟩ := sm_tys_get ac h3 h8
      cases Option.some.inj (hC9.symm.trans hC8)
      exact G_newq hx hb hown (hts _ hw) (hE.2.2.1 _ (List.mem_of_getElem? hC9)) hE.1 ht9 h3 (by omega) hi.1 hi.2.1 hE.2.2.2.2.2.2.2.1 (hsz hi.1) m1 m3 hi.2.2.1 hi.2.2.2 hc1 hc2 (ck_d_spec hd) k
    · cases hs
  · cases hs
theorem one_70 {M pc xa xb pc' : Nat} {xc : Int} {xl : List Nat} {ls ls' : sm_L} {st st' : List Value} {h h' : sm_H} (hc : sm_chk M pc (70, xa, xb, xc, xl) = true) (hs : sm_step h pc (70, xa, xb, xc, xl) ls st = some (.inl (pc', ls', st', h'))) : sm_St M pc ls st h pc' ls' st' h' := by
  have hc : (ck_d M pc (.invokespecial xc.toNat) 3 && (match sm_oi[xl.getD 0 0]? with
    | some q => decide (q.1 = sm_oc.getD M 0) && decide ((q.2.1 : Int) = xc)
    | none => false) && ck_room M) = true := hc
  have hs : (match st with
    | .ref _ :: r => if sm_wt r ≤ 8 then nx (pc + 3) ls r h else none
    | _ => none) = some (.inl (pc', ls', st', h')) := hs
  rw [Bool.and_eq_true, Bool.and_eq_true] at hc
  obtain ⟨⟨hd, hq⟩, hrm⟩ := hc
  obtain ⟨w1, w2, w3⟩ := ck_oi_spec hq
  simp only [ck_room, Bool.and_eq_true, decide_eq_true_eq] at hrm
  split at hs
  · split at hs
    · rename_i hi
      unfold nx at hs; cases hs
      refine ⟨⟨Nat.le_refl _, Nat.le_refl _, Nat.le_refl _⟩, fun p l e R s m args below meth c Q D ac b scr L xs K0 D0 hC hsz m1 m3 hc1 hc2 k => ?_⟩
      obtain ⟨hx, hb, hml, hown, hts, hrt, hlk, hfr, hlo, htb, hst, hnm, hE⟩ := hC
      exact G_obj hx hb hml hown (hts _ w1) (hts _ w2) (hts _ w3) (by omega) (by omega) hi (ck_d_spec hd) k
    · cases hs
  · cases hs
theorem one_71 {M pc xa xb pc' : Nat} {xc : Int} {xl : List Nat} {ls ls' : sm_L} {st st' : List Value} {h h' : sm_H} (hc : sm_chk M pc (71, xa, xb, xc, xl) = true) (hs : sm_step h pc (71, xa, xb, xc, xl) ls st = some (.inl (pc', ls', st', h'))) : sm_St M pc ls st h pc' ls' st' h' := by
  have hc : (ck_d M pc (.invokestatic xc.toNat) 3 && (match sm_ac[xl.getD 0 0]? with
    | some q => decide (q.1 = sm_oc.getD M 0) && decide ((q.2.1 : Int) = xc)
    | none => false) && ck_room M) = true := hc
  have hs : (match st with
    | .int n :: .int dp :: .ref q1 :: .int sp :: .ref q0 :: r => if sm_at h q0 0 && sm_at h q1 0 && decide (sm_wt r ≤ 8) && !decide (sp < 0) && !decide (dp < 0) && !decide (n < 0) && decide (sp.toNatClampNeg + n.toNatClampNeg ≤ (gS h q0).2) && decide (dp.toNatClampNeg + n.toNatClampNeg ≤ (gS h q1).2) then nx (pc + 3) ls r (sm_cpI h q0 sp.toNatClampNeg q1 dp.toNatClampNeg n.toNatClampNeg) else none
    | _ => none) = some (.inl (pc', ls', st', h')) := hs
  rw [Bool.and_eq_true, Bool.and_eq_true] at hc
  obtain ⟨⟨hd, hq⟩, hrm⟩ := hc
  obtain ⟨w1, w2, w3, w4⟩ := ck_ac_spec hq
  simp only [ck_room, Bool.and_eq_true, decide_eq_true_eq] at hrm
  split at hs
  · split at hs
    · rename_i hi
      simp only [Bool.and_eq_true, decide_eq_true_eq, Bool.not_eq_true', decide_eq_false_iff_not] at hi
      obtain ⟨⟨⟨⟨⟨⟨⟨i1, i2⟩, i3⟩, i4⟩, i5⟩, i6⟩, i7⟩, i8⟩ := hi
      unfold nx at hs; cases hs
      refine ⟨⟨Nat.le_refl _, Nat.le_refl _, Nat.le_refl _⟩, fun p l e R s m args below meth c Q D ac b scr L xs K0 D0 hC hsz m1 m3 hc1 hc2 k => ?_⟩
      obtain ⟨hx, hb, hml, hown, hts, hrt, hlk, hfr, hlo, htb, hst, hnm, hE⟩ := hC
      exact G_cpI hx hb hml hE.1 (tys := sm_tys ac) rfl hown (hts _ w1) (hts _ w2) (hts _ w3) (hts _ w4) (by omega) (by omega) i3 (ck_d_spec hd) i1 i2 i4 i5 i6 i7 i8 k
    · cases hs
  · cases hs
theorem one_72 {M pc xa xb pc' : Nat} {xc : Int} {xl : List Nat} {ls ls' : sm_L} {st st' : List Value} {h h' : sm_H} (hc : sm_chk M pc (72, xa, xb, xc, xl) = true) (hs : sm_step h pc (72, xa, xb, xc, xl) ls st = some (.inl (pc', ls', st', h'))) : sm_St M pc ls st h pc' ls' st' h' := by
  have hc : (ck_d M pc (.invokestatic xc.toNat) 3 && (match sm_ac[xl.getD 0 0]? with
    | some q => decide (q.1 = sm_oc.getD M 0) && decide ((q.2.1 : Int) = xc)
    | none => false) && ck_room M) = true := hc
  have hs : (match st with
    | .int n :: .int dp :: .ref q1 :: .int sp :: .ref q0 :: r => if sm_at h q0 1 && sm_at h q1 1 && decide (sm_wt r ≤ 8) && !decide (sp < 0) && !decide (dp < 0) && !decide (n < 0) && decide (sp.toNatClampNeg + n.toNatClampNeg ≤ (gS h q0).2) && decide (dp.toNatClampNeg + n.toNatClampNeg ≤ (gS h q1).2) then nx (pc + 3) ls r (sm_cpL h q0 sp.toNatClampNeg q1 dp.toNatClampNeg n.toNatClampNeg) else none
    | _ => none) = some (.inl (pc', ls', st', h')) := hs
  rw [Bool.and_eq_true, Bool.and_eq_true] at hc
  obtain ⟨⟨hd, hq⟩, hrm⟩ := hc
  obtain ⟨w1, w2, w3, w4⟩ := ck_ac_spec hq
  simp only [ck_room, Bool.and_eq_true, decide_eq_true_eq] at hrm
  split at hs
  · split at hs
    · rename_i hi
      simp only [Bool.and_eq_true, decide_eq_true_eq, Bool.not_eq_true', decide_eq_false_iff_not] at hi
      obtain ⟨⟨⟨⟨⟨⟨⟨i1, i2⟩, i3⟩, i4⟩, i5⟩, i6⟩, i7⟩, i8⟩ := hi
      unfold nx at hs; cases hs
      refine ⟨⟨Nat.le_refl _, Nat.le_refl _, Nat.le_refl _⟩, fun p l e R s m args below meth c Q D ac b scr L xs K0 D0 hC hsz m1 m3 hc1 hc2 k => ?_⟩
      obtain ⟨hx, hb, hml, hown, hts, hrt, hlk, hfr, hlo, htb, hst, hnm, hE⟩ := hC
      exact G_cpL hx hb hml hE.1 (tys := sm_tys ac) rfl hown (hts _ w1) (hts _ w2) (hts _ w3) (hts _ w4) (by omega) (by omega) i3 (ck_d_spec hd) i1 i2 i4 i5 i6 i7 i8 k
    · cases hs
  · cases hs
