/-! handlers -/
def ck_h (M t : Nat) (n : Int) : Bool := match decode (sm_mi M).2.1 t with
  | .ok (.astore_n x, 1) => ck_d M (t + 1) (.iconst n) 1 && ck_d M (t + 1 + 1) .ireturn 1 && decide (x.val < (sm_mi M).2.2.1)
  | .ok (.astore x, 2) => ck_d M (t + 2) (.iconst n) 1 && ck_d M (t + 2 + 1) .ireturn 1 && decide (x < (sm_mi M).2.2.1)
  | _ => false
def ck_ct (q : Nat × Nat × Nat × Int × Nat) : Bool := match q with
  | (M, pc, k, n, i) => decide ((sm_mi M).2.2.2.1 = some .int) && (match (sm_mi M).2.2.2.2.1[i]? with
    | some (s, e, t, ct) => decide (s ≤ pc) && decide (pc < e) && decide (ct ≠ 0) && decide (Cond.classLink (sm_cn.getD (sm_oc.getD M 0) "") ct (sm_EX k) ∈ lw_tbl) && decide (Cond.castable (sm_EX k) (sm_EX k) ∈ lw_tbl) && ck_h M t n
    | none => false) && (List.range i).all (fun j => match (sm_mi M).2.2.2.2.1[j]? with
    | some (_, _, _, ct) => decide (ct ≠ 0) && [0, 1, 2, 3].any (fun k2 => decide ((sm_EX k, sm_EX k2) ∈ sm_nc) && decide (Cond.classLink (sm_cn.getD (sm_oc.getD M 0) "") ct (sm_EX k2) ∈ lw_tbl))
    | none => false)
set_option maxRecDepth 100000 in
theorem sm_ct_all : sm_ct.all ck_ct = true := by decide +kernel
theorem sm_ca_spec {M pc k : Nat} {n : Int} (h : sm_ca M pc k = some (some n)) : ∃ i, ck_ct (M, pc, k, n, i) = true := by
  unfold sm_ca at h
  split at h
  · cases h
  · obtain ⟨q, hq, e⟩ := Option.map_eq_some_iff.mp h
    have h1 := List.find?_some hq
    have h2 := List.all_eq_true.mp sm_ct_all q (List.mem_of_find?_eq_some hq)
    obtain ⟨q1, q2, q3, q4, q5⟩ := q
    simp only [Bool.and_eq_true, beq_iff_eq] at h1
    obtain ⟨⟨rfl, rfl⟩, rfl⟩ := h1
    cases e
    exact ⟨q5, h2⟩
theorem sm_ca_none {M pc k : Nat} (h : sm_ca M pc k = some none) : (sm_mi M).2.2.2.2.1 = [] := by
  unfold sm_ca at h
  split at h
  · rename_i h1
    exact List.isEmpty_iff.mp h1
  · obtain ⟨q, -, e⟩ := Option.map_eq_some_iff.mp h
    cases e
theorem sm_hcatch {p : Program} {l : Launch} {e : Env} {R : Room} {s : State} {m : MethodId} {args : Array Value} {below : List Frame} {meth : Method} {c : Code} {Q : State → Prop} {D : va_G} {ac : Nat → ClassId} {b scr L : Nat} {xs : Nat → Int32} {K0 D0 M pc k : Nat} {n : Int} {ls : sm_L} {rest : List Value} {h' : sm_H}
    (hC : sm_Cx p l R s m args meth c D ac b scr L xs M) (hca : sm_ca M pc k = some (some n)) (hEn : sm_Ends p l e R s m args below meth c Q D ac b scr L xs K0 D0 M (.inl (some (.int (Int32.ofInt n)))) h') :
    sm_GX p l e R s m args below meth c Q D sm_cls ac b scr L xs (sm_mi M).2.2.1 K0 D0 pc ls rest h' (sm_EX k) := by
  obtain ⟨hx, hb, hml, hown, hts, hrt, hlk, hfr, hlo, htb, hst, hnm, hE⟩ := hC
  obtain ⟨i, hck⟩ := sm_ca_spec hca
  unfold ck_ct at hck
  simp only [Bool.and_eq_true, decide_eq_true_eq] at hck
  obtain ⟨⟨hri, h1⟩, h2⟩ := hck
  split at h1
  · rename_i s0 e0 t0 ct0 hi
    simp only [Bool.and_eq_true, decide_eq_true_eq] at h1
    obtain ⟨⟨⟨⟨⟨a1, a2⟩, a3⟩, a4⟩, a5⟩, a6⟩ := h1
    intro H locs lsA q ce hY hS hl hce hcv hcl
    have hsplit : c.exceptionTable.toList = tableOf ((sm_mi M).2.2.2.2.1.take i) ++ ⟨s0, e0, t0, ct0⟩ :: tableOf ((sm_mi M).2.2.2.2.1.drop (i + 1)) := by
      rw [htb]
      have hlt := (List.getElem?_eq_some_iff.mp hi).1
      have hge := (List.getElem?_eq_some_iff.mp hi).2
      conv => lhs; rw [← List.take_append_drop i (sm_mi M).2.2.2.2.1, List.drop_eq_getElem_cons hlt, hge]
      unfold tableOf
      rw [List.map_append, List.map_cons]
    refine sm_catch (own := sm_cn.getD (sm_oc.getD M 0) "") (name := sm_EX k) hown _ ⟨s0, e0, t0, ct0⟩ _ hsplit (fun z hz => ?_) (by simp [covers, a1, a2]) a3 (hts _ (List.mem_filter.mpr ⟨a4, rfl⟩)) (va_Nw.use rfl (hE.2.1 _ a5 rfl)) hce hcv hcl ?_
    · obtain ⟨y, hy, rfl⟩ := List.mem_map.mp hz
      obtain ⟨j, hj⟩ := List.getElem?_of_mem hy
      have hji : j < i := by
        have := (List.getElem?_eq_some_iff.mp hj).1
        rw [List.length_take] at this
        omega
      rw [List.getElem?_take_of_lt hji] at hj
      have h3 := List.all_eq_true.mp h2 j (List.mem_range.mpr hji)
      rw [hj] at h3
      obtain ⟨y1, y2, y3, y4⟩ := y
      simp only [Bool.and_eq_true, decide_eq_true_eq] at h3
      obtain ⟨h4, h5⟩ := h3
      obtain ⟨k2, -, h6⟩ := List.any_eq_true.mp h5
      rw [Bool.and_eq_true, decide_eq_true_eq, decide_eq_true_eq] at h6
      exact ⟨h4, sm_EX k2, hts _ (List.mem_filter.mpr ⟨h6.2, rfl⟩), hE.2.2.2.2.1 _ h6.1⟩
    · have hend : ∀ (lsB : Array Slot) (pcr : Nat), ck_d M pcr .ireturn 1 = true → W p l e R s m args below meth c H locs (gN h' + gJ h' - K0) (gD h' - D0) Q (F0 m pcr lsB [.int (Int32.ofInt n)]) := fun lsB pcr hr =>
        hEn.1 _ rfl H locs lsB pcr .ireturn (ck_d_spec hr) (Or.inl ⟨rfl, _, rfl, Or.inl hri⟩) hY hS
      unfold ck_h at a6
      split at a6
      · rename_i x hd
        simp only [Bool.and_eq_true, decide_eq_true_eq] at a6
        refine lv_astore_n hx hb hd rfl hl.2 a6.2 rfl (fun lsB hB => ?_)
        exact lv_iconst hx hb (ck_d_spec a6.1.1) rfl (hend lsB _ a6.1.2)
      · rename_i x hd
        simp only [Bool.and_eq_true, decide_eq_true_eq] at a6
        refine lv_astore hx hb hd hl.2 a6.2 rfl (fun lsB hB => ?_)
        exact lv_iconst hx hb (ck_d_spec a6.1.1) rfl (hend lsB _ a6.1.2)
      · cases a6
  · cases h1
/-- the ends of a method -/
theorem sm_finish {M pc : Nat} {ls : sm_L} {st : List Value} {h h' : sm_H} {res : sm_R} {o : sm_O} (hc : sm_chk M pc o = true) (hs : sm_step h pc o ls st = some (.inr (.inr (res, h')))) : sm_Sim M pc ls st h res h' := by
  obtain ⟨o, xa, xb, xc, xl⟩ := o
  rcases sm_nxt o xa xb xc xl hc hs with ⟨y, hy⟩ | rfl | rfl | rfl | rfl | rfl | rfl | rfl
  · cases hy
  · have hs : (match (generalizing := false) st with
    | [.int x] => if xa = 0 ∨ x = 0 ∨ x = 1 then sm_fin (.inl (some (.int x))) h else none
    | _ => none : Option sm_N) = some (.inr (.inr (res, h'))) := hs
    have hc : (ck_d M pc .ireturn 1 && (bif xa == 0 then decide ((sm_mi M).2.2.2.1 = some .int) else decide (xa = 1) && decide ((sm_mi M).2.2.2.1 = some .boolean))) = true := hc
    rw [Bool.and_eq_true] at hc
    split at hs
    · split at hs
      · rename_i hi
        unfold sm_fin at hs
        cases hs
        refine ⟨⟨Nat.le_refl _, Nat.le_refl _, Nat.le_refl _⟩, fun p l e R s m args below meth c Q D ac b scr L xs K0 D0 hC hsz m1 m3 hc1 hc2 hE H locs lsA hY hS hl => ?_⟩
        refine hE.1 _ rfl H locs lsA pc .ireturn (ck_d_spec hc.1) (Or.inl ⟨rfl, _, rfl, ?_⟩) hY hS
        have hc := hc.2
        by_cases h0 : xa = 0
        · subst h0
          exact Or.inl (of_decide_eq_true hc)
        · have h0' : (xa == 0) = false := by simpa using h0
          rw [h0', cond_false, Bool.and_eq_true, decide_eq_true_eq, decide_eq_true_eq] at hc
          exact Or.inr ⟨hc.2, hi.resolve_left h0⟩
      · cases hs
    · cases hs
  · have hs : (match (generalizing := false) st with
    | [.long x] => sm_fin (.inl (some (.long x))) h
    | _ => none : Option sm_N) = some (.inr (.inr (res, h'))) := hs
    have hc : (ck_d M pc .lreturn 1 && decide ((sm_mi M).2.2.2.1 = some .long)) = true := hc
    rw [Bool.and_eq_true, decide_eq_true_eq] at hc
    split at hs
    · unfold sm_fin at hs
      cases hs
      refine ⟨⟨Nat.le_refl _, Nat.le_refl _, Nat.le_refl _⟩, fun p l e R s m args below meth c Q D ac b scr L xs K0 D0 hC hsz m1 m3 hc1 hc2 hE H locs lsA hY hS hl => ?_⟩
      exact hE.1 _ rfl H locs lsA pc .lreturn (ck_d_spec hc.1) (Or.inr (Or.inl ⟨rfl, ⟨_, rfl⟩, hc.2⟩)) hY hS
    · cases hs
  · have hs : (match (generalizing := false) st with
    | [.ref x] => sm_fin (.inl (some (.ref x))) h
    | [.null] => sm_fin (.inl (some .null)) h
    | _ => none : Option sm_N) = some (.inr (.inr (res, h'))) := hs
    have hc : (ck_d M pc .areturn 1 && ck_rr (sm_mi M).2.2.2.1) = true := hc
    rw [Bool.and_eq_true] at hc
    split at hs
    · unfold sm_fin at hs
      cases hs
      refine ⟨⟨Nat.le_refl _, Nat.le_refl _, Nat.le_refl _⟩, fun p l e R s m args below meth c Q D ac b scr L xs K0 D0 hC hsz m1 m3 hc1 hc2 hE H locs lsA hY hS hl => ?_⟩
      exact hE.1 _ rfl H locs lsA pc .areturn (ck_d_spec hc.1) (Or.inr (Or.inr (Or.inl ⟨rfl, Or.inl ⟨_, rfl⟩, hc.2⟩))) hY hS
    · unfold sm_fin at hs
      cases hs
      refine ⟨⟨Nat.le_refl _, Nat.le_refl _, Nat.le_refl _⟩, fun p l e R s m args below meth c Q D ac b scr L xs K0 D0 hC hsz m1 m3 hc1 hc2 hE H locs lsA hY hS hl => ?_⟩
      exact hE.1 _ rfl H locs lsA pc .areturn (ck_d_spec hc.1) (Or.inr (Or.inr (Or.inl ⟨rfl, Or.inr rfl, hc.2⟩))) hY hS
    · cases hs
  · have hs : (match (generalizing := false) st with
    | [] => sm_fin (.inl none) h
    | _ => none : Option sm_N) = some (.inr (.inr (res, h'))) := hs
    have hc : (ck_d M pc .return_ 1 && decide ((sm_mi M).2.2.2.1 = none)) = true := hc
    rw [Bool.and_eq_true, decide_eq_true_eq] at hc
    split at hs
    · unfold sm_fin at hs
      cases hs
      refine ⟨⟨Nat.le_refl _, Nat.le_refl _, Nat.le_refl _⟩, fun p l e R s m args below meth c Q D ac b scr L xs K0 D0 hC hsz m1 m3 hc1 hc2 hE H locs lsA hY hS hl => ?_⟩
      exact hE.1 _ rfl H locs lsA pc .return_ (ck_d_spec hc.1) (Or.inr (Or.inr (Or.inr ⟨rfl, rfl, hc.2⟩))) hY hS
    · cases hs
  · have hs : (if xb ≤ st.length ∧ sm_wt (st.drop xb) ≤ 8 ∧ sm_rcv h (xl.getD 1 0) (st.take xb).reverse = true then some (.inr (.inl (xa, (st.take xb).reverse, st.drop xb))) else none : Option sm_N) = some (.inr (.inr (res, h'))) := hs
    split at hs <;> cases hs
  · have hs : (if sm_wt st ≤ 8 then sm_fin (.inr xa) (hjunk h) else none : Option sm_N) = some (.inr (.inr (res, h'))) := hs
    have hc : ck_thr M pc xa xb xc xl 2 = true := hc
    split at hs
    · rename_i hi
      unfold sm_fin at hs
      cases hs
      refine ⟨⟨Nat.le_refl _, Nat.le_succ _, Nat.le_add_right _ _⟩, fun p l e R s m args below meth c Q D ac b scr L xs K0 D0 hC hsz m1 m3 hc1 hc2 hE H locs lsA hY hS hl => ?_⟩
      exact hE.2.1 xa rfl H locs lsA pc st h xb xc xl 2 hc (Or.inl rfl) rfl hi m1 m3 (hl.2.1.trans hC.2.2.1.symm) hY hS
    · cases hs
  · have hs : (if sm_wt st ≤ 8 then sm_fin (.inr xa) (hjunk h) else none : Option sm_N) = some (.inr (.inr (res, h'))) := hs
    have hc : ck_thr M pc xa xb xc xl 3 = true := hc
    split at hs
    · rename_i hi
      unfold sm_fin at hs
      cases hs
      refine ⟨⟨Nat.le_refl _, Nat.le_succ _, Nat.le_add_right _ _⟩, fun p l e R s m args below meth c Q D ac b scr L xs K0 D0 hC hsz m1 m3 hc1 hc2 hE H locs lsA hY hS hl => ?_⟩
      exact hE.2.1 xa rfl H locs lsA pc st h xb xc xl 3 hc (Or.inr rfl) rfl hi m1 m3 (hl.2.1.trans hC.2.2.1.symm) hY hS
    · cases hs
theorem sm_sim : ∀ (f M pc : Nat) (ls : sm_L) (st : List Value) (h : sm_H) (res : sm_R) (h' : sm_H), sm_exec sm_prog f M pc ls st h = some (res, h') → M < 202 → sm_Sim M pc ls st h res h' := by
  intro f
  induction f with
  | zero => intro M pc ls st h res h' hx _; simp [sm_exec] at hx
  | succ f ih =>
    intro M pc ls st h res h' hx hM
    rw [sm_exec] at hx
    cases ho : sm_prog.1 M pc with
    | none => rw [ho] at hx; cases hx
    | some o =>
      rw [ho] at hx
      dsimp only at hx
      have hchk : sm_chk M pc o = true := sm_ck hM ho
      cases hs : sm_step h pc o ls st with
      | none => rw [hs] at hx; cases hx
      | some n =>
        rw [hs] at hx
        rcases n with ⟨pc1, ls1, st1, h1⟩ | ⟨N, av, rest⟩ | ⟨r, h1⟩
        · dsimp only at hx
          obtain ⟨⟨g1, g2, g3⟩, G1⟩ := sm_one o.1 o.2.1 o.2.2.1 o.2.2.2.1 o.2.2.2.2 hchk hs
          obtain ⟨⟨i1, i2, i3⟩, G2⟩ := ih _ _ _ _ _ _ _ hx hM
          refine ⟨⟨Nat.le_trans g1 i1, Nat.le_trans g2 i2, Nat.le_trans g3 i3⟩, fun p l e R s m args below meth c Q D ac b scr L xs K0 D0 hC hsz m1 m3 hc1 hc2 hE => ?_⟩
          exact G1 p l e R s m args below meth c Q D ac b scr L xs K0 D0 hC hsz m1 m3 (by omega) (by omega) (G2 p l e R s m args below meth c Q D ac b scr L xs K0 D0 hC (fun hJ => hsz (by omega)) (by omega) (by omega) hc1 hc2 hE)
        · dsimp only at hx
          obtain ⟨o, xa, xb, xc, xl⟩ := o
          have h69 : o = 69 := by
            rcases sm_nxt o xa xb xc xl hchk hs with ⟨y, hy⟩ | rfl | rfl | rfl | rfl | rfl | rfl | rfl
            · cases hy
            · exfalso
              have hs : (match (generalizing := false) st with
    | [.int x] => if xa = 0 ∨ x = 0 ∨ x = 1 then sm_fin (.inl (some (.int x))) h else none
    | _ => none : Option sm_N) = some (.inr (.inl (N, av, rest))) := hs
              (repeat' split at hs) <;> first | (unfold sm_fin at hs; cases hs) | cases hs
            · exfalso
              have hs : (match (generalizing := false) st with
    | [.long x] => sm_fin (.inl (some (.long x))) h
    | _ => none : Option sm_N) = some (.inr (.inl (N, av, rest))) := hs
              (repeat' split at hs) <;> first | (unfold sm_fin at hs; cases hs) | cases hs
            · exfalso
              have hs : (match (generalizing := false) st with
    | [.ref x] => sm_fin (.inl (some (.ref x))) h
    | [.null] => sm_fin (.inl (some .null)) h
    | _ => none : Option sm_N) = some (.inr (.inl (N, av, rest))) := hs
              (repeat' split at hs) <;> first | (unfold sm_fin at hs; cases hs) | cases hs
            · exfalso
              have hs : (match (generalizing := false) st with
    | [] => sm_fin (.inl none) h
    | _ => none : Option sm_N) = some (.inr (.inl (N, av, rest))) := hs
              (repeat' split at hs) <;> first | (unfold sm_fin at hs; cases hs) | cases hs
            · rfl
            · exfalso
              have hs : (if sm_wt st ≤ 8 then sm_fin (.inr xa) (hjunk h) else none : Option sm_N) = some (.inr (.inl (N, av, rest))) := hs
              (repeat' split at hs) <;> first | (unfold sm_fin at hs; cases hs) | cases hs
            · exfalso
              have hs : (if sm_wt st ≤ 8 then sm_fin (.inr xa) (hjunk h) else none : Option sm_N) = some (.inr (.inl (N, av, rest))) := hs
              (repeat' split at hs) <;> first | (unfold sm_fin at hs; cases hs) | cases hs
          subst h69
          have hs : (if xb ≤ st.length ∧ sm_wt (st.drop xb) ≤ 8 ∧ sm_rcv h (xl.getD 1 0) (st.take xb).reverse = true then some (.inr (.inl (xa, (st.take xb).reverse, st.drop xb))) else none : Option sm_N) = some (.inr (.inl (N, av, rest))) := hs
          split at hs
          · rename_i hcond
            obtain ⟨hn, hwt, hrc⟩ := hcond
            cases hs
            obtain ⟨hfr9, hlo9, hcc, hd⟩ := ck_call_spec (show ck_call M pc N xb xc xl = true from hchk)
            have hN := hcc.1
            have hN2 := hcc.2.1
            split at hx
            · rename_i hle
              cases hy : sm_exec sm_prog f N 0 (sm_pad (sm_ent (st.take xb).reverse) (sm_prog.2.1 N)) [] h with
              | none => rw [hy] at hx; cases hx
              | some y =>
                rw [hy] at hx
                obtain ⟨r1, h1⟩ := y
                have S1 := ih _ _ _ _ _ _ _ hy hN
                have hC1 := fun (l : Launch) (hst : l.stackTraces = false) (D : va_G) (ac : Nat → ClassId) (b scr L : Nat) (xs : Nat → Int32) => sm_contract hN hN2 hle S1 l hst D ac b scr L xs
                obtain ⟨⟨j1, j2, j3⟩, -⟩ := S1
                have key : (gN h1 ≤ gN h' ∧ gJ h1 ≤ gJ h' ∧ gD h1 ≤ gD h') ∧ ∀ (p : Program) (l : Launch) (e : Env) (R : Room) (s : State) (m : MethodId) (args : Array Value) (below : List Frame) (meth : Method) (c : Code) (Q : State → Prop) (D : va_G) (ac : Nat → ClassId) (b scr L : Nat) (xs : Nat → Int32) (K0 D0 : Nat), sm_Cx p l R s m args meth c D ac b scr L xs M → (gJ h1 = 0 → s.heap.size = b + K0) → K0 ≤ gN h1 + gJ h1 → D0 ≤ gD h1 → gN h' + gJ h' - K0 ≤ R.cells → gD h' - D0 ≤ R.slots → sm_Ends p l e R s m args below meth c Q D ac b scr L xs K0 D0 M res h' → (∀ v, r1 = .inl v → sm_G p l e R s m args below meth c Q D sm_cls ac b scr L xs (sm_mi M).2.2.1 K0 D0 (pc + 3) ls (v.toList ++ st.drop xb) h1) ∧ (∀ k, r1 = .inr k → sm_GX p l e R s m args below meth c Q D sm_cls ac b scr L xs (sm_mi M).2.2.1 K0 D0 pc ls (st.drop xb) h1 (sm_EX k)) := by
                  rcases r1 with v | k
                  · dsimp only at hx
                    have S2 := ih _ _ _ _ _ _ _ hx hM
                    refine ⟨S2.1, fun p l e R s m args below meth c Q D ac b scr L xs K0 D0 hC hsz m1 m3 hc1 hc2 hE => ⟨fun v' hv' => ?_, fun k hk => (by cases hk)⟩⟩
                    cases hv'
                    exact S2.2 p l e R s m args below meth c Q D ac b scr L xs K0 D0 hC hsz m1 m3 hc1 hc2 hE
                  · dsimp only at hx
                    cases hz : sm_prog.2.2 M pc k with
                    | none => rw [hz] at hx; cases hx
                    | some w =>
                      rw [hz] at hx
                      cases w with
                      | none =>
                        cases hx
                        refine ⟨⟨Nat.le_refl _, Nat.le_refl _, Nat.le_refl _⟩, fun p l e R s m args below meth c Q D ac b scr L xs K0 D0 hC hsz m1 m3 hc1 hc2 hE => ⟨fun v' hv' => (by cases hv'), fun k' hk' => ?_⟩⟩
                        cases hk'
                        exact hE.2.2 k rfl (sm_ca_none hz) pc ls (st.drop xb)
                      | some n =>
                        cases hx
                        refine ⟨⟨Nat.le_refl _, Nat.le_refl _, Nat.le_refl _⟩, fun p l e R s m args below meth c Q D ac b scr L xs K0 D0 hC hsz m1 m3 hc1 hc2 hE => ⟨fun v' hv' => (by cases hv'), fun k' hk' => ?_⟩⟩
                        cases hk'
                        exact sm_hcatch hC hz hE
                obtain ⟨⟨i1, i2, i3⟩, K⟩ := key
                refine ⟨⟨Nat.le_trans j1 i1, Nat.le_trans j2 i2, Nat.le_trans j3 i3⟩, fun p l e R s m args below meth c Q D ac b scr L xs K0 D0 hC hsz m1 m3 hc1 hc2 hE => ?_⟩
                obtain ⟨kr, kx⟩ := K p l e R s m args below meth c Q D ac b scr L xs K0 D0 hC (fun hJ => hsz (by omega)) (by omega) (by omega) hc1 hc2 hE
                have hC' := hC
                obtain ⟨hx9, hb9, hml9, hown9, hts9, hrt9, hlk9, hfr8, hlo8, htb9, hst9, hnm9, hE9⟩ := hC
                have hcw := sm_cw_in hN hN2
                have hini : Cond.initialized (sm_mi N).1.cls ∈ lw_tbl.filter goodWord := by
                  rw [(sm_own hN).1]
                  exact sm_tin (sm_inz _ (sm_oc16 N hN)) rfl
                exact G_call hml9 hE9 (hC1 l hst9 D ac b scr L xs) rfl rfl (by show (sm_mi N).2.2.2.2.2.1 + 1 ≤ R.frames; omega) (by show 8 + ((sm_mi N).2.2.1 + 11) + (sm_mi N).2.2.2.2.2.2 ≤ R.locals; omega) hts9 sm_goodW hcw hini (by rw [hb9]; exact hd) hwt hsz m1 (by omega) m3 j3 (by omega) (by omega)
                  (fun H locs lsA T hY hT X => sm_link hC' rfl hcc hd hn hrc hY hT X) kr kx
            · cases hx
          · cases hs
        · cases hx
          exact sm_finish hchk hs
