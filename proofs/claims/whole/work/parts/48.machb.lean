section MACHB
theorem Er_ldiv {M pc a b : Nat} {ls : sm_L} {r : List Value} {h : sm_H} {cx : Int} {l : List Nat} {Q : sm_R → sm_H → Prop} {x y : Int64} (ho : sm_code M pc = some (23, a, b, cx, l)) (hy : y ≠ 0) (kk : Ev M (pc + 1) ls (.long (x / y) :: r) h Q) : Ev M pc ls (.long y :: .long x :: r) h Q :=
  Ev_next ho (by show (if y = 0 then none else nx (pc + 1) ls (.long (x / y) :: r) h) = _; rw [if_neg hy]; rfl) kk
theorem Er_idiv {M pc a b : Nat} {ls : sm_L} {r : List Value} {h : sm_H} {cx : Int} {l : List Nat} {Q : sm_R → sm_H → Prop} {x y : Int32} (ho : sm_code M pc = some (16, a, b, cx, l)) (hy : y ≠ 0) (kk : Ev M (pc + 1) ls (.int (x / y) :: r) h Q) : Ev M pc ls (.int y :: .int x :: r) h Q :=
  Ev_next ho (by show (if y = 0 then none else nx (pc + 1) ls (.int (x / y) :: r) h) = _; rw [if_neg hy]; rfl) kk
theorem Er_irem {M pc a b : Nat} {ls : sm_L} {r : List Value} {h : sm_H} {cx : Int} {l : List Nat} {Q : sm_R → sm_H → Prop} {x y : Int32} (ho : sm_code M pc = some (17, a, b, cx, l)) (hy : y ≠ 0) (kk : Ev M (pc + 1) ls (.int (x - x / y * y) :: r) h Q) : Ev M pc ls (.int y :: .int x :: r) h Q :=
  Ev_next ho (by show (if y = 0 then none else nx (pc + 1) ls (.int (x - x / y * y) :: r) h) = _; rw [if_neg hy]; rfl) kk
/-- the Machine's state: stack (top first), trapped, CELLS, emitted, next -/
abbrev JQ := List Int64 × Bool × (Nat → Int64) × List (Int64 × Int64) × Nat
def QM (h : sm_H) (a : Nat) (kd : Int32) (ky : Int64) (rw en : Nat) (q : JQ) : Prop := MS h a q.1.reverse q.2.2.1 q.2.2.2.1 q.2.1 q.2.2.2.2 kd ky rw en
def jq_trap (q : JQ) : JQ := (q.1, true, q.2.2)
def jq_push (x : Int64) (q : JQ) : JQ := if q.1.length < 12 then (x :: q.1, q.2) else jq_trap q
def jq_pop (q : JQ) : Int64 × JQ := match q.1 with
  | [] => (0, jq_trap q)
  | x :: s => (x, (s, q.2))
def jq_div (x y : Int64) (q : JQ) : JQ := if y = 0 then jq_trap q else jq_push (x / y) q
variable {h : sm_H} {a : Nat} {kd : Int32} {ky : Int64} {rw en : Nat} {q : JQ}
theorem QM_trap (hm : QM h a kd ky rw en q) : QM (setI h a 4 1) a kd ky rw en (jq_trap q) := MS_trap hm
theorem QM_is (hm : QM h a kd ky rw en q) : isM h a := hm.1
theorem QM_d (hm : QM h a kd ky rw en q) : gI h a 3 = Int32.ofNat q.1.length ∧ q.1.length ≤ 12 := by
  have h1 := hm.2.2.1
  have h2 := hm.2.1
  rw [List.length_reverse] at h1 h2
  exact ⟨h1, h2⟩

theorem s_Machine_push {x : Int64} (hm : QM h a kd ky rw en q) : ∃ h', Run 60 [.ref a, .long x] h (.inl none) h' ∧ QM h' a kd ky rw en (jq_push x q) ∧ Fr a (a + 6) h h' := by
  have hx : Ev 60 0 (sm_pad (sm_ent [.ref a, .long x]) (sm_prog.2.1 60)) [] h (fun r h1 => r = .inl none ∧ QM h1 a kd ky rw en (jq_push x q) ∧ Fr a (a + 6) h h1) := by
    have hd := QM_d hm
    by_cases hl : q.1.length < 12
    · skip
      show Ev 60 0 [some (.ref a), some (.long x), none] [] h _
      refine Er_run 1 (pc' := 1) (ls' := [some (.ref a), some (.long x), none]) (st' := [.ref a]) rfl ?_
      refine Er_getI (v := Int32.ofNat q.1.length) rfl (QM_is hm).1 (QM_d hm).1 ?_
      refine Er_run 2 (pc' := bif decide ((Int32.ofNat q.1.length) < ((12 : Int32))) then 17 else 9) (ls' := [some (.ref a), some (.long x), none]) (st' := []) rfl ?_
      refine Er_pc (t := 17) (show (bif decide ((Int32.ofNat q.1.length) < ((12 : Int32))) then 17 else 9) = 17 from by rw [show (decide ((Int32.ofNat q.1.length) < ((12 : Int32)))) = true from by rw [show (12 : Int32) = Int32.ofNat 12 from rfl, jx_lt (by omega) (by omega)]; exact decide_eq_true (by omega)]; rfl) ?_
      refine Er_run 1 (pc' := 18) (ls' := [some (.ref a), some (.long x), none]) (st' := [.ref a]) rfl ?_
      refine Er_getR (x := a + 1) rfl (QM_is hm).1 (QM_is hm).2.1 ?_
      refine Er_run 1 (pc' := 22) (ls' := [some (.ref a), some (.long x), none]) (st' := [.ref a, .ref (a + 1)]) rfl ?_
      refine Er_getI (v := Int32.ofNat q.1.length) rfl (QM_is hm).1 (QM_d hm).1 ?_
      refine Er_run 1 (pc' := 26) (ls' := [some (.ref a), some (.long x), none]) (st' := [.long x, .int (Int32.ofNat q.1.length), .ref (a + 1)]) rfl ?_
      refine Er_last rfl (QM_is hm).2.2.2.2.1 (by show sm_in _ (gS h (a + 1)).2 = true; rw [(QM_is hm).2.2.2.2.2.1]; exact sm_in_of (by rw [sm_ofNat_toInt (by omega)]; omega) (by rw [sm_ofNat_toInt (by omega)]; omega)) ?_
      refine Er_run 2 (pc' := 29) (ls' := [some (.ref a), some (.long x), none]) (st' := [.ref a, .ref a]) rfl ?_
      refine Er_getI (v := Int32.ofNat q.1.length) rfl (QM_is hm).1 (QM_d hm).1 ?_
      refine Er_run 2 (pc' := 34) (ls' := [some (.ref a), some (.long x), none]) (st' := [.int ((Int32.ofNat q.1.length) + ((1 : Int32))), .ref a]) rfl ?_
      refine Er_putI rfl (QM_is hm).1 ?_
      refine Er_fin rfl rfl ⟨rfl, ?_, (Fr.setL (by omega) (by omega)).trans (Fr.setI (by omega) (by omega))⟩
      rw [jq_push, if_pos hl, jx_cn (by omega), jx_s1]
      have hz := MS_push (x := x) hm (by rw [List.length_reverse]; exact hl)
      rw [List.length_reverse] at hz
      show MS _ a (x :: q.1).reverse _ _ _ _ _ _ _ _
      rw [List.reverse_cons]
      exact hz
    · skip
      show Ev 60 0 [some (.ref a), some (.long x), none] [] h _
      refine Er_run 1 (pc' := 1) (ls' := [some (.ref a), some (.long x), none]) (st' := [.ref a]) rfl ?_
      refine Er_getI (v := Int32.ofNat q.1.length) rfl (QM_is hm).1 (QM_d hm).1 ?_
      refine Er_run 2 (pc' := bif decide ((Int32.ofNat q.1.length) < ((12 : Int32))) then 17 else 9) (ls' := [some (.ref a), some (.long x), none]) (st' := []) rfl ?_
      refine Er_pc (t := 9) (show (bif decide ((Int32.ofNat q.1.length) < ((12 : Int32))) then 17 else 9) = 9 from by rw [show (decide ((Int32.ofNat q.1.length) < ((12 : Int32)))) = false from by rw [show (12 : Int32) = Int32.ofNat 12 from rfl, jx_lt (by omega) (by omega)]; exact decide_eq_false (by omega)]; rfl) ?_
      refine Er_run 2 (pc' := 11) (ls' := [some (.ref a), some (.long x), none]) (st' := [.int ((1 : Int32)), .ref a]) rfl ?_
      refine Er_putZ rfl (QM_is hm).1 (by decide) ?_
      refine Er_run 1 (pc' := 37) (ls' := [some (.ref a), some (.long x), none]) (st' := []) rfl ?_
      refine Er_fin rfl rfl ⟨rfl, ?_, Fr.setI (by omega) (by omega)⟩
      rw [jq_push, if_neg hl]
      exact QM_trap hm
  obtain ⟨r, h', hr, e, hq⟩ := Run_of (Nat.le_of_ble_eq_true rfl) hx
  subst e
  exact ⟨h', hr, hq⟩
theorem s_Machine_pop (hm : QM h a kd ky rw en q) : ∃ h', Run 61 [.ref a] h (.inl (some (.long ((jq_pop q).1)))) h' ∧ QM h' a kd ky rw en ((jq_pop q).2) ∧ Fr a (a + 6) h h' := by
  have hx : Ev 61 0 (sm_pad (sm_ent [.ref a]) (sm_prog.2.1 61)) [] h (fun r h1 => r = .inl (some (.long ((jq_pop q).1))) ∧ QM h1 a kd ky rw en ((jq_pop q).2) ∧ Fr a (a + 6) h h1) := by
    obtain ⟨s, z⟩ := q
    cases s with
    | nil =>
      show Ev 61 0 [some (.ref a)] [] h _
      refine Er_run 1 (pc' := 1) (ls' := [some (.ref a)]) (st' := [.ref a]) rfl ?_
      refine Er_getI (v := Int32.ofNat 0) rfl (QM_is hm).1 (QM_d hm).1 ?_
      refine Er_run 1 (pc' := bif decide (0 < (Int32.ofNat 0)) then 14 else 7) (ls' := [some (.ref a)]) (st' := []) rfl ?_
      refine Er_pc (t := 7) (show (bif decide (0 < (Int32.ofNat 0)) then 14 else 7) = 7 from by rw [show (decide (0 < (Int32.ofNat 0))) = false from by decide]; rfl) ?_
      refine Er_run 2 (pc' := 9) (ls' := [some (.ref a)]) (st' := [.int ((1 : Int32)), .ref a]) rfl ?_
      refine Er_putZ rfl (QM_is hm).1 (by decide) ?_
      refine Er_run 1 (pc' := 13) (ls' := [some (.ref a)]) (st' := [.long ((0 : Int64))]) rfl ?_
      exact Er_fin rfl rfl ⟨rfl, QM_trap hm, Fr.setI (by omega) (by omega)⟩
    | cons x s =>
      have hd : s.length + 1 ≤ 12 := (QM_d hm).2
      show Ev 61 0 [some (.ref a)] [] h _
      refine Er_run 1 (pc' := 1) (ls' := [some (.ref a)]) (st' := [.ref a]) rfl ?_
      refine Er_getI (v := Int32.ofNat (s.length + 1)) rfl (QM_is hm).1 (QM_d hm).1 ?_
      refine Er_run 1 (pc' := bif decide (0 < (Int32.ofNat (s.length + 1))) then 14 else 7) (ls' := [some (.ref a)]) (st' := []) rfl ?_
      refine Er_pc (t := 14) (show (bif decide (0 < (Int32.ofNat (s.length + 1))) then 14 else 7) = 14 from by rw [show (decide (0 < (Int32.ofNat (s.length + 1)))) = true from by rw [show (0 : Int32) = Int32.ofNat 0 from rfl, jx_lt (by omega) (by omega)]; exact decide_eq_true (by omega)]; rfl) ?_
      refine Er_run 2 (pc' := 16) (ls' := [some (.ref a)]) (st' := [.ref a, .ref a]) rfl ?_
      refine Er_getI (v := Int32.ofNat (s.length + 1)) rfl (QM_is hm).1 (QM_d hm).1 ?_
      refine Er_run 2 (pc' := 21) (ls' := [some (.ref a)]) (st' := [.int ((Int32.ofNat (s.length + 1)) - ((1 : Int32))), .ref a]) rfl ?_
      refine Er_putI rfl (QM_is hm).1 ?_
      refine Er_run 1 (pc' := 25) (ls' := [some (.ref a)]) (st' := [.ref a]) rfl ?_
      refine Er_getR (x := a + 1) rfl (QM_is hm).1 (QM_is hm).2.1 ?_
      refine Er_run 1 (pc' := 29) (ls' := [some (.ref a)]) (st' := [.ref a, .ref (a + 1)]) rfl ?_
      refine Er_getI (v := gI (setI h a 3 ((Int32.ofNat (s.length + 1)) - ((1 : Int32)))) a 3) rfl (QM_is hm).1 rfl ?_
      refine Er_lald (v := x) rfl (QM_is hm).2.2.2.2.1 (by show sm_in _ (gS h (a + 1)).2 = true; rw [(QM_is hm).2.2.2.2.2.1, show gI (setI h a 3 (Int32.ofNat (s.length + 1) - 1)) a 3 = Int32.ofNat s.length from by rw [gI_eq, ← jx_s1]; exact Int32.add_sub_cancel _ _]; exact sm_in_of (by rw [sm_ofNat_toInt (by omega)]; omega) (by rw [sm_ofNat_toInt (by omega)]; omega)) (by rw [show gI (setI h a 3 (Int32.ofNat (s.length + 1) - 1)) a 3 = Int32.ofNat s.length from by rw [gI_eq, ← jx_s1]; exact Int32.add_sub_cancel _ _, jx_cn (by omega)]; exact hm.2.2.2.1 s.length x (by show (x :: s).reverse[s.length]? = some x; simp)) ?_
      refine Er_fin rfl rfl ⟨rfl, ?_, Fr.setI (by omega) (by omega)⟩
      have hz := MS_pop (st := s.reverse) (x := x) (by have := hm; rw [QM] at this; simpa using this)
      rw [List.length_reverse] at hz
      rw [show Int32.ofNat (s.length + 1) - 1 = Int32.ofNat s.length from by rw [← jx_s1]; exact Int32.add_sub_cancel _ _]
      exact hz
  obtain ⟨r, h', hr, e, hq⟩ := Run_of (Nat.le_of_ble_eq_true rfl) hx
  subst e
  exact ⟨h', hr, hq⟩
theorem s_Machine_divide {x y : Int64} (hm : QM h a kd ky rw en q) : ∃ h', Run 58 [.ref a, .long x, .long y] h (.inl none) h' ∧ QM h' a kd ky rw en (jq_div x y q) ∧ Fr a (a + 6) h h' := by
  have hx : Ev 58 0 (sm_pad (sm_ent [.ref a, .long x, .long y]) (sm_prog.2.1 58)) [] h (fun r h1 => r = .inl none ∧ QM h1 a kd ky rw en (jq_div x y q) ∧ Fr a (a + 6) h h1) := by
    by_cases hl : y = 0
    · skip
      show Ev 58 0 [some (.ref a), some (.long x), none, some (.long y), none] [] h _
      refine Er_run 4 (pc' := bif !decide ((lg_cmp y ((0 : Int64))) = 0) then 14 else 6) (ls' := [some (.ref a), some (.long x), none, some (.long y), none]) (st' := []) rfl ?_
      refine Er_pc (t := 6) (show (bif !decide ((lg_cmp y ((0 : Int64))) = 0) then 14 else 6) = 6 from by rw [show (!decide ((lg_cmp y ((0 : Int64))) = 0)) = false from by rw [jx_cmp0]; simp [hl]]; rfl) ?_
      refine Er_run 2 (pc' := 8) (ls' := [some (.ref a), some (.long x), none, some (.long y), none]) (st' := [.int ((1 : Int32)), .ref a]) rfl ?_
      refine Er_putZ rfl (QM_is hm).1 (by decide) ?_
      refine Er_run 1 (pc' := 21) (ls' := [some (.ref a), some (.long x), none, some (.long y), none]) (st' := []) rfl ?_
      refine Er_fin rfl rfl ⟨rfl, ?_, Fr.setI (by omega) (by omega)⟩
      rw [jq_div, if_pos hl]
      exact QM_trap hm
    · skip
      show Ev 58 0 [some (.ref a), some (.long x), none, some (.long y), none] [] h _
      refine Er_run 4 (pc' := bif !decide ((lg_cmp y ((0 : Int64))) = 0) then 14 else 6) (ls' := [some (.ref a), some (.long x), none, some (.long y), none]) (st' := []) rfl ?_
      refine Er_pc (t := 14) (show (bif !decide ((lg_cmp y ((0 : Int64))) = 0) then 14 else 6) = 14 from by rw [show (!decide ((lg_cmp y ((0 : Int64))) = 0)) = true from by rw [jx_cmp0]; simp [hl]]; rfl) ?_
      refine Er_run 3 (pc' := 17) (ls' := [some (.ref a), some (.long x), none, some (.long y), none]) (st' := [.long y, .long x, .ref a]) rfl ?_
      refine Er_ldiv rfl hl ?_
      obtain ⟨h1, r1, p1, f1⟩ := s_Machine_push (x := x / y) hm
      refine Er_inv0 (q' := a) (ci := 4) (av := [.long (x / y)]) (rest := []) rfl rfl ⟨Nat.le_of_ble_eq_true rfl, Nat.le_of_ble_eq_true rfl⟩ rfl rfl (QM_is hm).1 r1 ?_
      refine Er_fin rfl rfl ⟨rfl, ?_, f1⟩
      rw [jq_div, if_neg hl]
      exact p1
  obtain ⟨r, h', hr, e, hq⟩ := Run_of (Nat.le_of_ble_eq_true rfl) hx
  subst e
  exact ⟨h', hr, hq⟩
def jq_put (c : Int64) (x : Int64) (q : JQ) : JQ := (q.1, q.2.1, (fun i => if i = c.toInt32.toNatClampNeg then x else q.2.2.1 i), q.2.2.2)
theorem QM_f (hm : QM h a kd ky rw en q) : gI h a 4 = (if q.2.1 then 1 else 0) ∧ gI h a 5 = kd ∧ gL h a 6 = ky ∧ gR h a 7 = some rw ∧ gI h a 8 = Int32.ofNat q.2.2.2.2 ∧ gI h a 9 = Int32.ofNat en := hm.2.2.2.2.2.2
theorem QM_cs (hm : QM h a kd ky rw en q) {i : Nat} (hi : i < 4) : gL h (a + 2) i = q.2.2.1 i := hm.2.2.2.2.1 i hi
theorem QM_em (hm : QM h a kd ky rw en q) : PL h (a + 3) 4 q.2.2.2.1 := hm.2.2.2.2.2.1
theorem s_Machine_putCell {c x : Int64} (hc : c = 0 ∨ c = 1 ∨ c = 2 ∨ c = 3) (hm : QM h a kd ky rw en q) : ∃ h', Run 55 [.ref a, .long c, .long x] h (.inl none) h' ∧ QM h' a kd ky rw en (jq_put c x q) ∧ Fr a (a + 6) h h' := by
  have hx : Ev 55 0 (sm_pad (sm_ent [.ref a, .long c, .long x]) (sm_prog.2.1 55)) [] h (fun r h1 => r = .inl none ∧ QM h1 a kd ky rw en (jq_put c x q) ∧ Fr a (a + 6) h h1) := by
    show Ev 55 0 [some (.ref a), some (.long c), none, some (.long x), none] [] h _
    refine Er_run 4 (pc' := bif decide ((lg_cmp c ((0 : Int64))) < 0) then 22 else 6) (ls' := [some (.ref a), some (.long c), none, some (.long x), none]) (st' := []) rfl ?_
    refine Er_pc (t := 6) (show (bif decide ((lg_cmp c ((0 : Int64))) < 0) then 22 else 6) = 6 from by rw [show (decide ((lg_cmp c ((0 : Int64))) < 0)) = false from by rcases hc with rfl | rfl | rfl | rfl <;> rfl]; rfl) ?_
    refine Er_run 4 (pc' := bif decide (0 ≤ (lg_cmp c ((4 : Int64)))) then 22 else 14) (ls' := [some (.ref a), some (.long c), none, some (.long x), none]) (st' := []) rfl ?_
    refine Er_pc (t := 14) (show (bif decide (0 ≤ (lg_cmp c ((4 : Int64)))) then 22 else 14) = 14 from by rw [show (decide (0 ≤ (lg_cmp c ((4 : Int64))))) = false from by rcases hc with rfl | rfl | rfl | rfl <;> rfl]; rfl) ?_
    refine Er_run 1 (pc' := 15) (ls' := [some (.ref a), some (.long c), none, some (.long x), none]) (st' := [.ref a]) rfl ?_
    refine Er_getR (x := a + 2) rfl (QM_is hm).1 (QM_is hm).2.2.1 ?_
    refine Er_run 3 (pc' := 21) (ls' := [some (.ref a), some (.long c), none, some (.long x), none]) (st' := [.long x, .int (Int64.toInt32 c), .ref (a + 2)]) rfl ?_
    refine Er_last rfl (QM_is hm).2.2.2.2.2.2.1 (by show sm_in _ (gS h (a + 2)).2 = true; rw [(QM_is hm).2.2.2.2.2.2.2]; rcases hc with rfl | rfl | rfl | rfl <;> rfl) ?_
    exact Er_fin rfl rfl ⟨rfl, MS_cell hm, Fr.setL (by omega) (by omega)⟩
  obtain ⟨r, h', hr, e, hq⟩ := Run_of (Nat.le_of_ble_eq_true rfl) hx
  subst e
  exact ⟨h', hr, hq⟩
def jx_k (l : List (Int64 × Int64)) (i : Nat) : Int64 := (l[i]?.getD (0, 0)).1
def jx_v (l : List (Int64 × Int64)) (i : Nat) : Int64 := (l[i]?.getD (0, 0)).2
theorem s_Pairs_keyT {b n i : Nat} {l : List (Int64 × Int64)} (hp : PL h b n l) (hi : i < 2147483648) : Run 4 [.ref b, .int (Int32.ofNat i)] h (.inl (some (.long (jx_k l i)))) h := by
  by_cases hl : i < l.length
  · obtain ⟨p, e⟩ := jx_at hl
    rw [jx_k, e]
    exact s_Pairs_key hp e
  · rw [jx_k, List.getElem?_eq_none (by omega)]
    refine ⟨Nat.le_of_ble_eq_true rfl, ?_⟩
    show Ev 4 0 [some (.ref b), some (.int (Int32.ofNat i))] [] h _
    refine Er_run 2 (pc' := bif decide ((Int32.ofNat i) < 0) then 21 else 4) (ls' := [some (.ref b), some (.int (Int32.ofNat i))]) (st' := []) rfl ?_
    refine Er_pc (t := 4) (show (bif decide ((Int32.ofNat i) < 0) then 21 else 4) = 4 from by rw [show (decide ((Int32.ofNat i) < 0)) = false from sm_nn (by rw [sm_ofNat_toInt hi]; omega)]; rfl) ?_
    refine Er_run 2 (pc' := 6) (ls' := [some (.ref b), some (.int (Int32.ofNat i))]) (st' := [.ref b, .int (Int32.ofNat i)]) rfl ?_
    refine Er_getI (v := Int32.ofNat l.length) rfl hp.1.1 hp.2.2.2.1 ?_
    refine Er_run 1 (pc' := bif decide ((Int32.ofNat l.length) ≤ (Int32.ofNat i)) then 21 else 12) (ls' := [some (.ref b), some (.int (Int32.ofNat i))]) (st' := []) rfl ?_
    refine Er_pc (t := 21) (show (bif decide ((Int32.ofNat l.length) ≤ (Int32.ofNat i)) then 21 else 12) = 21 from by rw [show (decide ((Int32.ofNat l.length) ≤ (Int32.ofNat i))) = true from by rw [jx_le (by have := hp.2.1; have := hp.2.2.1; omega) hi]; exact decide_eq_true (by omega)]; rfl) ?_
    refine Er_run 1 (pc' := 22) (ls' := [some (.ref b), some (.int (Int32.ofNat i))]) (st' := [.long ((0 : Int64))]) rfl ?_
    exact Er_fin rfl rfl ⟨rfl, rfl⟩
theorem s_Pairs_valueT {b n i : Nat} {l : List (Int64 × Int64)} (hp : PL h b n l) (hi : i < 2147483648) : Run 5 [.ref b, .int (Int32.ofNat i)] h (.inl (some (.long (jx_v l i)))) h := by
  by_cases hl : i < l.length
  · obtain ⟨p, e⟩ := jx_at hl
    rw [jx_v, e]
    exact s_Pairs_value hp e
  · rw [jx_v, List.getElem?_eq_none (by omega)]
    refine ⟨Nat.le_of_ble_eq_true rfl, ?_⟩
    show Ev 5 0 [some (.ref b), some (.int (Int32.ofNat i))] [] h _
    refine Er_run 2 (pc' := bif decide ((Int32.ofNat i) < 0) then 21 else 4) (ls' := [some (.ref b), some (.int (Int32.ofNat i))]) (st' := []) rfl ?_
    refine Er_pc (t := 4) (show (bif decide ((Int32.ofNat i) < 0) then 21 else 4) = 4 from by rw [show (decide ((Int32.ofNat i) < 0)) = false from sm_nn (by rw [sm_ofNat_toInt hi]; omega)]; rfl) ?_
    refine Er_run 2 (pc' := 6) (ls' := [some (.ref b), some (.int (Int32.ofNat i))]) (st' := [.ref b, .int (Int32.ofNat i)]) rfl ?_
    refine Er_getI (v := Int32.ofNat l.length) rfl hp.1.1 hp.2.2.2.1 ?_
    refine Er_run 1 (pc' := bif decide ((Int32.ofNat l.length) ≤ (Int32.ofNat i)) then 21 else 12) (ls' := [some (.ref b), some (.int (Int32.ofNat i))]) (st' := []) rfl ?_
    refine Er_pc (t := 21) (show (bif decide ((Int32.ofNat l.length) ≤ (Int32.ofNat i)) then 21 else 12) = 21 from by rw [show (decide ((Int32.ofNat l.length) ≤ (Int32.ofNat i))) = true from by rw [jx_le (by have := hp.2.1; have := hp.2.2.1; omega) hi]; exact decide_eq_true (by omega)]; rfl) ?_
    refine Er_run 1 (pc' := 22) (ls' := [some (.ref b), some (.int (Int32.ofNat i))]) (st' := [.long ((0 : Int64))]) rfl ?_
    exact Er_fin rfl rfl ⟨rfl, rfl⟩
def jq_add (k v : Int64) (q : JQ) : JQ := if q.2.2.2.1.length < 4 then (q.1, q.2.1, q.2.2.1, q.2.2.2.1 ++ [(k, v)], q.2.2.2.2) else jq_trap q
def jq_of (kd : Int32) (ky : Int64) (q : JQ) : Int64 × JQ := if kd = 1 then (ky, q) else jq_pop q
def jq_emit (kd : Int32) (ky : Int64) (q : JQ) : JQ := jq_add (jq_of kd ky (jq_pop q).2).1 (jq_pop q).1 (jq_of kd ky (jq_pop q).2).2
theorem s_Machine_emit (hm : QM h a kd ky rw en q) : ∃ h', Run 59 [.ref a] h (.inl none) h' ∧ QM h' a kd ky rw en (jq_emit kd ky q) ∧ Fr a (a + 6) h h' := by
  have hx : Ev 59 0 (sm_pad (sm_ent [.ref a]) (sm_prog.2.1 59)) [] h (fun r h1 => r = .inl none ∧ QM h1 a kd ky rw en (jq_emit kd ky q) ∧ Fr a (a + 6) h h1) := by
    by_cases hk : kd = 1
    · by_cases hl : (jq_pop q).2.2.2.2.1.length < 4
      · skip
        show Ev 59 0 [some (.ref a), none, none, none, none] [] h _
        refine Er_run 1 (pc' := 1) (ls' := [some (.ref a), none, none, none, none]) (st' := [.ref a]) rfl ?_
        obtain ⟨h1, r1, p1, f1⟩ := s_Machine_pop hm
        refine Er_inv1 (q' := a) (ci := 4) (av := []) (rest := []) rfl rfl ⟨Nat.le_of_ble_eq_true rfl, Nat.le_of_ble_eq_true rfl⟩ rfl rfl (QM_is hm).1 r1 ?_
        refine Er_run 2 (pc' := 6) (ls' := [some (.ref a), some (.long ((jq_pop q).1)), none, none, none]) (st' := [.ref a]) rfl ?_
        refine Er_getI (v := kd) rfl (QM_is p1).1 (QM_f p1).2.1 ?_
        refine Er_run 2 (pc' := bif !decide (kd = ((1 : Int32))) then 20 else 13) (ls' := [some (.ref a), some (.long ((jq_pop q).1)), none, none, none]) (st' := []) rfl ?_
        refine Er_pc (t := 13) (show (bif !decide (kd = ((1 : Int32))) then 20 else 13) = 13 from by rw [show (!decide (kd = ((1 : Int32)))) = false from by rw [decide_eq_true hk]; rfl]; rfl) ?_
        refine Er_run 1 (pc' := 14) (ls' := [some (.ref a), some (.long ((jq_pop q).1)), none, none, none]) (st' := [.ref a]) rfl ?_
        refine Er_getL (v := ky) rfl (QM_is p1).1 (QM_f p1).2.2.1 ?_
        refine Er_run 3 (pc' := 26) (ls' := [some (.ref a), some (.long ((jq_pop q).1)), none, some (.long ky), none]) (st' := [.ref a]) rfl ?_
        refine Er_getR (x := a + 3) rfl (QM_is p1).1 (QM_is p1).2.2.2.1 ?_
        refine Er_run 2 (pc' := 31) (ls' := [some (.ref a), some (.long ((jq_pop q).1)), none, some (.long ky), none]) (st' := [.long ((jq_pop q).1), .long ky, .ref (a + 3)]) rfl ?_
        obtain ⟨h3, r3, p3, f3⟩ := s_Pairs_add1 (k := ky) (v := (jq_pop q).1) (QM_em p1) hl
        refine Er_inv1 (q' := a + 3) (ci := 0) (av := [.long ky, .long ((jq_pop q).1)]) (rest := []) rfl rfl ⟨Nat.le_of_ble_eq_true rfl, Nat.le_of_ble_eq_true rfl⟩ rfl rfl (QM_em p1).1.1 r3 ?_
        refine Er_run 1 (pc' := bif !decide (((1 : Int32)) = 0) then 42 else 37) (ls' := [some (.ref a), some (.long ((jq_pop q).1)), none, some (.long ky), none]) (st' := []) rfl ?_
        refine Er_pc (t := 42) (show (bif !decide (((1 : Int32)) = 0) then 42 else 37) = 42 from by rw [show (!decide (((1 : Int32)) = 0)) = true from by decide]; rfl) ?_
        refine Er_fin rfl rfl ⟨rfl, ?_, f1.trans (f3.mono (by omega) (by omega))⟩
        rw [jq_emit, jq_of, if_pos hk]
        rw [jq_add, if_pos hl]
        exact MS_em f3 p3 p1
      · have hl : (jq_pop q).2.2.2.2.1.length = 4 := by
          obtain ⟨h1, r1, p1, f1⟩ := s_Machine_pop hm
          have := (QM_em p1).2.2.1
          omega
        show Ev 59 0 [some (.ref a), none, none, none, none] [] h _
        refine Er_run 1 (pc' := 1) (ls' := [some (.ref a), none, none, none, none]) (st' := [.ref a]) rfl ?_
        obtain ⟨h1, r1, p1, f1⟩ := s_Machine_pop hm
        refine Er_inv1 (q' := a) (ci := 4) (av := []) (rest := []) rfl rfl ⟨Nat.le_of_ble_eq_true rfl, Nat.le_of_ble_eq_true rfl⟩ rfl rfl (QM_is hm).1 r1 ?_
        refine Er_run 2 (pc' := 6) (ls' := [some (.ref a), some (.long ((jq_pop q).1)), none, none, none]) (st' := [.ref a]) rfl ?_
        refine Er_getI (v := kd) rfl (QM_is p1).1 (QM_f p1).2.1 ?_
        refine Er_run 2 (pc' := bif !decide (kd = ((1 : Int32))) then 20 else 13) (ls' := [some (.ref a), some (.long ((jq_pop q).1)), none, none, none]) (st' := []) rfl ?_
        refine Er_pc (t := 13) (show (bif !decide (kd = ((1 : Int32))) then 20 else 13) = 13 from by rw [show (!decide (kd = ((1 : Int32)))) = false from by rw [decide_eq_true hk]; rfl]; rfl) ?_
        refine Er_run 1 (pc' := 14) (ls' := [some (.ref a), some (.long ((jq_pop q).1)), none, none, none]) (st' := [.ref a]) rfl ?_
        refine Er_getL (v := ky) rfl (QM_is p1).1 (QM_f p1).2.2.1 ?_
        refine Er_run 3 (pc' := 26) (ls' := [some (.ref a), some (.long ((jq_pop q).1)), none, some (.long ky), none]) (st' := [.ref a]) rfl ?_
        refine Er_getR (x := a + 3) rfl (QM_is p1).1 (QM_is p1).2.2.2.1 ?_
        refine Er_run 2 (pc' := 31) (ls' := [some (.ref a), some (.long ((jq_pop q).1)), none, some (.long ky), none]) (st' := [.long ((jq_pop q).1), .long ky, .ref (a + 3)]) rfl ?_
        refine Er_inv1 (q' := a + 3) (ci := 0) (av := [.long ky, .long ((jq_pop q).1)]) (rest := []) rfl rfl ⟨Nat.le_of_ble_eq_true rfl, Nat.le_of_ble_eq_true rfl⟩ rfl rfl (QM_em p1).1.1 (s_Pairs_add0 (QM_em p1) hl) ?_
        refine Er_run 1 (pc' := bif !decide (((0 : Int32)) = 0) then 42 else 37) (ls' := [some (.ref a), some (.long ((jq_pop q).1)), none, some (.long ky), none]) (st' := []) rfl ?_
        refine Er_pc (t := 37) (show (bif !decide (((0 : Int32)) = 0) then 42 else 37) = 37 from by rw [show (!decide (((0 : Int32)) = 0)) = false from by decide]; rfl) ?_
        refine Er_run 2 (pc' := 39) (ls' := [some (.ref a), some (.long ((jq_pop q).1)), none, some (.long ky), none]) (st' := [.int ((1 : Int32)), .ref a]) rfl ?_
        refine Er_putZ rfl (QM_is p1).1 (by decide) ?_
        refine Er_fin rfl rfl ⟨rfl, ?_, f1.trans (Fr.setI (by omega) (by omega))⟩
        rw [jq_emit, jq_of, if_pos hk]
        rw [jq_add, if_neg (by rw [hl]; decide)]
        exact QM_trap p1
    · by_cases hl : (jq_pop (jq_pop q).2).2.2.2.2.1.length < 4
      · skip
        show Ev 59 0 [some (.ref a), none, none, none, none] [] h _
        refine Er_run 1 (pc' := 1) (ls' := [some (.ref a), none, none, none, none]) (st' := [.ref a]) rfl ?_
        obtain ⟨h1, r1, p1, f1⟩ := s_Machine_pop hm
        refine Er_inv1 (q' := a) (ci := 4) (av := []) (rest := []) rfl rfl ⟨Nat.le_of_ble_eq_true rfl, Nat.le_of_ble_eq_true rfl⟩ rfl rfl (QM_is hm).1 r1 ?_
        refine Er_run 2 (pc' := 6) (ls' := [some (.ref a), some (.long ((jq_pop q).1)), none, none, none]) (st' := [.ref a]) rfl ?_
        refine Er_getI (v := kd) rfl (QM_is p1).1 (QM_f p1).2.1 ?_
        refine Er_run 2 (pc' := bif !decide (kd = ((1 : Int32))) then 20 else 13) (ls' := [some (.ref a), some (.long ((jq_pop q).1)), none, none, none]) (st' := []) rfl ?_
        refine Er_pc (t := 20) (show (bif !decide (kd = ((1 : Int32))) then 20 else 13) = 20 from by rw [show (!decide (kd = ((1 : Int32)))) = true from by rw [decide_eq_false hk]; rfl]; rfl) ?_
        refine Er_run 1 (pc' := 21) (ls' := [some (.ref a), some (.long ((jq_pop q).1)), none, none, none]) (st' := [.ref a]) rfl ?_
        obtain ⟨h2, r2, p2, f2⟩ := s_Machine_pop p1
        refine Er_inv1 (q' := a) (ci := 4) (av := []) (rest := []) rfl rfl ⟨Nat.le_of_ble_eq_true rfl, Nat.le_of_ble_eq_true rfl⟩ rfl rfl (QM_is p1).1 r2 ?_
        refine Er_run 2 (pc' := 26) (ls' := [some (.ref a), some (.long ((jq_pop q).1)), none, some (.long ((jq_pop (jq_pop q).2).1)), none]) (st' := [.ref a]) rfl ?_
        refine Er_getR (x := a + 3) rfl (QM_is p2).1 (QM_is p2).2.2.2.1 ?_
        refine Er_run 2 (pc' := 31) (ls' := [some (.ref a), some (.long ((jq_pop q).1)), none, some (.long ((jq_pop (jq_pop q).2).1)), none]) (st' := [.long ((jq_pop q).1), .long ((jq_pop (jq_pop q).2).1), .ref (a + 3)]) rfl ?_
        obtain ⟨h3, r3, p3, f3⟩ := s_Pairs_add1 (k := (jq_pop (jq_pop q).2).1) (v := (jq_pop q).1) (QM_em p2) hl
        refine Er_inv1 (q' := a + 3) (ci := 0) (av := [.long ((jq_pop (jq_pop q).2).1), .long ((jq_pop q).1)]) (rest := []) rfl rfl ⟨Nat.le_of_ble_eq_true rfl, Nat.le_of_ble_eq_true rfl⟩ rfl rfl (QM_em p2).1.1 r3 ?_
        refine Er_run 1 (pc' := bif !decide (((1 : Int32)) = 0) then 42 else 37) (ls' := [some (.ref a), some (.long ((jq_pop q).1)), none, some (.long ((jq_pop (jq_pop q).2).1)), none]) (st' := []) rfl ?_
        refine Er_pc (t := 42) (show (bif !decide (((1 : Int32)) = 0) then 42 else 37) = 42 from by rw [show (!decide (((1 : Int32)) = 0)) = true from by decide]; rfl) ?_
        refine Er_fin rfl rfl ⟨rfl, ?_, (f1.trans f2).trans (f3.mono (by omega) (by omega))⟩
        rw [jq_emit, jq_of, if_neg hk]
        rw [jq_add, if_pos hl]
        exact MS_em f3 p3 p2
      · have hl : (jq_pop (jq_pop q).2).2.2.2.2.1.length = 4 := by
          obtain ⟨h1, r1, p1, f1⟩ := s_Machine_pop hm
          obtain ⟨h2, r2, p2, f2⟩ := s_Machine_pop p1
          have := (QM_em p2).2.2.1
          omega
        show Ev 59 0 [some (.ref a), none, none, none, none] [] h _
        refine Er_run 1 (pc' := 1) (ls' := [some (.ref a), none, none, none, none]) (st' := [.ref a]) rfl ?_
        obtain ⟨h1, r1, p1, f1⟩ := s_Machine_pop hm
        refine Er_inv1 (q' := a) (ci := 4) (av := []) (rest := []) rfl rfl ⟨Nat.le_of_ble_eq_true rfl, Nat.le_of_ble_eq_true rfl⟩ rfl rfl (QM_is hm).1 r1 ?_
        refine Er_run 2 (pc' := 6) (ls' := [some (.ref a), some (.long ((jq_pop q).1)), none, none, none]) (st' := [.ref a]) rfl ?_
        refine Er_getI (v := kd) rfl (QM_is p1).1 (QM_f p1).2.1 ?_
        refine Er_run 2 (pc' := bif !decide (kd = ((1 : Int32))) then 20 else 13) (ls' := [some (.ref a), some (.long ((jq_pop q).1)), none, none, none]) (st' := []) rfl ?_
        refine Er_pc (t := 20) (show (bif !decide (kd = ((1 : Int32))) then 20 else 13) = 20 from by rw [show (!decide (kd = ((1 : Int32)))) = true from by rw [decide_eq_false hk]; rfl]; rfl) ?_
        refine Er_run 1 (pc' := 21) (ls' := [some (.ref a), some (.long ((jq_pop q).1)), none, none, none]) (st' := [.ref a]) rfl ?_
        obtain ⟨h2, r2, p2, f2⟩ := s_Machine_pop p1
        refine Er_inv1 (q' := a) (ci := 4) (av := []) (rest := []) rfl rfl ⟨Nat.le_of_ble_eq_true rfl, Nat.le_of_ble_eq_true rfl⟩ rfl rfl (QM_is p1).1 r2 ?_
        refine Er_run 2 (pc' := 26) (ls' := [some (.ref a), some (.long ((jq_pop q).1)), none, some (.long ((jq_pop (jq_pop q).2).1)), none]) (st' := [.ref a]) rfl ?_
        refine Er_getR (x := a + 3) rfl (QM_is p2).1 (QM_is p2).2.2.2.1 ?_
        refine Er_run 2 (pc' := 31) (ls' := [some (.ref a), some (.long ((jq_pop q).1)), none, some (.long ((jq_pop (jq_pop q).2).1)), none]) (st' := [.long ((jq_pop q).1), .long ((jq_pop (jq_pop q).2).1), .ref (a + 3)]) rfl ?_
        refine Er_inv1 (q' := a + 3) (ci := 0) (av := [.long ((jq_pop (jq_pop q).2).1), .long ((jq_pop q).1)]) (rest := []) rfl rfl ⟨Nat.le_of_ble_eq_true rfl, Nat.le_of_ble_eq_true rfl⟩ rfl rfl (QM_em p2).1.1 (s_Pairs_add0 (QM_em p2) hl) ?_
        refine Er_run 1 (pc' := bif !decide (((0 : Int32)) = 0) then 42 else 37) (ls' := [some (.ref a), some (.long ((jq_pop q).1)), none, some (.long ((jq_pop (jq_pop q).2).1)), none]) (st' := []) rfl ?_
        refine Er_pc (t := 37) (show (bif !decide (((0 : Int32)) = 0) then 42 else 37) = 37 from by rw [show (!decide (((0 : Int32)) = 0)) = false from by decide]; rfl) ?_
        refine Er_run 2 (pc' := 39) (ls' := [some (.ref a), some (.long ((jq_pop q).1)), none, some (.long ((jq_pop (jq_pop q).2).1)), none]) (st' := [.int ((1 : Int32)), .ref a]) rfl ?_
        refine Er_putZ rfl (QM_is p2).1 (by decide) ?_
        refine Er_fin rfl rfl ⟨rfl, ?_, (f1.trans f2).trans (Fr.setI (by omega) (by omega))⟩
        rw [jq_emit, jq_of, if_neg hk]
        rw [jq_add, if_neg (by rw [hl]; decide)]
        exact QM_trap p2
  obtain ⟨r, h', hr, e, hq⟩ := Run_of (Nat.le_of_ble_eq_true rfl) hx
  subst e
  exact ⟨h', hr, hq⟩
end MACHB
