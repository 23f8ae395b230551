section MACHC
variable {h : sm_H} {a : Nat} {kd : Int32} {ky : Int64} {rw en : Nat} {q : JQ} {n : Nat} {l : List (Int64 × Int64)}
/-- readValue -/
def jq_rv (kd : Int32) (l : List (Int64 × Int64)) (en : Nat) (q : JQ) : Int64 × JQ := if kd = 0 then (jx_v l q.2.2.2.2, q) else if en ≤ q.2.2.2.2 then (0, jq_trap q) else (jx_v l q.2.2.2.2, (q.1, q.2.1, q.2.2.1, q.2.2.2.1, q.2.2.2.2 + 1))
def jq_rm (kd : Int32) (en : Nat) (q : JQ) : Int64 := if kd ≠ 0 ∧ q.2.2.2.2 < en then 1 else 0
def jq_bin (f : Int64 → Int64 → Int64) (q : JQ) : JQ := jq_push (f (jq_pop (jq_pop q).2).1 (jq_pop q).1) (jq_pop (jq_pop q).2).2
def jq_quo (q : JQ) : JQ := jq_div (jq_pop (jq_pop q).2).1 (jq_pop q).1 (jq_pop (jq_pop q).2).2
def jq_dbl (q : JQ) : JQ := jq_push (jq_pop q).1 (jq_push (jq_pop q).1 (jq_pop q).2)
def jq_swp (q : JQ) : JQ := jq_push (jq_pop (jq_pop q).2).1 (jq_push (jq_pop q).1 (jq_pop (jq_pop q).2).2)

theorem jx_cmpge (x y : Int64) : decide (0 ≤ lg_cmp x y) = decide (y ≤ x) := by
  rw [decide_eq_decide, lg_cmp]
  by_cases h1 : x > y
  · rw [if_pos h1]
    exact ⟨fun _ => Int64.le_of_lt h1, fun _ => by decide⟩
  · rw [if_neg h1]
    by_cases h2 : x = y
    · subst h2; simp
    · rw [if_neg h2]
      exact ⟨fun h => absurd h (by decide), fun h => absurd (Int64.le_antisymm (Int64.not_lt.1 h1) h) h2⟩

theorem s_Machine_readValue (hr : PL h rw n l) (hn : q.2.2.2.2 ≤ en) (he : en < 2147483647) (hm : QM h a kd ky rw en q) : ∃ h', Run 54 [.ref a] h (.inl (some (.long ((jq_rv kd l en q).1)))) h' ∧ QM h' a kd ky rw en ((jq_rv kd l en q).2) ∧ Fr a (a + 6) h h' := by
  have hx : Ev 54 0 (sm_pad (sm_ent [.ref a]) (sm_prog.2.1 54)) [] h (fun r h1 => r = .inl (some (.long ((jq_rv kd l en q).1))) ∧ QM h1 a kd ky rw en ((jq_rv kd l en q).2) ∧ Fr a (a + 6) h h1) := by
    by_cases hk : kd = 0
    · skip
      show Ev 54 0 [some (.ref a), none, none] [] h _
      refine Er_run 1 (pc' := 1) (ls' := [some (.ref a), none, none]) (st' := [.ref a]) rfl ?_
      refine Er_getI (v := kd) rfl (QM_is hm).1 (QM_f hm).2.1 ?_
      refine Er_run 1 (pc' := bif !decide (kd = 0) then 19 else 7) (ls' := [some (.ref a), none, none]) (st' := []) rfl ?_
      refine Er_pc (t := 7) (show (bif !decide (kd = 0) then 19 else 7) = 7 from by rw [show (!decide (kd = 0)) = false from by rw [decide_eq_true hk]; rfl]; rfl) ?_
      refine Er_run 1 (pc' := 8) (ls' := [some (.ref a), none, none]) (st' := [.ref a]) rfl ?_
      refine Er_getR (x := rw) rfl (QM_is hm).1 (QM_f hm).2.2.2.1 ?_
      refine Er_run 1 (pc' := 12) (ls' := [some (.ref a), none, none]) (st' := [.ref a, .ref rw]) rfl ?_
      refine Er_getI (v := Int32.ofNat q.2.2.2.2) rfl (QM_is hm).1 (QM_f hm).2.2.2.2.1 ?_
      refine Er_inv1 (q' := rw) (ci := 0) (av := [.int (Int32.ofNat q.2.2.2.2)]) (rest := []) rfl rfl ⟨Nat.le_of_ble_eq_true rfl, Nat.le_of_ble_eq_true rfl⟩ rfl rfl hr.1.1 (s_Pairs_valueT hr (by omega)) ?_
      refine Er_fin rfl rfl ?_
      rw [jq_rv, if_pos hk]
      exact ⟨rfl, hm, Fr.refl _ _ _⟩
    · by_cases hl : en ≤ q.2.2.2.2
      · skip
        show Ev 54 0 [some (.ref a), none, none] [] h _
        refine Er_run 1 (pc' := 1) (ls' := [some (.ref a), none, none]) (st' := [.ref a]) rfl ?_
        refine Er_getI (v := kd) rfl (QM_is hm).1 (QM_f hm).2.1 ?_
        refine Er_run 1 (pc' := bif !decide (kd = 0) then 19 else 7) (ls' := [some (.ref a), none, none]) (st' := []) rfl ?_
        refine Er_pc (t := 19) (show (bif !decide (kd = 0) then 19 else 7) = 19 from by rw [show (!decide (kd = 0)) = true from by rw [decide_eq_false hk]; rfl]; rfl) ?_
        refine Er_run 1 (pc' := 20) (ls' := [some (.ref a), none, none]) (st' := [.ref a]) rfl ?_
        refine Er_getI (v := Int32.ofNat q.2.2.2.2) rfl (QM_is hm).1 (QM_f hm).2.2.2.2.1 ?_
        refine Er_run 1 (pc' := 24) (ls' := [some (.ref a), none, none]) (st' := [.ref a, .int (Int32.ofNat q.2.2.2.2)]) rfl ?_
        refine Er_getI (v := Int32.ofNat en) rfl (QM_is hm).1 (QM_f hm).2.2.2.2.2 ?_
        refine Er_run 1 (pc' := bif decide ((Int32.ofNat q.2.2.2.2) < (Int32.ofNat en)) then 37 else 30) (ls' := [some (.ref a), none, none]) (st' := []) rfl ?_
        refine Er_pc (t := 30) (show (bif decide ((Int32.ofNat q.2.2.2.2) < (Int32.ofNat en)) then 37 else 30) = 30 from by rw [show (decide ((Int32.ofNat q.2.2.2.2) < (Int32.ofNat en))) = false from by rw [jx_lt (by omega) (by omega)]; exact decide_eq_false (by omega)]; rfl) ?_
        refine Er_run 2 (pc' := 32) (ls' := [some (.ref a), none, none]) (st' := [.int ((1 : Int32)), .ref a]) rfl ?_
        refine Er_putZ rfl (QM_is hm).1 (by decide) ?_
        refine Er_run 1 (pc' := 36) (ls' := [some (.ref a), none, none]) (st' := [.long ((0 : Int64))]) rfl ?_
        refine Er_fin rfl rfl ?_
        rw [jq_rv, if_neg hk, if_pos hl]
        exact ⟨rfl, QM_trap hm, Fr.setI (by omega) (by omega)⟩
      · skip
        show Ev 54 0 [some (.ref a), none, none] [] h _
        refine Er_run 1 (pc' := 1) (ls' := [some (.ref a), none, none]) (st' := [.ref a]) rfl ?_
        refine Er_getI (v := kd) rfl (QM_is hm).1 (QM_f hm).2.1 ?_
        refine Er_run 1 (pc' := bif !decide (kd = 0) then 19 else 7) (ls' := [some (.ref a), none, none]) (st' := []) rfl ?_
        refine Er_pc (t := 19) (show (bif !decide (kd = 0) then 19 else 7) = 19 from by rw [show (!decide (kd = 0)) = true from by rw [decide_eq_false hk]; rfl]; rfl) ?_
        refine Er_run 1 (pc' := 20) (ls' := [some (.ref a), none, none]) (st' := [.ref a]) rfl ?_
        refine Er_getI (v := Int32.ofNat q.2.2.2.2) rfl (QM_is hm).1 (QM_f hm).2.2.2.2.1 ?_
        refine Er_run 1 (pc' := 24) (ls' := [some (.ref a), none, none]) (st' := [.ref a, .int (Int32.ofNat q.2.2.2.2)]) rfl ?_
        refine Er_getI (v := Int32.ofNat en) rfl (QM_is hm).1 (QM_f hm).2.2.2.2.2 ?_
        refine Er_run 1 (pc' := bif decide ((Int32.ofNat q.2.2.2.2) < (Int32.ofNat en)) then 37 else 30) (ls' := [some (.ref a), none, none]) (st' := []) rfl ?_
        refine Er_pc (t := 37) (show (bif decide ((Int32.ofNat q.2.2.2.2) < (Int32.ofNat en)) then 37 else 30) = 37 from by rw [show (decide ((Int32.ofNat q.2.2.2.2) < (Int32.ofNat en))) = true from by rw [jx_lt (by omega) (by omega)]; exact decide_eq_true (by omega)]; rfl) ?_
        refine Er_run 1 (pc' := 38) (ls' := [some (.ref a), none, none]) (st' := [.ref a]) rfl ?_
        refine Er_getR (x := rw) rfl (QM_is hm).1 (QM_f hm).2.2.2.1 ?_
        refine Er_run 1 (pc' := 42) (ls' := [some (.ref a), none, none]) (st' := [.ref a, .ref rw]) rfl ?_
        refine Er_getI (v := Int32.ofNat q.2.2.2.2) rfl (QM_is hm).1 (QM_f hm).2.2.2.2.1 ?_
        refine Er_inv1 (q' := rw) (ci := 0) (av := [.int (Int32.ofNat q.2.2.2.2)]) (rest := []) rfl rfl ⟨Nat.le_of_ble_eq_true rfl, Nat.le_of_ble_eq_true rfl⟩ rfl rfl hr.1.1 (s_Pairs_valueT hr (by omega)) ?_
        refine Er_run 3 (pc' := 51) (ls' := [some (.ref a), some (.long (jx_v l q.2.2.2.2)), none]) (st' := [.ref a, .ref a]) rfl ?_
        refine Er_getI (v := Int32.ofNat q.2.2.2.2) rfl (QM_is hm).1 (QM_f hm).2.2.2.2.1 ?_
        refine Er_run 2 (pc' := 56) (ls' := [some (.ref a), some (.long (jx_v l q.2.2.2.2)), none]) (st' := [.int ((Int32.ofNat q.2.2.2.2) + ((1 : Int32))), .ref a]) rfl ?_
        refine Er_putI rfl (QM_is hm).1 ?_
        refine Er_run 1 (pc' := 60) (ls' := [some (.ref a), some (.long (jx_v l q.2.2.2.2)), none]) (st' := [.long (jx_v l q.2.2.2.2)]) rfl ?_
        refine Er_fin rfl rfl ?_
        rw [jq_rv, if_neg hk, if_neg hl, jx_s1]
        exact ⟨rfl, MS_next hm, Fr.setI (by omega) (by omega)⟩
  obtain ⟨r, h', hr, e, hq⟩ := Run_of (Nat.le_of_ble_eq_true rfl) hx
  subst e
  exact ⟨h', hr, hq⟩
theorem s_Machine_read0 {c : Int64} (hm : QM h a kd ky rw en q) : ∃ h', Run 53 [.ref a, .int (Int32.ofNat 0), .long c] h (.inl (some (.long c))) h' ∧ QM h' a kd ky rw en (q) ∧ Fr a (a + 6) h h' := by
  have hx : Ev 53 0 (sm_pad (sm_ent [.ref a, .int (Int32.ofNat 0), .long c]) (sm_prog.2.1 53)) [] h (fun r h1 => r = .inl (some (.long c)) ∧ QM h1 a kd ky rw en (q) ∧ Fr a (a + 6) h h1) := by
    show Ev 53 0 [some (.ref a), some (.int (Int32.ofNat 0)), some (.long c), none] [] h _
    refine Er_run 3 (pc' := 33) (ls' := [some (.ref a), some (.int (Int32.ofNat 0)), some (.long c), none]) (st' := [.long c]) rfl ?_
    exact Er_fin rfl rfl ⟨rfl, hm, Fr.refl _ _ _⟩
  obtain ⟨r, h', hr, e, hq⟩ := Run_of (Nat.le_of_ble_eq_true rfl) hx
  subst e
  exact ⟨h', hr, hq⟩
theorem s_Machine_read1 {c : Int64} (hm : QM h a kd ky rw en q) : ∃ h', Run 53 [.ref a, .int (Int32.ofNat 1), .long c] h (.inl (some (.long ky))) h' ∧ QM h' a kd ky rw en (q) ∧ Fr a (a + 6) h h' := by
  have hx : Ev 53 0 (sm_pad (sm_ent [.ref a, .int (Int32.ofNat 1), .long c]) (sm_prog.2.1 53)) [] h (fun r h1 => r = .inl (some (.long ky)) ∧ QM h1 a kd ky rw en (q) ∧ Fr a (a + 6) h h1) := by
    show Ev 53 0 [some (.ref a), some (.int (Int32.ofNat 1)), some (.long c), none] [] h _
    refine Er_run 3 (pc' := 35) (ls' := [some (.ref a), some (.int (Int32.ofNat 1)), some (.long c), none]) (st' := [.ref a]) rfl ?_
    refine Er_getL (v := ky) rfl (QM_is hm).1 (QM_f hm).2.2.1 ?_
    exact Er_fin rfl rfl ⟨rfl, hm, Fr.refl _ _ _⟩
  obtain ⟨r, h', hr, e, hq⟩ := Run_of (Nat.le_of_ble_eq_true rfl) hx
  subst e
  exact ⟨h', hr, hq⟩
theorem s_Machine_read2 {c : Int64} (hr : PL h rw n l) (hn : q.2.2.2.2 ≤ en) (he : en < 2147483647) (hm : QM h a kd ky rw en q) : ∃ h', Run 53 [.ref a, .int (Int32.ofNat 2), .long c] h (.inl (some (.long ((jq_rv kd l en q).1)))) h' ∧ QM h' a kd ky rw en ((jq_rv kd l en q).2) ∧ Fr a (a + 6) h h' := by
  have hx : Ev 53 0 (sm_pad (sm_ent [.ref a, .int (Int32.ofNat 2), .long c]) (sm_prog.2.1 53)) [] h (fun r h1 => r = .inl (some (.long ((jq_rv kd l en q).1))) ∧ QM h1 a kd ky rw en ((jq_rv kd l en q).2) ∧ Fr a (a + 6) h h1) := by
    show Ev 53 0 [some (.ref a), some (.int (Int32.ofNat 2)), some (.long c), none] [] h _
    refine Er_run 3 (pc' := 40) (ls' := [some (.ref a), some (.int (Int32.ofNat 2)), some (.long c), none]) (st' := [.ref a]) rfl ?_
    obtain ⟨h1, r1, p1, f1⟩ := s_Machine_readValue hr hn he hm
    refine Er_inv1 (q' := a) (ci := 4) (av := []) (rest := []) rfl rfl ⟨Nat.le_of_ble_eq_true rfl, Nat.le_of_ble_eq_true rfl⟩ rfl rfl (QM_is hm).1 r1 ?_
    exact Er_fin rfl rfl ⟨rfl, p1, f1⟩
  obtain ⟨r, h', hr, e, hq⟩ := Run_of (Nat.le_of_ble_eq_true rfl) hx
  subst e
  exact ⟨h', hr, hq⟩
theorem s_Machine_read3 {c : Int64} (hn : q.2.2.2.2 ≤ en) (he : en < 2147483647) (hm : QM h a kd ky rw en q) : ∃ h', Run 53 [.ref a, .int (Int32.ofNat 3), .long c] h (.inl (some (.long (jq_rm kd en q)))) h' ∧ QM h' a kd ky rw en (q) ∧ Fr a (a + 6) h h' := by
  have hx : Ev 53 0 (sm_pad (sm_ent [.ref a, .int (Int32.ofNat 3), .long c]) (sm_prog.2.1 53)) [] h (fun r h1 => r = .inl (some (.long (jq_rm kd en q))) ∧ QM h1 a kd ky rw en (q) ∧ Fr a (a + 6) h h1) := by
    by_cases hk : kd = 0
    · skip
      show Ev 53 0 [some (.ref a), some (.int (Int32.ofNat 3)), some (.long c), none] [] h _
      refine Er_run 3 (pc' := 45) (ls' := [some (.ref a), some (.int (Int32.ofNat 3)), some (.long c), none]) (st' := [.ref a]) rfl ?_
      refine Er_getI (v := kd) rfl (QM_is hm).1 (QM_f hm).2.1 ?_
      refine Er_run 1 (pc' := bif decide (kd = 0) then 66 else 51) (ls' := [some (.ref a), some (.int (Int32.ofNat 3)), some (.long c), none]) (st' := []) rfl ?_
      refine Er_pc (t := 66) (show (bif decide (kd = 0) then 66 else 51) = 66 from by rw [show (decide (kd = 0)) = true from decide_eq_true hk]; rfl) ?_
      refine Er_run 1 (pc' := 67) (ls' := [some (.ref a), some (.int (Int32.ofNat 3)), some (.long c), none]) (st' := [.long ((0 : Int64))]) rfl ?_
      refine Er_fin rfl rfl ?_
      rw [jq_rm, if_neg (fun x => absurd x.1 (not_not_intro hk))]
      exact ⟨rfl, hm, Fr.refl _ _ _⟩
    · by_cases hl : q.2.2.2.2 < en
      · skip
        show Ev 53 0 [some (.ref a), some (.int (Int32.ofNat 3)), some (.long c), none] [] h _
        refine Er_run 3 (pc' := 45) (ls' := [some (.ref a), some (.int (Int32.ofNat 3)), some (.long c), none]) (st' := [.ref a]) rfl ?_
        refine Er_getI (v := kd) rfl (QM_is hm).1 (QM_f hm).2.1 ?_
        refine Er_run 1 (pc' := bif decide (kd = 0) then 66 else 51) (ls' := [some (.ref a), some (.int (Int32.ofNat 3)), some (.long c), none]) (st' := []) rfl ?_
        refine Er_pc (t := 51) (show (bif decide (kd = 0) then 66 else 51) = 51 from by rw [show (decide (kd = 0)) = false from decide_eq_false hk]; rfl) ?_
        refine Er_run 1 (pc' := 52) (ls' := [some (.ref a), some (.int (Int32.ofNat 3)), some (.long c), none]) (st' := [.ref a]) rfl ?_
        refine Er_getI (v := Int32.ofNat q.2.2.2.2) rfl (QM_is hm).1 (QM_f hm).2.2.2.2.1 ?_
        refine Er_run 1 (pc' := 56) (ls' := [some (.ref a), some (.int (Int32.ofNat 3)), some (.long c), none]) (st' := [.ref a, .int (Int32.ofNat q.2.2.2.2)]) rfl ?_
        refine Er_getI (v := Int32.ofNat en) rfl (QM_is hm).1 (QM_f hm).2.2.2.2.2 ?_
        refine Er_run 1 (pc' := bif decide ((Int32.ofNat en) ≤ (Int32.ofNat q.2.2.2.2)) then 66 else 62) (ls' := [some (.ref a), some (.int (Int32.ofNat 3)), some (.long c), none]) (st' := []) rfl ?_
        refine Er_pc (t := 62) (show (bif decide ((Int32.ofNat en) ≤ (Int32.ofNat q.2.2.2.2)) then 66 else 62) = 62 from by rw [show (decide ((Int32.ofNat en) ≤ (Int32.ofNat q.2.2.2.2))) = false from by rw [jx_le (by omega) (by omega)]; exact decide_eq_false (by omega)]; rfl) ?_
        refine Er_run 2 (pc' := 67) (ls' := [some (.ref a), some (.int (Int32.ofNat 3)), some (.long c), none]) (st' := [.long ((1 : Int64))]) rfl ?_
        refine Er_fin rfl rfl ?_
        rw [jq_rm, if_pos ⟨hk, hl⟩]
        exact ⟨rfl, hm, Fr.refl _ _ _⟩
      · skip
        show Ev 53 0 [some (.ref a), some (.int (Int32.ofNat 3)), some (.long c), none] [] h _
        refine Er_run 3 (pc' := 45) (ls' := [some (.ref a), some (.int (Int32.ofNat 3)), some (.long c), none]) (st' := [.ref a]) rfl ?_
        refine Er_getI (v := kd) rfl (QM_is hm).1 (QM_f hm).2.1 ?_
        refine Er_run 1 (pc' := bif decide (kd = 0) then 66 else 51) (ls' := [some (.ref a), some (.int (Int32.ofNat 3)), some (.long c), none]) (st' := []) rfl ?_
        refine Er_pc (t := 51) (show (bif decide (kd = 0) then 66 else 51) = 51 from by rw [show (decide (kd = 0)) = false from decide_eq_false hk]; rfl) ?_
        refine Er_run 1 (pc' := 52) (ls' := [some (.ref a), some (.int (Int32.ofNat 3)), some (.long c), none]) (st' := [.ref a]) rfl ?_
        refine Er_getI (v := Int32.ofNat q.2.2.2.2) rfl (QM_is hm).1 (QM_f hm).2.2.2.2.1 ?_
        refine Er_run 1 (pc' := 56) (ls' := [some (.ref a), some (.int (Int32.ofNat 3)), some (.long c), none]) (st' := [.ref a, .int (Int32.ofNat q.2.2.2.2)]) rfl ?_
        refine Er_getI (v := Int32.ofNat en) rfl (QM_is hm).1 (QM_f hm).2.2.2.2.2 ?_
        refine Er_run 1 (pc' := bif decide ((Int32.ofNat en) ≤ (Int32.ofNat q.2.2.2.2)) then 66 else 62) (ls' := [some (.ref a), some (.int (Int32.ofNat 3)), some (.long c), none]) (st' := []) rfl ?_
        refine Er_pc (t := 66) (show (bif decide ((Int32.ofNat en) ≤ (Int32.ofNat q.2.2.2.2)) then 66 else 62) = 66 from by rw [show (decide ((Int32.ofNat en) ≤ (Int32.ofNat q.2.2.2.2))) = true from by rw [jx_le (by omega) (by omega)]; exact decide_eq_true (by omega)]; rfl) ?_
        refine Er_run 1 (pc' := 67) (ls' := [some (.ref a), some (.int (Int32.ofNat 3)), some (.long c), none]) (st' := [.long ((0 : Int64))]) rfl ?_
        refine Er_fin rfl rfl ?_
        rw [jq_rm, if_neg (fun x => absurd x.2 hl)]
        exact ⟨rfl, hm, Fr.refl _ _ _⟩
  obtain ⟨r, h', hr, e, hq⟩ := Run_of (Nat.le_of_ble_eq_true rfl) hx
  subst e
  exact ⟨h', hr, hq⟩
theorem s_Machine_read4 {c : Int64} (hc : c = 0 ∨ c = 1 ∨ c = 2 ∨ c = 3) (hm : QM h a kd ky rw en q) : ∃ h', Run 53 [.ref a, .int (Int32.ofNat 4), .long c] h (.inl (some (.long (q.2.2.1 c.toInt32.toNatClampNeg)))) h' ∧ QM h' a kd ky rw en (q) ∧ Fr a (a + 6) h h' := by
  have hx : Ev 53 0 (sm_pad (sm_ent [.ref a, .int (Int32.ofNat 4), .long c]) (sm_prog.2.1 53)) [] h (fun r h1 => r = .inl (some (.long (q.2.2.1 c.toInt32.toNatClampNeg))) ∧ QM h1 a kd ky rw en (q) ∧ Fr a (a + 6) h h1) := by
    show Ev 53 0 [some (.ref a), some (.int (Int32.ofNat 4)), some (.long c), none] [] h _
    refine Er_run 6 (pc' := bif decide ((lg_cmp c ((0 : Int64))) < 0) then 92 else 74) (ls' := [some (.ref a), some (.int (Int32.ofNat 4)), some (.long c), none]) (st' := []) rfl ?_
    refine Er_pc (t := 74) (show (bif decide ((lg_cmp c ((0 : Int64))) < 0) then 92 else 74) = 74 from by rw [show (decide ((lg_cmp c ((0 : Int64))) < 0)) = false from by rcases hc with rfl | rfl | rfl | rfl <;> rfl]; rfl) ?_
    refine Er_run 4 (pc' := bif decide (0 ≤ (lg_cmp c ((4 : Int64)))) then 92 else 82) (ls' := [some (.ref a), some (.int (Int32.ofNat 4)), some (.long c), none]) (st' := []) rfl ?_
    refine Er_pc (t := 82) (show (bif decide (0 ≤ (lg_cmp c ((4 : Int64)))) then 92 else 82) = 82 from by rw [show (decide (0 ≤ (lg_cmp c ((4 : Int64))))) = false from by rcases hc with rfl | rfl | rfl | rfl <;> rfl]; rfl) ?_
    refine Er_run 1 (pc' := 83) (ls' := [some (.ref a), some (.int (Int32.ofNat 4)), some (.long c), none]) (st' := [.ref a]) rfl ?_
    refine Er_getR (x := a + 2) rfl (QM_is hm).1 (QM_is hm).2.2.1 ?_
    refine Er_run 2 (pc' := 88) (ls' := [some (.ref a), some (.int (Int32.ofNat 4)), some (.long c), none]) (st' := [.int (Int64.toInt32 c), .ref (a + 2)]) rfl ?_
    refine Er_lald (v := q.2.2.1 c.toInt32.toNatClampNeg) rfl (QM_is hm).2.2.2.2.2.2.1 (by show sm_in _ (gS h (a + 2)).2 = true; rw [(QM_is hm).2.2.2.2.2.2.2]; rcases hc with rfl | rfl | rfl | rfl <;> rfl) (QM_cs hm (by rcases hc with rfl | rfl | rfl | rfl <;> decide)) ?_
    refine Er_run 1 (pc' := 93) (ls' := [some (.ref a), some (.int (Int32.ofNat 4)), some (.long c), none]) (st' := [.long (q.2.2.1 c.toInt32.toNatClampNeg)]) rfl ?_
    exact Er_fin rfl rfl ⟨rfl, hm, Fr.refl _ _ _⟩
  obtain ⟨r, h', hr, e, hq⟩ := Run_of (Nat.le_of_ble_eq_true rfl) hx
  subst e
  exact ⟨h', hr, hq⟩
theorem s_Machine_shuffle12 (hm : QM h a kd ky rw en q) : ∃ h', Run 56 [.ref a, .int (Int32.ofNat 12)] h (.inl none) h' ∧ QM h' a kd ky rw en (jq_dbl q) ∧ Fr a (a + 6) h h' := by
  have hx : Ev 56 0 (sm_pad (sm_ent [.ref a, .int (Int32.ofNat 12)]) (sm_prog.2.1 56)) [] h (fun r h1 => r = .inl none ∧ QM h1 a kd ky rw en (jq_dbl q) ∧ Fr a (a + 6) h h1) := by
    show Ev 56 0 [some (.ref a), some (.int (Int32.ofNat 12)), none, none, none, none] [] h _
    refine Er_run 1 (pc' := 1) (ls' := [some (.ref a), some (.int (Int32.ofNat 12)), none, none, none, none]) (st' := [.ref a]) rfl ?_
    obtain ⟨h1, r1, p1, f1⟩ := s_Machine_pop hm
    refine Er_inv1 (q' := a) (ci := 4) (av := []) (rest := []) rfl rfl ⟨Nat.le_of_ble_eq_true rfl, Nat.le_of_ble_eq_true rfl⟩ rfl rfl (QM_is hm).1 r1 ?_
    refine Er_run 4 (pc' := bif !decide ((Int32.ofNat 12) = ((12 : Int32))) then 24 else 11) (ls' := [some (.ref a), some (.int (Int32.ofNat 12)), some (.long ((jq_pop q).1)), none, none, none]) (st' := []) rfl ?_
    refine Er_pc (t := 11) (show (bif !decide ((Int32.ofNat 12) = ((12 : Int32))) then 24 else 11) = 11 from by rw [show (!decide ((Int32.ofNat 12) = ((12 : Int32)))) = false from by decide]; rfl) ?_
    refine Er_run 2 (pc' := 13) (ls' := [some (.ref a), some (.int (Int32.ofNat 12)), some (.long ((jq_pop q).1)), none, none, none]) (st' := [.long ((jq_pop q).1), .ref a]) rfl ?_
    obtain ⟨h2, r2, p2, f2⟩ := s_Machine_push (x := (jq_pop q).1) p1
    refine Er_inv0 (q' := a) (ci := 4) (av := [.long ((jq_pop q).1)]) (rest := []) rfl rfl ⟨Nat.le_of_ble_eq_true rfl, Nat.le_of_ble_eq_true rfl⟩ rfl rfl (QM_is p1).1 r2 ?_
    refine Er_run 2 (pc' := 18) (ls' := [some (.ref a), some (.int (Int32.ofNat 12)), some (.long ((jq_pop q).1)), none, none, none]) (st' := [.long ((jq_pop q).1), .ref a]) rfl ?_
    obtain ⟨h3, r3, p3, f3⟩ := s_Machine_push (x := (jq_pop q).1) p2
    refine Er_inv0 (q' := a) (ci := 4) (av := [.long ((jq_pop q).1)]) (rest := []) rfl rfl ⟨Nat.le_of_ble_eq_true rfl, Nat.le_of_ble_eq_true rfl⟩ rfl rfl (QM_is p2).1 r3 ?_
    refine Er_run 1 (pc' := 47) (ls' := [some (.ref a), some (.int (Int32.ofNat 12)), some (.long ((jq_pop q).1)), none, none, none]) (st' := []) rfl ?_
    refine Er_fin rfl rfl ?_
    exact ⟨rfl, p3, ((f1.trans f2).trans f3)⟩
  obtain ⟨r, h', hr, e, hq⟩ := Run_of (Nat.le_of_ble_eq_true rfl) hx
  subst e
  exact ⟨h', hr, hq⟩
theorem s_Machine_shuffle13 (hm : QM h a kd ky rw en q) : ∃ h', Run 56 [.ref a, .int (Int32.ofNat 13)] h (.inl none) h' ∧ QM h' a kd ky rw en ((jq_pop q).2) ∧ Fr a (a + 6) h h' := by
  have hx : Ev 56 0 (sm_pad (sm_ent [.ref a, .int (Int32.ofNat 13)]) (sm_prog.2.1 56)) [] h (fun r h1 => r = .inl none ∧ QM h1 a kd ky rw en ((jq_pop q).2) ∧ Fr a (a + 6) h h1) := by
    show Ev 56 0 [some (.ref a), some (.int (Int32.ofNat 13)), none, none, none, none] [] h _
    refine Er_run 1 (pc' := 1) (ls' := [some (.ref a), some (.int (Int32.ofNat 13)), none, none, none, none]) (st' := [.ref a]) rfl ?_
    obtain ⟨h1, r1, p1, f1⟩ := s_Machine_pop hm
    refine Er_inv1 (q' := a) (ci := 4) (av := []) (rest := []) rfl rfl ⟨Nat.le_of_ble_eq_true rfl, Nat.le_of_ble_eq_true rfl⟩ rfl rfl (QM_is hm).1 r1 ?_
    refine Er_run 4 (pc' := bif !decide ((Int32.ofNat 13) = ((12 : Int32))) then 24 else 11) (ls' := [some (.ref a), some (.int (Int32.ofNat 13)), some (.long ((jq_pop q).1)), none, none, none]) (st' := []) rfl ?_
    refine Er_pc (t := 24) (show (bif !decide ((Int32.ofNat 13) = ((12 : Int32))) then 24 else 11) = 24 from by rw [show (!decide ((Int32.ofNat 13) = ((12 : Int32)))) = true from by decide]; rfl) ?_
    refine Er_run 3 (pc' := bif !decide ((Int32.ofNat 13) = ((14 : Int32))) then 47 else 30) (ls' := [some (.ref a), some (.int (Int32.ofNat 13)), some (.long ((jq_pop q).1)), none, none, none]) (st' := []) rfl ?_
    refine Er_pc (t := 47) (show (bif !decide ((Int32.ofNat 13) = ((14 : Int32))) then 47 else 30) = 47 from by rw [show (!decide ((Int32.ofNat 13) = ((14 : Int32)))) = true from by decide]; rfl) ?_
    refine Er_fin rfl rfl ?_
    exact ⟨rfl, p1, f1⟩
  obtain ⟨r, h', hr, e, hq⟩ := Run_of (Nat.le_of_ble_eq_true rfl) hx
  subst e
  exact ⟨h', hr, hq⟩
theorem s_Machine_shuffle14 (hm : QM h a kd ky rw en q) : ∃ h', Run 56 [.ref a, .int (Int32.ofNat 14)] h (.inl none) h' ∧ QM h' a kd ky rw en (jq_swp q) ∧ Fr a (a + 6) h h' := by
  have hx : Ev 56 0 (sm_pad (sm_ent [.ref a, .int (Int32.ofNat 14)]) (sm_prog.2.1 56)) [] h (fun r h1 => r = .inl none ∧ QM h1 a kd ky rw en (jq_swp q) ∧ Fr a (a + 6) h h1) := by
    show Ev 56 0 [some (.ref a), some (.int (Int32.ofNat 14)), none, none, none, none] [] h _
    refine Er_run 1 (pc' := 1) (ls' := [some (.ref a), some (.int (Int32.ofNat 14)), none, none, none, none]) (st' := [.ref a]) rfl ?_
    obtain ⟨h1, r1, p1, f1⟩ := s_Machine_pop hm
    refine Er_inv1 (q' := a) (ci := 4) (av := []) (rest := []) rfl rfl ⟨Nat.le_of_ble_eq_true rfl, Nat.le_of_ble_eq_true rfl⟩ rfl rfl (QM_is hm).1 r1 ?_
    refine Er_run 4 (pc' := bif !decide ((Int32.ofNat 14) = ((12 : Int32))) then 24 else 11) (ls' := [some (.ref a), some (.int (Int32.ofNat 14)), some (.long ((jq_pop q).1)), none, none, none]) (st' := []) rfl ?_
    refine Er_pc (t := 24) (show (bif !decide ((Int32.ofNat 14) = ((12 : Int32))) then 24 else 11) = 24 from by rw [show (!decide ((Int32.ofNat 14) = ((12 : Int32)))) = true from by decide]; rfl) ?_
    refine Er_run 3 (pc' := bif !decide ((Int32.ofNat 14) = ((14 : Int32))) then 47 else 30) (ls' := [some (.ref a), some (.int (Int32.ofNat 14)), some (.long ((jq_pop q).1)), none, none, none]) (st' := []) rfl ?_
    refine Er_pc (t := 30) (show (bif !decide ((Int32.ofNat 14) = ((14 : Int32))) then 47 else 30) = 30 from by rw [show (!decide ((Int32.ofNat 14) = ((14 : Int32)))) = false from by decide]; rfl) ?_
    refine Er_run 1 (pc' := 31) (ls' := [some (.ref a), some (.int (Int32.ofNat 14)), some (.long ((jq_pop q).1)), none, none, none]) (st' := [.ref a]) rfl ?_
    obtain ⟨h2, r2, p2, f2⟩ := s_Machine_pop p1
    refine Er_inv1 (q' := a) (ci := 4) (av := []) (rest := []) rfl rfl ⟨Nat.le_of_ble_eq_true rfl, Nat.le_of_ble_eq_true rfl⟩ rfl rfl (QM_is p1).1 r2 ?_
    refine Er_run 3 (pc' := 38) (ls' := [some (.ref a), some (.int (Int32.ofNat 14)), some (.long ((jq_pop q).1)), none, some (.long ((jq_pop (jq_pop q).2).1)), none]) (st' := [.long ((jq_pop q).1), .ref a]) rfl ?_
    obtain ⟨h3, r3, p3, f3⟩ := s_Machine_push (x := (jq_pop q).1) p2
    refine Er_inv0 (q' := a) (ci := 4) (av := [.long ((jq_pop q).1)]) (rest := []) rfl rfl ⟨Nat.le_of_ble_eq_true rfl, Nat.le_of_ble_eq_true rfl⟩ rfl rfl (QM_is p2).1 r3 ?_
    refine Er_run 2 (pc' := 44) (ls' := [some (.ref a), some (.int (Int32.ofNat 14)), some (.long ((jq_pop q).1)), none, some (.long ((jq_pop (jq_pop q).2).1)), none]) (st' := [.long ((jq_pop (jq_pop q).2).1), .ref a]) rfl ?_
    obtain ⟨h4, r4, p4, f4⟩ := s_Machine_push (x := (jq_pop (jq_pop q).2).1) p3
    refine Er_inv0 (q' := a) (ci := 4) (av := [.long ((jq_pop (jq_pop q).2).1)]) (rest := []) rfl rfl ⟨Nat.le_of_ble_eq_true rfl, Nat.le_of_ble_eq_true rfl⟩ rfl rfl (QM_is p3).1 r4 ?_
    refine Er_fin rfl rfl ?_
    exact ⟨rfl, p4, (((f1.trans f2).trans f3).trans f4)⟩
  obtain ⟨r, h', hr, e, hq⟩ := Run_of (Nat.le_of_ble_eq_true rfl) hx
  subst e
  exact ⟨h', hr, hq⟩
theorem s_Machine_calculate6 (hm : QM h a kd ky rw en q) : ∃ h', Run 57 [.ref a, .int (Int32.ofNat 6)] h (.inl none) h' ∧ QM h' a kd ky rw en (jq_bin (fun x y => x + y) q) ∧ Fr a (a + 6) h h' := by
  have hx : Ev 57 0 (sm_pad (sm_ent [.ref a, .int (Int32.ofNat 6)]) (sm_prog.2.1 57)) [] h (fun r h1 => r = .inl none ∧ QM h1 a kd ky rw en (jq_bin (fun x y => x + y) q) ∧ Fr a (a + 6) h h1) := by
    show Ev 57 0 [some (.ref a), some (.int (Int32.ofNat 6)), none, none, none, none] [] h _
    refine Er_run 1 (pc' := 1) (ls' := [some (.ref a), some (.int (Int32.ofNat 6)), none, none, none, none]) (st' := [.ref a]) rfl ?_
    obtain ⟨h1, r1, p1, f1⟩ := s_Machine_pop hm
    refine Er_inv1 (q' := a) (ci := 4) (av := []) (rest := []) rfl rfl ⟨Nat.le_of_ble_eq_true rfl, Nat.le_of_ble_eq_true rfl⟩ rfl rfl (QM_is hm).1 r1 ?_
    refine Er_run 2 (pc' := 6) (ls' := [some (.ref a), some (.int (Int32.ofNat 6)), some (.long ((jq_pop q).1)), none, none, none]) (st' := [.ref a]) rfl ?_
    obtain ⟨h2, r2, p2, f2⟩ := s_Machine_pop p1
    refine Er_inv1 (q' := a) (ci := 4) (av := []) (rest := []) rfl rfl ⟨Nat.le_of_ble_eq_true rfl, Nat.le_of_ble_eq_true rfl⟩ rfl rfl (QM_is p1).1 r2 ?_
    refine Er_run 7 (pc' := 53) (ls' := [some (.ref a), some (.int (Int32.ofNat 6)), some (.long ((jq_pop q).1)), none, some (.long ((jq_pop (jq_pop q).2).1)), none]) (st' := [.long (((jq_pop (jq_pop q).2).1) + ((jq_pop q).1)), .ref a]) rfl ?_
    obtain ⟨h3, r3, p3, f3⟩ := s_Machine_push (x := ((jq_pop (jq_pop q).2).1) + ((jq_pop q).1)) p2
    refine Er_inv0 (q' := a) (ci := 4) (av := [.long (((jq_pop (jq_pop q).2).1) + ((jq_pop q).1))]) (rest := []) rfl rfl ⟨Nat.le_of_ble_eq_true rfl, Nat.le_of_ble_eq_true rfl⟩ rfl rfl (QM_is p2).1 r3 ?_
    refine Er_run 1 (pc' := 126) (ls' := [some (.ref a), some (.int (Int32.ofNat 6)), some (.long ((jq_pop q).1)), none, some (.long ((jq_pop (jq_pop q).2).1)), none]) (st' := []) rfl ?_
    refine Er_fin rfl rfl ?_
    exact ⟨rfl, p3, ((f1.trans f2).trans f3)⟩
  obtain ⟨r, h', hr, e, hq⟩ := Run_of (Nat.le_of_ble_eq_true rfl) hx
  subst e
  exact ⟨h', hr, hq⟩
theorem s_Machine_calculate7 (hm : QM h a kd ky rw en q) : ∃ h', Run 57 [.ref a, .int (Int32.ofNat 7)] h (.inl none) h' ∧ QM h' a kd ky rw en (jq_bin (fun x y => x - y) q) ∧ Fr a (a + 6) h h' := by
  have hx : Ev 57 0 (sm_pad (sm_ent [.ref a, .int (Int32.ofNat 7)]) (sm_prog.2.1 57)) [] h (fun r h1 => r = .inl none ∧ QM h1 a kd ky rw en (jq_bin (fun x y => x - y) q) ∧ Fr a (a + 6) h h1) := by
    show Ev 57 0 [some (.ref a), some (.int (Int32.ofNat 7)), none, none, none, none] [] h _
    refine Er_run 1 (pc' := 1) (ls' := [some (.ref a), some (.int (Int32.ofNat 7)), none, none, none, none]) (st' := [.ref a]) rfl ?_
    obtain ⟨h1, r1, p1, f1⟩ := s_Machine_pop hm
    refine Er_inv1 (q' := a) (ci := 4) (av := []) (rest := []) rfl rfl ⟨Nat.le_of_ble_eq_true rfl, Nat.le_of_ble_eq_true rfl⟩ rfl rfl (QM_is hm).1 r1 ?_
    refine Er_run 2 (pc' := 6) (ls' := [some (.ref a), some (.int (Int32.ofNat 7)), some (.long ((jq_pop q).1)), none, none, none]) (st' := [.ref a]) rfl ?_
    obtain ⟨h2, r2, p2, f2⟩ := s_Machine_pop p1
    refine Er_inv1 (q' := a) (ci := 4) (av := []) (rest := []) rfl rfl ⟨Nat.le_of_ble_eq_true rfl, Nat.le_of_ble_eq_true rfl⟩ rfl rfl (QM_is p1).1 r2 ?_
    refine Er_run 7 (pc' := 64) (ls' := [some (.ref a), some (.int (Int32.ofNat 7)), some (.long ((jq_pop q).1)), none, some (.long ((jq_pop (jq_pop q).2).1)), none]) (st' := [.long (((jq_pop (jq_pop q).2).1) - ((jq_pop q).1)), .ref a]) rfl ?_
    obtain ⟨h3, r3, p3, f3⟩ := s_Machine_push (x := ((jq_pop (jq_pop q).2).1) - ((jq_pop q).1)) p2
    refine Er_inv0 (q' := a) (ci := 4) (av := [.long (((jq_pop (jq_pop q).2).1) - ((jq_pop q).1))]) (rest := []) rfl rfl ⟨Nat.le_of_ble_eq_true rfl, Nat.le_of_ble_eq_true rfl⟩ rfl rfl (QM_is p2).1 r3 ?_
    refine Er_run 1 (pc' := 126) (ls' := [some (.ref a), some (.int (Int32.ofNat 7)), some (.long ((jq_pop q).1)), none, some (.long ((jq_pop (jq_pop q).2).1)), none]) (st' := []) rfl ?_
    refine Er_fin rfl rfl ?_
    exact ⟨rfl, p3, ((f1.trans f2).trans f3)⟩
  obtain ⟨r, h', hr, e, hq⟩ := Run_of (Nat.le_of_ble_eq_true rfl) hx
  subst e
  exact ⟨h', hr, hq⟩
theorem s_Machine_calculate8 (hm : QM h a kd ky rw en q) : ∃ h', Run 57 [.ref a, .int (Int32.ofNat 8)] h (.inl none) h' ∧ QM h' a kd ky rw en (jq_bin (fun x y => x * y) q) ∧ Fr a (a + 6) h h' := by
  have hx : Ev 57 0 (sm_pad (sm_ent [.ref a, .int (Int32.ofNat 8)]) (sm_prog.2.1 57)) [] h (fun r h1 => r = .inl none ∧ QM h1 a kd ky rw en (jq_bin (fun x y => x * y) q) ∧ Fr a (a + 6) h h1) := by
    show Ev 57 0 [some (.ref a), some (.int (Int32.ofNat 8)), none, none, none, none] [] h _
    refine Er_run 1 (pc' := 1) (ls' := [some (.ref a), some (.int (Int32.ofNat 8)), none, none, none, none]) (st' := [.ref a]) rfl ?_
    obtain ⟨h1, r1, p1, f1⟩ := s_Machine_pop hm
    refine Er_inv1 (q' := a) (ci := 4) (av := []) (rest := []) rfl rfl ⟨Nat.le_of_ble_eq_true rfl, Nat.le_of_ble_eq_true rfl⟩ rfl rfl (QM_is hm).1 r1 ?_
    refine Er_run 2 (pc' := 6) (ls' := [some (.ref a), some (.int (Int32.ofNat 8)), some (.long ((jq_pop q).1)), none, none, none]) (st' := [.ref a]) rfl ?_
    obtain ⟨h2, r2, p2, f2⟩ := s_Machine_pop p1
    refine Er_inv1 (q' := a) (ci := 4) (av := []) (rest := []) rfl rfl ⟨Nat.le_of_ble_eq_true rfl, Nat.le_of_ble_eq_true rfl⟩ rfl rfl (QM_is p1).1 r2 ?_
    refine Er_run 7 (pc' := 75) (ls' := [some (.ref a), some (.int (Int32.ofNat 8)), some (.long ((jq_pop q).1)), none, some (.long ((jq_pop (jq_pop q).2).1)), none]) (st' := [.long (((jq_pop (jq_pop q).2).1) * ((jq_pop q).1)), .ref a]) rfl ?_
    obtain ⟨h3, r3, p3, f3⟩ := s_Machine_push (x := ((jq_pop (jq_pop q).2).1) * ((jq_pop q).1)) p2
    refine Er_inv0 (q' := a) (ci := 4) (av := [.long (((jq_pop (jq_pop q).2).1) * ((jq_pop q).1))]) (rest := []) rfl rfl ⟨Nat.le_of_ble_eq_true rfl, Nat.le_of_ble_eq_true rfl⟩ rfl rfl (QM_is p2).1 r3 ?_
    refine Er_run 1 (pc' := 126) (ls' := [some (.ref a), some (.int (Int32.ofNat 8)), some (.long ((jq_pop q).1)), none, some (.long ((jq_pop (jq_pop q).2).1)), none]) (st' := []) rfl ?_
    refine Er_fin rfl rfl ?_
    exact ⟨rfl, p3, ((f1.trans f2).trans f3)⟩
  obtain ⟨r, h', hr, e, hq⟩ := Run_of (Nat.le_of_ble_eq_true rfl) hx
  subst e
  exact ⟨h', hr, hq⟩
theorem s_Machine_calculate9 (hm : QM h a kd ky rw en q) : ∃ h', Run 57 [.ref a, .int (Int32.ofNat 9)] h (.inl none) h' ∧ QM h' a kd ky rw en (jq_quo q) ∧ Fr a (a + 6) h h' := by
  have hx : Ev 57 0 (sm_pad (sm_ent [.ref a, .int (Int32.ofNat 9)]) (sm_prog.2.1 57)) [] h (fun r h1 => r = .inl none ∧ QM h1 a kd ky rw en (jq_quo q) ∧ Fr a (a + 6) h h1) := by
    show Ev 57 0 [some (.ref a), some (.int (Int32.ofNat 9)), none, none, none, none] [] h _
    refine Er_run 1 (pc' := 1) (ls' := [some (.ref a), some (.int (Int32.ofNat 9)), none, none, none, none]) (st' := [.ref a]) rfl ?_
    obtain ⟨h1, r1, p1, f1⟩ := s_Machine_pop hm
    refine Er_inv1 (q' := a) (ci := 4) (av := []) (rest := []) rfl rfl ⟨Nat.le_of_ble_eq_true rfl, Nat.le_of_ble_eq_true rfl⟩ rfl rfl (QM_is hm).1 r1 ?_
    refine Er_run 2 (pc' := 6) (ls' := [some (.ref a), some (.int (Int32.ofNat 9)), some (.long ((jq_pop q).1)), none, none, none]) (st' := [.ref a]) rfl ?_
    obtain ⟨h2, r2, p2, f2⟩ := s_Machine_pop p1
    refine Er_inv1 (q' := a) (ci := 4) (av := []) (rest := []) rfl rfl ⟨Nat.le_of_ble_eq_true rfl, Nat.le_of_ble_eq_true rfl⟩ rfl rfl (QM_is p1).1 r2 ?_
    refine Er_run 6 (pc' := 85) (ls' := [some (.ref a), some (.int (Int32.ofNat 9)), some (.long ((jq_pop q).1)), none, some (.long ((jq_pop (jq_pop q).2).1)), none]) (st' := [.long ((jq_pop q).1), .long ((jq_pop (jq_pop q).2).1), .ref a]) rfl ?_
    obtain ⟨h3, r3, p3, f3⟩ := s_Machine_divide (x := (jq_pop (jq_pop q).2).1) (y := (jq_pop q).1) p2
    refine Er_inv0 (q' := a) (ci := 4) (av := [.long ((jq_pop (jq_pop q).2).1), .long ((jq_pop q).1)]) (rest := []) rfl rfl ⟨Nat.le_of_ble_eq_true rfl, Nat.le_of_ble_eq_true rfl⟩ rfl rfl (QM_is p2).1 r3 ?_
    refine Er_run 1 (pc' := 126) (ls' := [some (.ref a), some (.int (Int32.ofNat 9)), some (.long ((jq_pop q).1)), none, some (.long ((jq_pop (jq_pop q).2).1)), none]) (st' := []) rfl ?_
    refine Er_fin rfl rfl ?_
    exact ⟨rfl, p3, ((f1.trans f2).trans f3)⟩
  obtain ⟨r, h', hr, e, hq⟩ := Run_of (Nat.le_of_ble_eq_true rfl) hx
  subst e
  exact ⟨h', hr, hq⟩
theorem s_Machine_calculate10 (hm : QM h a kd ky rw en q) : ∃ h', Run 57 [.ref a, .int (Int32.ofNat 10)] h (.inl none) h' ∧ QM h' a kd ky rw en (jq_bin (fun x y => if x < y then 1 else 0) q) ∧ Fr a (a + 6) h h' := by
  have hx : Ev 57 0 (sm_pad (sm_ent [.ref a, .int (Int32.ofNat 10)]) (sm_prog.2.1 57)) [] h (fun r h1 => r = .inl none ∧ QM h1 a kd ky rw en (jq_bin (fun x y => if x < y then 1 else 0) q) ∧ Fr a (a + 6) h h1) := by
    by_cases hl : (jq_pop (jq_pop q).2).1 < (jq_pop q).1
    · skip
      show Ev 57 0 [some (.ref a), some (.int (Int32.ofNat 10)), none, none, none, none] [] h _
      refine Er_run 1 (pc' := 1) (ls' := [some (.ref a), some (.int (Int32.ofNat 10)), none, none, none, none]) (st' := [.ref a]) rfl ?_
      obtain ⟨h1, r1, p1, f1⟩ := s_Machine_pop hm
      refine Er_inv1 (q' := a) (ci := 4) (av := []) (rest := []) rfl rfl ⟨Nat.le_of_ble_eq_true rfl, Nat.le_of_ble_eq_true rfl⟩ rfl rfl (QM_is hm).1 r1 ?_
      refine Er_run 2 (pc' := 6) (ls' := [some (.ref a), some (.int (Int32.ofNat 10)), some (.long ((jq_pop q).1)), none, none, none]) (st' := [.ref a]) rfl ?_
      obtain ⟨h2, r2, p2, f2⟩ := s_Machine_pop p1
      refine Er_inv1 (q' := a) (ci := 4) (av := []) (rest := []) rfl rfl ⟨Nat.le_of_ble_eq_true rfl, Nat.le_of_ble_eq_true rfl⟩ rfl rfl (QM_is p1).1 r2 ?_
      refine Er_run 8 (pc' := bif decide (0 ≤ (lg_cmp ((jq_pop (jq_pop q).2).1) ((jq_pop q).1))) then 103 else 99) (ls' := [some (.ref a), some (.int (Int32.ofNat 10)), some (.long ((jq_pop q).1)), none, some (.long ((jq_pop (jq_pop q).2).1)), none]) (st' := [.ref a]) rfl ?_
      refine Er_pc (t := 99) (show (bif decide (0 ≤ (lg_cmp ((jq_pop (jq_pop q).2).1) ((jq_pop q).1))) then 103 else 99) = 99 from by rw [show (decide (0 ≤ (lg_cmp ((jq_pop (jq_pop q).2).1) ((jq_pop q).1)))) = false from by rw [jx_cmpge]; exact decide_eq_false (Int64.not_le.2 hl)]; rfl) ?_
      refine Er_run 2 (pc' := 104) (ls' := [some (.ref a), some (.int (Int32.ofNat 10)), some (.long ((jq_pop q).1)), none, some (.long ((jq_pop (jq_pop q).2).1)), none]) (st' := [.long ((1 : Int64)), .ref a]) rfl ?_
      obtain ⟨h3, r3, p3, f3⟩ := s_Machine_push (x := (1 : Int64)) p2
      refine Er_inv0 (q' := a) (ci := 4) (av := [.long ((1 : Int64))]) (rest := []) rfl rfl ⟨Nat.le_of_ble_eq_true rfl, Nat.le_of_ble_eq_true rfl⟩ rfl rfl (QM_is p2).1 r3 ?_
      refine Er_run 1 (pc' := 126) (ls' := [some (.ref a), some (.int (Int32.ofNat 10)), some (.long ((jq_pop q).1)), none, some (.long ((jq_pop (jq_pop q).2).1)), none]) (st' := []) rfl ?_
      refine Er_fin rfl rfl ?_
      rw [show jq_bin (fun x y => if x < y then 1 else 0) q = jq_push 1 (jq_pop (jq_pop q).2).2 from by rw [jq_bin]; rw [if_pos hl]]
      exact ⟨rfl, p3, ((f1.trans f2).trans f3)⟩
    · skip
      show Ev 57 0 [some (.ref a), some (.int (Int32.ofNat 10)), none, none, none, none] [] h _
      refine Er_run 1 (pc' := 1) (ls' := [some (.ref a), some (.int (Int32.ofNat 10)), none, none, none, none]) (st' := [.ref a]) rfl ?_
      obtain ⟨h1, r1, p1, f1⟩ := s_Machine_pop hm
      refine Er_inv1 (q' := a) (ci := 4) (av := []) (rest := []) rfl rfl ⟨Nat.le_of_ble_eq_true rfl, Nat.le_of_ble_eq_true rfl⟩ rfl rfl (QM_is hm).1 r1 ?_
      refine Er_run 2 (pc' := 6) (ls' := [some (.ref a), some (.int (Int32.ofNat 10)), some (.long ((jq_pop q).1)), none, none, none]) (st' := [.ref a]) rfl ?_
      obtain ⟨h2, r2, p2, f2⟩ := s_Machine_pop p1
      refine Er_inv1 (q' := a) (ci := 4) (av := []) (rest := []) rfl rfl ⟨Nat.le_of_ble_eq_true rfl, Nat.le_of_ble_eq_true rfl⟩ rfl rfl (QM_is p1).1 r2 ?_
      refine Er_run 8 (pc' := bif decide (0 ≤ (lg_cmp ((jq_pop (jq_pop q).2).1) ((jq_pop q).1))) then 103 else 99) (ls' := [some (.ref a), some (.int (Int32.ofNat 10)), some (.long ((jq_pop q).1)), none, some (.long ((jq_pop (jq_pop q).2).1)), none]) (st' := [.ref a]) rfl ?_
      refine Er_pc (t := 103) (show (bif decide (0 ≤ (lg_cmp ((jq_pop (jq_pop q).2).1) ((jq_pop q).1))) then 103 else 99) = 103 from by rw [show (decide (0 ≤ (lg_cmp ((jq_pop (jq_pop q).2).1) ((jq_pop q).1)))) = true from by rw [jx_cmpge]; exact decide_eq_true (Int64.not_lt.1 hl)]; rfl) ?_
      refine Er_run 1 (pc' := 104) (ls' := [some (.ref a), some (.int (Int32.ofNat 10)), some (.long ((jq_pop q).1)), none, some (.long ((jq_pop (jq_pop q).2).1)), none]) (st' := [.long ((0 : Int64)), .ref a]) rfl ?_
      obtain ⟨h3, r3, p3, f3⟩ := s_Machine_push (x := (0 : Int64)) p2
      refine Er_inv0 (q' := a) (ci := 4) (av := [.long ((0 : Int64))]) (rest := []) rfl rfl ⟨Nat.le_of_ble_eq_true rfl, Nat.le_of_ble_eq_true rfl⟩ rfl rfl (QM_is p2).1 r3 ?_
      refine Er_run 1 (pc' := 126) (ls' := [some (.ref a), some (.int (Int32.ofNat 10)), some (.long ((jq_pop q).1)), none, some (.long ((jq_pop (jq_pop q).2).1)), none]) (st' := []) rfl ?_
      refine Er_fin rfl rfl ?_
      rw [show jq_bin (fun x y => if x < y then 1 else 0) q = jq_push 0 (jq_pop (jq_pop q).2).2 from by rw [jq_bin]; rw [if_neg hl]]
      exact ⟨rfl, p3, ((f1.trans f2).trans f3)⟩
  obtain ⟨r, h', hr, e, hq⟩ := Run_of (Nat.le_of_ble_eq_true rfl) hx
  subst e
  exact ⟨h', hr, hq⟩
theorem s_Machine_calculate11 (hm : QM h a kd ky rw en q) : ∃ h', Run 57 [.ref a, .int (Int32.ofNat 11)] h (.inl none) h' ∧ QM h' a kd ky rw en (jq_bin (fun x y => if x = y then 1 else 0) q) ∧ Fr a (a + 6) h h' := by
  have hx : Ev 57 0 (sm_pad (sm_ent [.ref a, .int (Int32.ofNat 11)]) (sm_prog.2.1 57)) [] h (fun r h1 => r = .inl none ∧ QM h1 a kd ky rw en (jq_bin (fun x y => if x = y then 1 else 0) q) ∧ Fr a (a + 6) h h1) := by
    by_cases hl : (jq_pop (jq_pop q).2).1 = (jq_pop q).1
    · skip
      show Ev 57 0 [some (.ref a), some (.int (Int32.ofNat 11)), none, none, none, none] [] h _
      refine Er_run 1 (pc' := 1) (ls' := [some (.ref a), some (.int (Int32.ofNat 11)), none, none, none, none]) (st' := [.ref a]) rfl ?_
      obtain ⟨h1, r1, p1, f1⟩ := s_Machine_pop hm
      refine Er_inv1 (q' := a) (ci := 4) (av := []) (rest := []) rfl rfl ⟨Nat.le_of_ble_eq_true rfl, Nat.le_of_ble_eq_true rfl⟩ rfl rfl (QM_is hm).1 r1 ?_
      refine Er_run 2 (pc' := 6) (ls' := [some (.ref a), some (.int (Int32.ofNat 11)), some (.long ((jq_pop q).1)), none, none, none]) (st' := [.ref a]) rfl ?_
      obtain ⟨h2, r2, p2, f2⟩ := s_Machine_pop p1
      refine Er_inv1 (q' := a) (ci := 4) (av := []) (rest := []) rfl rfl ⟨Nat.le_of_ble_eq_true rfl, Nat.le_of_ble_eq_true rfl⟩ rfl rfl (QM_is p1).1 r2 ?_
      refine Er_run 8 (pc' := bif !decide ((lg_cmp ((jq_pop (jq_pop q).2).1) ((jq_pop q).1)) = 0) then 122 else 118) (ls' := [some (.ref a), some (.int (Int32.ofNat 11)), some (.long ((jq_pop q).1)), none, some (.long ((jq_pop (jq_pop q).2).1)), none]) (st' := [.ref a]) rfl ?_
      refine Er_pc (t := 118) (show (bif !decide ((lg_cmp ((jq_pop (jq_pop q).2).1) ((jq_pop q).1)) = 0) then 122 else 118) = 118 from by rw [show (!decide ((lg_cmp ((jq_pop (jq_pop q).2).1) ((jq_pop q).1)) = 0)) = false from by rw [jx_cmp0, decide_eq_true hl]; rfl]; rfl) ?_
      refine Er_run 2 (pc' := 123) (ls' := [some (.ref a), some (.int (Int32.ofNat 11)), some (.long ((jq_pop q).1)), none, some (.long ((jq_pop (jq_pop q).2).1)), none]) (st' := [.long ((1 : Int64)), .ref a]) rfl ?_
      obtain ⟨h3, r3, p3, f3⟩ := s_Machine_push (x := (1 : Int64)) p2
      refine Er_inv0 (q' := a) (ci := 4) (av := [.long ((1 : Int64))]) (rest := []) rfl rfl ⟨Nat.le_of_ble_eq_true rfl, Nat.le_of_ble_eq_true rfl⟩ rfl rfl (QM_is p2).1 r3 ?_
      refine Er_fin rfl rfl ?_
      rw [show jq_bin (fun x y => if x = y then 1 else 0) q = jq_push 1 (jq_pop (jq_pop q).2).2 from by rw [jq_bin]; rw [if_pos hl]]
      exact ⟨rfl, p3, ((f1.trans f2).trans f3)⟩
    · skip
      show Ev 57 0 [some (.ref a), some (.int (Int32.ofNat 11)), none, none, none, none] [] h _
      refine Er_run 1 (pc' := 1) (ls' := [some (.ref a), some (.int (Int32.ofNat 11)), none, none, none, none]) (st' := [.ref a]) rfl ?_
      obtain ⟨h1, r1, p1, f1⟩ := s_Machine_pop hm
      refine Er_inv1 (q' := a) (ci := 4) (av := []) (rest := []) rfl rfl ⟨Nat.le_of_ble_eq_true rfl, Nat.le_of_ble_eq_true rfl⟩ rfl rfl (QM_is hm).1 r1 ?_
      refine Er_run 2 (pc' := 6) (ls' := [some (.ref a), some (.int (Int32.ofNat 11)), some (.long ((jq_pop q).1)), none, none, none]) (st' := [.ref a]) rfl ?_
      obtain ⟨h2, r2, p2, f2⟩ := s_Machine_pop p1
      refine Er_inv1 (q' := a) (ci := 4) (av := []) (rest := []) rfl rfl ⟨Nat.le_of_ble_eq_true rfl, Nat.le_of_ble_eq_true rfl⟩ rfl rfl (QM_is p1).1 r2 ?_
      refine Er_run 8 (pc' := bif !decide ((lg_cmp ((jq_pop (jq_pop q).2).1) ((jq_pop q).1)) = 0) then 122 else 118) (ls' := [some (.ref a), some (.int (Int32.ofNat 11)), some (.long ((jq_pop q).1)), none, some (.long ((jq_pop (jq_pop q).2).1)), none]) (st' := [.ref a]) rfl ?_
      refine Er_pc (t := 122) (show (bif !decide ((lg_cmp ((jq_pop (jq_pop q).2).1) ((jq_pop q).1)) = 0) then 122 else 118) = 122 from by rw [show (!decide ((lg_cmp ((jq_pop (jq_pop q).2).1) ((jq_pop q).1)) = 0)) = true from by rw [jx_cmp0, decide_eq_false hl]; rfl]; rfl) ?_
      refine Er_run 1 (pc' := 123) (ls' := [some (.ref a), some (.int (Int32.ofNat 11)), some (.long ((jq_pop q).1)), none, some (.long ((jq_pop (jq_pop q).2).1)), none]) (st' := [.long ((0 : Int64)), .ref a]) rfl ?_
      obtain ⟨h3, r3, p3, f3⟩ := s_Machine_push (x := (0 : Int64)) p2
      refine Er_inv0 (q' := a) (ci := 4) (av := [.long ((0 : Int64))]) (rest := []) rfl rfl ⟨Nat.le_of_ble_eq_true rfl, Nat.le_of_ble_eq_true rfl⟩ rfl rfl (QM_is p2).1 r3 ?_
      refine Er_fin rfl rfl ?_
      rw [show jq_bin (fun x y => if x = y then 1 else 0) q = jq_push 0 (jq_pop (jq_pop q).2).2 from by rw [jq_bin]; rw [if_neg hl]]
      exact ⟨rfl, p3, ((f1.trans f2).trans f3)⟩
  obtain ⟨r, h', hr, e, hq⟩ := Run_of (Nat.le_of_ble_eq_true rfl) hx
  subst e
  exact ⟨h', hr, hq⟩
end MACHC
